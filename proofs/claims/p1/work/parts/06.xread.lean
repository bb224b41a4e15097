set_option maxHeartbeats 4000000 in
set_option maxRecDepth 100000 in
theorem q_hasCase (l : Launch) (D : va_G) (aq : Nat) (a1 : Nat) (a2 : Nat) (a3 : Nat) (a4 : Nat) (v : Int32) : Met l yX5_hasCase (Cond.code yX5_hasCase cX5_hasCase 2 (some .boolean) :: gw_tbl) ({ frames := 0, cells := 0, slots := 0, locals := 0 }) (pc_S D [] [(aq, .inr (5, [.ref a1, .ref a2, .ref a3, .ref a4, .int 0, .int 0, .long 0]))] [.ref aq, .int v]) (vp_Si (fun r => r = 0)) 0 0 (fun _ => False) := by
  refine Met.ofW (cc := cX5_hasCase) (maxL := 2) (ret := (some .boolean)) (by decide) rfl ?_
  intro p e s m args below meth c s₁ B hml hv
  obtain ⟨hargs, hP, hK⟩ := hv
  have hx := B.exec
  have hb := B.bytes
  have hr := B.returns
  have hts := atoms_spec (ws := Cond.code yX5_hasCase cX5_hasCase 2 (some .boolean) :: gw_tbl) B.pre
  have hg := fun (w : Cond) (h : w ∈ gw_tbl) => hts w (List.mem_cons_of_mem _ h)
  have hown : s.vm.findClass RX5 = some m.cls := findClass_of_methodNamed B.named
  have hlocks := B.notSynchronized
  have hl := lv_entry ([.ref aq, .int v]) (n := 2) (Nat.le_of_ble_eq_true rfl)
  rw [show entryFrame m args 2 = F0 m 0 (lg_sl ([.ref aq, .int v]) ++ List.replicate (2 - (lg_sl ([.ref aq, .int v])).length) Slot.unset).toArray [] from by rw [hargs]; exact lg_entry_eq ..]
  generalize (lg_sl ([.ref aq, .int v]) ++ List.replicate (2 - (lg_sl ([.ref aq, .int v])).length) Slot.unset).toArray = ls at hl ⊢
  have hl : lv_has ls 2 [(0, .ref aq), (1, .int v)] := hl
  refine W_genQ (fun Q hQ => ?_)
  refine lv_iload_n hx hb dX5_hasCase_0 rfl (lv_at hl 1 rfl) ?_
  refine lv_if_lt (tgt := 16) hx hb dX5_hasCase_1 (by decide) (fun c_1 => ?_) (fun c_1 => ?_)
  · refine lv_iconst (v := 0) hx hb dX5_hasCase_16 (by decide) ?_
    subst hQ
    exact W.zret (v := 0) hx hb hr (by decide) (fun t ht hW => ⟨0, rfl, rfl, ht⟩) (fun _ h => absurd h List.not_mem_nil) dX5_hasCase_17
  · refine lv_iload_n hx hb dX5_hasCase_4 rfl (lv_at hl 1 rfl) ?_
    refine lv_aload_n hx hb dX5_hasCase_5 rfl (lv_at hl 0 rfl) ?_
    refine va_get (D := D) (ci := 5) (v := .int 0) (C := RX5) (T := TX5) (N := 7) hx hb hg gwX5 hown hK hP 0 rfl rfl 4 (by decide) (hg _ kw_0) (fun _ h9 => h9) rfl dX5_hasCase_6 ?_
    refine lv_icmp_ge (tgt := 16) hx hb dX5_hasCase_9 (by decide) (fun c_9 => ?_) (fun c_9 => ?_)
    · refine lv_iconst (v := 0) hx hb dX5_hasCase_16 (by decide) ?_
      subst hQ
      exact W.zret (v := 0) hx hb hr (by decide) (fun t ht hW => ⟨0, rfl, rfl, ht⟩) (fun _ h => absurd h List.not_mem_nil) dX5_hasCase_17
    · refine lv_iconst (v := 1) hx hb dX5_hasCase_12 (by decide) ?_
      refine lv_goto (tgt := 17) hx hb dX5_hasCase_13 (by decide) ?_
      subst hQ
      exact W.zret (v := 1) hx hb hr (by decide) (fun t ht hW => ⟨1, rfl, (neg0 c_1 c_9), ht⟩) (fun _ h => absurd h List.not_mem_nil) dX5_hasCase_17

set_option maxHeartbeats 4000000 in
set_option maxRecDepth 100000 in
theorem q_hasPerson (l : Launch) (D : va_G) (aq : Nat) (a1 : Nat) (a2 : Nat) (a3 : Nat) (a4 : Nat) (v : Int32) : Met l yX5_hasPerson (Cond.code yX5_hasPerson cX5_hasPerson 2 (some .boolean) :: gw_tbl) ({ frames := 0, cells := 0, slots := 0, locals := 0 }) (pc_S D [] [(aq, .inr (5, [.ref a1, .ref a2, .ref a3, .ref a4, .int 0, .int 0, .long 0]))] [.ref aq, .int v]) (vp_Si (fun r => r = 0)) 0 0 (fun _ => False) := by
  refine Met.ofW (cc := cX5_hasPerson) (maxL := 2) (ret := (some .boolean)) (by decide) rfl ?_
  intro p e s m args below meth c s₁ B hml hv
  obtain ⟨hargs, hP, hK⟩ := hv
  have hx := B.exec
  have hb := B.bytes
  have hr := B.returns
  have hts := atoms_spec (ws := Cond.code yX5_hasPerson cX5_hasPerson 2 (some .boolean) :: gw_tbl) B.pre
  have hg := fun (w : Cond) (h : w ∈ gw_tbl) => hts w (List.mem_cons_of_mem _ h)
  have hown : s.vm.findClass RX5 = some m.cls := findClass_of_methodNamed B.named
  have hlocks := B.notSynchronized
  have hl := lv_entry ([.ref aq, .int v]) (n := 2) (Nat.le_of_ble_eq_true rfl)
  rw [show entryFrame m args 2 = F0 m 0 (lg_sl ([.ref aq, .int v]) ++ List.replicate (2 - (lg_sl ([.ref aq, .int v])).length) Slot.unset).toArray [] from by rw [hargs]; exact lg_entry_eq ..]
  generalize (lg_sl ([.ref aq, .int v]) ++ List.replicate (2 - (lg_sl ([.ref aq, .int v])).length) Slot.unset).toArray = ls at hl ⊢
  have hl : lv_has ls 2 [(0, .ref aq), (1, .int v)] := hl
  refine W_genQ (fun Q hQ => ?_)
  refine lv_iload_n hx hb dX5_hasPerson_0 rfl (lv_at hl 1 rfl) ?_
  refine lv_if_lt (tgt := 16) hx hb dX5_hasPerson_1 (by decide) (fun c_1 => ?_) (fun c_1 => ?_)
  · refine lv_iconst (v := 0) hx hb dX5_hasPerson_16 (by decide) ?_
    subst hQ
    exact W.zret (v := 0) hx hb hr (by decide) (fun t ht hW => ⟨0, rfl, rfl, ht⟩) (fun _ h => absurd h List.not_mem_nil) dX5_hasPerson_17
  · refine lv_iload_n hx hb dX5_hasPerson_4 rfl (lv_at hl 1 rfl) ?_
    refine lv_aload_n hx hb dX5_hasPerson_5 rfl (lv_at hl 0 rfl) ?_
    refine va_get (D := D) (ci := 5) (v := .int 0) (C := RX5) (T := TX5) (N := 7) hx hb hg gwX5 hown hK hP 0 rfl rfl 5 (by decide) (hg _ kw_1) (fun _ h9 => h9) rfl dX5_hasPerson_6 ?_
    refine lv_icmp_ge (tgt := 16) hx hb dX5_hasPerson_9 (by decide) (fun c_9 => ?_) (fun c_9 => ?_)
    · refine lv_iconst (v := 0) hx hb dX5_hasPerson_16 (by decide) ?_
      subst hQ
      exact W.zret (v := 0) hx hb hr (by decide) (fun t ht hW => ⟨0, rfl, rfl, ht⟩) (fun _ h => absurd h List.not_mem_nil) dX5_hasPerson_17
    · refine lv_iconst (v := 1) hx hb dX5_hasPerson_12 (by decide) ?_
      refine lv_goto (tgt := 17) hx hb dX5_hasPerson_13 (by decide) ?_
      subst hQ
      exact W.zret (v := 1) hx hb hr (by decide) (fun t ht hW => ⟨1, rfl, (neg0 c_1 c_9), ht⟩) (fun _ h => absurd h List.not_mem_nil) dX5_hasPerson_17

set_option maxHeartbeats 4000000 in
set_option maxRecDepth 100000 in
theorem q_stands (l : Launch) (D : va_G) (aq : Nat) (a1 : Nat) (a2 : Nat) (a3 : Nat) (a4 : Nat) : Met l yX5_stands (Cond.code yX5_stands cX5_stands 1 (some .boolean) :: gw_tbl) ({ frames := 0, cells := 0, slots := 0, locals := 0 }) (pc_S D [] [(aq, .inr (5, [.ref a1, .ref a2, .ref a3, .ref a4, .int 0, .int 0, .long 0]))] [.ref aq]) (vp_Si (fun r => r = 0)) 0 0 (fun _ => False) := by
  refine Met.ofW (cc := cX5_stands) (maxL := 1) (ret := (some .boolean)) (by decide) rfl ?_
  intro p e s m args below meth c s₁ B hml hv
  obtain ⟨hargs, hP, hK⟩ := hv
  have hx := B.exec
  have hb := B.bytes
  have hr := B.returns
  have hts := atoms_spec (ws := Cond.code yX5_stands cX5_stands 1 (some .boolean) :: gw_tbl) B.pre
  have hg := fun (w : Cond) (h : w ∈ gw_tbl) => hts w (List.mem_cons_of_mem _ h)
  have hown : s.vm.findClass RX5 = some m.cls := findClass_of_methodNamed B.named
  have hlocks := B.notSynchronized
  have hl := lv_entry ([.ref aq]) (n := 1) (Nat.le_of_ble_eq_true rfl)
  rw [show entryFrame m args 1 = F0 m 0 (lg_sl ([.ref aq]) ++ List.replicate (1 - (lg_sl ([.ref aq])).length) Slot.unset).toArray [] from by rw [hargs]; exact lg_entry_eq ..]
  generalize (lg_sl ([.ref aq]) ++ List.replicate (1 - (lg_sl ([.ref aq])).length) Slot.unset).toArray = ls at hl ⊢
  have hl : lv_has ls 1 [(0, .ref aq)] := hl
  refine W_genQ (fun Q hQ => ?_)
  refine lv_aload_n hx hb dX5_stands_0 rfl (lv_at hl 0 rfl) ?_
  refine va_get (D := D) (ci := 5) (v := .int 0) (C := RX5) (T := TX5) (N := 7) hx hb hg gwX5 hown hK hP 0 rfl rfl 4 (by decide) (hg _ kw_0) (fun _ h9 => h9) rfl dX5_stands_1 ?_
  refine lv_if_le (tgt := 11) hx hb dX5_stands_4 (by decide) (fun c_4 => ?_) (fun c_4 => absurd (by decide) c_4)
  refine lv_iconst (v := 0) hx hb dX5_stands_11 (by decide) ?_
  subst hQ
  exact W.zret (v := 0) hx hb hr (by decide) (fun t ht hW => ⟨0, rfl, rfl, ht⟩) (fun _ h => absurd h List.not_mem_nil) dX5_stands_12

set_option maxHeartbeats 4000000 in
set_option maxRecDepth 100000 in
theorem x_payOf (l : Launch) (D : va_G) (x0 : Nat) (pg : Nat) (rd : Nat) (aq : Nat) (py : Nat) (pl : Nat) (ch : Nat) (ro : Nat) (v : Int32) : Met l yX11_payOf (Cond.code yX11_payOf cX11_payOf 2 (some (.object "NobodyChecks$Pay")) :: gw_tbl) ({ frames := 1, cells := 0, slots := 0, locals := 22 }) (pc_S D [] [(x0, .inr (11, [.ref pg, .ref rd, .ref aq, .ref py, .ref pl, .ref ch, .ref ro, .int 0, .int 0]))] [.ref x0, .int v]) (va_Sq (fun r => r = none)) 0 0 (fun _ => False) := by
  refine Met.ofW (cc := cX11_payOf) (maxL := 2) (ret := (some (.object "NobodyChecks$Pay"))) (by decide) rfl ?_
  intro p e s m args below meth c s₁ B hml hv
  obtain ⟨hargs, hP, hK⟩ := hv
  have hx := B.exec
  have hb := B.bytes
  have hr := B.returns
  have hts := atoms_spec (ws := Cond.code yX11_payOf cX11_payOf 2 (some (.object "NobodyChecks$Pay")) :: gw_tbl) B.pre
  have hg := fun (w : Cond) (h : w ∈ gw_tbl) => hts w (List.mem_cons_of_mem _ h)
  have hown : s.vm.findClass RX11 = some m.cls := findClass_of_methodNamed B.named
  have hlocks := B.notSynchronized
  have hl := lv_entry ([.ref x0, .int v]) (n := 2) (Nat.le_of_ble_eq_true rfl)
  rw [show entryFrame m args 2 = F0 m 0 (lg_sl ([.ref x0, .int v]) ++ List.replicate (2 - (lg_sl ([.ref x0, .int v])).length) Slot.unset).toArray [] from by rw [hargs]; exact lg_entry_eq ..]
  generalize (lg_sl ([.ref x0, .int v]) ++ List.replicate (2 - (lg_sl ([.ref x0, .int v])).length) Slot.unset).toArray = ls at hl ⊢
  have hl : lv_has ls 2 [(0, .ref x0), (1, .int v)] := hl
  refine W_genQ (fun Q hQ => ?_)
  refine lv_iload_n hx hb dX11_payOf_0 rfl (lv_at hl 1 rfl) ?_
  refine lv_iconst (v := 0) hx hb dX11_payOf_1 (by decide) ?_
  refine lv_aload_n hx hb dX11_payOf_2 rfl (lv_at hl 0 rfl) ?_
  refine va_get (D := D) (ci := 11) (v := .int 0) (C := RX11) (T := TX11) (N := 9) hx hb hg gwX11 hown hK hP 0 rfl rfl 7 (by decide) (hg _ kw_2) (fun _ h9 => h9) rfl dX11_payOf_3 ?_
  refine lv_iconst (v := 1) hx hb dX11_payOf_6 (by decide) ?_
  refine lv_isub hx hb dX11_payOf_7 ?_
  refine lv_topi (fun z_7 e_7 => ?_)
  obtain rfl : z_7 = ((-1) : Int32) := e_7.trans (by decide)
  refine vp_callSi (W.runS (As := [.int v, .int 0, .int (-1)]) (rest := []) ⟨hx, hb, hml, hown, hg⟩ (c_isWithin l v 0 (-1)) (va_cwS 3 hg (gw_S kw_4 kw_5 kw_6 kw_3) rfl rfl rfl (by decide +kernel) ⟨Nat.le_of_ble_eq_true rfl, Nat.le_of_ble_eq_true rfl⟩) pr_0 rfl rfl hl.1 rfl (lv_room (Nat.le_of_ble_eq_true rfl)) dX11_payOf_8 ⟨Nat.le_of_ble_eq_true rfl, Nat.le_of_ble_eq_true rfl⟩) (fun r_8 h_8 => ?_)
  obtain rfl : r_8 = (0 : Int32) := h_8.trans (iw_no (by decide))
  refine lv_if_eq (tgt := 23) hx hb dX11_payOf_11 (by decide) (fun c_11 => ?_) (fun c_11 => absurd (by decide) c_11)
  refine lv_null hx hb dX11_payOf_23 ?_
  subst hQ
  exact W.aret (v := .null) hx hb hr (Or.inl ⟨_, rfl⟩) (Or.inl rfl) (fun t ht hW => ⟨none, rfl, rfl, ht⟩) (fun _ h => absurd h List.not_mem_nil) dX11_payOf_24

set_option maxHeartbeats 4000000 in
set_option maxRecDepth 100000 in
theorem x_refusalOf (l : Launch) (D : va_G) (x0 : Nat) (pg : Nat) (rd : Nat) (aq : Nat) (py : Nat) (pl : Nat) (ch : Nat) (ro : Nat) (v : Int32) (v2 : Int32) (v3 : Int32) : Met l yX11_refusalOf (Cond.code yX11_refusalOf cX11_refusalOf 5 (some .int) :: gw_tbl) ({ frames := 0, cells := 0, slots := 0, locals := 0 }) (pc_S D [] [(x0, .inr (11, [.ref pg, .ref rd, .ref aq, .ref py, .ref pl, .ref ch, .ref ro, .int 0, .int 0]))] [.ref x0, .null, .int v, .int v2, .int v3]) (vp_Si (fun r => r = -101)) 0 0 (fun _ => False) := by
  refine Met.ofW (cc := cX11_refusalOf) (maxL := 5) (ret := (some .int)) (by decide) rfl ?_
  intro p e s m args below meth c s₁ B hml hv
  obtain ⟨hargs, hP, hK⟩ := hv
  have hx := B.exec
  have hb := B.bytes
  have hr := B.returns
  have hts := atoms_spec (ws := Cond.code yX11_refusalOf cX11_refusalOf 5 (some .int) :: gw_tbl) B.pre
  have hg := fun (w : Cond) (h : w ∈ gw_tbl) => hts w (List.mem_cons_of_mem _ h)
  have hown : s.vm.findClass RX11 = some m.cls := findClass_of_methodNamed B.named
  have hlocks := B.notSynchronized
  have hl := lv_entry ([.ref x0, .null, .int v, .int v2, .int v3]) (n := 5) (Nat.le_of_ble_eq_true rfl)
  rw [show entryFrame m args 5 = F0 m 0 (lg_sl ([.ref x0, .null, .int v, .int v2, .int v3]) ++ List.replicate (5 - (lg_sl ([.ref x0, .null, .int v, .int v2, .int v3])).length) Slot.unset).toArray [] from by rw [hargs]; exact lg_entry_eq ..]
  generalize (lg_sl ([.ref x0, .null, .int v, .int v2, .int v3]) ++ List.replicate (5 - (lg_sl ([.ref x0, .null, .int v, .int v2, .int v3])).length) Slot.unset).toArray = ls at hl ⊢
  have hl : lv_has ls 5 [(0, .ref x0), (1, .null), (2, .int v), (3, .int v2), (4, .int v3)] := hl
  refine W_genQ (fun Q hQ => ?_)
  refine lv_aload_nN hx hb dX11_refusalOf_0 rfl (lv_at hl 1 rfl) ?_
  refine lv_ifnonnullN hx hb dX11_refusalOf_1 ?_
  refine lv_bipush (v := (-101)) hx hb dX11_refusalOf_4 (by decide) ?_
  subst hQ
  exact W.iret (v := (-101)) hx hb hr (fun t ht hW => ⟨(-101), rfl, rfl, ht⟩) (fun _ h => absurd h List.not_mem_nil) dX11_refusalOf_6

set_option maxHeartbeats 4000000 in
set_option maxRecDepth 100000 in
theorem x_chance (l : Launch) (D : va_G) (x0 : Nat) (pg : Nat) (rd : Nat) (aq : Nat) (py : Nat) (pl : Nat) (ch : Nat) (ro : Nat) (a1 : Nat) (a2 : Nat) (a3 : Nat) (a4 : Nat) (p1 : Int32) (p2 : Int32) : Met l yX11_chance (Cond.code yX11_chance cX11_chance 3 (some .int) :: gw_tbl) ({ frames := 1, cells := 0, slots := 0, locals := 21 }) (pc_S D [] [(x0, .inr (11, [.ref pg, .ref rd, .ref aq, .ref py, .ref pl, .ref ch, .ref ro, .int 0, .int 0])), (aq, .inr (5, [.ref a1, .ref a2, .ref a3, .ref a4, .int 0, .int 0, .long 0]))] [.ref x0, .int p1, .int p2]) (vp_Si (fun r => r = (-101))) 0 0 (fun _ => False) := by
  refine Met.ofW (cc := cX11_chance) (maxL := 3) (ret := (some .int)) (by decide) rfl ?_
  intro p e s m args below meth c s₁ B hml hv
  obtain ⟨hargs, hP, hK⟩ := hv
  have hx := B.exec
  have hb := B.bytes
  have hr := B.returns
  have hts := atoms_spec (ws := Cond.code yX11_chance cX11_chance 3 (some .int) :: gw_tbl) B.pre
  have hg := fun (w : Cond) (h : w ∈ gw_tbl) => hts w (List.mem_cons_of_mem _ h)
  have hown : s.vm.findClass RX11 = some m.cls := findClass_of_methodNamed B.named
  have hlocks := B.notSynchronized
  have hl := lv_entry ([.ref x0, .int p1, .int p2]) (n := 3) (Nat.le_of_ble_eq_true rfl)
  rw [show entryFrame m args 3 = F0 m 0 (lg_sl ([.ref x0, .int p1, .int p2]) ++ List.replicate (3 - (lg_sl ([.ref x0, .int p1, .int p2])).length) Slot.unset).toArray [] from by rw [hargs]; exact lg_entry_eq ..]
  generalize (lg_sl ([.ref x0, .int p1, .int p2]) ++ List.replicate (3 - (lg_sl ([.ref x0, .int p1, .int p2])).length) Slot.unset).toArray = ls at hl ⊢
  have hl : lv_has ls 3 [(0, .ref x0), (1, .int p1), (2, .int p2)] := hl
  refine W_genQ (fun Q hQ => ?_)
  refine lv_aload_n hx hb dX11_chance_0 rfl (lv_at hl 0 rfl) ?_
  refine va_get (D := D) (ci := 11) (v := .ref aq) (C := RX11) (T := TX11) (N := 9) hx hb hg gwX11 hown hK hP 0 rfl rfl 2 (by decide) (hg _ kw_7) (fun _ h9 => h9) rfl dX11_chance_1 ?_
  refine lv_iload_n hx hb dX11_chance_4 rfl (lv_at hl 1 rfl) ?_
  have hPc := hP.sub (ws' := [(aq, .inr (5, [.ref a1, .ref a2, .ref a3, .ref a4, .int 0, .int 0, .long 0]))]) [1] rfl
  have hKc := hK.sub (tys' := []) [] rfl
  refine vp_callSi (W.runV (As := [.int p1]) (rest := []) ⟨hx, hb, hml, hown, hg⟩ (q_hasCase l D aq a1 a2 a3 a4 p1) (cwV 1 hg (gw_V kw_9 kw_10 kw_11 kw_12 kw_8) rfl rfl rfl (by decide +kernel) ⟨Nat.le_of_ble_eq_true rfl, Nat.le_of_ble_eq_true rfl⟩) (pr_SV (q := (RX5, TX5, 7)) 5 0 hKc hPc rfl rfl) rfl rfl hl.1 rfl (lv_room (Nat.le_of_ble_eq_true rfl)) dX11_chance_5 ⟨Nat.le_of_ble_eq_true rfl, Nat.le_of_ble_eq_true rfl⟩) (fun r_5 h_5 => ?_)
  obtain rfl : r_5 = (0 : Int32) := h_5
  refine lv_if_ne (tgt := 14) hx hb dX11_chance_8 (by decide) (fun c_8 => absurd c_8 (by decide)) (fun c_8 => ?_)
  refine lv_bipush (v := (-101)) hx hb dX11_chance_11 (by decide) ?_
  subst hQ
  exact W.iret (v := (-101)) hx hb hr (fun t ht hW => ⟨(-101), rfl, rfl, ht⟩) (fun _ h => absurd h List.not_mem_nil) dX11_chance_13

set_option maxHeartbeats 4000000 in
set_option maxRecDepth 100000 in
theorem x_cost (l : Launch) (D : va_G) (x0 : Nat) (pg : Nat) (rd : Nat) (aq : Nat) (py : Nat) (pl : Nat) (ch : Nat) (ro : Nat) (a1 : Nat) (a2 : Nat) (a3 : Nat) (a4 : Nat) (p1 : Int32) (p2 : Int32) : Met l yX11_cost (Cond.code yX11_cost cX11_cost 4 (some .int) :: gw_tbl) ({ frames := 1, cells := 0, slots := 0, locals := 21 }) (pc_S D [] [(x0, .inr (11, [.ref pg, .ref rd, .ref aq, .ref py, .ref pl, .ref ch, .ref ro, .int 0, .int 0])), (aq, .inr (5, [.ref a1, .ref a2, .ref a3, .ref a4, .int 0, .int 0, .long 0]))] [.ref x0, .int p1, .int p2]) (vp_Si (fun r => r = (-101))) 0 0 (fun _ => False) := by
  refine Met.ofW (cc := cX11_cost) (maxL := 4) (ret := (some .int)) (by decide) rfl ?_
  intro p e s m args below meth c s₁ B hml hv
  obtain ⟨hargs, hP, hK⟩ := hv
  have hx := B.exec
  have hb := B.bytes
  have hr := B.returns
  have hts := atoms_spec (ws := Cond.code yX11_cost cX11_cost 4 (some .int) :: gw_tbl) B.pre
  have hg := fun (w : Cond) (h : w ∈ gw_tbl) => hts w (List.mem_cons_of_mem _ h)
  have hown : s.vm.findClass RX11 = some m.cls := findClass_of_methodNamed B.named
  have hlocks := B.notSynchronized
  have hl := lv_entry ([.ref x0, .int p1, .int p2]) (n := 4) (Nat.le_of_ble_eq_true rfl)
  rw [show entryFrame m args 4 = F0 m 0 (lg_sl ([.ref x0, .int p1, .int p2]) ++ List.replicate (4 - (lg_sl ([.ref x0, .int p1, .int p2])).length) Slot.unset).toArray [] from by rw [hargs]; exact lg_entry_eq ..]
  generalize (lg_sl ([.ref x0, .int p1, .int p2]) ++ List.replicate (4 - (lg_sl ([.ref x0, .int p1, .int p2])).length) Slot.unset).toArray = ls at hl ⊢
  have hl : lv_has ls 4 [(0, .ref x0), (1, .int p1), (2, .int p2)] := hl
  refine W_genQ (fun Q hQ => ?_)
  refine lv_aload_n hx hb dX11_cost_0 rfl (lv_at hl 0 rfl) ?_
  refine va_get (D := D) (ci := 11) (v := .ref aq) (C := RX11) (T := TX11) (N := 9) hx hb hg gwX11 hown hK hP 0 rfl rfl 2 (by decide) (hg _ kw_7) (fun _ h9 => h9) rfl dX11_cost_1 ?_
  refine lv_iload_n hx hb dX11_cost_4 rfl (lv_at hl 1 rfl) ?_
  have hPc := hP.sub (ws' := [(aq, .inr (5, [.ref a1, .ref a2, .ref a3, .ref a4, .int 0, .int 0, .long 0]))]) [1] rfl
  have hKc := hK.sub (tys' := []) [] rfl
  refine vp_callSi (W.runV (As := [.int p1]) (rest := []) ⟨hx, hb, hml, hown, hg⟩ (q_hasPerson l D aq a1 a2 a3 a4 p1) (cwV 1 hg (gw_V kw_14 kw_15 kw_16 kw_12 kw_13) rfl rfl rfl (by decide +kernel) ⟨Nat.le_of_ble_eq_true rfl, Nat.le_of_ble_eq_true rfl⟩) (pr_SV (q := (RX5, TX5, 7)) 5 0 hKc hPc rfl rfl) rfl rfl hl.1 rfl (lv_room (Nat.le_of_ble_eq_true rfl)) dX11_cost_5 ⟨Nat.le_of_ble_eq_true rfl, Nat.le_of_ble_eq_true rfl⟩) (fun r_5 h_5 => ?_)
  obtain rfl : r_5 = (0 : Int32) := h_5
  refine lv_if_ne (tgt := 14) hx hb dX11_cost_8 (by decide) (fun c_8 => absurd c_8 (by decide)) (fun c_8 => ?_)
  refine lv_bipush (v := (-101)) hx hb dX11_cost_11 (by decide) ?_
  subst hQ
  exact W.iret (v := (-101)) hx hb hr (fun t ht hW => ⟨(-101), rfl, rfl, ht⟩) (fun _ h => absurd h List.not_mem_nil) dX11_cost_13

set_option maxHeartbeats 4000000 in
set_option maxRecDepth 100000 in
theorem x_thinks (l : Launch) (D : va_G) (x0 : Nat) (pg : Nat) (rd : Nat) (aq : Nat) (py : Nat) (pl : Nat) (ch : Nat) (ro : Nat) (a1 : Nat) (a2 : Nat) (a3 : Nat) (a4 : Nat) (p1 : Int32) (p2 : Int32) (p3 : Int32) (p4 : Int32) : Met l yX11_thinks (Cond.code yX11_thinks cX11_thinks 7 (some .long) :: gw_tbl) ({ frames := 1, cells := 0, slots := 0, locals := 21 }) (pc_S D [] [(x0, .inr (11, [.ref pg, .ref rd, .ref aq, .ref py, .ref pl, .ref ch, .ref ro, .int 0, .int 0])), (aq, .inr (5, [.ref a1, .ref a2, .ref a3, .ref a4, .int 0, .int 0, .long 0]))] [.ref x0, .int p1, .int p2, .int p3, .int p4]) (vp_Sl (fun r => r = (-101))) 0 0 (fun _ => False) := by
  refine Met.ofW (cc := cX11_thinks) (maxL := 7) (ret := (some .long)) (by decide) rfl ?_
  intro p e s m args below meth c s₁ B hml hv
  obtain ⟨hargs, hP, hK⟩ := hv
  have hx := B.exec
  have hb := B.bytes
  have hr := B.returns
  have hts := atoms_spec (ws := Cond.code yX11_thinks cX11_thinks 7 (some .long) :: gw_tbl) B.pre
  have hg := fun (w : Cond) (h : w ∈ gw_tbl) => hts w (List.mem_cons_of_mem _ h)
  have hown : s.vm.findClass RX11 = some m.cls := findClass_of_methodNamed B.named
  have hlocks := B.notSynchronized
  have hl := lv_entry ([.ref x0, .int p1, .int p2, .int p3, .int p4]) (n := 7) (Nat.le_of_ble_eq_true rfl)
  rw [show entryFrame m args 7 = F0 m 0 (lg_sl ([.ref x0, .int p1, .int p2, .int p3, .int p4]) ++ List.replicate (7 - (lg_sl ([.ref x0, .int p1, .int p2, .int p3, .int p4])).length) Slot.unset).toArray [] from by rw [hargs]; exact lg_entry_eq ..]
  generalize (lg_sl ([.ref x0, .int p1, .int p2, .int p3, .int p4]) ++ List.replicate (7 - (lg_sl ([.ref x0, .int p1, .int p2, .int p3, .int p4])).length) Slot.unset).toArray = ls at hl ⊢
  have hl : lv_has ls 7 [(0, .ref x0), (1, .int p1), (2, .int p2), (3, .int p3), (4, .int p4)] := hl
  refine W_genQ (fun Q hQ => ?_)
  refine lv_aload_n hx hb dX11_thinks_0 rfl (lv_at hl 0 rfl) ?_
  refine va_get (D := D) (ci := 11) (v := .ref aq) (C := RX11) (T := TX11) (N := 9) hx hb hg gwX11 hown hK hP 0 rfl rfl 2 (by decide) (hg _ kw_7) (fun _ h9 => h9) rfl dX11_thinks_1 ?_
  refine lv_iload_n hx hb dX11_thinks_4 rfl (lv_at hl 1 rfl) ?_
  have hPc := hP.sub (ws' := [(aq, .inr (5, [.ref a1, .ref a2, .ref a3, .ref a4, .int 0, .int 0, .long 0]))]) [1] rfl
  have hKc := hK.sub (tys' := []) [] rfl
  refine vp_callSi (W.runV (As := [.int p1]) (rest := []) ⟨hx, hb, hml, hown, hg⟩ (q_hasPerson l D aq a1 a2 a3 a4 p1) (cwV 1 hg (gw_V kw_14 kw_15 kw_16 kw_12 kw_13) rfl rfl rfl (by decide +kernel) ⟨Nat.le_of_ble_eq_true rfl, Nat.le_of_ble_eq_true rfl⟩) (pr_SV (q := (RX5, TX5, 7)) 5 0 hKc hPc rfl rfl) rfl rfl hl.1 rfl (lv_room (Nat.le_of_ble_eq_true rfl)) dX11_thinks_5 ⟨Nat.le_of_ble_eq_true rfl, Nat.le_of_ble_eq_true rfl⟩) (fun r_5 h_5 => ?_)
  obtain rfl : r_5 = (0 : Int32) := h_5
  refine lv_if_eq (tgt := 27) hx hb dX11_thinks_8 (by decide) (fun c_8 => ?_) (fun c_8 => absurd (by decide) c_8)
  refine lv_ldc2 hx hb hown (hg _ kw_17) dX11_thinks_27 ?_
  subst hQ
  exact W.lret (v := (-101)) hx hb hr (fun t ht hW => ⟨(-101), rfl, rfl, ht⟩) (fun _ h => absurd h List.not_mem_nil) dX11_thinks_30

set_option maxHeartbeats 4000000 in
set_option maxRecDepth 100000 in
theorem x_as (l : Launch) (D : va_G) (x0 : Nat) (pg : Nat) (rd : Nat) (aq : Nat) (py : Nat) (pl : Nat) (ch : Nat) (ro : Nat) (p1 : Int32) (p2 : Int32) : Met l yX11_as (Cond.code yX11_as cX11_as 4 (some .int) :: gw_tbl) ({ frames := 2, cells := 0, slots := 0, locals := 43 }) (pc_S D [] [(x0, .inr (11, [.ref pg, .ref rd, .ref aq, .ref py, .ref pl, .ref ch, .ref ro, .int 0, .int 0]))] [.ref x0, .int p1, .int p2]) (vp_Si (fun r => r = (-101))) 0 0 (fun _ => False) := by
  refine Met.ofW (cc := cX11_as) (maxL := 4) (ret := (some .int)) (by decide) rfl ?_
  intro p e s m args below meth c s₁ B hml hv
  obtain ⟨hargs, hP, hK⟩ := hv
  have hx := B.exec
  have hb := B.bytes
  have hr := B.returns
  have hts := atoms_spec (ws := Cond.code yX11_as cX11_as 4 (some .int) :: gw_tbl) B.pre
  have hg := fun (w : Cond) (h : w ∈ gw_tbl) => hts w (List.mem_cons_of_mem _ h)
  have hown : s.vm.findClass RX11 = some m.cls := findClass_of_methodNamed B.named
  have hlocks := B.notSynchronized
  have hl := lv_entry ([.ref x0, .int p1, .int p2]) (n := 4) (Nat.le_of_ble_eq_true rfl)
  rw [show entryFrame m args 4 = F0 m 0 (lg_sl ([.ref x0, .int p1, .int p2]) ++ List.replicate (4 - (lg_sl ([.ref x0, .int p1, .int p2])).length) Slot.unset).toArray [] from by rw [hargs]; exact lg_entry_eq ..]
  generalize (lg_sl ([.ref x0, .int p1, .int p2]) ++ List.replicate (4 - (lg_sl ([.ref x0, .int p1, .int p2])).length) Slot.unset).toArray = ls at hl ⊢
  have hl : lv_has ls 4 [(0, .ref x0), (1, .int p1), (2, .int p2)] := hl
  refine W_genQ (fun Q hQ => ?_)
  refine lv_aload_n hx hb dX11_as_0 rfl (lv_at hl 0 rfl) ?_
  refine lv_iload_n hx hb dX11_as_1 rfl (lv_at hl 1 rfl) ?_
  have hPc := hP.sub (ws' := [(x0, .inr (11, [.ref pg, .ref rd, .ref aq, .ref py, .ref pl, .ref ch, .ref ro, .int 0, .int 0]))]) [0] rfl
  have hKc := hK.sub (tys' := []) [] rfl
  refine va_csq (W.runV (As := [.int p1]) (rest := []) ⟨hx, hb, hml, hown, hg⟩ (x_payOf l D x0 pg rd aq py pl ch ro p1) (cwV 1 hg (gw_V kw_19 kw_20 kw_21 kw_6 kw_18) rfl rfl rfl (by decide +kernel) ⟨Nat.le_of_ble_eq_true rfl, Nat.le_of_ble_eq_true rfl⟩) (pr_SV (q := (RX11, TX11, 9)) 11 0 hKc hPc rfl rfl) rfl rfl hl.1 rfl (lv_room (Nat.le_of_ble_eq_true rfl)) dX11_as_2 ⟨Nat.le_of_ble_eq_true rfl, Nat.le_of_ble_eq_true rfl⟩) (fun r_2 h_2 => ?_)
  obtain rfl : r_2 = none := h_2
  refine W.eq (g2 := F0 m 5 ls [.null]) rfl ?_
  refine lv_astore_nN (lv' := [(3, .null), (0, .ref x0), (1, .int p1), (2, .int p2)]) hx hb dX11_as_5 rfl hl (by decide) rfl (fun ls hl => ?_)
  refine lv_aload_nN hx hb dX11_as_6 rfl (lv_at hl 0 rfl) ?_
  refine lv_ifnonnullN hx hb dX11_as_7 ?_
  refine lv_bipush (v := (-101)) hx hb dX11_as_10 (by decide) ?_
  subst hQ
  exact W.iret (v := (-101)) hx hb hr (fun t ht hW => ⟨(-101), rfl, rfl, ht⟩) (fun _ h => absurd h List.not_mem_nil) dX11_as_12

set_option maxHeartbeats 4000000 in
set_option maxRecDepth 100000 in
theorem x_about (l : Launch) (D : va_G) (x0 : Nat) (pg : Nat) (rd : Nat) (aq : Nat) (py : Nat) (pl : Nat) (ch : Nat) (ro : Nat) (p1 : Int32) (p2 : Int32) : Met l yX11_about (Cond.code yX11_about cX11_about 4 (some .int) :: gw_tbl) ({ frames := 2, cells := 0, slots := 0, locals := 43 }) (pc_S D [] [(x0, .inr (11, [.ref pg, .ref rd, .ref aq, .ref py, .ref pl, .ref ch, .ref ro, .int 0, .int 0]))] [.ref x0, .int p1, .int p2]) (vp_Si (fun r => r = (-101))) 0 0 (fun _ => False) := by
  refine Met.ofW (cc := cX11_about) (maxL := 4) (ret := (some .int)) (by decide) rfl ?_
  intro p e s m args below meth c s₁ B hml hv
  obtain ⟨hargs, hP, hK⟩ := hv
  have hx := B.exec
  have hb := B.bytes
  have hr := B.returns
  have hts := atoms_spec (ws := Cond.code yX11_about cX11_about 4 (some .int) :: gw_tbl) B.pre
  have hg := fun (w : Cond) (h : w ∈ gw_tbl) => hts w (List.mem_cons_of_mem _ h)
  have hown : s.vm.findClass RX11 = some m.cls := findClass_of_methodNamed B.named
  have hlocks := B.notSynchronized
  have hl := lv_entry ([.ref x0, .int p1, .int p2]) (n := 4) (Nat.le_of_ble_eq_true rfl)
  rw [show entryFrame m args 4 = F0 m 0 (lg_sl ([.ref x0, .int p1, .int p2]) ++ List.replicate (4 - (lg_sl ([.ref x0, .int p1, .int p2])).length) Slot.unset).toArray [] from by rw [hargs]; exact lg_entry_eq ..]
  generalize (lg_sl ([.ref x0, .int p1, .int p2]) ++ List.replicate (4 - (lg_sl ([.ref x0, .int p1, .int p2])).length) Slot.unset).toArray = ls at hl ⊢
  have hl : lv_has ls 4 [(0, .ref x0), (1, .int p1), (2, .int p2)] := hl
  refine W_genQ (fun Q hQ => ?_)
  refine lv_aload_n hx hb dX11_about_0 rfl (lv_at hl 0 rfl) ?_
  refine lv_iload_n hx hb dX11_about_1 rfl (lv_at hl 1 rfl) ?_
  have hPc := hP.sub (ws' := [(x0, .inr (11, [.ref pg, .ref rd, .ref aq, .ref py, .ref pl, .ref ch, .ref ro, .int 0, .int 0]))]) [0] rfl
  have hKc := hK.sub (tys' := []) [] rfl
  refine va_csq (W.runV (As := [.int p1]) (rest := []) ⟨hx, hb, hml, hown, hg⟩ (x_payOf l D x0 pg rd aq py pl ch ro p1) (cwV 1 hg (gw_V kw_19 kw_20 kw_21 kw_6 kw_18) rfl rfl rfl (by decide +kernel) ⟨Nat.le_of_ble_eq_true rfl, Nat.le_of_ble_eq_true rfl⟩) (pr_SV (q := (RX11, TX11, 9)) 11 0 hKc hPc rfl rfl) rfl rfl hl.1 rfl (lv_room (Nat.le_of_ble_eq_true rfl)) dX11_about_2 ⟨Nat.le_of_ble_eq_true rfl, Nat.le_of_ble_eq_true rfl⟩) (fun r_2 h_2 => ?_)
  obtain rfl : r_2 = none := h_2
  refine W.eq (g2 := F0 m 5 ls [.null]) rfl ?_
  refine lv_astore_nN (lv' := [(3, .null), (0, .ref x0), (1, .int p1), (2, .int p2)]) hx hb dX11_about_5 rfl hl (by decide) rfl (fun ls hl => ?_)
  refine lv_aload_nN hx hb dX11_about_6 rfl (lv_at hl 0 rfl) ?_
  refine lv_ifnonnullN hx hb dX11_about_7 ?_
  refine lv_bipush (v := (-101)) hx hb dX11_about_10 (by decide) ?_
  subst hQ
  exact W.iret (v := (-101)) hx hb hr (fun t ht hW => ⟨(-101), rfl, rfl, ht⟩) (fun _ h => absurd h List.not_mem_nil) dX11_about_12

set_option maxHeartbeats 4000000 in
set_option maxRecDepth 100000 in
theorem x_gets (l : Launch) (D : va_G) (x0 : Nat) (pg : Nat) (rd : Nat) (aq : Nat) (py : Nat) (pl : Nat) (ch : Nat) (ro : Nat) (p1 : Int32) (p2 : Int32) (p3 : Int32) : Met l yX11_gets (Cond.code yX11_gets cX11_gets 7 (some .int) :: gw_tbl) ({ frames := 2, cells := 0, slots := 0, locals := 43 }) (pc_S D [] [(x0, .inr (11, [.ref pg, .ref rd, .ref aq, .ref py, .ref pl, .ref ch, .ref ro, .int 0, .int 0]))] [.ref x0, .int p1, .int p2, .int p3]) (vp_Si (fun r => r = (-101))) 0 0 (fun _ => False) := by
  refine Met.ofW (cc := cX11_gets) (maxL := 7) (ret := (some .int)) (by decide) rfl ?_
  intro p e s m args below meth c s₁ B hml hv
  obtain ⟨hargs, hP, hK⟩ := hv
  have hx := B.exec
  have hb := B.bytes
  have hr := B.returns
  have hts := atoms_spec (ws := Cond.code yX11_gets cX11_gets 7 (some .int) :: gw_tbl) B.pre
  have hg := fun (w : Cond) (h : w ∈ gw_tbl) => hts w (List.mem_cons_of_mem _ h)
  have hown : s.vm.findClass RX11 = some m.cls := findClass_of_methodNamed B.named
  have hlocks := B.notSynchronized
  have hl := lv_entry ([.ref x0, .int p1, .int p2, .int p3]) (n := 7) (Nat.le_of_ble_eq_true rfl)
  rw [show entryFrame m args 7 = F0 m 0 (lg_sl ([.ref x0, .int p1, .int p2, .int p3]) ++ List.replicate (7 - (lg_sl ([.ref x0, .int p1, .int p2, .int p3])).length) Slot.unset).toArray [] from by rw [hargs]; exact lg_entry_eq ..]
  generalize (lg_sl ([.ref x0, .int p1, .int p2, .int p3]) ++ List.replicate (7 - (lg_sl ([.ref x0, .int p1, .int p2, .int p3])).length) Slot.unset).toArray = ls at hl ⊢
  have hl : lv_has ls 7 [(0, .ref x0), (1, .int p1), (2, .int p2), (3, .int p3)] := hl
  refine W_genQ (fun Q hQ => ?_)
  refine lv_aload_n hx hb dX11_gets_0 rfl (lv_at hl 0 rfl) ?_
  refine lv_iload_n hx hb dX11_gets_1 rfl (lv_at hl 1 rfl) ?_
  have hPc := hP.sub (ws' := [(x0, .inr (11, [.ref pg, .ref rd, .ref aq, .ref py, .ref pl, .ref ch, .ref ro, .int 0, .int 0]))]) [0] rfl
  have hKc := hK.sub (tys' := []) [] rfl
  refine va_csq (W.runV (As := [.int p1]) (rest := []) ⟨hx, hb, hml, hown, hg⟩ (x_payOf l D x0 pg rd aq py pl ch ro p1) (cwV 1 hg (gw_V kw_19 kw_20 kw_21 kw_6 kw_18) rfl rfl rfl (by decide +kernel) ⟨Nat.le_of_ble_eq_true rfl, Nat.le_of_ble_eq_true rfl⟩) (pr_SV (q := (RX11, TX11, 9)) 11 0 hKc hPc rfl rfl) rfl rfl hl.1 rfl (lv_room (Nat.le_of_ble_eq_true rfl)) dX11_gets_2 ⟨Nat.le_of_ble_eq_true rfl, Nat.le_of_ble_eq_true rfl⟩) (fun r_2 h_2 => ?_)
  obtain rfl : r_2 = none := h_2
  refine W.eq (g2 := F0 m 5 ls [.null]) rfl ?_
  refine lv_astoreN (lv' := [(4, .null), (0, .ref x0), (1, .int p1), (2, .int p2), (3, .int p3)]) hx hb dX11_gets_5 hl (by decide) rfl (fun ls hl => ?_)
  refine lv_aloadN hx hb dX11_gets_7 (lv_at hl 0 rfl) ?_
  refine lv_ifnullN (tgt := 23) hx hb dX11_gets_9 (by decide) ?_
  refine lv_bipush (v := (-101)) hx hb dX11_gets_23 (by decide) ?_
  subst hQ
  exact W.iret (v := (-101)) hx hb hr (fun t ht hW => ⟨(-101), rfl, rfl, ht⟩) (fun _ h => absurd h List.not_mem_nil) dX11_gets_25

set_option maxHeartbeats 4000000 in
set_option maxRecDepth 100000 in
theorem x_worth (l : Launch) (D : va_G) (x0 : Nat) (pg : Nat) (rd : Nat) (aq : Nat) (py : Nat) (pl : Nat) (ch : Nat) (ro : Nat) (p1 : Int32) (p2 : Int32) (p3 : Int32) (p4 : Int32) : Met l yX11_worth (Cond.code yX11_worth cX11_worth 6 (some .long) :: gw_tbl) ({ frames := 2, cells := 0, slots := 0, locals := 43 }) (pc_S D [] [(x0, .inr (11, [.ref pg, .ref rd, .ref aq, .ref py, .ref pl, .ref ch, .ref ro, .int 0, .int 0]))] [.ref x0, .int p1, .int p2, .int p3, .int p4]) (vp_Sl (fun r => r = (-2000000000000000001))) 0 0 (fun _ => False) := by
  refine Met.ofW (cc := cX11_worth) (maxL := 6) (ret := (some .long)) (by decide) rfl ?_
  intro p e s m args below meth c s₁ B hml hv
  obtain ⟨hargs, hP, hK⟩ := hv
  have hx := B.exec
  have hb := B.bytes
  have hr := B.returns
  have hts := atoms_spec (ws := Cond.code yX11_worth cX11_worth 6 (some .long) :: gw_tbl) B.pre
  have hg := fun (w : Cond) (h : w ∈ gw_tbl) => hts w (List.mem_cons_of_mem _ h)
  have hown : s.vm.findClass RX11 = some m.cls := findClass_of_methodNamed B.named
  have hlocks := B.notSynchronized
  have hl := lv_entry ([.ref x0, .int p1, .int p2, .int p3, .int p4]) (n := 6) (Nat.le_of_ble_eq_true rfl)
  rw [show entryFrame m args 6 = F0 m 0 (lg_sl ([.ref x0, .int p1, .int p2, .int p3, .int p4]) ++ List.replicate (6 - (lg_sl ([.ref x0, .int p1, .int p2, .int p3, .int p4])).length) Slot.unset).toArray [] from by rw [hargs]; exact lg_entry_eq ..]
  generalize (lg_sl ([.ref x0, .int p1, .int p2, .int p3, .int p4]) ++ List.replicate (6 - (lg_sl ([.ref x0, .int p1, .int p2, .int p3, .int p4])).length) Slot.unset).toArray = ls at hl ⊢
  have hl : lv_has ls 6 [(0, .ref x0), (1, .int p1), (2, .int p2), (3, .int p3), (4, .int p4)] := hl
  refine W_genQ (fun Q hQ => ?_)
  refine lv_aload_n hx hb dX11_worth_0 rfl (lv_at hl 0 rfl) ?_
  refine lv_iload_n hx hb dX11_worth_1 rfl (lv_at hl 1 rfl) ?_
  have hPc := hP.sub (ws' := [(x0, .inr (11, [.ref pg, .ref rd, .ref aq, .ref py, .ref pl, .ref ch, .ref ro, .int 0, .int 0]))]) [0] rfl
  have hKc := hK.sub (tys' := []) [] rfl
  refine va_csq (W.runV (As := [.int p1]) (rest := []) ⟨hx, hb, hml, hown, hg⟩ (x_payOf l D x0 pg rd aq py pl ch ro p1) (cwV 1 hg (gw_V kw_19 kw_20 kw_21 kw_6 kw_18) rfl rfl rfl (by decide +kernel) ⟨Nat.le_of_ble_eq_true rfl, Nat.le_of_ble_eq_true rfl⟩) (pr_SV (q := (RX11, TX11, 9)) 11 0 hKc hPc rfl rfl) rfl rfl hl.1 rfl (lv_room (Nat.le_of_ble_eq_true rfl)) dX11_worth_2 ⟨Nat.le_of_ble_eq_true rfl, Nat.le_of_ble_eq_true rfl⟩) (fun r_2 h_2 => ?_)
  obtain rfl : r_2 = none := h_2
  refine W.eq (g2 := F0 m 5 ls [.null]) rfl ?_
  refine lv_astoreN (lv' := [(5, .null), (0, .ref x0), (1, .int p1), (2, .int p2), (3, .int p3), (4, .int p4)]) hx hb dX11_worth_5 hl (by decide) rfl (fun ls hl => ?_)
  refine lv_aloadN hx hb dX11_worth_7 (lv_at hl 0 rfl) ?_
  refine lv_ifnullN (tgt := 23) hx hb dX11_worth_9 (by decide) ?_
  refine lv_ldc2 hx hb hown (hg _ kw_22) dX11_worth_23 ?_
  subst hQ
  exact W.lret (v := (-2000000000000000001)) hx hb hr (fun t ht hW => ⟨(-2000000000000000001), rfl, rfl, ht⟩) (fun _ h => absurd h List.not_mem_nil) dX11_worth_26

set_option maxHeartbeats 4000000 in
set_option maxRecDepth 100000 in
theorem x_rests (l : Launch) (D : va_G) (x0 : Nat) (pg : Nat) (rd : Nat) (aq : Nat) (py : Nat) (pl : Nat) (ch : Nat) (ro : Nat) (p1 : Int32) (p2 : Int32) (p3 : Int32) : Met l yX11_rests (Cond.code yX11_rests cX11_rests 7 (some .int) :: gw_tbl) ({ frames := 2, cells := 0, slots := 0, locals := 43 }) (pc_S D [] [(x0, .inr (11, [.ref pg, .ref rd, .ref aq, .ref py, .ref pl, .ref ch, .ref ro, .int 0, .int 0]))] [.ref x0, .int p1, .int p2, .int p3]) (vp_Si (fun r => r = (-101))) 0 0 (fun _ => False) := by
  refine Met.ofW (cc := cX11_rests) (maxL := 7) (ret := (some .int)) (by decide) rfl ?_
  intro p e s m args below meth c s₁ B hml hv
  obtain ⟨hargs, hP, hK⟩ := hv
  have hx := B.exec
  have hb := B.bytes
  have hr := B.returns
  have hts := atoms_spec (ws := Cond.code yX11_rests cX11_rests 7 (some .int) :: gw_tbl) B.pre
  have hg := fun (w : Cond) (h : w ∈ gw_tbl) => hts w (List.mem_cons_of_mem _ h)
  have hown : s.vm.findClass RX11 = some m.cls := findClass_of_methodNamed B.named
  have hlocks := B.notSynchronized
  have hl := lv_entry ([.ref x0, .int p1, .int p2, .int p3]) (n := 7) (Nat.le_of_ble_eq_true rfl)
  rw [show entryFrame m args 7 = F0 m 0 (lg_sl ([.ref x0, .int p1, .int p2, .int p3]) ++ List.replicate (7 - (lg_sl ([.ref x0, .int p1, .int p2, .int p3])).length) Slot.unset).toArray [] from by rw [hargs]; exact lg_entry_eq ..]
  generalize (lg_sl ([.ref x0, .int p1, .int p2, .int p3]) ++ List.replicate (7 - (lg_sl ([.ref x0, .int p1, .int p2, .int p3])).length) Slot.unset).toArray = ls at hl ⊢
  have hl : lv_has ls 7 [(0, .ref x0), (1, .int p1), (2, .int p2), (3, .int p3)] := hl
  refine W_genQ (fun Q hQ => ?_)
  refine lv_aload_n hx hb dX11_rests_0 rfl (lv_at hl 0 rfl) ?_
  refine lv_iload_n hx hb dX11_rests_1 rfl (lv_at hl 1 rfl) ?_
  have hPc := hP.sub (ws' := [(x0, .inr (11, [.ref pg, .ref rd, .ref aq, .ref py, .ref pl, .ref ch, .ref ro, .int 0, .int 0]))]) [0] rfl
  have hKc := hK.sub (tys' := []) [] rfl
  refine va_csq (W.runV (As := [.int p1]) (rest := []) ⟨hx, hb, hml, hown, hg⟩ (x_payOf l D x0 pg rd aq py pl ch ro p1) (cwV 1 hg (gw_V kw_19 kw_20 kw_21 kw_6 kw_18) rfl rfl rfl (by decide +kernel) ⟨Nat.le_of_ble_eq_true rfl, Nat.le_of_ble_eq_true rfl⟩) (pr_SV (q := (RX11, TX11, 9)) 11 0 hKc hPc rfl rfl) rfl rfl hl.1 rfl (lv_room (Nat.le_of_ble_eq_true rfl)) dX11_rests_2 ⟨Nat.le_of_ble_eq_true rfl, Nat.le_of_ble_eq_true rfl⟩) (fun r_2 h_2 => ?_)
  obtain rfl : r_2 = none := h_2
  refine W.eq (g2 := F0 m 5 ls [.null]) rfl ?_
  refine lv_astoreN (lv' := [(4, .null), (0, .ref x0), (1, .int p1), (2, .int p2), (3, .int p3)]) hx hb dX11_rests_5 hl (by decide) rfl (fun ls hl => ?_)
  refine lv_aload_n hx hb dX11_rests_7 rfl (lv_at hl 1 rfl) ?_
  refine lv_aloadN hx hb dX11_rests_8 (lv_at hl 0 rfl) ?_
  refine lv_iload_n hx hb dX11_rests_10 rfl (lv_at hl 3 rfl) ?_
  refine lv_iload_n hx hb dX11_rests_11 rfl (lv_at hl 4 rfl) ?_
  refine lv_iconst (v := 2) hx hb dX11_rests_12 (by decide) ?_
  have hPc := hP.sub (ws' := [(x0, .inr (11, [.ref pg, .ref rd, .ref aq, .ref py, .ref pl, .ref ch, .ref ro, .int 0, .int 0]))]) [0] rfl
  have hKc := hK.sub (tys' := []) [] rfl
  refine vp_callSi (W.runV (As := [.null, .int p2, .int p3, .int 2]) (rest := []) ⟨hx, hb, hml, hown, hg⟩ (x_refusalOf l D x0 pg rd aq py pl ch ro p2 p3 2) (cwV 4 hg (gw_V kw_24 kw_25 kw_26 kw_6 kw_23) rfl rfl rfl (by decide +kernel) ⟨Nat.le_of_ble_eq_true rfl, Nat.le_of_ble_eq_true rfl⟩) (pr_SV (q := (RX11, TX11, 9)) 11 0 hKc hPc rfl rfl) rfl rfl hl.1 rfl (lv_room (Nat.le_of_ble_eq_true rfl)) dX11_rests_13 ⟨Nat.le_of_ble_eq_true rfl, Nat.le_of_ble_eq_true rfl⟩) (fun r_13 h_13 => ?_)
  obtain rfl : r_13 = ((-101) : Int32) := h_13
  refine lv_istore (lv' := [(5, .int (-101)), (4, .null), (0, .ref x0), (1, .int p1), (2, .int p2), (3, .int p3)]) hx hb dX11_rests_16 hl (by decide) rfl (fun ls hl => ?_)
  refine lv_aloadN hx hb dX11_rests_18 (lv_at hl 1 rfl) ?_
  refine lv_ifnullN (tgt := 28) hx hb dX11_rests_20 (by decide) ?_
  refine lv_iload hx hb dX11_rests_28 (lv_at hl 0 rfl) ?_
  subst hQ
  exact W.iret (v := (-101)) hx hb hr (fun t ht hW => ⟨(-101), rfl, rfl, ht⟩) (fun _ h => absurd h List.not_mem_nil) dX11_rests_30

set_option maxHeartbeats 4000000 in
set_option maxRecDepth 100000 in
theorem x_gain (l : Launch) (D : va_G) (x0 : Nat) (pg : Nat) (rd : Nat) (aq : Nat) (py : Nat) (pl : Nat) (ch : Nat) (ro : Nat) (p1 : Int32) (p2 : Int32) (p3 : Int32) (p4 : Int32) : Met l yX11_gain (Cond.code yX11_gain cX11_gain 6 (some .long) :: gw_tbl) ({ frames := 2, cells := 0, slots := 0, locals := 43 }) (pc_S D [] [(x0, .inr (11, [.ref pg, .ref rd, .ref aq, .ref py, .ref pl, .ref ch, .ref ro, .int 0, .int 0]))] [.ref x0, .int p1, .int p2, .int p3, .int p4]) (vp_Sl (fun r => r = (-101))) 0 0 (fun _ => False) := by
  refine Met.ofW (cc := cX11_gain) (maxL := 6) (ret := (some .long)) (by decide) rfl ?_
  intro p e s m args below meth c s₁ B hml hv
  obtain ⟨hargs, hP, hK⟩ := hv
  have hx := B.exec
  have hb := B.bytes
  have hr := B.returns
  have hts := atoms_spec (ws := Cond.code yX11_gain cX11_gain 6 (some .long) :: gw_tbl) B.pre
  have hg := fun (w : Cond) (h : w ∈ gw_tbl) => hts w (List.mem_cons_of_mem _ h)
  have hown : s.vm.findClass RX11 = some m.cls := findClass_of_methodNamed B.named
  have hlocks := B.notSynchronized
  have hl := lv_entry ([.ref x0, .int p1, .int p2, .int p3, .int p4]) (n := 6) (Nat.le_of_ble_eq_true rfl)
  rw [show entryFrame m args 6 = F0 m 0 (lg_sl ([.ref x0, .int p1, .int p2, .int p3, .int p4]) ++ List.replicate (6 - (lg_sl ([.ref x0, .int p1, .int p2, .int p3, .int p4])).length) Slot.unset).toArray [] from by rw [hargs]; exact lg_entry_eq ..]
  generalize (lg_sl ([.ref x0, .int p1, .int p2, .int p3, .int p4]) ++ List.replicate (6 - (lg_sl ([.ref x0, .int p1, .int p2, .int p3, .int p4])).length) Slot.unset).toArray = ls at hl ⊢
  have hl : lv_has ls 6 [(0, .ref x0), (1, .int p1), (2, .int p2), (3, .int p3), (4, .int p4)] := hl
  refine W_genQ (fun Q hQ => ?_)
  refine lv_aload_n hx hb dX11_gain_0 rfl (lv_at hl 0 rfl) ?_
  refine lv_iload_n hx hb dX11_gain_1 rfl (lv_at hl 1 rfl) ?_
  have hPc := hP.sub (ws' := [(x0, .inr (11, [.ref pg, .ref rd, .ref aq, .ref py, .ref pl, .ref ch, .ref ro, .int 0, .int 0]))]) [0] rfl
  have hKc := hK.sub (tys' := []) [] rfl
  refine va_csq (W.runV (As := [.int p1]) (rest := []) ⟨hx, hb, hml, hown, hg⟩ (x_payOf l D x0 pg rd aq py pl ch ro p1) (cwV 1 hg (gw_V kw_19 kw_20 kw_21 kw_6 kw_18) rfl rfl rfl (by decide +kernel) ⟨Nat.le_of_ble_eq_true rfl, Nat.le_of_ble_eq_true rfl⟩) (pr_SV (q := (RX11, TX11, 9)) 11 0 hKc hPc rfl rfl) rfl rfl hl.1 rfl (lv_room (Nat.le_of_ble_eq_true rfl)) dX11_gain_2 ⟨Nat.le_of_ble_eq_true rfl, Nat.le_of_ble_eq_true rfl⟩) (fun r_2 h_2 => ?_)
  obtain rfl : r_2 = none := h_2
  refine W.eq (g2 := F0 m 5 ls [.null]) rfl ?_
  refine lv_astoreN (lv' := [(5, .null), (0, .ref x0), (1, .int p1), (2, .int p2), (3, .int p3), (4, .int p4)]) hx hb dX11_gain_5 hl (by decide) rfl (fun ls hl => ?_)
  refine lv_aloadN hx hb dX11_gain_7 (lv_at hl 0 rfl) ?_
  refine lv_ifnullN (tgt := 23) hx hb dX11_gain_9 (by decide) ?_
  refine lv_ldc2 hx hb hown (hg _ kw_17) dX11_gain_23 ?_
  subst hQ
  exact W.lret (v := (-101)) hx hb hr (fun t ht hW => ⟨(-101), rfl, rfl, ht⟩) (fun _ h => absurd h List.not_mem_nil) dX11_gain_26

set_option maxHeartbeats 4000000 in
set_option maxRecDepth 100000 in
theorem x_all (l : Launch) (D : va_G) (x0 : Nat) (pg : Nat) (rd : Nat) (aq : Nat) (py : Nat) (pl : Nat) (ch : Nat) (ro : Nat) (p1 : Int32) (p2 : Int32) : Met l yX11_all (Cond.code yX11_all cX11_all 4 (some .int) :: gw_tbl) ({ frames := 2, cells := 0, slots := 0, locals := 43 }) (pc_S D [] [(x0, .inr (11, [.ref pg, .ref rd, .ref aq, .ref py, .ref pl, .ref ch, .ref ro, .int 0, .int 0]))] [.ref x0, .int p1, .int p2]) (vp_Si (fun r => r = (-101))) 0 0 (fun _ => False) := by
  refine Met.ofW (cc := cX11_all) (maxL := 4) (ret := (some .int)) (by decide) rfl ?_
  intro p e s m args below meth c s₁ B hml hv
  obtain ⟨hargs, hP, hK⟩ := hv
  have hx := B.exec
  have hb := B.bytes
  have hr := B.returns
  have hts := atoms_spec (ws := Cond.code yX11_all cX11_all 4 (some .int) :: gw_tbl) B.pre
  have hg := fun (w : Cond) (h : w ∈ gw_tbl) => hts w (List.mem_cons_of_mem _ h)
  have hown : s.vm.findClass RX11 = some m.cls := findClass_of_methodNamed B.named
  have hlocks := B.notSynchronized
  have hl := lv_entry ([.ref x0, .int p1, .int p2]) (n := 4) (Nat.le_of_ble_eq_true rfl)
  rw [show entryFrame m args 4 = F0 m 0 (lg_sl ([.ref x0, .int p1, .int p2]) ++ List.replicate (4 - (lg_sl ([.ref x0, .int p1, .int p2])).length) Slot.unset).toArray [] from by rw [hargs]; exact lg_entry_eq ..]
  generalize (lg_sl ([.ref x0, .int p1, .int p2]) ++ List.replicate (4 - (lg_sl ([.ref x0, .int p1, .int p2])).length) Slot.unset).toArray = ls at hl ⊢
  have hl : lv_has ls 4 [(0, .ref x0), (1, .int p1), (2, .int p2)] := hl
  refine W_genQ (fun Q hQ => ?_)
  refine lv_aload_n hx hb dX11_all_0 rfl (lv_at hl 0 rfl) ?_
  refine lv_iload_n hx hb dX11_all_1 rfl (lv_at hl 1 rfl) ?_
  have hPc := hP.sub (ws' := [(x0, .inr (11, [.ref pg, .ref rd, .ref aq, .ref py, .ref pl, .ref ch, .ref ro, .int 0, .int 0]))]) [0] rfl
  have hKc := hK.sub (tys' := []) [] rfl
  refine va_csq (W.runV (As := [.int p1]) (rest := []) ⟨hx, hb, hml, hown, hg⟩ (x_payOf l D x0 pg rd aq py pl ch ro p1) (cwV 1 hg (gw_V kw_19 kw_20 kw_21 kw_6 kw_18) rfl rfl rfl (by decide +kernel) ⟨Nat.le_of_ble_eq_true rfl, Nat.le_of_ble_eq_true rfl⟩) (pr_SV (q := (RX11, TX11, 9)) 11 0 hKc hPc rfl rfl) rfl rfl hl.1 rfl (lv_room (Nat.le_of_ble_eq_true rfl)) dX11_all_2 ⟨Nat.le_of_ble_eq_true rfl, Nat.le_of_ble_eq_true rfl⟩) (fun r_2 h_2 => ?_)
  obtain rfl : r_2 = none := h_2
  refine W.eq (g2 := F0 m 5 ls [.null]) rfl ?_
  refine lv_astore_nN (lv' := [(3, .null), (0, .ref x0), (1, .int p1), (2, .int p2)]) hx hb dX11_all_5 rfl hl (by decide) rfl (fun ls hl => ?_)
  refine lv_aload_nN hx hb dX11_all_6 rfl (lv_at hl 0 rfl) ?_
  refine lv_ifnonnullN hx hb dX11_all_7 ?_
  refine lv_bipush (v := (-101)) hx hb dX11_all_10 (by decide) ?_
  subst hQ
  exact W.iret (v := (-101)) hx hb hr (fun t ht hW => ⟨(-101), rfl, rfl, ht⟩) (fun _ h => absurd h List.not_mem_nil) dX11_all_12

set_option maxHeartbeats 4000000 in
set_option maxRecDepth 100000 in
theorem x_group (l : Launch) (D : va_G) (x0 : Nat) (pg : Nat) (rd : Nat) (aq : Nat) (py : Nat) (pl : Nat) (ch : Nat) (ro : Nat) (p1 : Int32) (p2 : Int32) (p3 : Int32) : Met l yX11_group (Cond.code yX11_group cX11_group 6 (some .int) :: gw_tbl) ({ frames := 2, cells := 0, slots := 0, locals := 43 }) (pc_S D [] [(x0, .inr (11, [.ref pg, .ref rd, .ref aq, .ref py, .ref pl, .ref ch, .ref ro, .int 0, .int 0]))] [.ref x0, .int p1, .int p2, .int p3]) (vp_Si (fun r => r = (-101))) 0 0 (fun _ => False) := by
  refine Met.ofW (cc := cX11_group) (maxL := 6) (ret := (some .int)) (by decide) rfl ?_
  intro p e s m args below meth c s₁ B hml hv
  obtain ⟨hargs, hP, hK⟩ := hv
  have hx := B.exec
  have hb := B.bytes
  have hr := B.returns
  have hts := atoms_spec (ws := Cond.code yX11_group cX11_group 6 (some .int) :: gw_tbl) B.pre
  have hg := fun (w : Cond) (h : w ∈ gw_tbl) => hts w (List.mem_cons_of_mem _ h)
  have hown : s.vm.findClass RX11 = some m.cls := findClass_of_methodNamed B.named
  have hlocks := B.notSynchronized
  have hl := lv_entry ([.ref x0, .int p1, .int p2, .int p3]) (n := 6) (Nat.le_of_ble_eq_true rfl)
  rw [show entryFrame m args 6 = F0 m 0 (lg_sl ([.ref x0, .int p1, .int p2, .int p3]) ++ List.replicate (6 - (lg_sl ([.ref x0, .int p1, .int p2, .int p3])).length) Slot.unset).toArray [] from by rw [hargs]; exact lg_entry_eq ..]
  generalize (lg_sl ([.ref x0, .int p1, .int p2, .int p3]) ++ List.replicate (6 - (lg_sl ([.ref x0, .int p1, .int p2, .int p3])).length) Slot.unset).toArray = ls at hl ⊢
  have hl : lv_has ls 6 [(0, .ref x0), (1, .int p1), (2, .int p2), (3, .int p3)] := hl
  refine W_genQ (fun Q hQ => ?_)
  refine lv_aload_n hx hb dX11_group_0 rfl (lv_at hl 0 rfl) ?_
  refine lv_iload_n hx hb dX11_group_1 rfl (lv_at hl 1 rfl) ?_
  have hPc := hP.sub (ws' := [(x0, .inr (11, [.ref pg, .ref rd, .ref aq, .ref py, .ref pl, .ref ch, .ref ro, .int 0, .int 0]))]) [0] rfl
  have hKc := hK.sub (tys' := []) [] rfl
  refine va_csq (W.runV (As := [.int p1]) (rest := []) ⟨hx, hb, hml, hown, hg⟩ (x_payOf l D x0 pg rd aq py pl ch ro p1) (cwV 1 hg (gw_V kw_19 kw_20 kw_21 kw_6 kw_18) rfl rfl rfl (by decide +kernel) ⟨Nat.le_of_ble_eq_true rfl, Nat.le_of_ble_eq_true rfl⟩) (pr_SV (q := (RX11, TX11, 9)) 11 0 hKc hPc rfl rfl) rfl rfl hl.1 rfl (lv_room (Nat.le_of_ble_eq_true rfl)) dX11_group_2 ⟨Nat.le_of_ble_eq_true rfl, Nat.le_of_ble_eq_true rfl⟩) (fun r_2 h_2 => ?_)
  obtain rfl : r_2 = none := h_2
  refine W.eq (g2 := F0 m 5 ls [.null]) rfl ?_
  refine lv_astoreN (lv' := [(4, .null), (0, .ref x0), (1, .int p1), (2, .int p2), (3, .int p3)]) hx hb dX11_group_5 hl (by decide) rfl (fun ls hl => ?_)
  refine lv_aload_n hx hb dX11_group_7 rfl (lv_at hl 1 rfl) ?_
  refine lv_aloadN hx hb dX11_group_8 (lv_at hl 0 rfl) ?_
  refine lv_iload_n hx hb dX11_group_10 rfl (lv_at hl 3 rfl) ?_
  refine lv_iload_n hx hb dX11_group_11 rfl (lv_at hl 4 rfl) ?_
  refine lv_iconst (v := 1) hx hb dX11_group_12 (by decide) ?_
  have hPc := hP.sub (ws' := [(x0, .inr (11, [.ref pg, .ref rd, .ref aq, .ref py, .ref pl, .ref ch, .ref ro, .int 0, .int 0]))]) [0] rfl
  have hKc := hK.sub (tys' := []) [] rfl
  refine vp_callSi (W.runV (As := [.null, .int p2, .int p3, .int 1]) (rest := []) ⟨hx, hb, hml, hown, hg⟩ (x_refusalOf l D x0 pg rd aq py pl ch ro p2 p3 1) (cwV 4 hg (gw_V kw_24 kw_25 kw_26 kw_6 kw_23) rfl rfl rfl (by decide +kernel) ⟨Nat.le_of_ble_eq_true rfl, Nat.le_of_ble_eq_true rfl⟩) (pr_SV (q := (RX11, TX11, 9)) 11 0 hKc hPc rfl rfl) rfl rfl hl.1 rfl (lv_room (Nat.le_of_ble_eq_true rfl)) dX11_group_13 ⟨Nat.le_of_ble_eq_true rfl, Nat.le_of_ble_eq_true rfl⟩) (fun r_13 h_13 => ?_)
  obtain rfl : r_13 = ((-101) : Int32) := h_13
  refine lv_istore (lv' := [(5, .int (-101)), (4, .null), (0, .ref x0), (1, .int p1), (2, .int p2), (3, .int p3)]) hx hb dX11_group_16 hl (by decide) rfl (fun ls hl => ?_)
  refine lv_aloadN hx hb dX11_group_18 (lv_at hl 1 rfl) ?_
  refine lv_ifnullN (tgt := 28) hx hb dX11_group_20 (by decide) ?_
  refine lv_iload hx hb dX11_group_28 (lv_at hl 0 rfl) ?_
  subst hQ
  exact W.iret (v := (-101)) hx hb hr (fun t ht hW => ⟨(-101), rfl, rfl, ht⟩) (fun _ h => absurd h List.not_mem_nil) dX11_group_30

set_option maxHeartbeats 4000000 in
set_option maxRecDepth 100000 in
theorem x_goes (l : Launch) (D : va_G) (x0 : Nat) (pg : Nat) (rd : Nat) (aq : Nat) (py : Nat) (pl : Nat) (ch : Nat) (ro : Nat) (p1 : Int32) (p2 : Int32) (p3 : Int32) : Met l yX11_goes (Cond.code yX11_goes cX11_goes 6 (some .int) :: gw_tbl) ({ frames := 2, cells := 0, slots := 0, locals := 43 }) (pc_S D [] [(x0, .inr (11, [.ref pg, .ref rd, .ref aq, .ref py, .ref pl, .ref ch, .ref ro, .int 0, .int 0]))] [.ref x0, .int p1, .int p2, .int p3]) (vp_Si (fun r => r = (-101))) 0 0 (fun _ => False) := by
  refine Met.ofW (cc := cX11_goes) (maxL := 6) (ret := (some .int)) (by decide) rfl ?_
  intro p e s m args below meth c s₁ B hml hv
  obtain ⟨hargs, hP, hK⟩ := hv
  have hx := B.exec
  have hb := B.bytes
  have hr := B.returns
  have hts := atoms_spec (ws := Cond.code yX11_goes cX11_goes 6 (some .int) :: gw_tbl) B.pre
  have hg := fun (w : Cond) (h : w ∈ gw_tbl) => hts w (List.mem_cons_of_mem _ h)
  have hown : s.vm.findClass RX11 = some m.cls := findClass_of_methodNamed B.named
  have hlocks := B.notSynchronized
  have hl := lv_entry ([.ref x0, .int p1, .int p2, .int p3]) (n := 6) (Nat.le_of_ble_eq_true rfl)
  rw [show entryFrame m args 6 = F0 m 0 (lg_sl ([.ref x0, .int p1, .int p2, .int p3]) ++ List.replicate (6 - (lg_sl ([.ref x0, .int p1, .int p2, .int p3])).length) Slot.unset).toArray [] from by rw [hargs]; exact lg_entry_eq ..]
  generalize (lg_sl ([.ref x0, .int p1, .int p2, .int p3]) ++ List.replicate (6 - (lg_sl ([.ref x0, .int p1, .int p2, .int p3])).length) Slot.unset).toArray = ls at hl ⊢
  have hl : lv_has ls 6 [(0, .ref x0), (1, .int p1), (2, .int p2), (3, .int p3)] := hl
  refine W_genQ (fun Q hQ => ?_)
  refine lv_aload_n hx hb dX11_goes_0 rfl (lv_at hl 0 rfl) ?_
  refine lv_iload_n hx hb dX11_goes_1 rfl (lv_at hl 1 rfl) ?_
  have hPc := hP.sub (ws' := [(x0, .inr (11, [.ref pg, .ref rd, .ref aq, .ref py, .ref pl, .ref ch, .ref ro, .int 0, .int 0]))]) [0] rfl
  have hKc := hK.sub (tys' := []) [] rfl
  refine va_csq (W.runV (As := [.int p1]) (rest := []) ⟨hx, hb, hml, hown, hg⟩ (x_payOf l D x0 pg rd aq py pl ch ro p1) (cwV 1 hg (gw_V kw_19 kw_20 kw_21 kw_6 kw_18) rfl rfl rfl (by decide +kernel) ⟨Nat.le_of_ble_eq_true rfl, Nat.le_of_ble_eq_true rfl⟩) (pr_SV (q := (RX11, TX11, 9)) 11 0 hKc hPc rfl rfl) rfl rfl hl.1 rfl (lv_room (Nat.le_of_ble_eq_true rfl)) dX11_goes_2 ⟨Nat.le_of_ble_eq_true rfl, Nat.le_of_ble_eq_true rfl⟩) (fun r_2 h_2 => ?_)
  obtain rfl : r_2 = none := h_2
  refine W.eq (g2 := F0 m 5 ls [.null]) rfl ?_
  refine lv_astoreN (lv' := [(4, .null), (0, .ref x0), (1, .int p1), (2, .int p2), (3, .int p3)]) hx hb dX11_goes_5 hl (by decide) rfl (fun ls hl => ?_)
  refine lv_aload_n hx hb dX11_goes_7 rfl (lv_at hl 1 rfl) ?_
  refine lv_aloadN hx hb dX11_goes_8 (lv_at hl 0 rfl) ?_
  refine lv_iload_n hx hb dX11_goes_10 rfl (lv_at hl 3 rfl) ?_
  refine lv_iload_n hx hb dX11_goes_11 rfl (lv_at hl 4 rfl) ?_
  refine lv_iconst (v := 2) hx hb dX11_goes_12 (by decide) ?_
  have hPc := hP.sub (ws' := [(x0, .inr (11, [.ref pg, .ref rd, .ref aq, .ref py, .ref pl, .ref ch, .ref ro, .int 0, .int 0]))]) [0] rfl
  have hKc := hK.sub (tys' := []) [] rfl
  refine vp_callSi (W.runV (As := [.null, .int p2, .int p3, .int 2]) (rest := []) ⟨hx, hb, hml, hown, hg⟩ (x_refusalOf l D x0 pg rd aq py pl ch ro p2 p3 2) (cwV 4 hg (gw_V kw_24 kw_25 kw_26 kw_6 kw_23) rfl rfl rfl (by decide +kernel) ⟨Nat.le_of_ble_eq_true rfl, Nat.le_of_ble_eq_true rfl⟩) (pr_SV (q := (RX11, TX11, 9)) 11 0 hKc hPc rfl rfl) rfl rfl hl.1 rfl (lv_room (Nat.le_of_ble_eq_true rfl)) dX11_goes_13 ⟨Nat.le_of_ble_eq_true rfl, Nat.le_of_ble_eq_true rfl⟩) (fun r_13 h_13 => ?_)
  obtain rfl : r_13 = ((-101) : Int32) := h_13
  refine lv_istore (lv' := [(5, .int (-101)), (4, .null), (0, .ref x0), (1, .int p1), (2, .int p2), (3, .int p3)]) hx hb dX11_goes_16 hl (by decide) rfl (fun ls hl => ?_)
  refine lv_aloadN hx hb dX11_goes_18 (lv_at hl 1 rfl) ?_
  refine lv_ifnullN (tgt := 28) hx hb dX11_goes_20 (by decide) ?_
  refine lv_iload hx hb dX11_goes_28 (lv_at hl 0 rfl) ?_
  subst hQ
  exact W.iret (v := (-101)) hx hb hr (fun t ht hW => ⟨(-101), rfl, rfl, ht⟩) (fun _ h => absurd h List.not_mem_nil) dX11_goes_30

set_option maxHeartbeats 4000000 in
set_option maxRecDepth 100000 in
theorem x_drawn (l : Launch) (D : va_G) (x0 : Nat) (pg : Nat) (rd : Nat) (aq : Nat) (py : Nat) (pl : Nat) (ch : Nat) (ro : Nat) (p1 : Int32) : Met l yX11_drawn (Cond.code yX11_drawn cX11_drawn 3 (some .int) :: gw_tbl) ({ frames := 2, cells := 0, slots := 0, locals := 43 }) (pc_S D [] [(x0, .inr (11, [.ref pg, .ref rd, .ref aq, .ref py, .ref pl, .ref ch, .ref ro, .int 0, .int 0]))] [.ref x0, .int p1]) (vp_Si (fun r => r = (-101))) 0 0 (fun _ => False) := by
  refine Met.ofW (cc := cX11_drawn) (maxL := 3) (ret := (some .int)) (by decide) rfl ?_
  intro p e s m args below meth c s₁ B hml hv
  obtain ⟨hargs, hP, hK⟩ := hv
  have hx := B.exec
  have hb := B.bytes
  have hr := B.returns
  have hts := atoms_spec (ws := Cond.code yX11_drawn cX11_drawn 3 (some .int) :: gw_tbl) B.pre
  have hg := fun (w : Cond) (h : w ∈ gw_tbl) => hts w (List.mem_cons_of_mem _ h)
  have hown : s.vm.findClass RX11 = some m.cls := findClass_of_methodNamed B.named
  have hlocks := B.notSynchronized
  have hl := lv_entry ([.ref x0, .int p1]) (n := 3) (Nat.le_of_ble_eq_true rfl)
  rw [show entryFrame m args 3 = F0 m 0 (lg_sl ([.ref x0, .int p1]) ++ List.replicate (3 - (lg_sl ([.ref x0, .int p1])).length) Slot.unset).toArray [] from by rw [hargs]; exact lg_entry_eq ..]
  generalize (lg_sl ([.ref x0, .int p1]) ++ List.replicate (3 - (lg_sl ([.ref x0, .int p1])).length) Slot.unset).toArray = ls at hl ⊢
  have hl : lv_has ls 3 [(0, .ref x0), (1, .int p1)] := hl
  refine W_genQ (fun Q hQ => ?_)
  refine lv_aload_n hx hb dX11_drawn_0 rfl (lv_at hl 0 rfl) ?_
  refine lv_iload_n hx hb dX11_drawn_1 rfl (lv_at hl 1 rfl) ?_
  have hPc := hP.sub (ws' := [(x0, .inr (11, [.ref pg, .ref rd, .ref aq, .ref py, .ref pl, .ref ch, .ref ro, .int 0, .int 0]))]) [0] rfl
  have hKc := hK.sub (tys' := []) [] rfl
  refine va_csq (W.runV (As := [.int p1]) (rest := []) ⟨hx, hb, hml, hown, hg⟩ (x_payOf l D x0 pg rd aq py pl ch ro p1) (cwV 1 hg (gw_V kw_19 kw_20 kw_21 kw_6 kw_18) rfl rfl rfl (by decide +kernel) ⟨Nat.le_of_ble_eq_true rfl, Nat.le_of_ble_eq_true rfl⟩) (pr_SV (q := (RX11, TX11, 9)) 11 0 hKc hPc rfl rfl) rfl rfl hl.1 rfl (lv_room (Nat.le_of_ble_eq_true rfl)) dX11_drawn_2 ⟨Nat.le_of_ble_eq_true rfl, Nat.le_of_ble_eq_true rfl⟩) (fun r_2 h_2 => ?_)
  obtain rfl : r_2 = none := h_2
  refine W.eq (g2 := F0 m 5 ls [.null]) rfl ?_
  refine lv_astore_nN (lv' := [(2, .null), (0, .ref x0), (1, .int p1)]) hx hb dX11_drawn_5 rfl hl (by decide) rfl (fun ls hl => ?_)
  refine lv_aload_nN hx hb dX11_drawn_6 rfl (lv_at hl 0 rfl) ?_
  refine lv_ifnonnullN hx hb dX11_drawn_7 ?_
  refine lv_bipush (v := (-101)) hx hb dX11_drawn_10 (by decide) ?_
  subst hQ
  exact W.iret (v := (-101)) hx hb hr (fun t ht hW => ⟨(-101), rfl, rfl, ht⟩) (fun _ h => absurd h List.not_mem_nil) dX11_drawn_12

set_option maxHeartbeats 4000000 in
set_option maxRecDepth 100000 in
theorem x_leastSame (l : Launch) (D : va_G) (x0 : Nat) (pg : Nat) (rd : Nat) (aq : Nat) (py : Nat) (pl : Nat) (ch : Nat) (ro : Nat) (a1 : Nat) (a2 : Nat) (a3 : Nat) (a4 : Nat) : Met l yX11_leastSame (Cond.code yX11_leastSame cX11_leastSame 1 (some .int) :: gw_tbl) ({ frames := 1, cells := 0, slots := 0, locals := 20 }) (pc_S D [] [(x0, .inr (11, [.ref pg, .ref rd, .ref aq, .ref py, .ref pl, .ref ch, .ref ro, .int 0, .int 0])), (aq, .inr (5, [.ref a1, .ref a2, .ref a3, .ref a4, .int 0, .int 0, .long 0]))] [.ref x0]) (vp_Si (fun r => r = (-103))) 0 0 (fun _ => False) := by
  refine Met.ofW (cc := cX11_leastSame) (maxL := 1) (ret := (some .int)) (by decide) rfl ?_
  intro p e s m args below meth c s₁ B hml hv
  obtain ⟨hargs, hP, hK⟩ := hv
  have hx := B.exec
  have hb := B.bytes
  have hr := B.returns
  have hts := atoms_spec (ws := Cond.code yX11_leastSame cX11_leastSame 1 (some .int) :: gw_tbl) B.pre
  have hg := fun (w : Cond) (h : w ∈ gw_tbl) => hts w (List.mem_cons_of_mem _ h)
  have hown : s.vm.findClass RX11 = some m.cls := findClass_of_methodNamed B.named
  have hlocks := B.notSynchronized
  have hl := lv_entry ([.ref x0]) (n := 1) (Nat.le_of_ble_eq_true rfl)
  rw [show entryFrame m args 1 = F0 m 0 (lg_sl ([.ref x0]) ++ List.replicate (1 - (lg_sl ([.ref x0])).length) Slot.unset).toArray [] from by rw [hargs]; exact lg_entry_eq ..]
  generalize (lg_sl ([.ref x0]) ++ List.replicate (1 - (lg_sl ([.ref x0])).length) Slot.unset).toArray = ls at hl ⊢
  have hl : lv_has ls 1 [(0, .ref x0)] := hl
  refine W_genQ (fun Q hQ => ?_)
  refine lv_aload_n hx hb dX11_leastSame_0 rfl (lv_at hl 0 rfl) ?_
  refine va_get (D := D) (ci := 11) (v := .ref aq) (C := RX11) (T := TX11) (N := 9) hx hb hg gwX11 hown hK hP 0 rfl rfl 2 (by decide) (hg _ kw_7) (fun _ h9 => h9) rfl dX11_leastSame_1 ?_
  have hPc := hP.sub (ws' := [(aq, .inr (5, [.ref a1, .ref a2, .ref a3, .ref a4, .int 0, .int 0, .long 0]))]) [1] rfl
  have hKc := hK.sub (tys' := []) [] rfl
  refine vp_callSi (W.runV (As := []) (rest := []) ⟨hx, hb, hml, hown, hg⟩ (q_stands l D aq a1 a2 a3 a4) (cwV 0 hg (gw_V kw_28 kw_29 kw_30 kw_12 kw_27) rfl rfl rfl (by decide +kernel) ⟨Nat.le_of_ble_eq_true rfl, Nat.le_of_ble_eq_true rfl⟩) (pr_SV (q := (RX5, TX5, 7)) 5 0 hKc hPc rfl rfl) rfl rfl hl.1 rfl (lv_room (Nat.le_of_ble_eq_true rfl)) dX11_leastSame_4 ⟨Nat.le_of_ble_eq_true rfl, Nat.le_of_ble_eq_true rfl⟩) (fun r_4 h_4 => ?_)
  obtain rfl : r_4 = (0 : Int32) := h_4
  refine lv_if_eq (tgt := 20) hx hb dX11_leastSame_7 (by decide) (fun c_7 => ?_) (fun c_7 => absurd (by decide) c_7)
  refine lv_bipush (v := (-103)) hx hb dX11_leastSame_20 (by decide) ?_
  subst hQ
  exact W.iret (v := (-103)) hx hb hr (fun t ht hW => ⟨(-103), rfl, rfl, ht⟩) (fun _ h => absurd h List.not_mem_nil) dX11_leastSame_22

set_option maxHeartbeats 4000000 in
set_option maxRecDepth 100000 in
theorem x_leastTable (l : Launch) (D : va_G) (x0 : Nat) (pg : Nat) (rd : Nat) (aq : Nat) (py : Nat) (pl : Nat) (ch : Nat) (ro : Nat) (a1 : Nat) (a2 : Nat) (a3 : Nat) (a4 : Nat) (p1 : Int32) : Met l yX11_leastTable (Cond.code yX11_leastTable cX11_leastTable 2 (some .int) :: gw_tbl) ({ frames := 1, cells := 0, slots := 0, locals := 20 }) (pc_S D [] [(x0, .inr (11, [.ref pg, .ref rd, .ref aq, .ref py, .ref pl, .ref ch, .ref ro, .int 0, .int 0])), (aq, .inr (5, [.ref a1, .ref a2, .ref a3, .ref a4, .int 0, .int 0, .long 0]))] [.ref x0, .int p1]) (vp_Si (fun r => r = (-103))) 0 0 (fun _ => False) := by
  refine Met.ofW (cc := cX11_leastTable) (maxL := 2) (ret := (some .int)) (by decide) rfl ?_
  intro p e s m args below meth c s₁ B hml hv
  obtain ⟨hargs, hP, hK⟩ := hv
  have hx := B.exec
  have hb := B.bytes
  have hr := B.returns
  have hts := atoms_spec (ws := Cond.code yX11_leastTable cX11_leastTable 2 (some .int) :: gw_tbl) B.pre
  have hg := fun (w : Cond) (h : w ∈ gw_tbl) => hts w (List.mem_cons_of_mem _ h)
  have hown : s.vm.findClass RX11 = some m.cls := findClass_of_methodNamed B.named
  have hlocks := B.notSynchronized
  have hl := lv_entry ([.ref x0, .int p1]) (n := 2) (Nat.le_of_ble_eq_true rfl)
  rw [show entryFrame m args 2 = F0 m 0 (lg_sl ([.ref x0, .int p1]) ++ List.replicate (2 - (lg_sl ([.ref x0, .int p1])).length) Slot.unset).toArray [] from by rw [hargs]; exact lg_entry_eq ..]
  generalize (lg_sl ([.ref x0, .int p1]) ++ List.replicate (2 - (lg_sl ([.ref x0, .int p1])).length) Slot.unset).toArray = ls at hl ⊢
  have hl : lv_has ls 2 [(0, .ref x0), (1, .int p1)] := hl
  refine W_genQ (fun Q hQ => ?_)
  refine lv_aload_n hx hb dX11_leastTable_0 rfl (lv_at hl 0 rfl) ?_
  refine va_get (D := D) (ci := 11) (v := .ref aq) (C := RX11) (T := TX11) (N := 9) hx hb hg gwX11 hown hK hP 0 rfl rfl 2 (by decide) (hg _ kw_7) (fun _ h9 => h9) rfl dX11_leastTable_1 ?_
  have hPc := hP.sub (ws' := [(aq, .inr (5, [.ref a1, .ref a2, .ref a3, .ref a4, .int 0, .int 0, .long 0]))]) [1] rfl
  have hKc := hK.sub (tys' := []) [] rfl
  refine vp_callSi (W.runV (As := []) (rest := []) ⟨hx, hb, hml, hown, hg⟩ (q_stands l D aq a1 a2 a3 a4) (cwV 0 hg (gw_V kw_28 kw_29 kw_30 kw_12 kw_27) rfl rfl rfl (by decide +kernel) ⟨Nat.le_of_ble_eq_true rfl, Nat.le_of_ble_eq_true rfl⟩) (pr_SV (q := (RX5, TX5, 7)) 5 0 hKc hPc rfl rfl) rfl rfl hl.1 rfl (lv_room (Nat.le_of_ble_eq_true rfl)) dX11_leastTable_4 ⟨Nat.le_of_ble_eq_true rfl, Nat.le_of_ble_eq_true rfl⟩) (fun r_4 h_4 => ?_)
  obtain rfl : r_4 = (0 : Int32) := h_4
  refine lv_if_ne (tgt := 13) hx hb dX11_leastTable_7 (by decide) (fun c_7 => absurd c_7 (by decide)) (fun c_7 => ?_)
  refine lv_bipush (v := (-103)) hx hb dX11_leastTable_10 (by decide) ?_
  subst hQ
  exact W.iret (v := (-103)) hx hb hr (fun t ht hW => ⟨(-103), rfl, rfl, ht⟩) (fun _ h => absurd h List.not_mem_nil) dX11_leastTable_12

set_option maxHeartbeats 4000000 in
set_option maxRecDepth 100000 in
theorem x_leastLook (l : Launch) (D : va_G) (x0 : Nat) (pg : Nat) (rd : Nat) (aq : Nat) (py : Nat) (pl : Nat) (ch : Nat) (ro : Nat) (p1 : Int32) : Met l yX11_leastLook (Cond.code yX11_leastLook cX11_leastLook 3 (some .int) :: gw_tbl) ({ frames := 2, cells := 0, slots := 0, locals := 43 }) (pc_S D [] [(x0, .inr (11, [.ref pg, .ref rd, .ref aq, .ref py, .ref pl, .ref ch, .ref ro, .int 0, .int 0]))] [.ref x0, .int p1]) (vp_Si (fun r => r = (-101))) 0 0 (fun _ => False) := by
  refine Met.ofW (cc := cX11_leastLook) (maxL := 3) (ret := (some .int)) (by decide) rfl ?_
  intro p e s m args below meth c s₁ B hml hv
  obtain ⟨hargs, hP, hK⟩ := hv
  have hx := B.exec
  have hb := B.bytes
  have hr := B.returns
  have hts := atoms_spec (ws := Cond.code yX11_leastLook cX11_leastLook 3 (some .int) :: gw_tbl) B.pre
  have hg := fun (w : Cond) (h : w ∈ gw_tbl) => hts w (List.mem_cons_of_mem _ h)
  have hown : s.vm.findClass RX11 = some m.cls := findClass_of_methodNamed B.named
  have hlocks := B.notSynchronized
  have hl := lv_entry ([.ref x0, .int p1]) (n := 3) (Nat.le_of_ble_eq_true rfl)
  rw [show entryFrame m args 3 = F0 m 0 (lg_sl ([.ref x0, .int p1]) ++ List.replicate (3 - (lg_sl ([.ref x0, .int p1])).length) Slot.unset).toArray [] from by rw [hargs]; exact lg_entry_eq ..]
  generalize (lg_sl ([.ref x0, .int p1]) ++ List.replicate (3 - (lg_sl ([.ref x0, .int p1])).length) Slot.unset).toArray = ls at hl ⊢
  have hl : lv_has ls 3 [(0, .ref x0), (1, .int p1)] := hl
  refine W_genQ (fun Q hQ => ?_)
  refine lv_aload_n hx hb dX11_leastLook_0 rfl (lv_at hl 0 rfl) ?_
  refine lv_iload_n hx hb dX11_leastLook_1 rfl (lv_at hl 1 rfl) ?_
  have hPc := hP.sub (ws' := [(x0, .inr (11, [.ref pg, .ref rd, .ref aq, .ref py, .ref pl, .ref ch, .ref ro, .int 0, .int 0]))]) [0] rfl
  have hKc := hK.sub (tys' := []) [] rfl
  refine va_csq (W.runV (As := [.int p1]) (rest := []) ⟨hx, hb, hml, hown, hg⟩ (x_payOf l D x0 pg rd aq py pl ch ro p1) (cwV 1 hg (gw_V kw_19 kw_20 kw_21 kw_6 kw_18) rfl rfl rfl (by decide +kernel) ⟨Nat.le_of_ble_eq_true rfl, Nat.le_of_ble_eq_true rfl⟩) (pr_SV (q := (RX11, TX11, 9)) 11 0 hKc hPc rfl rfl) rfl rfl hl.1 rfl (lv_room (Nat.le_of_ble_eq_true rfl)) dX11_leastLook_2 ⟨Nat.le_of_ble_eq_true rfl, Nat.le_of_ble_eq_true rfl⟩) (fun r_2 h_2 => ?_)
  obtain rfl : r_2 = none := h_2
  refine W.eq (g2 := F0 m 5 ls [.null]) rfl ?_
  refine lv_astore_nN (lv' := [(2, .null), (0, .ref x0), (1, .int p1)]) hx hb dX11_leastLook_5 rfl hl (by decide) rfl (fun ls hl => ?_)
  refine lv_aload_nN hx hb dX11_leastLook_6 rfl (lv_at hl 0 rfl) ?_
  refine lv_ifnonnullN hx hb dX11_leastLook_7 ?_
  refine lv_bipush (v := (-101)) hx hb dX11_leastLook_10 (by decide) ?_
  subst hQ
  exact W.iret (v := (-101)) hx hb hr (fun t ht hW => ⟨(-101), rfl, rfl, ht⟩) (fun _ h => absurd h List.not_mem_nil) dX11_leastLook_12

set_option maxHeartbeats 4000000 in
set_option maxRecDepth 100000 in
theorem x_mayBe (l : Launch) (D : va_G) (x0 : Nat) (pg : Nat) (rd : Nat) (aq : Nat) (py : Nat) (pl : Nat) (ch : Nat) (ro : Nat) (p1 : Int32) (p2 : Int32) : Met l yX11_mayBe (Cond.code yX11_mayBe cX11_mayBe 4 (some .int) :: gw_tbl) ({ frames := 2, cells := 0, slots := 0, locals := 43 }) (pc_S D [] [(x0, .inr (11, [.ref pg, .ref rd, .ref aq, .ref py, .ref pl, .ref ch, .ref ro, .int 0, .int 0]))] [.ref x0, .int p1, .int p2]) (vp_Si (fun r => r = (-101))) 0 0 (fun _ => False) := by
  refine Met.ofW (cc := cX11_mayBe) (maxL := 4) (ret := (some .int)) (by decide) rfl ?_
  intro p e s m args below meth c s₁ B hml hv
  obtain ⟨hargs, hP, hK⟩ := hv
  have hx := B.exec
  have hb := B.bytes
  have hr := B.returns
  have hts := atoms_spec (ws := Cond.code yX11_mayBe cX11_mayBe 4 (some .int) :: gw_tbl) B.pre
  have hg := fun (w : Cond) (h : w ∈ gw_tbl) => hts w (List.mem_cons_of_mem _ h)
  have hown : s.vm.findClass RX11 = some m.cls := findClass_of_methodNamed B.named
  have hlocks := B.notSynchronized
  have hl := lv_entry ([.ref x0, .int p1, .int p2]) (n := 4) (Nat.le_of_ble_eq_true rfl)
  rw [show entryFrame m args 4 = F0 m 0 (lg_sl ([.ref x0, .int p1, .int p2]) ++ List.replicate (4 - (lg_sl ([.ref x0, .int p1, .int p2])).length) Slot.unset).toArray [] from by rw [hargs]; exact lg_entry_eq ..]
  generalize (lg_sl ([.ref x0, .int p1, .int p2]) ++ List.replicate (4 - (lg_sl ([.ref x0, .int p1, .int p2])).length) Slot.unset).toArray = ls at hl ⊢
  have hl : lv_has ls 4 [(0, .ref x0), (1, .int p1), (2, .int p2)] := hl
  refine W_genQ (fun Q hQ => ?_)
  refine lv_aload_n hx hb dX11_mayBe_0 rfl (lv_at hl 0 rfl) ?_
  refine lv_iload_n hx hb dX11_mayBe_1 rfl (lv_at hl 1 rfl) ?_
  have hPc := hP.sub (ws' := [(x0, .inr (11, [.ref pg, .ref rd, .ref aq, .ref py, .ref pl, .ref ch, .ref ro, .int 0, .int 0]))]) [0] rfl
  have hKc := hK.sub (tys' := []) [] rfl
  refine va_csq (W.runV (As := [.int p1]) (rest := []) ⟨hx, hb, hml, hown, hg⟩ (x_payOf l D x0 pg rd aq py pl ch ro p1) (cwV 1 hg (gw_V kw_19 kw_20 kw_21 kw_6 kw_18) rfl rfl rfl (by decide +kernel) ⟨Nat.le_of_ble_eq_true rfl, Nat.le_of_ble_eq_true rfl⟩) (pr_SV (q := (RX11, TX11, 9)) 11 0 hKc hPc rfl rfl) rfl rfl hl.1 rfl (lv_room (Nat.le_of_ble_eq_true rfl)) dX11_mayBe_2 ⟨Nat.le_of_ble_eq_true rfl, Nat.le_of_ble_eq_true rfl⟩) (fun r_2 h_2 => ?_)
  obtain rfl : r_2 = none := h_2
  refine W.eq (g2 := F0 m 5 ls [.null]) rfl ?_
  refine lv_astore_nN (lv' := [(3, .null), (0, .ref x0), (1, .int p1), (2, .int p2)]) hx hb dX11_mayBe_5 rfl hl (by decide) rfl (fun ls hl => ?_)
  refine lv_aload_nN hx hb dX11_mayBe_6 rfl (lv_at hl 0 rfl) ?_
  refine lv_ifnonnullN hx hb dX11_mayBe_7 ?_
  refine lv_bipush (v := (-101)) hx hb dX11_mayBe_10 (by decide) ?_
  subst hQ
  exact W.iret (v := (-101)) hx hb hr (fun t ht hW => ⟨(-101), rfl, rfl, ht⟩) (fun _ h => absurd h List.not_mem_nil) dX11_mayBe_12

set_option maxHeartbeats 4000000 in
set_option maxRecDepth 100000 in
theorem x_row (l : Launch) (D : va_G) (x0 : Nat) (pg : Nat) (rd : Nat) (aq : Nat) (py : Nat) (pl : Nat) (ch : Nat) (ro : Nat) (a1 : Nat) (a2 : Nat) (a3 : Nat) (a4 : Nat) (p1 : Int32) (p2 : Int64) : Met l yX11_row (Cond.code yX11_row cX11_row 4 (some .int) :: gw_tbl) ({ frames := 1, cells := 0, slots := 0, locals := 20 }) (pc_S D [] [(x0, .inr (11, [.ref pg, .ref rd, .ref aq, .ref py, .ref pl, .ref ch, .ref ro, .int 0, .int 0])), (aq, .inr (5, [.ref a1, .ref a2, .ref a3, .ref a4, .int 0, .int 0, .long 0]))] [.ref x0, .int p1, .long p2]) (vp_Si (fun r => r = (-103))) 0 0 (fun _ => False) := by
  refine Met.ofW (cc := cX11_row) (maxL := 4) (ret := (some .int)) (by decide) rfl ?_
  intro p e s m args below meth c s₁ B hml hv
  obtain ⟨hargs, hP, hK⟩ := hv
  have hx := B.exec
  have hb := B.bytes
  have hr := B.returns
  have hts := atoms_spec (ws := Cond.code yX11_row cX11_row 4 (some .int) :: gw_tbl) B.pre
  have hg := fun (w : Cond) (h : w ∈ gw_tbl) => hts w (List.mem_cons_of_mem _ h)
  have hown : s.vm.findClass RX11 = some m.cls := findClass_of_methodNamed B.named
  have hlocks := B.notSynchronized
  have hl := lv_entry ([.ref x0, .int p1, .long p2]) (n := 4) (Nat.le_of_ble_eq_true rfl)
  rw [show entryFrame m args 4 = F0 m 0 (lg_sl ([.ref x0, .int p1, .long p2]) ++ List.replicate (4 - (lg_sl ([.ref x0, .int p1, .long p2])).length) Slot.unset).toArray [] from by rw [hargs]; exact lg_entry_eq ..]
  generalize (lg_sl ([.ref x0, .int p1, .long p2]) ++ List.replicate (4 - (lg_sl ([.ref x0, .int p1, .long p2])).length) Slot.unset).toArray = ls at hl ⊢
  have hl : lv_has ls 4 [(0, .ref x0), (1, .int p1), (2, .long p2)] := hl
  refine W_genQ (fun Q hQ => ?_)
  refine lv_aload_n hx hb dX11_row_0 rfl (lv_at hl 0 rfl) ?_
  refine va_get (D := D) (ci := 11) (v := .ref aq) (C := RX11) (T := TX11) (N := 9) hx hb hg gwX11 hown hK hP 0 rfl rfl 2 (by decide) (hg _ kw_7) (fun _ h9 => h9) rfl dX11_row_1 ?_
  have hPc := hP.sub (ws' := [(aq, .inr (5, [.ref a1, .ref a2, .ref a3, .ref a4, .int 0, .int 0, .long 0]))]) [1] rfl
  have hKc := hK.sub (tys' := []) [] rfl
  refine vp_callSi (W.runV (As := []) (rest := []) ⟨hx, hb, hml, hown, hg⟩ (q_stands l D aq a1 a2 a3 a4) (cwV 0 hg (gw_V kw_28 kw_29 kw_30 kw_12 kw_27) rfl rfl rfl (by decide +kernel) ⟨Nat.le_of_ble_eq_true rfl, Nat.le_of_ble_eq_true rfl⟩) (pr_SV (q := (RX5, TX5, 7)) 5 0 hKc hPc rfl rfl) rfl rfl hl.1 rfl (lv_room (Nat.le_of_ble_eq_true rfl)) dX11_row_4 ⟨Nat.le_of_ble_eq_true rfl, Nat.le_of_ble_eq_true rfl⟩) (fun r_4 h_4 => ?_)
  obtain rfl : r_4 = (0 : Int32) := h_4
  refine lv_if_ne (tgt := 13) hx hb dX11_row_7 (by decide) (fun c_7 => absurd c_7 (by decide)) (fun c_7 => ?_)
  refine lv_bipush (v := (-103)) hx hb dX11_row_10 (by decide) ?_
  subst hQ
  exact W.iret (v := (-103)) hx hb hr (fun t ht hW => ⟨(-103), rfl, rfl, ht⟩) (fun _ h => absurd h List.not_mem_nil) dX11_row_12

set_option maxHeartbeats 4000000 in
set_option maxRecDepth 100000 in
theorem x_alike (l : Launch) (D : va_G) (x0 : Nat) (pg : Nat) (rd : Nat) (aq : Nat) (py : Nat) (pl : Nat) (ch : Nat) (ro : Nat) (a1 : Nat) (a2 : Nat) (a3 : Nat) (a4 : Nat) (p1 : Int32) (p2 : Int32) (p3 : Int32) : Met l yX11_alike (Cond.code yX11_alike cX11_alike 9 (some .int) :: gw_tbl) ({ frames := 1, cells := 0, slots := 0, locals := 21 }) (pc_S D [] [(x0, .inr (11, [.ref pg, .ref rd, .ref aq, .ref py, .ref pl, .ref ch, .ref ro, .int 0, .int 0])), (aq, .inr (5, [.ref a1, .ref a2, .ref a3, .ref a4, .int 0, .int 0, .long 0]))] [.ref x0, .int p1, .int p2, .int p3]) (vp_Si (fun r => r = (-1000001))) 0 0 (fun _ => False) := by
  refine Met.ofW (cc := cX11_alike) (maxL := 9) (ret := (some .int)) (by decide) rfl ?_
  intro p e s m args below meth c s₁ B hml hv
  obtain ⟨hargs, hP, hK⟩ := hv
  have hx := B.exec
  have hb := B.bytes
  have hr := B.returns
  have hts := atoms_spec (ws := Cond.code yX11_alike cX11_alike 9 (some .int) :: gw_tbl) B.pre
  have hg := fun (w : Cond) (h : w ∈ gw_tbl) => hts w (List.mem_cons_of_mem _ h)
  have hown : s.vm.findClass RX11 = some m.cls := findClass_of_methodNamed B.named
  have hlocks := B.notSynchronized
  have hl := lv_entry ([.ref x0, .int p1, .int p2, .int p3]) (n := 9) (Nat.le_of_ble_eq_true rfl)
  rw [show entryFrame m args 9 = F0 m 0 (lg_sl ([.ref x0, .int p1, .int p2, .int p3]) ++ List.replicate (9 - (lg_sl ([.ref x0, .int p1, .int p2, .int p3])).length) Slot.unset).toArray [] from by rw [hargs]; exact lg_entry_eq ..]
  generalize (lg_sl ([.ref x0, .int p1, .int p2, .int p3]) ++ List.replicate (9 - (lg_sl ([.ref x0, .int p1, .int p2, .int p3])).length) Slot.unset).toArray = ls at hl ⊢
  have hl : lv_has ls 9 [(0, .ref x0), (1, .int p1), (2, .int p2), (3, .int p3)] := hl
  refine W_genQ (fun Q hQ => ?_)
  refine lv_aload_n hx hb dX11_alike_0 rfl (lv_at hl 0 rfl) ?_
  refine va_get (D := D) (ci := 11) (v := .ref aq) (C := RX11) (T := TX11) (N := 9) hx hb hg gwX11 hown hK hP 0 rfl rfl 2 (by decide) (hg _ kw_7) (fun _ h9 => h9) rfl dX11_alike_1 ?_
  refine lv_iload_n hx hb dX11_alike_4 rfl (lv_at hl 1 rfl) ?_
  have hPc := hP.sub (ws' := [(aq, .inr (5, [.ref a1, .ref a2, .ref a3, .ref a4, .int 0, .int 0, .long 0]))]) [1] rfl
  have hKc := hK.sub (tys' := []) [] rfl
  refine vp_callSi (W.runV (As := [.int p1]) (rest := []) ⟨hx, hb, hml, hown, hg⟩ (q_hasPerson l D aq a1 a2 a3 a4 p1) (cwV 1 hg (gw_V kw_14 kw_15 kw_16 kw_12 kw_13) rfl rfl rfl (by decide +kernel) ⟨Nat.le_of_ble_eq_true rfl, Nat.le_of_ble_eq_true rfl⟩) (pr_SV (q := (RX5, TX5, 7)) 5 0 hKc hPc rfl rfl) rfl rfl hl.1 rfl (lv_room (Nat.le_of_ble_eq_true rfl)) dX11_alike_5 ⟨Nat.le_of_ble_eq_true rfl, Nat.le_of_ble_eq_true rfl⟩) (fun r_5 h_5 => ?_)
  obtain rfl : r_5 = (0 : Int32) := h_5
  refine lv_if_eq (tgt := 27) hx hb dX11_alike_8 (by decide) (fun c_8 => ?_) (fun c_8 => absurd (by decide) c_8)
  refine lv_ldcw hx hb hown (hg _ kw_31) dX11_alike_27 ?_
  subst hQ
  exact W.iret (v := (-1000001)) hx hb hr (fun t ht hW => ⟨(-1000001), rfl, rfl, ht⟩) (fun _ h => absurd h List.not_mem_nil) dX11_alike_30

set_option maxHeartbeats 4000000 in
set_option maxRecDepth 100000 in
theorem x_crowd (l : Launch) (D : va_G) (x0 : Nat) (pg : Nat) (rd : Nat) (aq : Nat) (py : Nat) (pl : Nat) (ch : Nat) (ro : Nat) (r1 : Nat) (r2 : Nat) (p1 : Int32) (p2 : Int32) : Met l yX11_crowd (Cond.code yX11_crowd cX11_crowd 3 (some .int) :: gw_tbl) ({ frames := 1, cells := 0, slots := 0, locals := 22 }) (pc_S D [] [(x0, .inr (11, [.ref pg, .ref rd, .ref aq, .ref py, .ref pl, .ref ch, .ref ro, .int 0, .int 0])), (ro, .inr (8, [.ref r1, .ref r2, .int 0]))] [.ref x0, .int p1, .int p2]) (vp_Si (fun r => r = (-101))) 0 0 (fun _ => False) := by
  refine Met.ofW (cc := cX11_crowd) (maxL := 3) (ret := (some .int)) (by decide) rfl ?_
  intro p e s m args below meth c s₁ B hml hv
  obtain ⟨hargs, hP, hK⟩ := hv
  have hx := B.exec
  have hb := B.bytes
  have hr := B.returns
  have hts := atoms_spec (ws := Cond.code yX11_crowd cX11_crowd 3 (some .int) :: gw_tbl) B.pre
  have hg := fun (w : Cond) (h : w ∈ gw_tbl) => hts w (List.mem_cons_of_mem _ h)
  have hown : s.vm.findClass RX11 = some m.cls := findClass_of_methodNamed B.named
  have hlocks := B.notSynchronized
  have hl := lv_entry ([.ref x0, .int p1, .int p2]) (n := 3) (Nat.le_of_ble_eq_true rfl)
  rw [show entryFrame m args 3 = F0 m 0 (lg_sl ([.ref x0, .int p1, .int p2]) ++ List.replicate (3 - (lg_sl ([.ref x0, .int p1, .int p2])).length) Slot.unset).toArray [] from by rw [hargs]; exact lg_entry_eq ..]
  generalize (lg_sl ([.ref x0, .int p1, .int p2]) ++ List.replicate (3 - (lg_sl ([.ref x0, .int p1, .int p2])).length) Slot.unset).toArray = ls at hl ⊢
  have hl : lv_has ls 3 [(0, .ref x0), (1, .int p1), (2, .int p2)] := hl
  refine W_genQ (fun Q hQ => ?_)
  refine lv_iload_n hx hb dX11_crowd_0 rfl (lv_at hl 1 rfl) ?_
  refine lv_iconst (v := 0) hx hb dX11_crowd_1 (by decide) ?_
  refine lv_aload_n hx hb dX11_crowd_2 rfl (lv_at hl 0 rfl) ?_
  refine va_get (D := D) (ci := 11) (v := .ref ro) (C := RX11) (T := TX11) (N := 9) hx hb hg gwX11 hown hK hP 0 rfl rfl 6 (by decide) (hg _ kw_32) (fun _ h9 => h9) rfl dX11_crowd_3 ?_
  refine va_get (D := D) (ci := 8) (v := .int 0) (C := RX8) (T := TX8) (N := 3) hx hb hg gwX8 hown hK hP 1 rfl rfl 2 (by decide) (hg _ kw_33) (fun _ h9 => h9) rfl dX11_crowd_6 ?_
  refine lv_iconst (v := 1) hx hb dX11_crowd_9 (by decide) ?_
  refine lv_isub hx hb dX11_crowd_10 ?_
  refine lv_topi (fun z_10 e_10 => ?_)
  obtain rfl : z_10 = ((-1) : Int32) := e_10.trans (by decide)
  refine vp_callSi (W.runS (As := [.int p1, .int 0, .int (-1)]) (rest := []) ⟨hx, hb, hml, hown, hg⟩ (c_isWithin l p1 0 (-1)) (va_cwS 3 hg (gw_S kw_4 kw_5 kw_6 kw_3) rfl rfl rfl (by decide +kernel) ⟨Nat.le_of_ble_eq_true rfl, Nat.le_of_ble_eq_true rfl⟩) pr_0 rfl rfl hl.1 rfl (lv_room (Nat.le_of_ble_eq_true rfl)) dX11_crowd_11 ⟨Nat.le_of_ble_eq_true rfl, Nat.le_of_ble_eq_true rfl⟩) (fun r_11 h_11 => ?_)
  obtain rfl : r_11 = (0 : Int32) := h_11.trans (iw_no (by decide))
  refine lv_if_ne (tgt := 20) hx hb dX11_crowd_14 (by decide) (fun c_14 => absurd c_14 (by decide)) (fun c_14 => ?_)
  refine lv_bipush (v := (-101)) hx hb dX11_crowd_17 (by decide) ?_
  subst hQ
  exact W.iret (v := (-101)) hx hb hr (fun t ht hW => ⟨(-101), rfl, rfl, ht⟩) (fun _ h => absurd h List.not_mem_nil) dX11_crowd_19

set_option maxHeartbeats 4000000 in
set_option maxRecDepth 100000 in
theorem x_count (l : Launch) (D : va_G) (x0 : Nat) (pg : Nat) (rd : Nat) (aq : Nat) (py : Nat) (pl : Nat) (ch : Nat) (ro : Nat) (a1 : Nat) (a2 : Nat) (a3 : Nat) (a4 : Nat) (r1 : Nat) (r2 : Nat) (cd : Nat) (p1 : Int32) : Met l yX11_count (Cond.code yX11_count cX11_count 2 (some .int) :: gw_tbl) ({ frames := 0, cells := 0, slots := 0, locals := 0 }) (pc_S D [] [(x0, .inr (11, [.ref pg, .ref rd, .ref aq, .ref py, .ref pl, .ref ch, .ref ro, .int 0, .int 0])), (aq, .inr (5, [.ref a1, .ref a2, .ref a3, .ref a4, .int 0, .int 0, .long 0])), (ro, .inr (8, [.ref r1, .ref r2, .int 0])), (pg, .inr (2, [.ref cd, .int 0]))] [.ref x0, .int p1]) (vp_Si (fun r => r = cntf p1)) 0 0 (fun _ => False) := by
  refine Met.ofW (cc := cX11_count) (maxL := 2) (ret := (some .int)) (by decide) rfl ?_
  intro p e s m args below meth c s₁ B hml hv
  obtain ⟨hargs, hP, hK⟩ := hv
  have hx := B.exec
  have hb := B.bytes
  have hr := B.returns
  have hts := atoms_spec (ws := Cond.code yX11_count cX11_count 2 (some .int) :: gw_tbl) B.pre
  have hg := fun (w : Cond) (h : w ∈ gw_tbl) => hts w (List.mem_cons_of_mem _ h)
  have hown : s.vm.findClass RX11 = some m.cls := findClass_of_methodNamed B.named
  have hlocks := B.notSynchronized
  have hl := lv_entry ([.ref x0, .int p1]) (n := 2) (Nat.le_of_ble_eq_true rfl)
  rw [show entryFrame m args 2 = F0 m 0 (lg_sl ([.ref x0, .int p1]) ++ List.replicate (2 - (lg_sl ([.ref x0, .int p1])).length) Slot.unset).toArray [] from by rw [hargs]; exact lg_entry_eq ..]
  generalize (lg_sl ([.ref x0, .int p1]) ++ List.replicate (2 - (lg_sl ([.ref x0, .int p1])).length) Slot.unset).toArray = ls at hl ⊢
  have hl : lv_has ls 2 [(0, .ref x0), (1, .int p1)] := hl
  refine W_genQ (fun Q hQ => ?_)
  refine lv_iload_n hx hb dX11_count_0 rfl (lv_at hl 1 rfl) ?_
  by_cases t_1 : p1.toInt < 0 ∨ 5 < p1.toInt
  · refine lv_tableOut (tgt := 82) hx hb dX11_count_1 t_1 (by decide) ?_
    refine lv_bipush (v := (-102)) hx hb dX11_count_82 (by decide) ?_
    subst hQ
    exact W.iret (v := (-102)) hx hb hr (fun t ht hW => ⟨(-102), rfl, (if_pos t_1).symm, ht⟩) (fun _ h => absurd h List.not_mem_nil) dX11_count_84
  · rcases tw_5 t_1 with rfl | rfl | rfl | rfl | rfl | rfl
    · refine lv_tableIn (tgt := 40) hx hb dX11_count_1 (by decide) (by decide) rfl (by decide) ?_
      refine lv_aload_n hx hb dX11_count_40 rfl (lv_at hl 0 rfl) ?_
      refine va_get (D := D) (ci := 11) (v := .ref aq) (C := RX11) (T := TX11) (N := 9) hx hb hg gwX11 hown hK hP 0 rfl rfl 2 (by decide) (hg _ kw_7) (fun _ h9 => h9) rfl dX11_count_41 ?_
      refine va_get (D := D) (ci := 5) (v := .int 0) (C := RX5) (T := TX5) (N := 7) hx hb hg gwX5 hown hK hP 1 rfl rfl 4 (by decide) (hg _ kw_34) (fun _ h9 => h9) rfl dX11_count_44 ?_
      subst hQ
      exact W.iret (v := 0) hx hb hr (fun t ht hW => ⟨0, rfl, rfl, ht⟩) (fun _ h => absurd h List.not_mem_nil) dX11_count_47
    · refine lv_tableIn (tgt := 48) hx hb dX11_count_1 (by decide) (by decide) rfl (by decide) ?_
      refine lv_aload_n hx hb dX11_count_48 rfl (lv_at hl 0 rfl) ?_
      refine va_get (D := D) (ci := 11) (v := .ref aq) (C := RX11) (T := TX11) (N := 9) hx hb hg gwX11 hown hK hP 0 rfl rfl 2 (by decide) (hg _ kw_7) (fun _ h9 => h9) rfl dX11_count_49 ?_
      refine va_get (D := D) (ci := 5) (v := .int 0) (C := RX5) (T := TX5) (N := 7) hx hb hg gwX5 hown hK hP 1 rfl rfl 5 (by decide) (hg _ kw_35) (fun _ h9 => h9) rfl dX11_count_52 ?_
      subst hQ
      exact W.iret (v := 0) hx hb hr (fun t ht hW => ⟨0, rfl, rfl, ht⟩) (fun _ h => absurd h List.not_mem_nil) dX11_count_55
    · refine lv_tableIn (tgt := 56) hx hb dX11_count_1 (by decide) (by decide) rfl (by decide) ?_
      refine lv_aload_n hx hb dX11_count_56 rfl (lv_at hl 0 rfl) ?_
      refine va_get (D := D) (ci := 11) (v := .int 0) (C := RX11) (T := TX11) (N := 9) hx hb hg gwX11 hown hK hP 0 rfl rfl 7 (by decide) (hg _ kw_2) (fun _ h9 => h9) rfl dX11_count_57 ?_
      subst hQ
      exact W.iret (v := 0) hx hb hr (fun t ht hW => ⟨0, rfl, rfl, ht⟩) (fun _ h => absurd h List.not_mem_nil) dX11_count_60
    · refine lv_tableIn (tgt := 61) hx hb dX11_count_1 (by decide) (by decide) rfl (by decide) ?_
      refine lv_aload_n hx hb dX11_count_61 rfl (lv_at hl 0 rfl) ?_
      refine va_get (D := D) (ci := 11) (v := .ref ro) (C := RX11) (T := TX11) (N := 9) hx hb hg gwX11 hown hK hP 0 rfl rfl 6 (by decide) (hg _ kw_32) (fun _ h9 => h9) rfl dX11_count_62 ?_
      refine va_get (D := D) (ci := 8) (v := .int 0) (C := RX8) (T := TX8) (N := 3) hx hb hg gwX8 hown hK hP 2 rfl rfl 2 (by decide) (hg _ kw_33) (fun _ h9 => h9) rfl dX11_count_65 ?_
      subst hQ
      exact W.iret (v := 0) hx hb hr (fun t ht hW => ⟨0, rfl, rfl, ht⟩) (fun _ h => absurd h List.not_mem_nil) dX11_count_68
    · refine lv_tableIn (tgt := 69) hx hb dX11_count_1 (by decide) (by decide) rfl (by decide) ?_
      refine lv_aload_n hx hb dX11_count_69 rfl (lv_at hl 0 rfl) ?_
      refine va_get (D := D) (ci := 11) (v := .ref pg) (C := RX11) (T := TX11) (N := 9) hx hb hg gwX11 hown hK hP 0 rfl rfl 0 (by decide) (hg _ kw_36) (fun _ h9 => h9) rfl dX11_count_70 ?_
      refine va_get (D := D) (ci := 2) (v := .int 0) (C := RX2) (T := TX2) (N := 2) hx hb hg gwX2 hown hK hP 3 rfl rfl 1 (by decide) (hg _ kw_37) (fun _ h9 => h9) rfl dX11_count_73 ?_
      subst hQ
      exact W.iret (v := 0) hx hb hr (fun t ht hW => ⟨0, rfl, rfl, ht⟩) (fun _ h => absurd h List.not_mem_nil) dX11_count_76
    · refine lv_tableIn (tgt := 77) hx hb dX11_count_1 (by decide) (by decide) rfl (by decide) ?_
      refine lv_aload_n hx hb dX11_count_77 rfl (lv_at hl 0 rfl) ?_
      refine va_get (D := D) (ci := 11) (v := .int 0) (C := RX11) (T := TX11) (N := 9) hx hb hg gwX11 hown hK hP 0 rfl rfl 8 (by decide) (hg _ kw_38) (fun _ h9 => h9) rfl dX11_count_78 ?_
      subst hQ
      exact W.iret (v := 0) hx hb hr (fun t ht hW => ⟨0, rfl, rfl, ht⟩) (fun _ h => absurd h List.not_mem_nil) dX11_count_81

set_option maxHeartbeats 4000000 in
set_option maxRecDepth 100000 in
theorem x_mixed (l : Launch) (v : Int64) (u : Int64) : Met l yX11_mixed (Cond.code yX11_mixed cX11_mixed 4 (some .long) :: gw_tbl) ({ frames := 0, cells := 0, slots := 0, locals := 0 }) (pc_0 [.long v, .long u]) (vp_Sl (fun r => r = 31 * v + u)) 0 0 (fun _ => False) := by
  refine Met.ofW (cc := cX11_mixed) (maxL := 4) (ret := (some .long)) (by decide) rfl ?_
  intro p e s m args below meth c s₁ B hml hv
  obtain ⟨hargs, -⟩ := hv
  have hx := B.exec
  have hb := B.bytes
  have hr := B.returns
  have hts := atoms_spec (ws := Cond.code yX11_mixed cX11_mixed 4 (some .long) :: gw_tbl) B.pre
  have hg := fun (w : Cond) (h : w ∈ gw_tbl) => hts w (List.mem_cons_of_mem _ h)
  have hown : s.vm.findClass RX11 = some m.cls := findClass_of_methodNamed B.named
  have hlocks := B.notSynchronized
  have hl := lv_entry ([.long v, .long u]) (n := 4) (Nat.le_of_ble_eq_true rfl)
  rw [show entryFrame m args 4 = F0 m 0 (lg_sl ([.long v, .long u]) ++ List.replicate (4 - (lg_sl ([.long v, .long u])).length) Slot.unset).toArray [] from by rw [hargs]; exact lg_entry_eq ..]
  generalize (lg_sl ([.long v, .long u]) ++ List.replicate (4 - (lg_sl ([.long v, .long u])).length) Slot.unset).toArray = ls at hl ⊢
  have hl : lv_has ls 4 [(0, .long v), (2, .long u)] := hl
  refine W_genQ (fun Q hQ => ?_)
  refine lv_ldc2 hx hb hown (hg _ kw_39) dX11_mixed_0 ?_
  refine lv_lload_n hx hb dX11_mixed_3 rfl (lv_at hl 0 rfl) ?_
  refine lv_lmul hx hb dX11_mixed_4 ?_
  refine lv_topl (fun z_4 e_4 => ?_)
  refine lv_lload_n hx hb dX11_mixed_5 rfl (lv_at hl 1 rfl) ?_
  refine lv_ladd hx hb dX11_mixed_6 ?_
  refine lv_topl (fun z_6 e_6 => ?_)
  subst hQ
  exact W.lret (v := z_6) hx hb hr (fun t ht hW => ⟨z_6, rfl, (by rw [e_6, e_4]), ht⟩) (fun _ h => absurd h List.not_mem_nil) dX11_mixed_7

set_option maxHeartbeats 4000000 in
set_option maxRecDepth 100000 in
theorem x_withQuestion (l : Launch) (D : va_G) (x0 : Nat) (pg : Nat) (rd : Nat) (aq : Nat) (py : Nat) (pl : Nat) (ch : Nat) (ro : Nat) (a1 : Nat) (a2 : Nat) (a3 : Nat) (a4 : Nat) (v : Int64) : Met l yX11_withQuestion (Cond.code yX11_withQuestion cX11_withQuestion 7 (some .long) :: gw_tbl) ({ frames := 0, cells := 0, slots := 0, locals := 0 }) (pc_S D [] [(x0, .inr (11, [.ref pg, .ref rd, .ref aq, .ref py, .ref pl, .ref ch, .ref ro, .int 0, .int 0])), (aq, .inr (5, [.ref a1, .ref a2, .ref a3, .ref a4, .int 0, .int 0, .long 0]))] [.ref x0, .long v]) (vp_Sl (fun r => r = v)) 0 0 (fun _ => False) := by
  refine Met.ofW (cc := cX11_withQuestion) (maxL := 7) (ret := (some .long)) (by decide) rfl ?_
  intro p e s m args below meth c s₁ B hml hv
  obtain ⟨hargs, hP, hK⟩ := hv
  have hx := B.exec
  have hb := B.bytes
  have hr := B.returns
  have hts := atoms_spec (ws := Cond.code yX11_withQuestion cX11_withQuestion 7 (some .long) :: gw_tbl) B.pre
  have hg := fun (w : Cond) (h : w ∈ gw_tbl) => hts w (List.mem_cons_of_mem _ h)
  have hown : s.vm.findClass RX11 = some m.cls := findClass_of_methodNamed B.named
  have hlocks := B.notSynchronized
  have hl := lv_entry ([.ref x0, .long v]) (n := 7) (Nat.le_of_ble_eq_true rfl)
  rw [show entryFrame m args 7 = F0 m 0 (lg_sl ([.ref x0, .long v]) ++ List.replicate (7 - (lg_sl ([.ref x0, .long v])).length) Slot.unset).toArray [] from by rw [hargs]; exact lg_entry_eq ..]
  generalize (lg_sl ([.ref x0, .long v]) ++ List.replicate (7 - (lg_sl ([.ref x0, .long v])).length) Slot.unset).toArray = ls at hl ⊢
  have hl : lv_has ls 7 [(0, .ref x0), (1, .long v)] := hl
  refine W_genQ (fun Q hQ => ?_)
  refine lv_lload_n hx hb dX11_withQuestion_0 rfl (lv_at hl 1 rfl) ?_
  refine lv_lstore_n (lv' := [(3, .long v), (0, .ref x0), (1, .long v)]) hx hb dX11_withQuestion_1 rfl hl (by decide) rfl (fun ls hl => ?_)
  refine lv_iconst (v := 0) hx hb dX11_withQuestion_2 (by decide) ?_
  refine lv_istore (lv' := [(5, .int 0), (3, .long v), (0, .ref x0), (1, .long v)]) hx hb dX11_withQuestion_3 hl (by decide) rfl (fun ls hl => ?_)
  refine lv_iload hx hb dX11_withQuestion_5 (lv_at hl 0 rfl) ?_
  refine lv_aload_n hx hb dX11_withQuestion_7 rfl (lv_at hl 2 rfl) ?_
  refine va_get (D := D) (ci := 11) (v := .ref aq) (C := RX11) (T := TX11) (N := 9) hx hb hg gwX11 hown hK hP 0 rfl rfl 2 (by decide) (hg _ kw_7) (fun _ h9 => h9) rfl dX11_withQuestion_8 ?_
  refine va_get (D := D) (ci := 5) (v := .int 0) (C := RX5) (T := TX5) (N := 7) hx hb hg gwX5 hown hK hP 1 rfl rfl 4 (by decide) (hg _ kw_34) (fun _ h9 => h9) rfl dX11_withQuestion_11 ?_
  refine lv_icmp_ge (tgt := 79) hx hb dX11_withQuestion_14 (by decide) (fun c_14 => ?_) (fun c_14 => absurd (by decide) c_14)
  refine lv_iconst (v := 0) hx hb dX11_withQuestion_79 (by decide) ?_
  refine lv_istore (lv' := [(5, .int 0), (3, .long v), (0, .ref x0), (1, .long v)]) hx hb dX11_withQuestion_80 hl (by decide) rfl (fun ls hl => ?_)
  refine lv_iload hx hb dX11_withQuestion_82 (lv_at hl 0 rfl) ?_
  refine lv_aload_n hx hb dX11_withQuestion_84 rfl (lv_at hl 2 rfl) ?_
  refine va_get (D := D) (ci := 11) (v := .ref aq) (C := RX11) (T := TX11) (N := 9) hx hb hg gwX11 hown hK hP 0 rfl rfl 2 (by decide) (hg _ kw_7) (fun _ h9 => h9) rfl dX11_withQuestion_85 ?_
  refine va_get (D := D) (ci := 5) (v := .int 0) (C := RX5) (T := TX5) (N := 7) hx hb hg gwX5 hown hK hP 1 rfl rfl 5 (by decide) (hg _ kw_35) (fun _ h9 => h9) rfl dX11_withQuestion_88 ?_
  refine lv_icmp_ge (tgt := 116) hx hb dX11_withQuestion_91 (by decide) (fun c_91 => ?_) (fun c_91 => absurd (by decide) c_91)
  refine lv_lload_n hx hb dX11_withQuestion_116 rfl (lv_at hl 1 rfl) ?_
  subst hQ
  exact W.lret (v := v) hx hb hr (fun t ht hW => ⟨v, rfl, rfl, ht⟩) (fun _ h => absurd h List.not_mem_nil) dX11_withQuestion_117

set_option maxHeartbeats 4000000 in
set_option maxRecDepth 100000 in
theorem x_withPays (l : Launch) (D : va_G) (x0 : Nat) (pg : Nat) (rd : Nat) (aq : Nat) (py : Nat) (pl : Nat) (ch : Nat) (ro : Nat) (v : Int64) : Met l yX11_withPays (Cond.code yX11_withPays cX11_withPays 7 (some .long) :: gw_tbl) ({ frames := 0, cells := 0, slots := 0, locals := 0 }) (pc_S D [] [(x0, .inr (11, [.ref pg, .ref rd, .ref aq, .ref py, .ref pl, .ref ch, .ref ro, .int 0, .int 0]))] [.ref x0, .long v]) (vp_Sl (fun r => r = v)) 0 0 (fun _ => False) := by
  refine Met.ofW (cc := cX11_withPays) (maxL := 7) (ret := (some .long)) (by decide) rfl ?_
  intro p e s m args below meth c s₁ B hml hv
  obtain ⟨hargs, hP, hK⟩ := hv
  have hx := B.exec
  have hb := B.bytes
  have hr := B.returns
  have hts := atoms_spec (ws := Cond.code yX11_withPays cX11_withPays 7 (some .long) :: gw_tbl) B.pre
  have hg := fun (w : Cond) (h : w ∈ gw_tbl) => hts w (List.mem_cons_of_mem _ h)
  have hown : s.vm.findClass RX11 = some m.cls := findClass_of_methodNamed B.named
  have hlocks := B.notSynchronized
  have hl := lv_entry ([.ref x0, .long v]) (n := 7) (Nat.le_of_ble_eq_true rfl)
  rw [show entryFrame m args 7 = F0 m 0 (lg_sl ([.ref x0, .long v]) ++ List.replicate (7 - (lg_sl ([.ref x0, .long v])).length) Slot.unset).toArray [] from by rw [hargs]; exact lg_entry_eq ..]
  generalize (lg_sl ([.ref x0, .long v]) ++ List.replicate (7 - (lg_sl ([.ref x0, .long v])).length) Slot.unset).toArray = ls at hl ⊢
  have hl : lv_has ls 7 [(0, .ref x0), (1, .long v)] := hl
  refine W_genQ (fun Q hQ => ?_)
  refine lv_lload_n hx hb dX11_withPays_0 rfl (lv_at hl 1 rfl) ?_
  refine lv_lstore_n (lv' := [(3, .long v), (0, .ref x0), (1, .long v)]) hx hb dX11_withPays_1 rfl hl (by decide) rfl (fun ls hl => ?_)
  refine lv_iconst (v := 0) hx hb dX11_withPays_2 (by decide) ?_
  refine lv_istore (lv' := [(5, .int 0), (3, .long v), (0, .ref x0), (1, .long v)]) hx hb dX11_withPays_3 hl (by decide) rfl (fun ls hl => ?_)
  refine lv_iload hx hb dX11_withPays_5 (lv_at hl 0 rfl) ?_
  refine lv_aload_n hx hb dX11_withPays_7 rfl (lv_at hl 2 rfl) ?_
  refine va_get (D := D) (ci := 11) (v := .int 0) (C := RX11) (T := TX11) (N := 9) hx hb hg gwX11 hown hK hP 0 rfl rfl 7 (by decide) (hg _ kw_2) (fun _ h9 => h9) rfl dX11_withPays_8 ?_
  refine lv_icmp_ge (tgt := 41) hx hb dX11_withPays_11 (by decide) (fun c_11 => ?_) (fun c_11 => absurd (by decide) c_11)
  refine lv_lload_n hx hb dX11_withPays_41 rfl (lv_at hl 1 rfl) ?_
  subst hQ
  exact W.lret (v := v) hx hb hr (fun t ht hW => ⟨v, rfl, rfl, ht⟩) (fun _ h => absurd h List.not_mem_nil) dX11_withPays_42

set_option maxHeartbeats 4000000 in
set_option maxRecDepth 100000 in
theorem x_withRows (l : Launch) (D : va_G) (x0 : Nat) (pg : Nat) (rd : Nat) (aq : Nat) (py : Nat) (pl : Nat) (ch : Nat) (ro : Nat) (r1 : Nat) (r2 : Nat) (v : Int64) : Met l yX11_withRows (Cond.code yX11_withRows cX11_withRows 6 (some .long) :: gw_tbl) ({ frames := 0, cells := 0, slots := 0, locals := 0 }) (pc_S D [] [(x0, .inr (11, [.ref pg, .ref rd, .ref aq, .ref py, .ref pl, .ref ch, .ref ro, .int 0, .int 0])), (ro, .inr (8, [.ref r1, .ref r2, .int 0]))] [.ref x0, .long v]) (vp_Sl (fun r => r = v)) 0 0 (fun _ => False) := by
  refine Met.ofW (cc := cX11_withRows) (maxL := 6) (ret := (some .long)) (by decide) rfl ?_
  intro p e s m args below meth c s₁ B hml hv
  obtain ⟨hargs, hP, hK⟩ := hv
  have hx := B.exec
  have hb := B.bytes
  have hr := B.returns
  have hts := atoms_spec (ws := Cond.code yX11_withRows cX11_withRows 6 (some .long) :: gw_tbl) B.pre
  have hg := fun (w : Cond) (h : w ∈ gw_tbl) => hts w (List.mem_cons_of_mem _ h)
  have hown : s.vm.findClass RX11 = some m.cls := findClass_of_methodNamed B.named
  have hlocks := B.notSynchronized
  have hl := lv_entry ([.ref x0, .long v]) (n := 6) (Nat.le_of_ble_eq_true rfl)
  rw [show entryFrame m args 6 = F0 m 0 (lg_sl ([.ref x0, .long v]) ++ List.replicate (6 - (lg_sl ([.ref x0, .long v])).length) Slot.unset).toArray [] from by rw [hargs]; exact lg_entry_eq ..]
  generalize (lg_sl ([.ref x0, .long v]) ++ List.replicate (6 - (lg_sl ([.ref x0, .long v])).length) Slot.unset).toArray = ls at hl ⊢
  have hl : lv_has ls 6 [(0, .ref x0), (1, .long v)] := hl
  refine W_genQ (fun Q hQ => ?_)
  refine lv_lload_n hx hb dX11_withRows_0 rfl (lv_at hl 1 rfl) ?_
  refine lv_lstore_n (lv' := [(3, .long v), (0, .ref x0), (1, .long v)]) hx hb dX11_withRows_1 rfl hl (by decide) rfl (fun ls hl => ?_)
  refine lv_iconst (v := 0) hx hb dX11_withRows_2 (by decide) ?_
  refine lv_istore (lv' := [(5, .int 0), (3, .long v), (0, .ref x0), (1, .long v)]) hx hb dX11_withRows_3 hl (by decide) rfl (fun ls hl => ?_)
  refine lv_iload hx hb dX11_withRows_5 (lv_at hl 0 rfl) ?_
  refine lv_aload_n hx hb dX11_withRows_7 rfl (lv_at hl 2 rfl) ?_
  refine va_get (D := D) (ci := 11) (v := .ref ro) (C := RX11) (T := TX11) (N := 9) hx hb hg gwX11 hown hK hP 0 rfl rfl 6 (by decide) (hg _ kw_32) (fun _ h9 => h9) rfl dX11_withRows_8 ?_
  refine va_get (D := D) (ci := 8) (v := .int 0) (C := RX8) (T := TX8) (N := 3) hx hb hg gwX8 hown hK hP 1 rfl rfl 2 (by decide) (hg _ kw_33) (fun _ h9 => h9) rfl dX11_withRows_11 ?_
  refine lv_icmp_ge (tgt := 98) hx hb dX11_withRows_14 (by decide) (fun c_14 => ?_) (fun c_14 => absurd (by decide) c_14)
  refine lv_lload_n hx hb dX11_withRows_98 rfl (lv_at hl 1 rfl) ?_
  subst hQ
  exact W.lret (v := v) hx hb hr (fun t ht hW => ⟨v, rfl, rfl, ht⟩) (fun _ h => absurd h List.not_mem_nil) dX11_withRows_99

set_option maxHeartbeats 4000000 in
set_option maxRecDepth 100000 in
theorem x_digest (l : Launch) (D : va_G) (x0 : Nat) (pg : Nat) (rd : Nat) (aq : Nat) (py : Nat) (pl : Nat) (ch : Nat) (ro : Nat) (a1 : Nat) (a2 : Nat) (a3 : Nat) (a4 : Nat) (r1 : Nat) (r2 : Nat) (cd : Nat) : Met l yX11_digest (Cond.code yX11_digest cX11_digest 4 (some .long) :: gw_tbl) ({ frames := 1, cells := 0, slots := 0, locals := 26 }) (pc_S D [] [(x0, .inr (11, [.ref pg, .ref rd, .ref aq, .ref py, .ref pl, .ref ch, .ref ro, .int 0, .int 0])), (aq, .inr (5, [.ref a1, .ref a2, .ref a3, .ref a4, .int 0, .int 0, .long 0])), (ro, .inr (8, [.ref r1, .ref r2, .int 0])), (pg, .inr (2, [.ref cd, .int 0]))] [.ref x0]) (vp_Sl (fun r => r = 307963777307)) 0 0 (fun _ => False) := by
  refine Met.ofW (cc := cX11_digest) (maxL := 4) (ret := (some .long)) (by decide) rfl ?_
  intro p e s m args below meth c s₁ B hml hv
  obtain ⟨hargs, hP, hK⟩ := hv
  have hx := B.exec
  have hb := B.bytes
  have hr := B.returns
  have hts := atoms_spec (ws := Cond.code yX11_digest cX11_digest 4 (some .long) :: gw_tbl) B.pre
  have hg := fun (w : Cond) (h : w ∈ gw_tbl) => hts w (List.mem_cons_of_mem _ h)
  have hown : s.vm.findClass RX11 = some m.cls := findClass_of_methodNamed B.named
  have hlocks := B.notSynchronized
  have hl := lv_entry ([.ref x0]) (n := 4) (Nat.le_of_ble_eq_true rfl)
  rw [show entryFrame m args 4 = F0 m 0 (lg_sl ([.ref x0]) ++ List.replicate (4 - (lg_sl ([.ref x0])).length) Slot.unset).toArray [] from by rw [hargs]; exact lg_entry_eq ..]
  generalize (lg_sl ([.ref x0]) ++ List.replicate (4 - (lg_sl ([.ref x0])).length) Slot.unset).toArray = ls at hl ⊢
  have hl : lv_has ls 4 [(0, .ref x0)] := hl
  refine W_genQ (fun Q hQ => ?_)
  refine lv_aload_n hx hb dX11_digest_0 rfl (lv_at hl 0 rfl) ?_
  refine lv_aload_n hx hb dX11_digest_1 rfl (lv_at hl 0 rfl) ?_
  refine lv_aload_n hx hb dX11_digest_2 rfl (lv_at hl 0 rfl) ?_
  refine lv_ldc2 hx hb hown (hg _ kw_40) dX11_digest_3 ?_
  have hPc := hP.sub (ws' := [(x0, .inr (11, [.ref pg, .ref rd, .ref aq, .ref py, .ref pl, .ref ch, .ref ro, .int 0, .int 0])), (aq, .inr (5, [.ref a1, .ref a2, .ref a3, .ref a4, .int 0, .int 0, .long 0]))]) [0, 1] rfl
  have hKc := hK.sub (tys' := []) [] rfl
  refine vp_callSl (W.runV (As := [.long 347]) (rest := [.ref x0, .ref x0]) ⟨hx, hb, hml, hown, hg⟩ (x_withQuestion l D x0 pg rd aq py pl ch ro a1 a2 a3 a4 347) (cwV 1 hg (gw_V kw_42 kw_43 kw_44 kw_6 kw_41) rfl rfl rfl (by decide +kernel) ⟨Nat.le_of_ble_eq_true rfl, Nat.le_of_ble_eq_true rfl⟩) (pr_SV (q := (RX11, TX11, 9)) 11 0 hKc hPc rfl rfl) rfl rfl hl.1 rfl (lv_room (Nat.le_of_ble_eq_true rfl)) dX11_digest_6 ⟨Nat.le_of_ble_eq_true rfl, Nat.le_of_ble_eq_true rfl⟩) (fun r_6 h_6 => ?_)
  obtain rfl : r_6 = 347 := h_6
  have hPc := hP.sub (ws' := [(x0, .inr (11, [.ref pg, .ref rd, .ref aq, .ref py, .ref pl, .ref ch, .ref ro, .int 0, .int 0]))]) [0] rfl
  have hKc := hK.sub (tys' := []) [] rfl
  refine vp_callSl (W.runV (As := [.long 347]) (rest := [.ref x0]) ⟨hx, hb, hml, hown, hg⟩ (x_withPays l D x0 pg rd aq py pl ch ro 347) (cwV 1 hg (gw_V kw_46 kw_47 kw_48 kw_6 kw_45) rfl rfl rfl (by decide +kernel) ⟨Nat.le_of_ble_eq_true rfl, Nat.le_of_ble_eq_true rfl⟩) (pr_SV (q := (RX11, TX11, 9)) 11 0 hKc hPc rfl rfl) rfl rfl hl.1 rfl (lv_room (Nat.le_of_ble_eq_true rfl)) dX11_digest_9 ⟨Nat.le_of_ble_eq_true rfl, Nat.le_of_ble_eq_true rfl⟩) (fun r_9 h_9 => ?_)
  obtain rfl : r_9 = 347 := h_9
  have hPc := hP.sub (ws' := [(x0, .inr (11, [.ref pg, .ref rd, .ref aq, .ref py, .ref pl, .ref ch, .ref ro, .int 0, .int 0])), (ro, .inr (8, [.ref r1, .ref r2, .int 0]))]) [0, 2] rfl
  have hKc := hK.sub (tys' := []) [] rfl
  refine vp_callSl (W.runV (As := [.long 347]) (rest := []) ⟨hx, hb, hml, hown, hg⟩ (x_withRows l D x0 pg rd aq py pl ch ro r1 r2 347) (cwV 1 hg (gw_V kw_50 kw_51 kw_52 kw_6 kw_49) rfl rfl rfl (by decide +kernel) ⟨Nat.le_of_ble_eq_true rfl, Nat.le_of_ble_eq_true rfl⟩) (pr_SV (q := (RX11, TX11, 9)) 11 0 hKc hPc rfl rfl) rfl rfl hl.1 rfl (lv_room (Nat.le_of_ble_eq_true rfl)) dX11_digest_12 ⟨Nat.le_of_ble_eq_true rfl, Nat.le_of_ble_eq_true rfl⟩) (fun r_12 h_12 => ?_)
  obtain rfl : r_12 = 347 := h_12
  refine lv_lstore_n (lv' := [(1, .long 347), (0, .ref x0)]) hx hb dX11_digest_15 rfl hl (by decide) rfl (fun ls hl => ?_)
  refine lv_iconst (v := 0) hx hb dX11_digest_16 (by decide) ?_
  refine lv_istore_n (lv' := [(3, .int 0), (1, .long 347), (0, .ref x0)]) hx hb dX11_digest_17 rfl hl (by decide) rfl (fun ls hl => ?_)
  refine lv_iload_n hx hb dX11_digest_18 rfl (lv_at hl 0 rfl) ?_
  refine lv_aload_n hx hb dX11_digest_19 rfl (lv_at hl 2 rfl) ?_
  refine va_get (D := D) (ci := 11) (v := .ref pg) (C := RX11) (T := TX11) (N := 9) hx hb hg gwX11 hown hK hP 0 rfl rfl 0 (by decide) (hg _ kw_36) (fun _ h9 => h9) rfl dX11_digest_20 ?_
  refine va_get (D := D) (ci := 2) (v := .int 0) (C := RX2) (T := TX2) (N := 2) hx hb hg gwX2 hown hK hP 3 rfl rfl 1 (by decide) (hg _ kw_37) (fun _ h9 => h9) rfl dX11_digest_23 ?_
  refine lv_icmp_ge (tgt := 50) hx hb dX11_digest_26 (by decide) (fun c_26 => ?_) (fun c_26 => absurd (by decide) c_26)
  refine lv_iconst (v := 0) hx hb dX11_digest_50 (by decide) ?_
  refine lv_istore_n (lv' := [(3, .int 0), (1, .long 347), (0, .ref x0)]) hx hb dX11_digest_51 rfl hl (by decide) rfl (fun ls hl => ?_)
  refine lv_iload_n hx hb dX11_digest_52 rfl (lv_at hl 0 rfl) ?_
  refine lv_iconst (v := 5) hx hb dX11_digest_53 (by decide) ?_
  refine lv_icmp_gt (tgt := 74) hx hb dX11_digest_54 (by decide) (fun c_54 => absurd c_54 (by decide)) (fun c_54 => ?_)
  refine lv_lload_n hx hb dX11_digest_57 rfl (lv_at hl 1 rfl) ?_
  refine lv_aload_n hx hb dX11_digest_58 rfl (lv_at hl 2 rfl) ?_
  refine lv_iload_n hx hb dX11_digest_59 rfl (lv_at hl 0 rfl) ?_
  have hPc := hP.sub (ws' := [(x0, .inr (11, [.ref pg, .ref rd, .ref aq, .ref py, .ref pl, .ref ch, .ref ro, .int 0, .int 0])), (aq, .inr (5, [.ref a1, .ref a2, .ref a3, .ref a4, .int 0, .int 0, .long 0])), (ro, .inr (8, [.ref r1, .ref r2, .int 0])), (pg, .inr (2, [.ref cd, .int 0]))]) [0, 1, 2, 3] rfl
  have hKc := hK.sub (tys' := []) [] rfl
  refine vp_callSi (W.runV (As := [.int 0]) (rest := [.long 347]) ⟨hx, hb, hml, hown, hg⟩ (x_count l D x0 pg rd aq py pl ch ro a1 a2 a3 a4 r1 r2 cd 0) (cwV 1 hg (gw_V kw_54 kw_55 kw_56 kw_6 kw_53) rfl rfl rfl (by decide +kernel) ⟨Nat.le_of_ble_eq_true rfl, Nat.le_of_ble_eq_true rfl⟩) (pr_SV (q := (RX11, TX11, 9)) 11 0 hKc hPc rfl rfl) rfl rfl hl.1 rfl (lv_room (Nat.le_of_ble_eq_true rfl)) dX11_digest_60 ⟨Nat.le_of_ble_eq_true rfl, Nat.le_of_ble_eq_true rfl⟩) (fun r_60 h_60 => ?_)
  obtain rfl : r_60 = (0 : Int32) := h_60.trans (by decide)
  refine lv_i2l hx hb dX11_digest_63 rfl ?_
  refine lv_topl (fun z_63 e_63 => ?_)
  obtain rfl : z_63 = (0 : Int64) := e_63.trans (by decide)
  refine vp_callSl (W.runS (As := [.long 347, .long 0]) (rest := []) ⟨hx, hb, hml, hown, hg⟩ (x_mixed l 347 0) (va_cwS 2 hg (gw_S kw_58 kw_59 kw_6 kw_57) rfl rfl rfl (by decide +kernel) ⟨Nat.le_of_ble_eq_true rfl, Nat.le_of_ble_eq_true rfl⟩) pr_0 rfl rfl hl.1 rfl (lv_room (Nat.le_of_ble_eq_true rfl)) dX11_digest_64 ⟨Nat.le_of_ble_eq_true rfl, Nat.le_of_ble_eq_true rfl⟩) (fun r_64 h_64 => ?_)
  obtain rfl : r_64 = (10757 : Int64) := h_64.trans (by decide)
  refine lv_lstore_n (lv' := [(1, .long 10757), (3, .int 0), (0, .ref x0)]) hx hb dX11_digest_67 rfl hl (by decide) rfl (fun ls hl => ?_)
  refine lv_iinc (v := 1) (lv' := [(3, .int 1), (1, .long 10757), (0, .ref x0)]) hx hb dX11_digest_68 hl (k := 1) rfl (by decide) (by decide) rfl (fun ls hl => ?_)
  refine lv_goto (tgt := 52) hx hb dX11_digest_71 (by decide) ?_
  refine lv_iload_n hx hb dX11_digest_52 rfl (lv_at hl 0 rfl) ?_
  refine lv_iconst (v := 5) hx hb dX11_digest_53 (by decide) ?_
  refine lv_icmp_gt (tgt := 74) hx hb dX11_digest_54 (by decide) (fun c_54 => absurd c_54 (by decide)) (fun c_54 => ?_)
  refine lv_lload_n hx hb dX11_digest_57 rfl (lv_at hl 1 rfl) ?_
  refine lv_aload_n hx hb dX11_digest_58 rfl (lv_at hl 2 rfl) ?_
  refine lv_iload_n hx hb dX11_digest_59 rfl (lv_at hl 0 rfl) ?_
  have hPc := hP.sub (ws' := [(x0, .inr (11, [.ref pg, .ref rd, .ref aq, .ref py, .ref pl, .ref ch, .ref ro, .int 0, .int 0])), (aq, .inr (5, [.ref a1, .ref a2, .ref a3, .ref a4, .int 0, .int 0, .long 0])), (ro, .inr (8, [.ref r1, .ref r2, .int 0])), (pg, .inr (2, [.ref cd, .int 0]))]) [0, 1, 2, 3] rfl
  have hKc := hK.sub (tys' := []) [] rfl
  refine vp_callSi (W.runV (As := [.int 1]) (rest := [.long 10757]) ⟨hx, hb, hml, hown, hg⟩ (x_count l D x0 pg rd aq py pl ch ro a1 a2 a3 a4 r1 r2 cd 1) (cwV 1 hg (gw_V kw_54 kw_55 kw_56 kw_6 kw_53) rfl rfl rfl (by decide +kernel) ⟨Nat.le_of_ble_eq_true rfl, Nat.le_of_ble_eq_true rfl⟩) (pr_SV (q := (RX11, TX11, 9)) 11 0 hKc hPc rfl rfl) rfl rfl hl.1 rfl (lv_room (Nat.le_of_ble_eq_true rfl)) dX11_digest_60 ⟨Nat.le_of_ble_eq_true rfl, Nat.le_of_ble_eq_true rfl⟩) (fun r_60 h_60 => ?_)
  obtain rfl : r_60 = (0 : Int32) := h_60.trans (by decide)
  refine lv_i2l hx hb dX11_digest_63 rfl ?_
  refine lv_topl (fun z_63 e_63 => ?_)
  obtain rfl : z_63 = (0 : Int64) := e_63.trans (by decide)
  refine vp_callSl (W.runS (As := [.long 10757, .long 0]) (rest := []) ⟨hx, hb, hml, hown, hg⟩ (x_mixed l 10757 0) (va_cwS 2 hg (gw_S kw_58 kw_59 kw_6 kw_57) rfl rfl rfl (by decide +kernel) ⟨Nat.le_of_ble_eq_true rfl, Nat.le_of_ble_eq_true rfl⟩) pr_0 rfl rfl hl.1 rfl (lv_room (Nat.le_of_ble_eq_true rfl)) dX11_digest_64 ⟨Nat.le_of_ble_eq_true rfl, Nat.le_of_ble_eq_true rfl⟩) (fun r_64 h_64 => ?_)
  obtain rfl : r_64 = (333467 : Int64) := h_64.trans (by decide)
  refine lv_lstore_n (lv' := [(1, .long 333467), (3, .int 1), (0, .ref x0)]) hx hb dX11_digest_67 rfl hl (by decide) rfl (fun ls hl => ?_)
  refine lv_iinc (v := 2) (lv' := [(3, .int 2), (1, .long 333467), (0, .ref x0)]) hx hb dX11_digest_68 hl (k := 1) rfl (by decide) (by decide) rfl (fun ls hl => ?_)
  refine lv_goto (tgt := 52) hx hb dX11_digest_71 (by decide) ?_
  refine lv_iload_n hx hb dX11_digest_52 rfl (lv_at hl 0 rfl) ?_
  refine lv_iconst (v := 5) hx hb dX11_digest_53 (by decide) ?_
  refine lv_icmp_gt (tgt := 74) hx hb dX11_digest_54 (by decide) (fun c_54 => absurd c_54 (by decide)) (fun c_54 => ?_)
  refine lv_lload_n hx hb dX11_digest_57 rfl (lv_at hl 1 rfl) ?_
  refine lv_aload_n hx hb dX11_digest_58 rfl (lv_at hl 2 rfl) ?_
  refine lv_iload_n hx hb dX11_digest_59 rfl (lv_at hl 0 rfl) ?_
  have hPc := hP.sub (ws' := [(x0, .inr (11, [.ref pg, .ref rd, .ref aq, .ref py, .ref pl, .ref ch, .ref ro, .int 0, .int 0])), (aq, .inr (5, [.ref a1, .ref a2, .ref a3, .ref a4, .int 0, .int 0, .long 0])), (ro, .inr (8, [.ref r1, .ref r2, .int 0])), (pg, .inr (2, [.ref cd, .int 0]))]) [0, 1, 2, 3] rfl
  have hKc := hK.sub (tys' := []) [] rfl
  refine vp_callSi (W.runV (As := [.int 2]) (rest := [.long 333467]) ⟨hx, hb, hml, hown, hg⟩ (x_count l D x0 pg rd aq py pl ch ro a1 a2 a3 a4 r1 r2 cd 2) (cwV 1 hg (gw_V kw_54 kw_55 kw_56 kw_6 kw_53) rfl rfl rfl (by decide +kernel) ⟨Nat.le_of_ble_eq_true rfl, Nat.le_of_ble_eq_true rfl⟩) (pr_SV (q := (RX11, TX11, 9)) 11 0 hKc hPc rfl rfl) rfl rfl hl.1 rfl (lv_room (Nat.le_of_ble_eq_true rfl)) dX11_digest_60 ⟨Nat.le_of_ble_eq_true rfl, Nat.le_of_ble_eq_true rfl⟩) (fun r_60 h_60 => ?_)
  obtain rfl : r_60 = (0 : Int32) := h_60.trans (by decide)
  refine lv_i2l hx hb dX11_digest_63 rfl ?_
  refine lv_topl (fun z_63 e_63 => ?_)
  obtain rfl : z_63 = (0 : Int64) := e_63.trans (by decide)
  refine vp_callSl (W.runS (As := [.long 333467, .long 0]) (rest := []) ⟨hx, hb, hml, hown, hg⟩ (x_mixed l 333467 0) (va_cwS 2 hg (gw_S kw_58 kw_59 kw_6 kw_57) rfl rfl rfl (by decide +kernel) ⟨Nat.le_of_ble_eq_true rfl, Nat.le_of_ble_eq_true rfl⟩) pr_0 rfl rfl hl.1 rfl (lv_room (Nat.le_of_ble_eq_true rfl)) dX11_digest_64 ⟨Nat.le_of_ble_eq_true rfl, Nat.le_of_ble_eq_true rfl⟩) (fun r_64 h_64 => ?_)
  obtain rfl : r_64 = (10337477 : Int64) := h_64.trans (by decide)
  refine lv_lstore_n (lv' := [(1, .long 10337477), (3, .int 2), (0, .ref x0)]) hx hb dX11_digest_67 rfl hl (by decide) rfl (fun ls hl => ?_)
  refine lv_iinc (v := 3) (lv' := [(3, .int 3), (1, .long 10337477), (0, .ref x0)]) hx hb dX11_digest_68 hl (k := 1) rfl (by decide) (by decide) rfl (fun ls hl => ?_)
  refine lv_goto (tgt := 52) hx hb dX11_digest_71 (by decide) ?_
  refine lv_iload_n hx hb dX11_digest_52 rfl (lv_at hl 0 rfl) ?_
  refine lv_iconst (v := 5) hx hb dX11_digest_53 (by decide) ?_
  refine lv_icmp_gt (tgt := 74) hx hb dX11_digest_54 (by decide) (fun c_54 => absurd c_54 (by decide)) (fun c_54 => ?_)
  refine lv_lload_n hx hb dX11_digest_57 rfl (lv_at hl 1 rfl) ?_
  refine lv_aload_n hx hb dX11_digest_58 rfl (lv_at hl 2 rfl) ?_
  refine lv_iload_n hx hb dX11_digest_59 rfl (lv_at hl 0 rfl) ?_
  have hPc := hP.sub (ws' := [(x0, .inr (11, [.ref pg, .ref rd, .ref aq, .ref py, .ref pl, .ref ch, .ref ro, .int 0, .int 0])), (aq, .inr (5, [.ref a1, .ref a2, .ref a3, .ref a4, .int 0, .int 0, .long 0])), (ro, .inr (8, [.ref r1, .ref r2, .int 0])), (pg, .inr (2, [.ref cd, .int 0]))]) [0, 1, 2, 3] rfl
  have hKc := hK.sub (tys' := []) [] rfl
  refine vp_callSi (W.runV (As := [.int 3]) (rest := [.long 10337477]) ⟨hx, hb, hml, hown, hg⟩ (x_count l D x0 pg rd aq py pl ch ro a1 a2 a3 a4 r1 r2 cd 3) (cwV 1 hg (gw_V kw_54 kw_55 kw_56 kw_6 kw_53) rfl rfl rfl (by decide +kernel) ⟨Nat.le_of_ble_eq_true rfl, Nat.le_of_ble_eq_true rfl⟩) (pr_SV (q := (RX11, TX11, 9)) 11 0 hKc hPc rfl rfl) rfl rfl hl.1 rfl (lv_room (Nat.le_of_ble_eq_true rfl)) dX11_digest_60 ⟨Nat.le_of_ble_eq_true rfl, Nat.le_of_ble_eq_true rfl⟩) (fun r_60 h_60 => ?_)
  obtain rfl : r_60 = (0 : Int32) := h_60.trans (by decide)
  refine lv_i2l hx hb dX11_digest_63 rfl ?_
  refine lv_topl (fun z_63 e_63 => ?_)
  obtain rfl : z_63 = (0 : Int64) := e_63.trans (by decide)
  refine vp_callSl (W.runS (As := [.long 10337477, .long 0]) (rest := []) ⟨hx, hb, hml, hown, hg⟩ (x_mixed l 10337477 0) (va_cwS 2 hg (gw_S kw_58 kw_59 kw_6 kw_57) rfl rfl rfl (by decide +kernel) ⟨Nat.le_of_ble_eq_true rfl, Nat.le_of_ble_eq_true rfl⟩) pr_0 rfl rfl hl.1 rfl (lv_room (Nat.le_of_ble_eq_true rfl)) dX11_digest_64 ⟨Nat.le_of_ble_eq_true rfl, Nat.le_of_ble_eq_true rfl⟩) (fun r_64 h_64 => ?_)
  obtain rfl : r_64 = (320461787 : Int64) := h_64.trans (by decide)
  refine lv_lstore_n (lv' := [(1, .long 320461787), (3, .int 3), (0, .ref x0)]) hx hb dX11_digest_67 rfl hl (by decide) rfl (fun ls hl => ?_)
  refine lv_iinc (v := 4) (lv' := [(3, .int 4), (1, .long 320461787), (0, .ref x0)]) hx hb dX11_digest_68 hl (k := 1) rfl (by decide) (by decide) rfl (fun ls hl => ?_)
  refine lv_goto (tgt := 52) hx hb dX11_digest_71 (by decide) ?_
  refine lv_iload_n hx hb dX11_digest_52 rfl (lv_at hl 0 rfl) ?_
  refine lv_iconst (v := 5) hx hb dX11_digest_53 (by decide) ?_
  refine lv_icmp_gt (tgt := 74) hx hb dX11_digest_54 (by decide) (fun c_54 => absurd c_54 (by decide)) (fun c_54 => ?_)
  refine lv_lload_n hx hb dX11_digest_57 rfl (lv_at hl 1 rfl) ?_
  refine lv_aload_n hx hb dX11_digest_58 rfl (lv_at hl 2 rfl) ?_
  refine lv_iload_n hx hb dX11_digest_59 rfl (lv_at hl 0 rfl) ?_
  have hPc := hP.sub (ws' := [(x0, .inr (11, [.ref pg, .ref rd, .ref aq, .ref py, .ref pl, .ref ch, .ref ro, .int 0, .int 0])), (aq, .inr (5, [.ref a1, .ref a2, .ref a3, .ref a4, .int 0, .int 0, .long 0])), (ro, .inr (8, [.ref r1, .ref r2, .int 0])), (pg, .inr (2, [.ref cd, .int 0]))]) [0, 1, 2, 3] rfl
  have hKc := hK.sub (tys' := []) [] rfl
  refine vp_callSi (W.runV (As := [.int 4]) (rest := [.long 320461787]) ⟨hx, hb, hml, hown, hg⟩ (x_count l D x0 pg rd aq py pl ch ro a1 a2 a3 a4 r1 r2 cd 4) (cwV 1 hg (gw_V kw_54 kw_55 kw_56 kw_6 kw_53) rfl rfl rfl (by decide +kernel) ⟨Nat.le_of_ble_eq_true rfl, Nat.le_of_ble_eq_true rfl⟩) (pr_SV (q := (RX11, TX11, 9)) 11 0 hKc hPc rfl rfl) rfl rfl hl.1 rfl (lv_room (Nat.le_of_ble_eq_true rfl)) dX11_digest_60 ⟨Nat.le_of_ble_eq_true rfl, Nat.le_of_ble_eq_true rfl⟩) (fun r_60 h_60 => ?_)
  obtain rfl : r_60 = (0 : Int32) := h_60.trans (by decide)
  refine lv_i2l hx hb dX11_digest_63 rfl ?_
  refine lv_topl (fun z_63 e_63 => ?_)
  obtain rfl : z_63 = (0 : Int64) := e_63.trans (by decide)
  refine vp_callSl (W.runS (As := [.long 320461787, .long 0]) (rest := []) ⟨hx, hb, hml, hown, hg⟩ (x_mixed l 320461787 0) (va_cwS 2 hg (gw_S kw_58 kw_59 kw_6 kw_57) rfl rfl rfl (by decide +kernel) ⟨Nat.le_of_ble_eq_true rfl, Nat.le_of_ble_eq_true rfl⟩) pr_0 rfl rfl hl.1 rfl (lv_room (Nat.le_of_ble_eq_true rfl)) dX11_digest_64 ⟨Nat.le_of_ble_eq_true rfl, Nat.le_of_ble_eq_true rfl⟩) (fun r_64 h_64 => ?_)
  obtain rfl : r_64 = (9934315397 : Int64) := h_64.trans (by decide)
  refine lv_lstore_n (lv' := [(1, .long 9934315397), (3, .int 4), (0, .ref x0)]) hx hb dX11_digest_67 rfl hl (by decide) rfl (fun ls hl => ?_)
  refine lv_iinc (v := 5) (lv' := [(3, .int 5), (1, .long 9934315397), (0, .ref x0)]) hx hb dX11_digest_68 hl (k := 1) rfl (by decide) (by decide) rfl (fun ls hl => ?_)
  refine lv_goto (tgt := 52) hx hb dX11_digest_71 (by decide) ?_
  refine lv_iload_n hx hb dX11_digest_52 rfl (lv_at hl 0 rfl) ?_
  refine lv_iconst (v := 5) hx hb dX11_digest_53 (by decide) ?_
  refine lv_icmp_gt (tgt := 74) hx hb dX11_digest_54 (by decide) (fun c_54 => absurd c_54 (by decide)) (fun c_54 => ?_)
  refine lv_lload_n hx hb dX11_digest_57 rfl (lv_at hl 1 rfl) ?_
  refine lv_aload_n hx hb dX11_digest_58 rfl (lv_at hl 2 rfl) ?_
  refine lv_iload_n hx hb dX11_digest_59 rfl (lv_at hl 0 rfl) ?_
  have hPc := hP.sub (ws' := [(x0, .inr (11, [.ref pg, .ref rd, .ref aq, .ref py, .ref pl, .ref ch, .ref ro, .int 0, .int 0])), (aq, .inr (5, [.ref a1, .ref a2, .ref a3, .ref a4, .int 0, .int 0, .long 0])), (ro, .inr (8, [.ref r1, .ref r2, .int 0])), (pg, .inr (2, [.ref cd, .int 0]))]) [0, 1, 2, 3] rfl
  have hKc := hK.sub (tys' := []) [] rfl
  refine vp_callSi (W.runV (As := [.int 5]) (rest := [.long 9934315397]) ⟨hx, hb, hml, hown, hg⟩ (x_count l D x0 pg rd aq py pl ch ro a1 a2 a3 a4 r1 r2 cd 5) (cwV 1 hg (gw_V kw_54 kw_55 kw_56 kw_6 kw_53) rfl rfl rfl (by decide +kernel) ⟨Nat.le_of_ble_eq_true rfl, Nat.le_of_ble_eq_true rfl⟩) (pr_SV (q := (RX11, TX11, 9)) 11 0 hKc hPc rfl rfl) rfl rfl hl.1 rfl (lv_room (Nat.le_of_ble_eq_true rfl)) dX11_digest_60 ⟨Nat.le_of_ble_eq_true rfl, Nat.le_of_ble_eq_true rfl⟩) (fun r_60 h_60 => ?_)
  obtain rfl : r_60 = (0 : Int32) := h_60.trans (by decide)
  refine lv_i2l hx hb dX11_digest_63 rfl ?_
  refine lv_topl (fun z_63 e_63 => ?_)
  obtain rfl : z_63 = (0 : Int64) := e_63.trans (by decide)
  refine vp_callSl (W.runS (As := [.long 9934315397, .long 0]) (rest := []) ⟨hx, hb, hml, hown, hg⟩ (x_mixed l 9934315397 0) (va_cwS 2 hg (gw_S kw_58 kw_59 kw_6 kw_57) rfl rfl rfl (by decide +kernel) ⟨Nat.le_of_ble_eq_true rfl, Nat.le_of_ble_eq_true rfl⟩) pr_0 rfl rfl hl.1 rfl (lv_room (Nat.le_of_ble_eq_true rfl)) dX11_digest_64 ⟨Nat.le_of_ble_eq_true rfl, Nat.le_of_ble_eq_true rfl⟩) (fun r_64 h_64 => ?_)
  obtain rfl : r_64 = (307963777307 : Int64) := h_64.trans (by decide)
  refine lv_lstore_n (lv' := [(1, .long 307963777307), (3, .int 5), (0, .ref x0)]) hx hb dX11_digest_67 rfl hl (by decide) rfl (fun ls hl => ?_)
  refine lv_iinc (v := 6) (lv' := [(3, .int 6), (1, .long 307963777307), (0, .ref x0)]) hx hb dX11_digest_68 hl (k := 1) rfl (by decide) (by decide) rfl (fun ls hl => ?_)
  refine lv_goto (tgt := 52) hx hb dX11_digest_71 (by decide) ?_
  refine lv_iload_n hx hb dX11_digest_52 rfl (lv_at hl 0 rfl) ?_
  refine lv_iconst (v := 5) hx hb dX11_digest_53 (by decide) ?_
  refine lv_icmp_gt (tgt := 74) hx hb dX11_digest_54 (by decide) (fun c_54 => ?_) (fun c_54 => absurd (by decide) c_54)
  refine lv_lload_n hx hb dX11_digest_74 rfl (lv_at hl 1 rfl) ?_
  subst hQ
  exact W.lret (v := 307963777307) hx hb hr (fun t ht hW => ⟨307963777307, rfl, rfl, ht⟩) (fun _ h => absurd h List.not_mem_nil) dX11_digest_75
