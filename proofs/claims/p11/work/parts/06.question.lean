theorem dX5_hasCase_0 : decode cX5_hasCase 0 = .ok (.iload_n 1, 1) := by decide +kernel
theorem dX5_hasCase_1 : decode cX5_hasCase 1 = .ok (.ifCond .lt 15, 3) := by decide +kernel
theorem dX5_hasCase_4 : decode cX5_hasCase 4 = .ok (.iload_n 1, 1) := by decide +kernel
theorem dX5_hasCase_5 : decode cX5_hasCase 5 = .ok (.aload_n 0, 1) := by decide +kernel
theorem dX5_hasCase_6 : decode cX5_hasCase 6 = .ok (.getfield 33, 3) := by decide +kernel
theorem dX5_hasCase_9 : decode cX5_hasCase 9 = .ok (.if_icmp .ge 7, 3) := by decide +kernel
theorem dX5_hasCase_12 : decode cX5_hasCase 12 = .ok (.iconst 1, 1) := by decide +kernel
theorem dX5_hasCase_13 : decode cX5_hasCase 13 = .ok (.goto 4, 3) := by decide +kernel
theorem dX5_hasCase_16 : decode cX5_hasCase 16 = .ok (.iconst 0, 1) := by decide +kernel
theorem dX5_hasCase_17 : decode cX5_hasCase 17 = .ok (.ireturn, 1) := by decide +kernel
theorem kw_13 : (.fieldLink RX5 33 "NobodyChecks$Question" "cases" "I" : Cond) ∈ gw_tbl := gw_in (by decide +kernel) (by decide +kernel)

set_option maxHeartbeats 4000000 in
set_option maxRecDepth 100000 in
theorem q_hasCase (l : Launch) (D : va_G) (cs : Nat → ClassId) (aq : Nat) (aw : Nat) (ac : Nat) (ao : Nat) (am : Nat) (C : Nat) (hC5 : C ≤ 5) (P : Nat) (hP4 : P ≤ 4) (tot : Int64) (v : Int32) : Met l yX5_hasCase (Cond.code yX5_hasCase cX5_hasCase 2 (some .boolean) :: gw_tbl) ({ frames := 0, cells := 0, slots := 0, locals := 0 }) (pc_S D cs [(aq, .inr (5, [.ref aw, .ref ac, .ref ao, .ref am, .int (nI C), .int (nI P), .long tot]))] [.ref aq, .int v]) (vp_Si (fun r => r = 0 ∨ (r = 1 ∧ ∃ k : Nat, k < C ∧ v = nI k))) 0 0 (fun _ => False) := by
  refine Met.ofW (cc := cX5_hasCase) (maxL := 2) (ret := (some .boolean)) (by decide) rfl ?_
  intro p e s m args below meth c s₁ B hml hv
  obtain ⟨hargs, hP, hK⟩ := hv
  have hx := B.exec
  have hb := B.bytes
  have hr := B.returns
  have hts := atoms_spec (ws := Cond.code yX5_hasCase cX5_hasCase 2 (some .boolean) :: gw_tbl) B.pre
  have hg := fun (w : Cond) (h : w ∈ gw_tbl) => hts w (List.mem_cons_of_mem _ h)
  have hown : s.vm.findClass RX5 = some m.cls := findClass_of_methodNamed B.named
  have hlocks := B.notSynchronized
  have hl := lv_entry ([.ref aq, .int v]) (n := 2) (Nat.le_of_ble_eq_true rfl)
  rw [show entryFrame m args 2 = F0 m 0 (lg_sl ([.ref aq, .int v]) ++ List.replicate (2 - (lg_sl ([.ref aq, .int v])).length) Slot.unset).toArray [] from by rw [hargs]; exact lg_entry_eq ..]
  generalize (lg_sl ([.ref aq, .int v]) ++ List.replicate (2 - (lg_sl ([.ref aq, .int v])).length) Slot.unset).toArray = ls at hl ⊢
  have hl : lv_has ls 2 [(0, .ref aq), (1, .int v)] := hl
  refine W_genQ (fun Q hQ => ?_)
  have hlm := lim_le hP4
  have hlq := lim_pos P
  have hsg := sgn_le hP4
  refine lv_iload_n hx hb dX5_hasCase_0 rfl (lv_at hl 1 rfl) ?_
  refine lv_if_lt (tgt := 16) hx hb dX5_hasCase_1 (by decide) (fun c_1 => ?_) (fun c_1 => ?_)
  · refine lv_iconst (v := 0) hx hb dX5_hasCase_16 (by decide) ?_
    refine W_sQ hQ ?_
    exact W.zret (v := 0) hx hb hr (by decide) (fun t ht hW => ⟨0, rfl, (Or.inl rfl), ht⟩) (fun _ h => absurd h List.not_mem_nil) dX5_hasCase_17
  · refine lv_iload_n hx hb dX5_hasCase_4 rfl (lv_at hl 1 rfl) ?_
    refine lv_aload_n hx hb dX5_hasCase_5 rfl (lv_at hl 0 rfl) ?_
    refine va_get (D := D) (ci := 5) (v := .int (nI C)) (C := RX5) (T := TX5) (N := 7) hx hb hg gwX5 hown hK hP 0 rfl rfl 4 (by decide) (hg _ kw_13) (fun _ h9 => h9) rfl dX5_hasCase_6 ?_
    refine lv_icmp_ge (tgt := 16) hx hb dX5_hasCase_9 (by decide) (fun c_9 => ?_) (fun c_9 => ?_)
    · refine lv_iconst (v := 0) hx hb dX5_hasCase_16 (by decide) ?_
      refine W_sQ hQ ?_
      exact W.zret (v := 0) hx hb hr (by decide) (fun t ht hW => ⟨0, rfl, (Or.inl rfl), ht⟩) (fun _ h => absurd h List.not_mem_nil) dX5_hasCase_17
    · refine lv_iconst (v := 1) hx hb dX5_hasCase_12 (by decide) ?_
      refine lv_goto (tgt := 17) hx hb dX5_hasCase_13 (by decide) ?_
      refine W_sQ hQ ?_
      exact W.zret (v := 1) hx hb hr (by decide) (fun t ht hW => ⟨1, rfl, (Or.inr ⟨rfl, in_1 (by omega) c_1 c_9⟩), ht⟩) (fun _ h => absurd h List.not_mem_nil) dX5_hasCase_17

theorem dX5_hasPerson_0 : decode cX5_hasPerson 0 = .ok (.iload_n 1, 1) := by decide +kernel
theorem dX5_hasPerson_1 : decode cX5_hasPerson 1 = .ok (.ifCond .lt 15, 3) := by decide +kernel
theorem dX5_hasPerson_4 : decode cX5_hasPerson 4 = .ok (.iload_n 1, 1) := by decide +kernel
theorem dX5_hasPerson_5 : decode cX5_hasPerson 5 = .ok (.aload_n 0, 1) := by decide +kernel
theorem dX5_hasPerson_6 : decode cX5_hasPerson 6 = .ok (.getfield 37, 3) := by decide +kernel
theorem dX5_hasPerson_9 : decode cX5_hasPerson 9 = .ok (.if_icmp .ge 7, 3) := by decide +kernel
theorem dX5_hasPerson_12 : decode cX5_hasPerson 12 = .ok (.iconst 1, 1) := by decide +kernel
theorem dX5_hasPerson_13 : decode cX5_hasPerson 13 = .ok (.goto 4, 3) := by decide +kernel
theorem dX5_hasPerson_16 : decode cX5_hasPerson 16 = .ok (.iconst 0, 1) := by decide +kernel
theorem dX5_hasPerson_17 : decode cX5_hasPerson 17 = .ok (.ireturn, 1) := by decide +kernel
theorem kw_14 : (.fieldLink RX5 37 "NobodyChecks$Question" "persons" "I" : Cond) ∈ gw_tbl := gw_in (by decide +kernel) (by decide +kernel)

set_option maxHeartbeats 4000000 in
set_option maxRecDepth 100000 in
theorem q_hasPerson (l : Launch) (D : va_G) (cs : Nat → ClassId) (aq : Nat) (aw : Nat) (ac : Nat) (ao : Nat) (am : Nat) (C : Nat) (hC5 : C ≤ 5) (P : Nat) (hP4 : P ≤ 4) (tot : Int64) (v : Int32) : Met l yX5_hasPerson (Cond.code yX5_hasPerson cX5_hasPerson 2 (some .boolean) :: gw_tbl) ({ frames := 0, cells := 0, slots := 0, locals := 0 }) (pc_S D cs [(aq, .inr (5, [.ref aw, .ref ac, .ref ao, .ref am, .int (nI C), .int (nI P), .long tot]))] [.ref aq, .int v]) (vp_Si (fun r => r = 0 ∨ (r = 1 ∧ ∃ k : Nat, k < P ∧ v = nI k))) 0 0 (fun _ => False) := by
  refine Met.ofW (cc := cX5_hasPerson) (maxL := 2) (ret := (some .boolean)) (by decide) rfl ?_
  intro p e s m args below meth c s₁ B hml hv
  obtain ⟨hargs, hP, hK⟩ := hv
  have hx := B.exec
  have hb := B.bytes
  have hr := B.returns
  have hts := atoms_spec (ws := Cond.code yX5_hasPerson cX5_hasPerson 2 (some .boolean) :: gw_tbl) B.pre
  have hg := fun (w : Cond) (h : w ∈ gw_tbl) => hts w (List.mem_cons_of_mem _ h)
  have hown : s.vm.findClass RX5 = some m.cls := findClass_of_methodNamed B.named
  have hlocks := B.notSynchronized
  have hl := lv_entry ([.ref aq, .int v]) (n := 2) (Nat.le_of_ble_eq_true rfl)
  rw [show entryFrame m args 2 = F0 m 0 (lg_sl ([.ref aq, .int v]) ++ List.replicate (2 - (lg_sl ([.ref aq, .int v])).length) Slot.unset).toArray [] from by rw [hargs]; exact lg_entry_eq ..]
  generalize (lg_sl ([.ref aq, .int v]) ++ List.replicate (2 - (lg_sl ([.ref aq, .int v])).length) Slot.unset).toArray = ls at hl ⊢
  have hl : lv_has ls 2 [(0, .ref aq), (1, .int v)] := hl
  refine W_genQ (fun Q hQ => ?_)
  have hlm := lim_le hP4
  have hlq := lim_pos P
  have hsg := sgn_le hP4
  refine lv_iload_n hx hb dX5_hasPerson_0 rfl (lv_at hl 1 rfl) ?_
  refine lv_if_lt (tgt := 16) hx hb dX5_hasPerson_1 (by decide) (fun c_1 => ?_) (fun c_1 => ?_)
  · refine lv_iconst (v := 0) hx hb dX5_hasPerson_16 (by decide) ?_
    refine W_sQ hQ ?_
    exact W.zret (v := 0) hx hb hr (by decide) (fun t ht hW => ⟨0, rfl, (Or.inl rfl), ht⟩) (fun _ h => absurd h List.not_mem_nil) dX5_hasPerson_17
  · refine lv_iload_n hx hb dX5_hasPerson_4 rfl (lv_at hl 1 rfl) ?_
    refine lv_aload_n hx hb dX5_hasPerson_5 rfl (lv_at hl 0 rfl) ?_
    refine va_get (D := D) (ci := 5) (v := .int (nI P)) (C := RX5) (T := TX5) (N := 7) hx hb hg gwX5 hown hK hP 0 rfl rfl 5 (by decide) (hg _ kw_14) (fun _ h9 => h9) rfl dX5_hasPerson_6 ?_
    refine lv_icmp_ge (tgt := 16) hx hb dX5_hasPerson_9 (by decide) (fun c_9 => ?_) (fun c_9 => ?_)
    · refine lv_iconst (v := 0) hx hb dX5_hasPerson_16 (by decide) ?_
      refine W_sQ hQ ?_
      exact W.zret (v := 0) hx hb hr (by decide) (fun t ht hW => ⟨0, rfl, (Or.inl rfl), ht⟩) (fun _ h => absurd h List.not_mem_nil) dX5_hasPerson_17
    · refine lv_iconst (v := 1) hx hb dX5_hasPerson_12 (by decide) ?_
      refine lv_goto (tgt := 17) hx hb dX5_hasPerson_13 (by decide) ?_
      refine W_sQ hQ ?_
      exact W.zret (v := 1) hx hb hr (by decide) (fun t ht hW => ⟨1, rfl, (Or.inr ⟨rfl, in_1 (by omega) c_1 c_9⟩), ht⟩) (fun _ h => absurd h List.not_mem_nil) dX5_hasPerson_17

theorem dX5_stands_0 : decode cX5_stands 0 = .ok (.aload_n 0, 1) := by decide +kernel
theorem dX5_stands_1 : decode cX5_stands 1 = .ok (.getfield 33, 3) := by decide +kernel
theorem dX5_stands_4 : decode cX5_stands 4 = .ok (.ifCond .le 7, 3) := by decide +kernel
theorem dX5_stands_7 : decode cX5_stands 7 = .ok (.iconst 1, 1) := by decide +kernel
theorem dX5_stands_8 : decode cX5_stands 8 = .ok (.goto 4, 3) := by decide +kernel
theorem dX5_stands_11 : decode cX5_stands 11 = .ok (.iconst 0, 1) := by decide +kernel
theorem dX5_stands_12 : decode cX5_stands 12 = .ok (.ireturn, 1) := by decide +kernel

set_option maxHeartbeats 4000000 in
set_option maxRecDepth 100000 in
theorem q_stands (l : Launch) (D : va_G) (cs : Nat → ClassId) (aq : Nat) (aw : Nat) (ac : Nat) (ao : Nat) (am : Nat) (C : Nat) (hC5 : C ≤ 5) (P : Nat) (hP4 : P ≤ 4) (tot : Int64) : Met l yX5_stands (Cond.code yX5_stands cX5_stands 1 (some .boolean) :: gw_tbl) ({ frames := 0, cells := 0, slots := 0, locals := 0 }) (pc_S D cs [(aq, .inr (5, [.ref aw, .ref ac, .ref ao, .ref am, .int (nI C), .int (nI P), .long tot]))] [.ref aq]) (vp_Si (fun r => r = 0 ∨ r = 1)) 0 0 (fun _ => False) := by
  refine Met.ofW (cc := cX5_stands) (maxL := 1) (ret := (some .boolean)) (by decide) rfl ?_
  intro p e s m args below meth c s₁ B hml hv
  obtain ⟨hargs, hP, hK⟩ := hv
  have hx := B.exec
  have hb := B.bytes
  have hr := B.returns
  have hts := atoms_spec (ws := Cond.code yX5_stands cX5_stands 1 (some .boolean) :: gw_tbl) B.pre
  have hg := fun (w : Cond) (h : w ∈ gw_tbl) => hts w (List.mem_cons_of_mem _ h)
  have hown : s.vm.findClass RX5 = some m.cls := findClass_of_methodNamed B.named
  have hlocks := B.notSynchronized
  have hl := lv_entry ([.ref aq]) (n := 1) (Nat.le_of_ble_eq_true rfl)
  rw [show entryFrame m args 1 = F0 m 0 (lg_sl ([.ref aq]) ++ List.replicate (1 - (lg_sl ([.ref aq])).length) Slot.unset).toArray [] from by rw [hargs]; exact lg_entry_eq ..]
  generalize (lg_sl ([.ref aq]) ++ List.replicate (1 - (lg_sl ([.ref aq])).length) Slot.unset).toArray = ls at hl ⊢
  have hl : lv_has ls 1 [(0, .ref aq)] := hl
  refine W_genQ (fun Q hQ => ?_)
  have hlm := lim_le hP4
  have hlq := lim_pos P
  have hsg := sgn_le hP4
  refine lv_aload_n hx hb dX5_stands_0 rfl (lv_at hl 0 rfl) ?_
  refine va_get (D := D) (ci := 5) (v := .int (nI C)) (C := RX5) (T := TX5) (N := 7) hx hb hg gwX5 hown hK hP 0 rfl rfl 4 (by decide) (hg _ kw_13) (fun _ h9 => h9) rfl dX5_stands_1 ?_
  refine lv_if_le (tgt := 11) hx hb dX5_stands_4 (by decide) (fun c_4 => ?_) (fun c_4 => ?_)
  · have n_4 : C ≤ 0 := b_le_t (by omega) (by omega) c_4
    refine lv_iconst (v := 0) hx hb dX5_stands_11 (by decide) ?_
    refine W_sQ hQ ?_
    exact W.zret (v := 0) hx hb hr (by decide) (fun t ht hW => ⟨0, rfl, (Or.inl rfl), ht⟩) (fun _ h => absurd h List.not_mem_nil) dX5_stands_12
  · have n_4 : 0 < C := b_le_f (by omega) (by omega) c_4
    refine lv_iconst (v := 1) hx hb dX5_stands_7 (by decide) ?_
    refine lv_goto (tgt := 12) hx hb dX5_stands_8 (by decide) ?_
    refine W_sQ hQ ?_
    exact W.zret (v := 1) hx hb hr (by decide) (fun t ht hW => ⟨1, rfl, (Or.inr rfl), ht⟩) (fun _ h => absurd h List.not_mem_nil) dX5_stands_12

theorem dX5_signLimit_0 : decode cX5_signLimit 0 = .ok (.iconst 1, 1) := by decide +kernel
theorem dX5_signLimit_1 : decode cX5_signLimit 1 = .ok (.aload_n 0, 1) := by decide +kernel
theorem dX5_signLimit_2 : decode cX5_signLimit 2 = .ok (.getfield 37, 3) := by decide +kernel
theorem dX5_signLimit_5 : decode cX5_signLimit 5 = .ok (.ishl, 1) := by decide +kernel
theorem dX5_signLimit_6 : decode cX5_signLimit 6 = .ok (.ireturn, 1) := by decide +kernel

set_option maxHeartbeats 4000000 in
set_option maxRecDepth 100000 in
theorem q_signLimit (l : Launch) (D : va_G) (cs : Nat → ClassId) (aq : Nat) (aw : Nat) (ac : Nat) (ao : Nat) (am : Nat) (C : Nat) (hC5 : C ≤ 5) (P : Nat) (hP4 : P ≤ 4) (tot : Int64) : Met l yX5_signLimit (Cond.code yX5_signLimit cX5_signLimit 1 (some .int) :: gw_tbl) ({ frames := 0, cells := 0, slots := 0, locals := 0 }) (pc_S D cs [(aq, .inr (5, [.ref aw, .ref ac, .ref ao, .ref am, .int (nI C), .int (nI P), .long tot]))] [.ref aq]) (vp_Si (fun r => r = nI (sgn P))) 0 0 (fun _ => False) := by
  refine Met.ofW (cc := cX5_signLimit) (maxL := 1) (ret := (some .int)) (by decide) rfl ?_
  intro p e s m args below meth c s₁ B hml hv
  obtain ⟨hargs, hP, hK⟩ := hv
  have hx := B.exec
  have hb := B.bytes
  have hr := B.returns
  have hts := atoms_spec (ws := Cond.code yX5_signLimit cX5_signLimit 1 (some .int) :: gw_tbl) B.pre
  have hg := fun (w : Cond) (h : w ∈ gw_tbl) => hts w (List.mem_cons_of_mem _ h)
  have hown : s.vm.findClass RX5 = some m.cls := findClass_of_methodNamed B.named
  have hlocks := B.notSynchronized
  have hl := lv_entry ([.ref aq]) (n := 1) (Nat.le_of_ble_eq_true rfl)
  rw [show entryFrame m args 1 = F0 m 0 (lg_sl ([.ref aq]) ++ List.replicate (1 - (lg_sl ([.ref aq])).length) Slot.unset).toArray [] from by rw [hargs]; exact lg_entry_eq ..]
  generalize (lg_sl ([.ref aq]) ++ List.replicate (1 - (lg_sl ([.ref aq])).length) Slot.unset).toArray = ls at hl ⊢
  have hl : lv_has ls 1 [(0, .ref aq)] := hl
  refine W_genQ (fun Q hQ => ?_)
  have hlm := lim_le hP4
  have hlq := lim_pos P
  have hsg := sgn_le hP4
  refine lv_iconst (v := 1) hx hb dX5_signLimit_0 (by decide) ?_
  refine lv_aload_n hx hb dX5_signLimit_1 rfl (lv_at hl 0 rfl) ?_
  refine va_get (D := D) (ci := 5) (v := .int (nI P)) (C := RX5) (T := TX5) (N := 7) hx hb hg gwX5 hown hK hP 0 rfl rfl 5 (by decide) (hg _ kw_14) (fun _ h9 => h9) rfl dX5_signLimit_2 ?_
  refine lv_ishl hx hb dX5_signLimit_5 ?_
  refine lv_topi (fun z_5 e_5 => ?_)
  refine W_sQ hQ ?_
  exact W.iret (v := z_5) hx hb hr (fun t ht hW => ⟨z_5, rfl, (e_5.trans (sg_eq hP4)), ht⟩) (fun _ h => absurd h List.not_mem_nil) dX5_signLimit_6

theorem dX5_profileLimit_0 : decode cX5_profileLimit 0 = .ok (.iconst 1, 1) := by decide +kernel
theorem dX5_profileLimit_1 : decode cX5_profileLimit 1 = .ok (.iconst 2, 1) := by decide +kernel
theorem dX5_profileLimit_2 : decode cX5_profileLimit 2 = .ok (.aload_n 0, 1) := by decide +kernel
theorem dX5_profileLimit_3 : decode cX5_profileLimit 3 = .ok (.getfield 37, 3) := by decide +kernel
theorem dX5_profileLimit_6 : decode cX5_profileLimit 6 = .ok (.imul, 1) := by decide +kernel
theorem dX5_profileLimit_7 : decode cX5_profileLimit 7 = .ok (.ishl, 1) := by decide +kernel
theorem dX5_profileLimit_8 : decode cX5_profileLimit 8 = .ok (.ireturn, 1) := by decide +kernel

set_option maxHeartbeats 4000000 in
set_option maxRecDepth 100000 in
theorem q_profileLimit (l : Launch) (D : va_G) (cs : Nat → ClassId) (aq : Nat) (aw : Nat) (ac : Nat) (ao : Nat) (am : Nat) (C : Nat) (hC5 : C ≤ 5) (P : Nat) (hP4 : P ≤ 4) (tot : Int64) : Met l yX5_profileLimit (Cond.code yX5_profileLimit cX5_profileLimit 1 (some .int) :: gw_tbl) ({ frames := 0, cells := 0, slots := 0, locals := 0 }) (pc_S D cs [(aq, .inr (5, [.ref aw, .ref ac, .ref ao, .ref am, .int (nI C), .int (nI P), .long tot]))] [.ref aq]) (vp_Si (fun r => r = nI (lim P))) 0 0 (fun _ => False) := by
  refine Met.ofW (cc := cX5_profileLimit) (maxL := 1) (ret := (some .int)) (by decide) rfl ?_
  intro p e s m args below meth c s₁ B hml hv
  obtain ⟨hargs, hP, hK⟩ := hv
  have hx := B.exec
  have hb := B.bytes
  have hr := B.returns
  have hts := atoms_spec (ws := Cond.code yX5_profileLimit cX5_profileLimit 1 (some .int) :: gw_tbl) B.pre
  have hg := fun (w : Cond) (h : w ∈ gw_tbl) => hts w (List.mem_cons_of_mem _ h)
  have hown : s.vm.findClass RX5 = some m.cls := findClass_of_methodNamed B.named
  have hlocks := B.notSynchronized
  have hl := lv_entry ([.ref aq]) (n := 1) (Nat.le_of_ble_eq_true rfl)
  rw [show entryFrame m args 1 = F0 m 0 (lg_sl ([.ref aq]) ++ List.replicate (1 - (lg_sl ([.ref aq])).length) Slot.unset).toArray [] from by rw [hargs]; exact lg_entry_eq ..]
  generalize (lg_sl ([.ref aq]) ++ List.replicate (1 - (lg_sl ([.ref aq])).length) Slot.unset).toArray = ls at hl ⊢
  have hl : lv_has ls 1 [(0, .ref aq)] := hl
  refine W_genQ (fun Q hQ => ?_)
  have hlm := lim_le hP4
  have hlq := lim_pos P
  have hsg := sgn_le hP4
  refine lv_iconst (v := 1) hx hb dX5_profileLimit_0 (by decide) ?_
  refine lv_iconst (v := 2) hx hb dX5_profileLimit_1 (by decide) ?_
  refine lv_aload_n hx hb dX5_profileLimit_2 rfl (lv_at hl 0 rfl) ?_
  refine va_get (D := D) (ci := 5) (v := .int (nI P)) (C := RX5) (T := TX5) (N := 7) hx hb hg gwX5 hown hK hP 0 rfl rfl 5 (by decide) (hg _ kw_14) (fun _ h9 => h9) rfl dX5_profileLimit_3 ?_
  refine lv_imul hx hb dX5_profileLimit_6 ?_
  refine lv_topi (fun z_6 e_6 => ?_)
  obtain rfl : z_6 = nI (2 * P) := e_6.trans (pk_mul _ _)
  refine lv_ishl hx hb dX5_profileLimit_7 ?_
  refine lv_topi (fun z_7 e_7 => ?_)
  refine W_sQ hQ ?_
  exact W.iret (v := z_7) hx hb hr (fun t ht hW => ⟨z_7, rfl, (e_7.trans (li_eq hP4)), ht⟩) (fun _ h => absurd h List.not_mem_nil) dX5_profileLimit_8

theorem dX5_hasProfile_0 : decode cX5_hasProfile 0 = .ok (.iload_n 1, 1) := by decide +kernel
theorem dX5_hasProfile_1 : decode cX5_hasProfile 1 = .ok (.ifCond .lt 15, 3) := by decide +kernel
theorem dX5_hasProfile_4 : decode cX5_hasProfile 4 = .ok (.iload_n 1, 1) := by decide +kernel
theorem dX5_hasProfile_5 : decode cX5_hasProfile 5 = .ok (.aload_n 0, 1) := by decide +kernel
theorem dX5_hasProfile_6 : decode cX5_hasProfile 6 = .ok (.invokevirtual 50, 3) := by decide +kernel
theorem dX5_hasProfile_9 : decode cX5_hasProfile 9 = .ok (.if_icmp .ge 7, 3) := by decide +kernel
theorem dX5_hasProfile_12 : decode cX5_hasProfile 12 = .ok (.iconst 1, 1) := by decide +kernel
theorem dX5_hasProfile_13 : decode cX5_hasProfile 13 = .ok (.goto 4, 3) := by decide +kernel
theorem dX5_hasProfile_16 : decode cX5_hasProfile 16 = .ok (.iconst 0, 1) := by decide +kernel
theorem dX5_hasProfile_17 : decode cX5_hasProfile 17 = .ok (.ireturn, 1) := by decide +kernel
theorem kw_15 : (.code yX5_profileLimit cX5_profileLimit 1 (some .int) : Cond) ∈ gw_tbl := gw_in (by decide +kernel) (by decide +kernel)
theorem kw_16 : (.methodLink RX5 50 yX5_profileLimit : Cond) ∈ gw_tbl := gw_in (by decide +kernel) (by decide +kernel)
theorem kw_17 : (.instanceMethod yX5_profileLimit : Cond) ∈ gw_tbl := gw_in (by decide +kernel) (by decide +kernel)
theorem kw_18 : (.selects RX5 yX5_profileLimit yX5_profileLimit : Cond) ∈ gw_tbl := gw_in (by decide +kernel) (by decide +kernel)
theorem kw_19 : (.initialized RX5 : Cond) ∈ gw_tbl := gw_in (by decide +kernel) (by decide +kernel)

set_option maxHeartbeats 4000000 in
set_option maxRecDepth 100000 in
theorem q_hasProfile (l : Launch) (D : va_G) (cs : Nat → ClassId) (aq : Nat) (aw : Nat) (ac : Nat) (ao : Nat) (am : Nat) (C : Nat) (hC5 : C ≤ 5) (P : Nat) (hP4 : P ≤ 4) (tot : Int64) (v : Int32) : Met l yX5_hasProfile (Cond.code yX5_hasProfile cX5_hasProfile 2 (some .boolean) :: gw_tbl) ({ frames := 1, cells := 0, slots := 0, locals := 20 }) (pc_S D cs [(aq, .inr (5, [.ref aw, .ref ac, .ref ao, .ref am, .int (nI C), .int (nI P), .long tot]))] [.ref aq, .int v]) (vp_Si (fun r => r = 0 ∨ (r = 1 ∧ ∃ k : Nat, k < lim P ∧ v = nI k))) 0 0 (fun _ => False) := by
  refine Met.ofW (cc := cX5_hasProfile) (maxL := 2) (ret := (some .boolean)) (by decide) rfl ?_
  intro p e s m args below meth c s₁ B hml hv
  obtain ⟨hargs, hP, hK⟩ := hv
  have hx := B.exec
  have hb := B.bytes
  have hr := B.returns
  have hts := atoms_spec (ws := Cond.code yX5_hasProfile cX5_hasProfile 2 (some .boolean) :: gw_tbl) B.pre
  have hg := fun (w : Cond) (h : w ∈ gw_tbl) => hts w (List.mem_cons_of_mem _ h)
  have hown : s.vm.findClass RX5 = some m.cls := findClass_of_methodNamed B.named
  have hlocks := B.notSynchronized
  have hl := lv_entry ([.ref aq, .int v]) (n := 2) (Nat.le_of_ble_eq_true rfl)
  rw [show entryFrame m args 2 = F0 m 0 (lg_sl ([.ref aq, .int v]) ++ List.replicate (2 - (lg_sl ([.ref aq, .int v])).length) Slot.unset).toArray [] from by rw [hargs]; exact lg_entry_eq ..]
  generalize (lg_sl ([.ref aq, .int v]) ++ List.replicate (2 - (lg_sl ([.ref aq, .int v])).length) Slot.unset).toArray = ls at hl ⊢
  have hl : lv_has ls 2 [(0, .ref aq), (1, .int v)] := hl
  refine W_genQ (fun Q hQ => ?_)
  have hlm := lim_le hP4
  have hlq := lim_pos P
  have hsg := sgn_le hP4
  refine lv_iload_n hx hb dX5_hasProfile_0 rfl (lv_at hl 1 rfl) ?_
  refine lv_if_lt (tgt := 16) hx hb dX5_hasProfile_1 (by decide) (fun c_1 => ?_) (fun c_1 => ?_)
  · refine lv_iconst (v := 0) hx hb dX5_hasProfile_16 (by decide) ?_
    refine W_sQ hQ ?_
    exact W.zret (v := 0) hx hb hr (by decide) (fun t ht hW => ⟨0, rfl, (Or.inl rfl), ht⟩) (fun _ h => absurd h List.not_mem_nil) dX5_hasProfile_17
  · refine lv_iload_n hx hb dX5_hasProfile_4 rfl (lv_at hl 1 rfl) ?_
    refine lv_aload_n hx hb dX5_hasProfile_5 rfl (lv_at hl 0 rfl) ?_
    have hPc := hP.sub (ws' := [(aq, .inr (5, [.ref aw, .ref ac, .ref ao, .ref am, .int (nI C), .int (nI P), .long tot]))]) [0] rfl
    refine vp_callSi (W.runV (As := []) (rest := [.int v]) ⟨hx, hb, hml, hown, hg⟩ (q_profileLimit l D cs aq aw ac ao am C (by omega) P (by omega) tot) (cwV 0 hg (gw_V kw_16 kw_17 kw_18 kw_19 kw_15) rfl rfl rfl (by decide +kernel) ⟨(Nat.le_of_ble_eq_true rfl), (Nat.le_of_ble_eq_true rfl)⟩) (pr_SV (q := (RX5, TX5, 7)) 5 0 hK hPc rfl rfl) rfl rfl hl.1 rfl (lv_room (Nat.le_of_ble_eq_true rfl)) dX5_hasProfile_6 ⟨(Nat.le_of_ble_eq_true rfl), (Nat.le_of_ble_eq_true rfl)⟩) (fun r_6 h_6 => ?_)
    obtain rfl : r_6 = nI (lim P) := h_6
    refine lv_icmp_ge (tgt := 16) hx hb dX5_hasProfile_9 (by decide) (fun c_9 => ?_) (fun c_9 => ?_)
    · refine lv_iconst (v := 0) hx hb dX5_hasProfile_16 (by decide) ?_
      refine W_sQ hQ ?_
      exact W.zret (v := 0) hx hb hr (by decide) (fun t ht hW => ⟨0, rfl, (Or.inl rfl), ht⟩) (fun _ h => absurd h List.not_mem_nil) dX5_hasProfile_17
    · refine lv_iconst (v := 1) hx hb dX5_hasProfile_12 (by decide) ?_
      refine lv_goto (tgt := 17) hx hb dX5_hasProfile_13 (by decide) ?_
      refine W_sQ hQ ?_
      exact W.zret (v := 1) hx hb hr (by decide) (fun t ht hW => ⟨1, rfl, (Or.inr ⟨rfl, in_1 (by omega) c_1 c_9⟩), ht⟩) (fun _ h => absurd h List.not_mem_nil) dX5_hasProfile_17

theorem dX5_likely_0 : decode cX5_likely 0 = .ok (.iload_n 3, 1) := by decide +kernel
theorem dX5_likely_1 : decode cX5_likely 1 = .ok (.iconst 1, 1) := by decide +kernel
theorem dX5_likely_2 : decode cX5_likely 2 = .ok (.if_icmp .ne 14, 3) := by decide +kernel
theorem dX5_likely_5 : decode cX5_likely 5 = .ok (.aload_n 0, 1) := by decide +kernel
theorem dX5_likely_6 : decode cX5_likely 6 = .ok (.getfield 17, 3) := by decide +kernel
theorem dX5_likely_9 : decode cX5_likely 9 = .ok (.iload_n 1, 1) := by decide +kernel
theorem dX5_likely_10 : decode cX5_likely 10 = .ok (.aaload, 1) := by decide +kernel
theorem dX5_likely_11 : decode cX5_likely 11 = .ok (.iload_n 2, 1) := by decide +kernel
theorem dX5_likely_12 : decode cX5_likely 12 = .ok (.iaload, 1) := by decide +kernel
theorem dX5_likely_13 : decode cX5_likely 13 = .ok (.goto 14, 3) := by decide +kernel
theorem dX5_likely_16 : decode cX5_likely 16 = .ok (.bipush 100, 2) := by decide +kernel
theorem dX5_likely_18 : decode cX5_likely 18 = .ok (.aload_n 0, 1) := by decide +kernel
theorem dX5_likely_19 : decode cX5_likely 19 = .ok (.getfield 17, 3) := by decide +kernel
theorem dX5_likely_22 : decode cX5_likely 22 = .ok (.iload_n 1, 1) := by decide +kernel
theorem dX5_likely_23 : decode cX5_likely 23 = .ok (.aaload, 1) := by decide +kernel
theorem dX5_likely_24 : decode cX5_likely 24 = .ok (.iload_n 2, 1) := by decide +kernel
theorem dX5_likely_25 : decode cX5_likely 25 = .ok (.iaload, 1) := by decide +kernel
theorem dX5_likely_26 : decode cX5_likely 26 = .ok (.isub, 1) := by decide +kernel
theorem dX5_likely_27 : decode cX5_likely 27 = .ok (.ireturn, 1) := by decide +kernel
theorem kw_20 : (.fieldLink RX5 17 "NobodyChecks$Question" "chances" "[[I" : Cond) ∈ gw_tbl := gw_in (by decide +kernel) (by decide +kernel)

set_option maxHeartbeats 4000000 in
set_option maxRecDepth 100000 in
theorem q_likely (l : Launch) (D : va_G) (cs : Nat → ClassId) (aq : Nat) (aw : Nat) (ac : Nat) (ao : Nat) (am : Nat) (C : Nat) (hC5 : C ≤ 5) (P : Nat) (hP4 : P ≤ 4) (tot : Int64) (ar : Nat → Nat) (far : Nat → Nat → Int32) (cc : Nat) (pe : Nat) (hcc : cc < 5) (hpe : pe < 4) (sg : Int32) : Met l yX5_likely (Cond.code yX5_likely cX5_likely 4 (some .int) :: gw_tbl) ({ frames := 0, cells := 0, slots := 0, locals := 0 }) (pc_S D cs [(aq, .inr (5, [.ref aw, .ref ac, .ref ao, .ref am, .int (nI C), .int (nI P), .long tot])), (ac, .inl (cs 4, 5, .inr (.inr (.inr (.inr (rowsF 5 ar)))))), ((ar 0), .inl (cs 0, 4, .inl (far 0))), ((ar 1), .inl (cs 0, 4, .inl (far 1))), ((ar 2), .inl (cs 0, 4, .inl (far 2))), ((ar 3), .inl (cs 0, 4, .inl (far 3))), ((ar 4), .inl (cs 0, 4, .inl (far 4)))] [.ref aq, .int (nI cc), .int (nI pe), .int sg]) (vp_Si (fun r => True)) 0 0 (fun _ => False) := by
  refine Met.ofW (cc := cX5_likely) (maxL := 4) (ret := (some .int)) (by decide) rfl ?_
  intro p e s m args below meth c s₁ B hml hv
  obtain ⟨hargs, hP, hK⟩ := hv
  have hx := B.exec
  have hb := B.bytes
  have hr := B.returns
  have hts := atoms_spec (ws := Cond.code yX5_likely cX5_likely 4 (some .int) :: gw_tbl) B.pre
  have hg := fun (w : Cond) (h : w ∈ gw_tbl) => hts w (List.mem_cons_of_mem _ h)
  have hown : s.vm.findClass RX5 = some m.cls := findClass_of_methodNamed B.named
  have hlocks := B.notSynchronized
  have hl := lv_entry ([.ref aq, .int (nI cc), .int (nI pe), .int sg]) (n := 4) (Nat.le_of_ble_eq_true rfl)
  rw [show entryFrame m args 4 = F0 m 0 (lg_sl ([.ref aq, .int (nI cc), .int (nI pe), .int sg]) ++ List.replicate (4 - (lg_sl ([.ref aq, .int (nI cc), .int (nI pe), .int sg])).length) Slot.unset).toArray [] from by rw [hargs]; exact lg_entry_eq ..]
  generalize (lg_sl ([.ref aq, .int (nI cc), .int (nI pe), .int sg]) ++ List.replicate (4 - (lg_sl ([.ref aq, .int (nI cc), .int (nI pe), .int sg])).length) Slot.unset).toArray = ls at hl ⊢
  have hl : lv_has ls 4 [(0, .ref aq), (1, .int (nI cc)), (2, .int (nI pe)), (3, .int sg)] := hl
  refine W_genQ (fun Q hQ => ?_)
  have hlm := lim_le hP4
  have hlq := lim_pos P
  have hsg := sgn_le hP4
  refine lv_iload_n hx hb dX5_likely_0 rfl (lv_at hl 3 rfl) ?_
  refine lv_iconst (v := 1) hx hb dX5_likely_1 (by decide) ?_
  refine lv_icmp_ne (tgt := 16) hx hb dX5_likely_2 (by decide) (fun c_2 => ?_) (fun c_2 => ?_)
  · refine lv_bipush (v := 100) hx hb dX5_likely_16 (by decide) ?_
    refine lv_aload_n hx hb dX5_likely_18 rfl (lv_at hl 0 rfl) ?_
    refine va_get (D := D) (ci := 5) (v := .ref ac) (C := RX5) (T := TX5) (N := 7) hx hb hg gwX5 hown hK hP 0 rfl rfl 1 (by decide) (hg _ kw_20) (fun _ h9 => h9) rfl dX5_likely_19 ?_
    refine lv_iload_n hx hb dX5_likely_22 rfl (lv_at hl 1 rfl) ?_
    refine va_aldR (k := cc) hx hb hK hP 1 4 rfl rfl (show cc < 5 by omega) (by decide) dX5_likely_23 ?_
    refine lv_iload_n hx hb dX5_likely_24 rfl (lv_at hl 2 rfl) ?_
    refine va_iald hx hb hK hP (2 + cc) 0 (rat_5 (g := fun j9 => (ar j9, .inl (cs 0, 4, .inl (far j9)))) (show cc < 5 by omega) ⟨rfl, rfl, rfl, rfl, rfl⟩) rfl (vp_in_nI (show pe < 4 by omega) (by decide)) dX5_likely_25 ?_
    refine lv_topi (fun z_25 e_25 => ?_)
    refine lv_isub hx hb dX5_likely_26 ?_
    refine lv_topi (fun z_26 e_26 => ?_)
    refine W_sQ hQ ?_
    exact W.iret (v := z_26) hx hb hr (fun t ht hW => ⟨z_26, rfl, trivial, ht⟩) (fun _ h => absurd h List.not_mem_nil) dX5_likely_27
  · refine lv_aload_n hx hb dX5_likely_5 rfl (lv_at hl 0 rfl) ?_
    refine va_get (D := D) (ci := 5) (v := .ref ac) (C := RX5) (T := TX5) (N := 7) hx hb hg gwX5 hown hK hP 0 rfl rfl 1 (by decide) (hg _ kw_20) (fun _ h9 => h9) rfl dX5_likely_6 ?_
    refine lv_iload_n hx hb dX5_likely_9 rfl (lv_at hl 1 rfl) ?_
    refine va_aldR (k := cc) hx hb hK hP 1 4 rfl rfl (show cc < 5 by omega) (by decide) dX5_likely_10 ?_
    refine lv_iload_n hx hb dX5_likely_11 rfl (lv_at hl 2 rfl) ?_
    refine va_iald hx hb hK hP (2 + cc) 0 (rat_5 (g := fun j9 => (ar j9, .inl (cs 0, 4, .inl (far j9)))) (show cc < 5 by omega) ⟨rfl, rfl, rfl, rfl, rfl⟩) rfl (vp_in_nI (show pe < 4 by omega) (by decide)) dX5_likely_12 ?_
    refine lv_topi (fun z_12 e_12 => ?_)
    refine lv_goto (tgt := 27) hx hb dX5_likely_13 (by decide) ?_
    refine W_sQ hQ ?_
    exact W.iret (v := z_12) hx hb hr (fun t ht hW => ⟨z_12, rfl, trivial, ht⟩) (fun _ h => absurd h List.not_mem_nil) dX5_likely_27

theorem dX5_seenBelow_0 : decode cX5_seenBelow 0 = .ok (.lconst 0, 1) := by decide +kernel
theorem dX5_seenBelow_1 : decode cX5_seenBelow 1 = .ok (.lstore_n 3, 1) := by decide +kernel
theorem dX5_seenBelow_2 : decode cX5_seenBelow 2 = .ok (.iconst 0, 1) := by decide +kernel
theorem dX5_seenBelow_3 : decode cX5_seenBelow 3 = .ok (.istore 5, 2) := by decide +kernel
theorem dX5_seenBelow_5 : decode cX5_seenBelow 5 = .ok (.iload 5, 2) := by decide +kernel
theorem dX5_seenBelow_7 : decode cX5_seenBelow 7 = .ok (.aload_n 0, 1) := by decide +kernel
theorem dX5_seenBelow_8 : decode cX5_seenBelow 8 = .ok (.getfield 33, 3) := by decide +kernel
theorem dX5_seenBelow_11 : decode cX5_seenBelow 11 = .ok (.if_icmp .ge 34, 3) := by decide +kernel
theorem dX5_seenBelow_14 : decode cX5_seenBelow 14 = .ok (.lload_n 3, 1) := by decide +kernel
theorem dX5_seenBelow_15 : decode cX5_seenBelow 15 = .ok (.aload_n 0, 1) := by decide +kernel
theorem dX5_seenBelow_16 : decode cX5_seenBelow 16 = .ok (.getfield 9, 3) := by decide +kernel
theorem dX5_seenBelow_19 : decode cX5_seenBelow 19 = .ok (.iload 5, 2) := by decide +kernel
theorem dX5_seenBelow_21 : decode cX5_seenBelow 21 = .ok (.iaload, 1) := by decide +kernel
theorem dX5_seenBelow_22 : decode cX5_seenBelow 22 = .ok (.i2l, 1) := by decide +kernel
theorem dX5_seenBelow_23 : decode cX5_seenBelow 23 = .ok (.aload_n 0, 1) := by decide +kernel
theorem dX5_seenBelow_24 : decode cX5_seenBelow 24 = .ok (.iload 5, 2) := by decide +kernel
theorem dX5_seenBelow_26 : decode cX5_seenBelow 26 = .ok (.iload_n 1, 1) := by decide +kernel
theorem dX5_seenBelow_27 : decode cX5_seenBelow 27 = .ok (.iload_n 2, 1) := by decide +kernel
theorem dX5_seenBelow_28 : decode cX5_seenBelow 28 = .ok (.invokevirtual 57, 3) := by decide +kernel
theorem dX5_seenBelow_31 : decode cX5_seenBelow 31 = .ok (.i2l, 1) := by decide +kernel
theorem dX5_seenBelow_32 : decode cX5_seenBelow 32 = .ok (.lmul, 1) := by decide +kernel
theorem dX5_seenBelow_33 : decode cX5_seenBelow 33 = .ok (.ldc2_w 44, 3) := by decide +kernel
theorem dX5_seenBelow_36 : decode cX5_seenBelow 36 = .ok (.lmul, 1) := by decide +kernel
theorem dX5_seenBelow_37 : decode cX5_seenBelow 37 = .ok (.ladd, 1) := by decide +kernel
theorem dX5_seenBelow_38 : decode cX5_seenBelow 38 = .ok (.lstore_n 3, 1) := by decide +kernel
theorem dX5_seenBelow_39 : decode cX5_seenBelow 39 = .ok (.iinc 5 1, 3) := by decide +kernel
theorem dX5_seenBelow_42 : decode cX5_seenBelow 42 = .ok (.goto (-37), 3) := by decide +kernel
theorem dX5_seenBelow_45 : decode cX5_seenBelow 45 = .ok (.lload_n 3, 1) := by decide +kernel
theorem dX5_seenBelow_46 : decode cX5_seenBelow 46 = .ok (.lreturn, 1) := by decide +kernel
theorem kw_21 : (.fieldLink RX5 9 "NobodyChecks$Question" "weights" "[I" : Cond) ∈ gw_tbl := gw_in (by decide +kernel) (by decide +kernel)
theorem kw_22 : (.code yX5_likely cX5_likely 4 (some .int) : Cond) ∈ gw_tbl := gw_in (by decide +kernel) (by decide +kernel)
theorem kw_23 : (.methodLink RX5 57 yX5_likely : Cond) ∈ gw_tbl := gw_in (by decide +kernel) (by decide +kernel)
theorem kw_24 : (.instanceMethod yX5_likely : Cond) ∈ gw_tbl := gw_in (by decide +kernel) (by decide +kernel)
theorem kw_25 : (.selects RX5 yX5_likely yX5_likely : Cond) ∈ gw_tbl := gw_in (by decide +kernel) (by decide +kernel)
theorem kw_26 : (.constantLong RX5 44 (100) : Cond) ∈ gw_tbl := gw_in (by decide +kernel) (by decide +kernel)

set_option maxHeartbeats 4000000 in
set_option maxRecDepth 100000 in
theorem q_seenBelow (l : Launch) (D : va_G) (cs : Nat → ClassId) (aq : Nat) (aw : Nat) (ac : Nat) (ao : Nat) (am : Nat) (C : Nat) (hC5 : C ≤ 5) (P : Nat) (hP4 : P ≤ 4) (tot : Int64) (ar : Nat → Nat) (far : Nat → Nat → Int32) (faw : Nat → Int32) (pe : Nat) (hpe : pe < P) (sg : Int32) : Met l yX5_seenBelow (Cond.code yX5_seenBelow cX5_seenBelow 6 (some .long) :: gw_tbl) ({ frames := 1, cells := 0, slots := 0, locals := 23 }) (pc_S D cs [(aq, .inr (5, [.ref aw, .ref ac, .ref ao, .ref am, .int (nI C), .int (nI P), .long tot])), (aw, .inl (cs 0, 5, .inl faw)), (ac, .inl (cs 4, 5, .inr (.inr (.inr (.inr (rowsF 5 ar)))))), ((ar 0), .inl (cs 0, 4, .inl (far 0))), ((ar 1), .inl (cs 0, 4, .inl (far 1))), ((ar 2), .inl (cs 0, 4, .inl (far 2))), ((ar 3), .inl (cs 0, 4, .inl (far 3))), ((ar 4), .inl (cs 0, 4, .inl (far 4)))] [.ref aq, .int (nI pe), .int sg]) (vp_Sl (fun r => True)) 0 0 (fun _ => False) := by
  refine Met.ofW (cc := cX5_seenBelow) (maxL := 6) (ret := (some .long)) (by decide) rfl ?_
  intro p e s m args below meth c s₁ B hml hv
  obtain ⟨hargs, hP, hK⟩ := hv
  have hx := B.exec
  have hb := B.bytes
  have hr := B.returns
  have hts := atoms_spec (ws := Cond.code yX5_seenBelow cX5_seenBelow 6 (some .long) :: gw_tbl) B.pre
  have hg := fun (w : Cond) (h : w ∈ gw_tbl) => hts w (List.mem_cons_of_mem _ h)
  have hown : s.vm.findClass RX5 = some m.cls := findClass_of_methodNamed B.named
  have hlocks := B.notSynchronized
  have hl := lv_entry ([.ref aq, .int (nI pe), .int sg]) (n := 6) (Nat.le_of_ble_eq_true rfl)
  rw [show entryFrame m args 6 = F0 m 0 (lg_sl ([.ref aq, .int (nI pe), .int sg]) ++ List.replicate (6 - (lg_sl ([.ref aq, .int (nI pe), .int sg])).length) Slot.unset).toArray [] from by rw [hargs]; exact lg_entry_eq ..]
  generalize (lg_sl ([.ref aq, .int (nI pe), .int sg]) ++ List.replicate (6 - (lg_sl ([.ref aq, .int (nI pe), .int sg])).length) Slot.unset).toArray = ls at hl ⊢
  have hl : lv_has ls 6 [(0, .ref aq), (1, .int (nI pe)), (2, .int sg)] := hl
  refine W_genQ (fun Q hQ => ?_)
  have hlm := lim_le hP4
  have hlq := lim_pos P
  have hsg := sgn_le hP4
  refine lv_lconst (v := 0) hx hb dX5_seenBelow_0 (by decide) ?_
  refine lv_lstore_n (lv' := [(3, .long 0), (0, .ref aq), (1, .int (nI pe)), (2, .int sg)]) hx hb dX5_seenBelow_1 rfl hl (by decide) rfl (fun ls hl => ?_)
  refine lv_iconst (v := 0) hx hb dX5_seenBelow_2 (by decide) ?_
  refine lv_istore (lv' := [(5, .int 0), (3, .long 0), (0, .ref aq), (1, .int (nI pe)), (2, .int sg)]) hx hb dX5_seenBelow_3 hl (by decide) rfl (fun ls hl => ?_)
  have LOOP5 : ∀ (n5 : Nat) (u3_5 : Int64) (k : Nat), k ≤ C → C - k < n5 → ∀ (ls : Array Slot), lv_has ls 6 [(0, .ref aq), (1, .int (nI pe)), (2, .int sg), (3, .long u3_5), (5, .int (nI k))] → W p l e ({ frames := 1, cells := 0, slots := 0, locals := 23 } : Room) s m args below meth c s.heap [] 0 0 Q (F0 m 5 ls []) := by
    intro n5
    induction n5 with
    | zero =>
      intro u3_5 k hk hn5 ls hl
      exact absurd hn5 (Nat.not_lt_zero _)
    | succ n5 ih5 =>
      intro u3_5 k hk hn5 ls hl
      refine lv_iload hx hb dX5_seenBelow_5 (lv_at hl 4 rfl) ?_
      refine lv_aload_n hx hb dX5_seenBelow_7 rfl (lv_at hl 0 rfl) ?_
      refine va_get (D := D) (ci := 5) (v := .int (nI C)) (C := RX5) (T := TX5) (N := 7) hx hb hg gwX5 hown hK hP 0 rfl rfl 4 (by decide) (hg _ kw_13) (fun _ h9 => h9) rfl dX5_seenBelow_8 ?_
      refine lv_icmp_ge (tgt := 45) hx hb dX5_seenBelow_11 (by decide) (fun c_11 => ?_) (fun c_11 => ?_)
      · have n_11 : C ≤ k := b_le_t (by omega) (by omega) c_11
        refine lv_lload_n hx hb dX5_seenBelow_45 rfl (lv_at hl 3 rfl) ?_
        refine W_sQ hQ ?_
        exact W.lret (v := u3_5) hx hb hr (fun t ht hW => ⟨u3_5, rfl, trivial, ht⟩) (fun _ h => absurd h List.not_mem_nil) dX5_seenBelow_46
      · have n_11 : k < C := b_le_f (by omega) (by omega) c_11
        refine lv_lload_n hx hb dX5_seenBelow_14 rfl (lv_at hl 3 rfl) ?_
        refine lv_aload_n hx hb dX5_seenBelow_15 rfl (lv_at hl 0 rfl) ?_
        refine va_get (D := D) (ci := 5) (v := .ref aw) (C := RX5) (T := TX5) (N := 7) hx hb hg gwX5 hown hK hP 0 rfl rfl 0 (by decide) (hg _ kw_21) (fun _ h9 => h9) rfl dX5_seenBelow_16 ?_
        refine lv_iload hx hb dX5_seenBelow_19 (lv_at hl 4 rfl) ?_
        refine va_iald hx hb hK hP 1 0 rfl rfl (vp_in_nI (show k < 5 by omega) (by decide)) dX5_seenBelow_21 ?_
        refine lv_topi (fun z_21 e_21 => ?_)
        refine lv_i2l hx hb dX5_seenBelow_22 rfl ?_
        refine lv_topl (fun z_22 e_22 => ?_)
        refine lv_aload_n hx hb dX5_seenBelow_23 rfl (lv_at hl 0 rfl) ?_
        refine lv_iload hx hb dX5_seenBelow_24 (lv_at hl 4 rfl) ?_
        refine lv_iload_n hx hb dX5_seenBelow_26 rfl (lv_at hl 1 rfl) ?_
        refine lv_iload_n hx hb dX5_seenBelow_27 rfl (lv_at hl 2 rfl) ?_
        have hPc := hP.sub (ws' := [(aq, .inr (5, [.ref aw, .ref ac, .ref ao, .ref am, .int (nI C), .int (nI P), .long tot])), (ac, .inl (cs 4, 5, .inr (.inr (.inr (.inr (rowsF 5 ar)))))), ((ar 0), .inl (cs 0, 4, .inl (far 0))), ((ar 1), .inl (cs 0, 4, .inl (far 1))), ((ar 2), .inl (cs 0, 4, .inl (far 2))), ((ar 3), .inl (cs 0, 4, .inl (far 3))), ((ar 4), .inl (cs 0, 4, .inl (far 4)))]) [0, 2, 3, 4, 5, 6, 7] rfl
        refine vp_callSi (W.runV (As := [.int (nI k), .int (nI pe), .int sg]) (rest := [.long z_22, .long u3_5]) ⟨hx, hb, hml, hown, hg⟩ (q_likely l D cs aq aw ac ao am C (by omega) P (by omega) tot ar far k pe (by omega) (by omega) sg) (cwV 3 hg (gw_V kw_23 kw_24 kw_25 kw_19 kw_22) rfl rfl rfl (by decide +kernel) ⟨(Nat.le_of_ble_eq_true rfl), (Nat.le_of_ble_eq_true rfl)⟩) (pr_SV (q := (RX5, TX5, 7)) 5 0 hK hPc rfl rfl) rfl rfl hl.1 rfl (lv_room (Nat.le_of_ble_eq_true rfl)) dX5_seenBelow_28 ⟨(Nat.le_of_ble_eq_true rfl), (Nat.le_of_ble_eq_true rfl)⟩) (fun r_28 h_28 => ?_)
        clear h_28
        refine lv_i2l hx hb dX5_seenBelow_31 rfl ?_
        refine lv_topl (fun z_31 e_31 => ?_)
        refine lv_lmul hx hb dX5_seenBelow_32 ?_
        refine lv_topl (fun z_32 e_32 => ?_)
        refine lv_ldc2 hx hb hown (hg _ kw_26) dX5_seenBelow_33 ?_
        refine lv_lmul hx hb dX5_seenBelow_36 ?_
        refine lv_topl (fun z_36 e_36 => ?_)
        refine lv_ladd hx hb dX5_seenBelow_37 ?_
        refine lv_topl (fun z_37 e_37 => ?_)
        refine lv_lstore_n (lv' := [(3, .long z_37), (0, .ref aq), (1, .int (nI pe)), (2, .int sg), (5, .int (nI k))]) hx hb dX5_seenBelow_38 rfl hl (by decide) rfl (fun ls hl => ?_)
        refine lv_iinc (v := (nI (k + 1))) (lv' := [(5, .int (nI (k + 1))), (3, .long z_37), (0, .ref aq), (1, .int (nI pe)), (2, .int sg)]) hx hb dX5_seenBelow_39 hl (k := 4) rfl (nI_add k 1) (by decide) rfl (fun ls hl => ?_)
        refine lv_goto (tgt := 5) hx hb dX5_seenBelow_42 (by decide) ?_
        exact ih5 z_37 (k + 1) (by omega) (by omega) ls (lv_sub hl [2, 3, 4, 1, 0] rfl)
  exact LOOP5 (C - 0 + 1) 0 0 (by omega) (Nat.lt_succ_self _) ls (lv_sub hl [2, 3, 4, 1, 0] rfl)

theorem dX5_seenAbove_0 : decode cX5_seenAbove 0 = .ok (.lconst 0, 1) := by decide +kernel
theorem dX5_seenAbove_1 : decode cX5_seenAbove 1 = .ok (.lstore 4, 2) := by decide +kernel
theorem dX5_seenAbove_3 : decode cX5_seenAbove 3 = .ok (.iconst 0, 1) := by decide +kernel
theorem dX5_seenAbove_4 : decode cX5_seenAbove 4 = .ok (.istore 6, 2) := by decide +kernel
theorem dX5_seenAbove_6 : decode cX5_seenAbove 6 = .ok (.iload 6, 2) := by decide +kernel
theorem dX5_seenAbove_8 : decode cX5_seenAbove 8 = .ok (.aload_n 0, 1) := by decide +kernel
theorem dX5_seenAbove_9 : decode cX5_seenAbove 9 = .ok (.getfield 33, 3) := by decide +kernel
theorem dX5_seenAbove_12 : decode cX5_seenAbove 12 = .ok (.if_icmp .ge 43, 3) := by decide +kernel
theorem dX5_seenAbove_15 : decode cX5_seenAbove 15 = .ok (.lload 4, 2) := by decide +kernel
theorem dX5_seenAbove_17 : decode cX5_seenAbove 17 = .ok (.aload_n 0, 1) := by decide +kernel
theorem dX5_seenAbove_18 : decode cX5_seenAbove 18 = .ok (.getfield 9, 3) := by decide +kernel
theorem dX5_seenAbove_21 : decode cX5_seenAbove 21 = .ok (.iload 6, 2) := by decide +kernel
theorem dX5_seenAbove_23 : decode cX5_seenAbove 23 = .ok (.iaload, 1) := by decide +kernel
theorem dX5_seenAbove_24 : decode cX5_seenAbove 24 = .ok (.i2l, 1) := by decide +kernel
theorem dX5_seenAbove_25 : decode cX5_seenAbove 25 = .ok (.aload_n 0, 1) := by decide +kernel
theorem dX5_seenAbove_26 : decode cX5_seenAbove 26 = .ok (.iload 6, 2) := by decide +kernel
theorem dX5_seenAbove_28 : decode cX5_seenAbove 28 = .ok (.iload_n 1, 1) := by decide +kernel
theorem dX5_seenAbove_29 : decode cX5_seenAbove 29 = .ok (.iload_n 2, 1) := by decide +kernel
theorem dX5_seenAbove_30 : decode cX5_seenAbove 30 = .ok (.invokevirtual 57, 3) := by decide +kernel
theorem dX5_seenAbove_33 : decode cX5_seenAbove 33 = .ok (.i2l, 1) := by decide +kernel
theorem dX5_seenAbove_34 : decode cX5_seenAbove 34 = .ok (.lmul, 1) := by decide +kernel
theorem dX5_seenAbove_35 : decode cX5_seenAbove 35 = .ok (.aload_n 0, 1) := by decide +kernel
theorem dX5_seenAbove_36 : decode cX5_seenAbove 36 = .ok (.getfield 17, 3) := by decide +kernel
theorem dX5_seenAbove_39 : decode cX5_seenAbove 39 = .ok (.iload 6, 2) := by decide +kernel
theorem dX5_seenAbove_41 : decode cX5_seenAbove 41 = .ok (.aaload, 1) := by decide +kernel
theorem dX5_seenAbove_42 : decode cX5_seenAbove 42 = .ok (.iload_n 3, 1) := by decide +kernel
theorem dX5_seenAbove_43 : decode cX5_seenAbove 43 = .ok (.iaload, 1) := by decide +kernel
theorem dX5_seenAbove_44 : decode cX5_seenAbove 44 = .ok (.i2l, 1) := by decide +kernel
theorem dX5_seenAbove_45 : decode cX5_seenAbove 45 = .ok (.lmul, 1) := by decide +kernel
theorem dX5_seenAbove_46 : decode cX5_seenAbove 46 = .ok (.ladd, 1) := by decide +kernel
theorem dX5_seenAbove_47 : decode cX5_seenAbove 47 = .ok (.lstore 4, 2) := by decide +kernel
theorem dX5_seenAbove_49 : decode cX5_seenAbove 49 = .ok (.iinc 6 1, 3) := by decide +kernel
theorem dX5_seenAbove_52 : decode cX5_seenAbove 52 = .ok (.goto (-46), 3) := by decide +kernel
theorem dX5_seenAbove_55 : decode cX5_seenAbove 55 = .ok (.lload 4, 2) := by decide +kernel
theorem dX5_seenAbove_57 : decode cX5_seenAbove 57 = .ok (.lreturn, 1) := by decide +kernel

set_option maxHeartbeats 4000000 in
set_option maxRecDepth 100000 in
theorem q_seenAbove (l : Launch) (D : va_G) (cs : Nat → ClassId) (aq : Nat) (aw : Nat) (ac : Nat) (ao : Nat) (am : Nat) (C : Nat) (hC5 : C ≤ 5) (P : Nat) (hP4 : P ≤ 4) (tot : Int64) (ar : Nat → Nat) (far : Nat → Nat → Int32) (faw : Nat → Int32) (pe : Nat) (hpe : pe < P) (sg : Int32) (po : Nat) (hpo : po < P) : Met l yX5_seenAbove (Cond.code yX5_seenAbove cX5_seenAbove 7 (some .long) :: gw_tbl) ({ frames := 1, cells := 0, slots := 0, locals := 23 }) (pc_S D cs [(aq, .inr (5, [.ref aw, .ref ac, .ref ao, .ref am, .int (nI C), .int (nI P), .long tot])), (aw, .inl (cs 0, 5, .inl faw)), (ac, .inl (cs 4, 5, .inr (.inr (.inr (.inr (rowsF 5 ar)))))), ((ar 0), .inl (cs 0, 4, .inl (far 0))), ((ar 1), .inl (cs 0, 4, .inl (far 1))), ((ar 2), .inl (cs 0, 4, .inl (far 2))), ((ar 3), .inl (cs 0, 4, .inl (far 3))), ((ar 4), .inl (cs 0, 4, .inl (far 4)))] [.ref aq, .int (nI pe), .int sg, .int (nI po)]) (vp_Sl (fun r => True)) 0 0 (fun _ => False) := by
  refine Met.ofW (cc := cX5_seenAbove) (maxL := 7) (ret := (some .long)) (by decide) rfl ?_
  intro p e s m args below meth c s₁ B hml hv
  obtain ⟨hargs, hP, hK⟩ := hv
  have hx := B.exec
  have hb := B.bytes
  have hr := B.returns
  have hts := atoms_spec (ws := Cond.code yX5_seenAbove cX5_seenAbove 7 (some .long) :: gw_tbl) B.pre
  have hg := fun (w : Cond) (h : w ∈ gw_tbl) => hts w (List.mem_cons_of_mem _ h)
  have hown : s.vm.findClass RX5 = some m.cls := findClass_of_methodNamed B.named
  have hlocks := B.notSynchronized
  have hl := lv_entry ([.ref aq, .int (nI pe), .int sg, .int (nI po)]) (n := 7) (Nat.le_of_ble_eq_true rfl)
  rw [show entryFrame m args 7 = F0 m 0 (lg_sl ([.ref aq, .int (nI pe), .int sg, .int (nI po)]) ++ List.replicate (7 - (lg_sl ([.ref aq, .int (nI pe), .int sg, .int (nI po)])).length) Slot.unset).toArray [] from by rw [hargs]; exact lg_entry_eq ..]
  generalize (lg_sl ([.ref aq, .int (nI pe), .int sg, .int (nI po)]) ++ List.replicate (7 - (lg_sl ([.ref aq, .int (nI pe), .int sg, .int (nI po)])).length) Slot.unset).toArray = ls at hl ⊢
  have hl : lv_has ls 7 [(0, .ref aq), (1, .int (nI pe)), (2, .int sg), (3, .int (nI po))] := hl
  refine W_genQ (fun Q hQ => ?_)
  have hlm := lim_le hP4
  have hlq := lim_pos P
  have hsg := sgn_le hP4
  refine lv_lconst (v := 0) hx hb dX5_seenAbove_0 (by decide) ?_
  refine lv_lstore (lv' := [(4, .long 0), (0, .ref aq), (1, .int (nI pe)), (2, .int sg), (3, .int (nI po))]) hx hb dX5_seenAbove_1 hl (by decide) rfl (fun ls hl => ?_)
  refine lv_iconst (v := 0) hx hb dX5_seenAbove_3 (by decide) ?_
  refine lv_istore (lv' := [(6, .int 0), (4, .long 0), (0, .ref aq), (1, .int (nI pe)), (2, .int sg), (3, .int (nI po))]) hx hb dX5_seenAbove_4 hl (by decide) rfl (fun ls hl => ?_)
  have LOOP6 : ∀ (n6 : Nat) (u4_6 : Int64) (k : Nat), k ≤ C → C - k < n6 → ∀ (ls : Array Slot), lv_has ls 7 [(0, .ref aq), (1, .int (nI pe)), (2, .int sg), (3, .int (nI po)), (4, .long u4_6), (6, .int (nI k))] → W p l e ({ frames := 1, cells := 0, slots := 0, locals := 23 } : Room) s m args below meth c s.heap [] 0 0 Q (F0 m 6 ls []) := by
    intro n6
    induction n6 with
    | zero =>
      intro u4_6 k hk hn6 ls hl
      exact absurd hn6 (Nat.not_lt_zero _)
    | succ n6 ih6 =>
      intro u4_6 k hk hn6 ls hl
      refine lv_iload hx hb dX5_seenAbove_6 (lv_at hl 5 rfl) ?_
      refine lv_aload_n hx hb dX5_seenAbove_8 rfl (lv_at hl 0 rfl) ?_
      refine va_get (D := D) (ci := 5) (v := .int (nI C)) (C := RX5) (T := TX5) (N := 7) hx hb hg gwX5 hown hK hP 0 rfl rfl 4 (by decide) (hg _ kw_13) (fun _ h9 => h9) rfl dX5_seenAbove_9 ?_
      refine lv_icmp_ge (tgt := 55) hx hb dX5_seenAbove_12 (by decide) (fun c_12 => ?_) (fun c_12 => ?_)
      · have n_12 : C ≤ k := b_le_t (by omega) (by omega) c_12
        refine lv_lload hx hb dX5_seenAbove_55 (lv_at hl 4 rfl) ?_
        refine W_sQ hQ ?_
        exact W.lret (v := u4_6) hx hb hr (fun t ht hW => ⟨u4_6, rfl, trivial, ht⟩) (fun _ h => absurd h List.not_mem_nil) dX5_seenAbove_57
      · have n_12 : k < C := b_le_f (by omega) (by omega) c_12
        refine lv_lload hx hb dX5_seenAbove_15 (lv_at hl 4 rfl) ?_
        refine lv_aload_n hx hb dX5_seenAbove_17 rfl (lv_at hl 0 rfl) ?_
        refine va_get (D := D) (ci := 5) (v := .ref aw) (C := RX5) (T := TX5) (N := 7) hx hb hg gwX5 hown hK hP 0 rfl rfl 0 (by decide) (hg _ kw_21) (fun _ h9 => h9) rfl dX5_seenAbove_18 ?_
        refine lv_iload hx hb dX5_seenAbove_21 (lv_at hl 5 rfl) ?_
        refine va_iald hx hb hK hP 1 0 rfl rfl (vp_in_nI (show k < 5 by omega) (by decide)) dX5_seenAbove_23 ?_
        refine lv_topi (fun z_23 e_23 => ?_)
        refine lv_i2l hx hb dX5_seenAbove_24 rfl ?_
        refine lv_topl (fun z_24 e_24 => ?_)
        refine lv_aload_n hx hb dX5_seenAbove_25 rfl (lv_at hl 0 rfl) ?_
        refine lv_iload hx hb dX5_seenAbove_26 (lv_at hl 5 rfl) ?_
        refine lv_iload_n hx hb dX5_seenAbove_28 rfl (lv_at hl 1 rfl) ?_
        refine lv_iload_n hx hb dX5_seenAbove_29 rfl (lv_at hl 2 rfl) ?_
        have hPc := hP.sub (ws' := [(aq, .inr (5, [.ref aw, .ref ac, .ref ao, .ref am, .int (nI C), .int (nI P), .long tot])), (ac, .inl (cs 4, 5, .inr (.inr (.inr (.inr (rowsF 5 ar)))))), ((ar 0), .inl (cs 0, 4, .inl (far 0))), ((ar 1), .inl (cs 0, 4, .inl (far 1))), ((ar 2), .inl (cs 0, 4, .inl (far 2))), ((ar 3), .inl (cs 0, 4, .inl (far 3))), ((ar 4), .inl (cs 0, 4, .inl (far 4)))]) [0, 2, 3, 4, 5, 6, 7] rfl
        refine vp_callSi (W.runV (As := [.int (nI k), .int (nI pe), .int sg]) (rest := [.long z_24, .long u4_6]) ⟨hx, hb, hml, hown, hg⟩ (q_likely l D cs aq aw ac ao am C (by omega) P (by omega) tot ar far k pe (by omega) (by omega) sg) (cwV 3 hg (gw_V kw_23 kw_24 kw_25 kw_19 kw_22) rfl rfl rfl (by decide +kernel) ⟨(Nat.le_of_ble_eq_true rfl), (Nat.le_of_ble_eq_true rfl)⟩) (pr_SV (q := (RX5, TX5, 7)) 5 0 hK hPc rfl rfl) rfl rfl hl.1 rfl (lv_room (Nat.le_of_ble_eq_true rfl)) dX5_seenAbove_30 ⟨(Nat.le_of_ble_eq_true rfl), (Nat.le_of_ble_eq_true rfl)⟩) (fun r_30 h_30 => ?_)
        clear h_30
        refine lv_i2l hx hb dX5_seenAbove_33 rfl ?_
        refine lv_topl (fun z_33 e_33 => ?_)
        refine lv_lmul hx hb dX5_seenAbove_34 ?_
        refine lv_topl (fun z_34 e_34 => ?_)
        refine lv_aload_n hx hb dX5_seenAbove_35 rfl (lv_at hl 0 rfl) ?_
        refine va_get (D := D) (ci := 5) (v := .ref ac) (C := RX5) (T := TX5) (N := 7) hx hb hg gwX5 hown hK hP 0 rfl rfl 1 (by decide) (hg _ kw_20) (fun _ h9 => h9) rfl dX5_seenAbove_36 ?_
        refine lv_iload hx hb dX5_seenAbove_39 (lv_at hl 5 rfl) ?_
        refine va_aldR (k := k) hx hb hK hP 2 4 rfl rfl (show k < 5 by omega) (by decide) dX5_seenAbove_41 ?_
        refine lv_iload_n hx hb dX5_seenAbove_42 rfl (lv_at hl 3 rfl) ?_
        refine va_iald hx hb hK hP (3 + k) 0 (rat_5 (g := fun j9 => (ar j9, .inl (cs 0, 4, .inl (far j9)))) (show k < 5 by omega) ⟨rfl, rfl, rfl, rfl, rfl⟩) rfl (vp_in_nI (show po < 4 by omega) (by decide)) dX5_seenAbove_43 ?_
        refine lv_topi (fun z_43 e_43 => ?_)
        refine lv_i2l hx hb dX5_seenAbove_44 rfl ?_
        refine lv_topl (fun z_44 e_44 => ?_)
        refine lv_lmul hx hb dX5_seenAbove_45 ?_
        refine lv_topl (fun z_45 e_45 => ?_)
        refine lv_ladd hx hb dX5_seenAbove_46 ?_
        refine lv_topl (fun z_46 e_46 => ?_)
        refine lv_lstore (lv' := [(4, .long z_46), (0, .ref aq), (1, .int (nI pe)), (2, .int sg), (3, .int (nI po)), (6, .int (nI k))]) hx hb dX5_seenAbove_47 hl (by decide) rfl (fun ls hl => ?_)
        refine lv_iinc (v := (nI (k + 1))) (lv' := [(6, .int (nI (k + 1))), (4, .long z_46), (0, .ref aq), (1, .int (nI pe)), (2, .int sg), (3, .int (nI po))]) hx hb dX5_seenAbove_49 hl (k := 5) rfl (nI_add k 1) (by decide) rfl (fun ls hl => ?_)
        refine lv_goto (tgt := 6) hx hb dX5_seenAbove_52 (by decide) ?_
        exact ih6 z_46 (k + 1) (by omega) (by omega) ls (lv_sub hl [2, 3, 4, 5, 1, 0] rfl)
  exact LOOP6 (C - 0 + 1) 0 0 (by omega) (Nat.lt_succ_self _) ls (lv_sub hl [2, 3, 4, 5, 1, 0] rfl)

theorem dX5_fillMass_0 : decode cX5_fillMass 0 = .ok (.aload_n 0, 1) := by decide +kernel
theorem dX5_fillMass_1 : decode cX5_fillMass 1 = .ok (.invokevirtual 54, 3) := by decide +kernel
theorem dX5_fillMass_4 : decode cX5_fillMass 4 = .ok (.istore_n 2, 1) := by decide +kernel
theorem dX5_fillMass_5 : decode cX5_fillMass 5 = .ok (.iconst 0, 1) := by decide +kernel
theorem dX5_fillMass_6 : decode cX5_fillMass 6 = .ok (.istore_n 3, 1) := by decide +kernel
theorem dX5_fillMass_7 : decode cX5_fillMass 7 = .ok (.iload_n 3, 1) := by decide +kernel
theorem dX5_fillMass_8 : decode cX5_fillMass 8 = .ok (.iload_n 2, 1) := by decide +kernel
theorem dX5_fillMass_9 : decode cX5_fillMass 9 = .ok (.if_icmp .ge 90, 3) := by decide +kernel
theorem dX5_fillMass_12 : decode cX5_fillMass 12 = .ok (.lconst 0, 1) := by decide +kernel
theorem dX5_fillMass_13 : decode cX5_fillMass 13 = .ok (.lstore 4, 2) := by decide +kernel
theorem dX5_fillMass_15 : decode cX5_fillMass 15 = .ok (.iconst 0, 1) := by decide +kernel
theorem dX5_fillMass_16 : decode cX5_fillMass 16 = .ok (.istore 6, 2) := by decide +kernel
theorem dX5_fillMass_18 : decode cX5_fillMass 18 = .ok (.iload 6, 2) := by decide +kernel
theorem dX5_fillMass_20 : decode cX5_fillMass 20 = .ok (.aload_n 0, 1) := by decide +kernel
theorem dX5_fillMass_21 : decode cX5_fillMass 21 = .ok (.getfield 33, 3) := by decide +kernel
theorem dX5_fillMass_24 : decode cX5_fillMass 24 = .ok (.if_icmp .ge 64, 3) := by decide +kernel
theorem dX5_fillMass_27 : decode cX5_fillMass 27 = .ok (.aload_n 0, 1) := by decide +kernel
theorem dX5_fillMass_28 : decode cX5_fillMass 28 = .ok (.getfield 9, 3) := by decide +kernel
theorem dX5_fillMass_31 : decode cX5_fillMass 31 = .ok (.iload 6, 2) := by decide +kernel
theorem dX5_fillMass_33 : decode cX5_fillMass 33 = .ok (.iaload, 1) := by decide +kernel
theorem dX5_fillMass_34 : decode cX5_fillMass 34 = .ok (.i2l, 1) := by decide +kernel
theorem dX5_fillMass_35 : decode cX5_fillMass 35 = .ok (.lstore 7, 2) := by decide +kernel
theorem dX5_fillMass_37 : decode cX5_fillMass 37 = .ok (.iconst 0, 1) := by decide +kernel
theorem dX5_fillMass_38 : decode cX5_fillMass 38 = .ok (.istore 9, 2) := by decide +kernel
theorem dX5_fillMass_40 : decode cX5_fillMass 40 = .ok (.iload 9, 2) := by decide +kernel
theorem dX5_fillMass_42 : decode cX5_fillMass 42 = .ok (.aload_n 0, 1) := by decide +kernel
theorem dX5_fillMass_43 : decode cX5_fillMass 43 = .ok (.getfield 37, 3) := by decide +kernel
theorem dX5_fillMass_46 : decode cX5_fillMass 46 = .ok (.if_icmp .ge 29, 3) := by decide +kernel
theorem dX5_fillMass_49 : decode cX5_fillMass 49 = .ok (.lload 7, 2) := by decide +kernel
theorem dX5_fillMass_51 : decode cX5_fillMass 51 = .ok (.aload_n 0, 1) := by decide +kernel
theorem dX5_fillMass_52 : decode cX5_fillMass 52 = .ok (.iload 6, 2) := by decide +kernel
theorem dX5_fillMass_54 : decode cX5_fillMass 54 = .ok (.iload 9, 2) := by decide +kernel
theorem dX5_fillMass_56 : decode cX5_fillMass 56 = .ok (.iload_n 3, 1) := by decide +kernel
theorem dX5_fillMass_57 : decode cX5_fillMass 57 = .ok (.iload 9, 2) := by decide +kernel
theorem dX5_fillMass_59 : decode cX5_fillMass 59 = .ok (.ishr, 1) := by decide +kernel
theorem dX5_fillMass_60 : decode cX5_fillMass 60 = .ok (.iconst 1, 1) := by decide +kernel
theorem dX5_fillMass_61 : decode cX5_fillMass 61 = .ok (.iand, 1) := by decide +kernel
theorem dX5_fillMass_62 : decode cX5_fillMass 62 = .ok (.invokevirtual 57, 3) := by decide +kernel
theorem dX5_fillMass_65 : decode cX5_fillMass 65 = .ok (.i2l, 1) := by decide +kernel
theorem dX5_fillMass_66 : decode cX5_fillMass 66 = .ok (.lmul, 1) := by decide +kernel
theorem dX5_fillMass_67 : decode cX5_fillMass 67 = .ok (.lstore 7, 2) := by decide +kernel
theorem dX5_fillMass_69 : decode cX5_fillMass 69 = .ok (.iinc 9 1, 3) := by decide +kernel
theorem dX5_fillMass_72 : decode cX5_fillMass 72 = .ok (.goto (-32), 3) := by decide +kernel
theorem dX5_fillMass_75 : decode cX5_fillMass 75 = .ok (.lload 4, 2) := by decide +kernel
theorem dX5_fillMass_77 : decode cX5_fillMass 77 = .ok (.lload 7, 2) := by decide +kernel
theorem dX5_fillMass_79 : decode cX5_fillMass 79 = .ok (.ladd, 1) := by decide +kernel
theorem dX5_fillMass_80 : decode cX5_fillMass 80 = .ok (.lstore 4, 2) := by decide +kernel
theorem dX5_fillMass_82 : decode cX5_fillMass 82 = .ok (.iinc 6 1, 3) := by decide +kernel
theorem dX5_fillMass_85 : decode cX5_fillMass 85 = .ok (.goto (-67), 3) := by decide +kernel
theorem dX5_fillMass_88 : decode cX5_fillMass 88 = .ok (.aload_n 1, 1) := by decide +kernel
theorem dX5_fillMass_89 : decode cX5_fillMass 89 = .ok (.iload_n 3, 1) := by decide +kernel
theorem dX5_fillMass_90 : decode cX5_fillMass 90 = .ok (.lload 4, 2) := by decide +kernel
theorem dX5_fillMass_92 : decode cX5_fillMass 92 = .ok (.lastore, 1) := by decide +kernel
theorem dX5_fillMass_93 : decode cX5_fillMass 93 = .ok (.iinc 3 1, 3) := by decide +kernel
theorem dX5_fillMass_96 : decode cX5_fillMass 96 = .ok (.goto (-89), 3) := by decide +kernel
theorem dX5_fillMass_99 : decode cX5_fillMass 99 = .ok (.return_, 1) := by decide +kernel
theorem kw_27 : (.code yX5_signLimit cX5_signLimit 1 (some .int) : Cond) ∈ gw_tbl := gw_in (by decide +kernel) (by decide +kernel)
theorem kw_28 : (.methodLink RX5 54 yX5_signLimit : Cond) ∈ gw_tbl := gw_in (by decide +kernel) (by decide +kernel)
theorem kw_29 : (.instanceMethod yX5_signLimit : Cond) ∈ gw_tbl := gw_in (by decide +kernel) (by decide +kernel)
theorem kw_30 : (.selects RX5 yX5_signLimit yX5_signLimit : Cond) ∈ gw_tbl := gw_in (by decide +kernel) (by decide +kernel)

set_option maxHeartbeats 4000000 in
set_option maxRecDepth 100000 in
theorem q_fillMass (l : Launch) (D : va_G) (cs : Nat → ClassId) (aq : Nat) (aw : Nat) (ac : Nat) (ao : Nat) (am : Nat) (C : Nat) (hC5 : C ≤ 5) (P : Nat) (hP4 : P ≤ 4) (tot : Int64) (ar : Nat → Nat) (far : Nat → Nat → Int32) (faw : Nat → Int32) (fl : Nat) (ffl : Nat → Int64) (sz : Nat) : Met l yX5_fillMass (Cond.code yX5_fillMass cX5_fillMass 10 none :: gw_tbl) ({ frames := 1, cells := 0, slots := 0, locals := 23 }) (pc_M D cs [(aq, .inr (5, [.ref aw, .ref ac, .ref ao, .ref am, .int (nI C), .int (nI P), .long tot])), (aw, .inl (cs 0, 5, .inl faw)), (ac, .inl (cs 4, 5, .inr (.inr (.inr (.inr (rowsF 5 ar)))))), ((ar 0), .inl (cs 0, 4, .inl (far 0))), ((ar 1), .inl (cs 0, 4, .inl (far 1))), ((ar 2), .inl (cs 0, 4, .inl (far 2))), ((ar 3), .inl (cs 0, 4, .inl (far 3))), ((ar 4), .inl (cs 0, 4, .inl (far 4))), (fl, .inl (cs 1, 16, .inr (.inl ffl)))] sz [.ref aq, .ref fl]) (va_Qv (fun (u : Unit) => True) (fun u t => ∃ (ffl2 : Nat → Int64), va_P D vwCl [(aq, .inr (5, [.ref aw, .ref ac, .ref ao, .ref am, .int (nI C), .int (nI P), .long tot])), (aw, .inl (cs 0, 5, .inl faw)), (ac, .inl (cs 4, 5, .inr (.inr (.inr (.inr (rowsF 5 ar)))))), ((ar 0), .inl (cs 0, 4, .inl (far 0))), ((ar 1), .inl (cs 0, 4, .inl (far 1))), ((ar 2), .inl (cs 0, 4, .inl (far 2))), ((ar 3), .inl (cs 0, 4, .inl (far 3))), ((ar 4), .inl (cs 0, 4, .inl (far 4))), (fl, .inl (cs 1, 16, .inr (.inl ffl2)))] t.heap ∧ va_D (va_A [(aq, .inr (5, [.ref aw, .ref ac, .ref ao, .ref am, .int (nI C), .int (nI P), .long tot])), (aw, .inl (cs 0, 5, .inl faw)), (ac, .inl (cs 4, 5, .inr (.inr (.inr (.inr (rowsF 5 ar)))))), ((ar 0), .inl (cs 0, 4, .inl (far 0))), ((ar 1), .inl (cs 0, 4, .inl (far 1))), ((ar 2), .inl (cs 0, 4, .inl (far 2))), ((ar 3), .inl (cs 0, 4, .inl (far 3))), ((ar 4), .inl (cs 0, 4, .inl (far 4))), (fl, .inl (cs 1, 16, .inr (.inl ffl)))] sz) [(aq, .inr (5, [.ref aw, .ref ac, .ref ao, .ref am, .int (nI C), .int (nI P), .long tot])), (aw, .inl (cs 0, 5, .inl faw)), (ac, .inl (cs 4, 5, .inr (.inr (.inr (.inr (rowsF 5 ar)))))), ((ar 0), .inl (cs 0, 4, .inl (far 0))), ((ar 1), .inl (cs 0, 4, .inl (far 1))), ((ar 2), .inl (cs 0, 4, .inl (far 2))), ((ar 3), .inl (cs 0, 4, .inl (far 3))), ((ar 4), .inl (cs 0, 4, .inl (far 4))), (fl, .inl (cs 1, 16, .inr (.inl ffl2)))]) (va_A [(aq, .inr (5, [.ref aw, .ref ac, .ref ao, .ref am, .int (nI C), .int (nI P), .long tot])), (aw, .inl (cs 0, 5, .inl faw)), (ac, .inl (cs 4, 5, .inr (.inr (.inr (.inr (rowsF 5 ar)))))), ((ar 0), .inl (cs 0, 4, .inl (far 0))), ((ar 1), .inl (cs 0, 4, .inl (far 1))), ((ar 2), .inl (cs 0, 4, .inl (far 2))), ((ar 3), .inl (cs 0, 4, .inl (far 3))), ((ar 4), .inl (cs 0, 4, .inl (far 4))), (fl, .inl (cs 1, 16, .inr (.inl ffl)))] sz)) 0 0 (va_A [(aq, .inr (5, [.ref aw, .ref ac, .ref ao, .ref am, .int (nI C), .int (nI P), .long tot])), (aw, .inl (cs 0, 5, .inl faw)), (ac, .inl (cs 4, 5, .inr (.inr (.inr (.inr (rowsF 5 ar)))))), ((ar 0), .inl (cs 0, 4, .inl (far 0))), ((ar 1), .inl (cs 0, 4, .inl (far 1))), ((ar 2), .inl (cs 0, 4, .inl (far 2))), ((ar 3), .inl (cs 0, 4, .inl (far 3))), ((ar 4), .inl (cs 0, 4, .inl (far 4))), (fl, .inl (cs 1, 16, .inr (.inl ffl)))] sz) := by
  refine Met.ofW (cc := cX5_fillMass) (maxL := 10) (ret := none) (by decide) rfl ?_
  intro p e s m args below meth c s₁ B hml hv
  obtain ⟨hargs, hsz, hP, hK, hD0⟩ := hv
  have hx := B.exec
  have hb := B.bytes
  have hr := B.returns
  have hts := atoms_spec (ws := Cond.code yX5_fillMass cX5_fillMass 10 none :: gw_tbl) B.pre
  have hg := fun (w : Cond) (h : w ∈ gw_tbl) => hts w (List.mem_cons_of_mem _ h)
  have hown : s.vm.findClass RX5 = some m.cls := findClass_of_methodNamed B.named
  have hlocks := B.notSynchronized
  subst hsz
  have hD := hD0.self (sz := s.heap.size)
  generalize hAe : va_A [(aq, .inr (5, [.ref aw, .ref ac, .ref ao, .ref am, .int (nI C), .int (nI P), .long tot])), (aw, .inl (cs 0, 5, .inl faw)), (ac, .inl (cs 4, 5, .inr (.inr (.inr (.inr (rowsF 5 ar)))))), ((ar 0), .inl (cs 0, 4, .inl (far 0))), ((ar 1), .inl (cs 0, 4, .inl (far 1))), ((ar 2), .inl (cs 0, 4, .inl (far 2))), ((ar 3), .inl (cs 0, 4, .inl (far 3))), ((ar 4), .inl (cs 0, 4, .inl (far 4))), (fl, .inl (cs 1, 16, .inr (.inl ffl)))] s.heap.size = A at hD ⊢
  have hA : ∀ q : Nat, s.heap.size ≤ q → A q := fun q h => by rw [← hAe]; exact Or.inr h
  have hS : va_S A s.heap s.heap [] := va_S.rf
  have hP : va_P D vwCl [(aq, .inr (5, [.ref aw, .ref ac, .ref ao, .ref am, .int (nI C), .int (nI P), .long tot])), (aw, .inl (cs 0, 5, .inl faw)), (ac, .inl (cs 4, 5, .inr (.inr (.inr (.inr (rowsF 5 ar)))))), ((ar 0), .inl (cs 0, 4, .inl (far 0))), ((ar 1), .inl (cs 0, 4, .inl (far 1))), ((ar 2), .inl (cs 0, 4, .inl (far 2))), ((ar 3), .inl (cs 0, 4, .inl (far 3))), ((ar 4), .inl (cs 0, 4, .inl (far 4))), (fl, .inl (cs 1, 16, .inr (.inl ffl)))] s.heap := hP
  have hl := lv_entry ([.ref aq, .ref fl]) (n := 10) (Nat.le_of_ble_eq_true rfl)
  rw [show entryFrame m args 10 = F0 m 0 (lg_sl ([.ref aq, .ref fl]) ++ List.replicate (10 - (lg_sl ([.ref aq, .ref fl])).length) Slot.unset).toArray [] from by rw [hargs]; exact lg_entry_eq ..]
  generalize (lg_sl ([.ref aq, .ref fl]) ++ List.replicate (10 - (lg_sl ([.ref aq, .ref fl])).length) Slot.unset).toArray = ls at hl ⊢
  have hl : lv_has ls 10 [(0, .ref aq), (1, .ref fl)] := hl
  refine W_genQ (fun Q hQ => ?_)
  have hlm := lim_le hP4
  have hlq := lim_pos P
  have hsg := sgn_le hP4
  refine lv_aload_n hx hb dX5_fillMass_0 rfl (lv_at hl 0 rfl) ?_
  have hPc := hP.sub (ws' := [(aq, .inr (5, [.ref aw, .ref ac, .ref ao, .ref am, .int (nI C), .int (nI P), .long tot]))]) [0] rfl
  refine vp_callSi (W.runV (As := []) (rest := []) ⟨hx, hb, hml, hown, hg⟩ (q_signLimit l D cs aq aw ac ao am C (by omega) P (by omega) tot) (cwV 0 hg (gw_V kw_28 kw_29 kw_30 kw_19 kw_27) rfl rfl rfl (by decide +kernel) ⟨(Nat.le_of_ble_eq_true rfl), (Nat.le_of_ble_eq_true rfl)⟩) (pr_SV (q := (RX5, TX5, 7)) 5 0 hK hPc rfl rfl) rfl rfl hl.1 rfl (lv_room (Nat.le_of_ble_eq_true rfl)) dX5_fillMass_1 ⟨(Nat.le_of_ble_eq_true rfl), (Nat.le_of_ble_eq_true rfl)⟩) (fun r_1 h_1 => ?_)
  obtain rfl : r_1 = nI (sgn P) := h_1
  refine lv_istore_n (lv' := [(2, .int (nI (sgn P))), (0, .ref aq), (1, .ref fl)]) hx hb dX5_fillMass_4 rfl hl (by decide) rfl (fun ls hl => ?_)
  refine lv_iconst (v := 0) hx hb dX5_fillMass_5 (by decide) ?_
  refine lv_istore_n (lv' := [(3, .int 0), (2, .int (nI (sgn P))), (0, .ref aq), (1, .ref fl)]) hx hb dX5_fillMass_6 rfl hl (by decide) rfl (fun ls hl => ?_)
  have LOOP7 : ∀ (n7 : Nat) (sg : Nat) (ffl_7 : Nat → Int64), sg ≤ sgn P → sgn P - sg < n7 → ∀ (H : Heap) (locs : List Loc) (ls : Array Slot), va_P D vwCl [(aq, .inr (5, [.ref aw, .ref ac, .ref ao, .ref am, .int (nI C), .int (nI P), .long tot])), (aw, .inl (cs 0, 5, .inl faw)), (ac, .inl (cs 4, 5, .inr (.inr (.inr (.inr (rowsF 5 ar)))))), ((ar 0), .inl (cs 0, 4, .inl (far 0))), ((ar 1), .inl (cs 0, 4, .inl (far 1))), ((ar 2), .inl (cs 0, 4, .inl (far 2))), ((ar 3), .inl (cs 0, 4, .inl (far 3))), ((ar 4), .inl (cs 0, 4, .inl (far 4))), (fl, .inl (cs 1, 16, .inr (.inl ffl_7)))] H → va_D A [(aq, .inr (5, [.ref aw, .ref ac, .ref ao, .ref am, .int (nI C), .int (nI P), .long tot])), (aw, .inl (cs 0, 5, .inl faw)), (ac, .inl (cs 4, 5, .inr (.inr (.inr (.inr (rowsF 5 ar)))))), ((ar 0), .inl (cs 0, 4, .inl (far 0))), ((ar 1), .inl (cs 0, 4, .inl (far 1))), ((ar 2), .inl (cs 0, 4, .inl (far 2))), ((ar 3), .inl (cs 0, 4, .inl (far 3))), ((ar 4), .inl (cs 0, 4, .inl (far 4))), (fl, .inl (cs 1, 16, .inr (.inl ffl_7)))] → va_S A s.heap H locs → lv_has ls 10 [(0, .ref aq), (1, .ref fl), (2, .int (nI (sgn P))), (3, .int (nI sg))] → W p l e ({ frames := 1, cells := 0, slots := 0, locals := 23 } : Room) s m args below meth c H locs 0 0 Q (F0 m 7 ls []) := by
    intro n7
    induction n7 with
    | zero =>
      intro sg ffl_7 hsg2 hn7 H locs ls hP hD hS hl
      exact absurd hn7 (Nat.not_lt_zero _)
    | succ n7 ih7 =>
      intro sg ffl_7 hsg2 hn7 H locs ls hP hD hS hl
      refine lv_iload_n hx hb dX5_fillMass_7 rfl (lv_at hl 3 rfl) ?_
      refine lv_iload_n hx hb dX5_fillMass_8 rfl (lv_at hl 2 rfl) ?_
      refine lv_icmp_ge (tgt := 99) hx hb dX5_fillMass_9 (by decide) (fun c_9 => ?_) (fun c_9 => ?_)
      · have n_9 : sgn P ≤ sg := b_le_t (by omega) (by omega) c_9
        refine W_sQ hQ ?_
        refine W.widen (k := 0) (n := 0) (Nat.le_of_ble_eq_true rfl) (Nat.le_of_ble_eq_true rfl) ?_
        have hP9 := hP.sub (ws' := [(aq, .inr (5, [.ref aw, .ref ac, .ref ao, .ref am, .int (nI C), .int (nI P), .long tot])), (aw, .inl (cs 0, 5, .inl faw)), (ac, .inl (cs 4, 5, .inr (.inr (.inr (.inr (rowsF 5 ar)))))), ((ar 0), .inl (cs 0, 4, .inl (far 0))), ((ar 1), .inl (cs 0, 4, .inl (far 1))), ((ar 2), .inl (cs 0, 4, .inl (far 2))), ((ar 3), .inl (cs 0, 4, .inl (far 3))), ((ar 4), .inl (cs 0, 4, .inl (far 4))), (fl, .inl (cs 1, 16, .inr (.inl ffl_7)))]) [0, 1, 2, 3, 4, 5, 6, 7, 8] rfl
        have hD9 := hD.sub (ws' := [(aq, .inr (5, [.ref aw, .ref ac, .ref ao, .ref am, .int (nI C), .int (nI P), .long tot])), (aw, .inl (cs 0, 5, .inl faw)), (ac, .inl (cs 4, 5, .inr (.inr (.inr (.inr (rowsF 5 ar)))))), ((ar 0), .inl (cs 0, 4, .inl (far 0))), ((ar 1), .inl (cs 0, 4, .inl (far 1))), ((ar 2), .inl (cs 0, 4, .inl (far 2))), ((ar 3), .inl (cs 0, 4, .inl (far 3))), ((ar 4), .inl (cs 0, 4, .inl (far 4))), (fl, .inl (cs 1, 16, .inr (.inl ffl_7)))]) [0, 1, 2, 3, 4, 5, 6, 7, 8] (by decide) rfl
        exact W.vret hx hb hr (fun t ht hW => ⟨⟨(), rfl, trivial, ⟨ffl_7, by rw [ht]; exact hP9, hD9⟩⟩, hS.F ht⟩) hS.2.2 dX5_fillMass_99
      · have n_9 : sg < sgn P := b_le_f (by omega) (by omega) c_9
        refine lv_lconst (v := 0) hx hb dX5_fillMass_12 (by decide) ?_
        refine lv_lstore (lv' := [(4, .long 0), (0, .ref aq), (1, .ref fl), (2, .int (nI (sgn P))), (3, .int (nI sg))]) hx hb dX5_fillMass_13 hl (by decide) rfl (fun ls hl => ?_)
        refine lv_iconst (v := 0) hx hb dX5_fillMass_15 (by decide) ?_
        refine lv_istore (lv' := [(6, .int 0), (4, .long 0), (0, .ref aq), (1, .ref fl), (2, .int (nI (sgn P))), (3, .int (nI sg))]) hx hb dX5_fillMass_16 hl (by decide) rfl (fun ls hl => ?_)
        have LOOP18 : ∀ (n18 : Nat) (u4_18 : Int64) (cx : Nat), cx ≤ C → C - cx < n18 → ∀ (H : Heap) (locs : List Loc) (ls : Array Slot), va_P D vwCl [(aq, .inr (5, [.ref aw, .ref ac, .ref ao, .ref am, .int (nI C), .int (nI P), .long tot])), (aw, .inl (cs 0, 5, .inl faw)), (ac, .inl (cs 4, 5, .inr (.inr (.inr (.inr (rowsF 5 ar)))))), ((ar 0), .inl (cs 0, 4, .inl (far 0))), ((ar 1), .inl (cs 0, 4, .inl (far 1))), ((ar 2), .inl (cs 0, 4, .inl (far 2))), ((ar 3), .inl (cs 0, 4, .inl (far 3))), ((ar 4), .inl (cs 0, 4, .inl (far 4))), (fl, .inl (cs 1, 16, .inr (.inl ffl_7)))] H → va_D A [(aq, .inr (5, [.ref aw, .ref ac, .ref ao, .ref am, .int (nI C), .int (nI P), .long tot])), (aw, .inl (cs 0, 5, .inl faw)), (ac, .inl (cs 4, 5, .inr (.inr (.inr (.inr (rowsF 5 ar)))))), ((ar 0), .inl (cs 0, 4, .inl (far 0))), ((ar 1), .inl (cs 0, 4, .inl (far 1))), ((ar 2), .inl (cs 0, 4, .inl (far 2))), ((ar 3), .inl (cs 0, 4, .inl (far 3))), ((ar 4), .inl (cs 0, 4, .inl (far 4))), (fl, .inl (cs 1, 16, .inr (.inl ffl_7)))] → va_S A s.heap H locs → lv_has ls 10 [(0, .ref aq), (1, .ref fl), (2, .int (nI (sgn P))), (3, .int (nI sg)), (4, .long u4_18), (6, .int (nI cx))] → W p l e ({ frames := 1, cells := 0, slots := 0, locals := 23 } : Room) s m args below meth c H locs 0 0 Q (F0 m 18 ls []) := by
          intro n18
          induction n18 with
          | zero =>
            intro u4_18 cx hcx hn18 H locs ls hP hD hS hl
            exact absurd hn18 (Nat.not_lt_zero _)
          | succ n18 ih18 =>
            intro u4_18 cx hcx hn18 H locs ls hP hD hS hl
            refine lv_iload hx hb dX5_fillMass_18 (lv_at hl 5 rfl) ?_
            refine lv_aload_n hx hb dX5_fillMass_20 rfl (lv_at hl 0 rfl) ?_
            refine va_get (D := D) (ci := 5) (v := .int (nI C)) (C := RX5) (T := TX5) (N := 7) hx hb hg gwX5 hown hK hP 0 rfl rfl 4 (by decide) (hg _ kw_13) (fun _ h9 => h9) rfl dX5_fillMass_21 ?_
            refine lv_icmp_ge (tgt := 88) hx hb dX5_fillMass_24 (by decide) (fun c_24 => ?_) (fun c_24 => ?_)
            · have n_24 : C ≤ cx := b_le_t (by omega) (by omega) c_24
              refine lv_aload_n hx hb dX5_fillMass_88 rfl (lv_at hl 1 rfl) ?_
              refine lv_iload_n hx hb dX5_fillMass_89 rfl (lv_at hl 3 rfl) ?_
              refine lv_lload hx hb dX5_fillMass_90 (lv_at hl 4 rfl) ?_
              refine va_last hx hb hK hP hD hS 8 1 rfl rfl (vp_in_nI (show sg < 16 by omega) (by decide)) dX5_fillMass_92 (fun H locs hP hD hS => ?_)
              obtain ⟨f_92, hf_92⟩ : ∃ f9, f9 = (vp_updL ffl_7 (nI sg).toNatClampNeg u4_18) := ⟨_, rfl⟩
              rw [← hf_92] at hP hD
              have hP : va_P D vwCl [(aq, .inr (5, [.ref aw, .ref ac, .ref ao, .ref am, .int (nI C), .int (nI P), .long tot])), (aw, .inl (cs 0, 5, .inl faw)), (ac, .inl (cs 4, 5, .inr (.inr (.inr (.inr (rowsF 5 ar)))))), ((ar 0), .inl (cs 0, 4, .inl (far 0))), ((ar 1), .inl (cs 0, 4, .inl (far 1))), ((ar 2), .inl (cs 0, 4, .inl (far 2))), ((ar 3), .inl (cs 0, 4, .inl (far 3))), ((ar 4), .inl (cs 0, 4, .inl (far 4))), (fl, .inl (cs 1, 16, .inr (.inl f_92)))] H := hP
              have hD : va_D A [(aq, .inr (5, [.ref aw, .ref ac, .ref ao, .ref am, .int (nI C), .int (nI P), .long tot])), (aw, .inl (cs 0, 5, .inl faw)), (ac, .inl (cs 4, 5, .inr (.inr (.inr (.inr (rowsF 5 ar)))))), ((ar 0), .inl (cs 0, 4, .inl (far 0))), ((ar 1), .inl (cs 0, 4, .inl (far 1))), ((ar 2), .inl (cs 0, 4, .inl (far 2))), ((ar 3), .inl (cs 0, 4, .inl (far 3))), ((ar 4), .inl (cs 0, 4, .inl (far 4))), (fl, .inl (cs 1, 16, .inr (.inl f_92)))] := hD
              refine lv_iinc (v := (nI (sg + 1))) (lv' := [(3, .int (nI (sg + 1))), (0, .ref aq), (1, .ref fl), (2, .int (nI (sgn P))), (4, .long u4_18), (6, .int (nI cx))]) hx hb dX5_fillMass_93 hl (k := 3) rfl (nI_add sg 1) (by decide) rfl (fun ls hl => ?_)
              refine lv_goto (tgt := 7) hx hb dX5_fillMass_96 (by decide) ?_
              exact ih7 (sg + 1) f_92 (by omega) (by omega) _ _ ls hP hD hS (lv_sub hl [1, 2, 3, 0] rfl)
            · have n_24 : cx < C := b_le_f (by omega) (by omega) c_24
              refine lv_aload_n hx hb dX5_fillMass_27 rfl (lv_at hl 0 rfl) ?_
              refine va_get (D := D) (ci := 5) (v := .ref aw) (C := RX5) (T := TX5) (N := 7) hx hb hg gwX5 hown hK hP 0 rfl rfl 0 (by decide) (hg _ kw_21) (fun _ h9 => h9) rfl dX5_fillMass_28 ?_
              refine lv_iload hx hb dX5_fillMass_31 (lv_at hl 5 rfl) ?_
              refine va_iald hx hb hK hP 1 0 rfl rfl (vp_in_nI (show cx < 5 by omega) (by decide)) dX5_fillMass_33 ?_
              refine lv_topi (fun z_33 e_33 => ?_)
              refine lv_i2l hx hb dX5_fillMass_34 rfl ?_
              refine lv_topl (fun z_34 e_34 => ?_)
              refine lv_lstore (lv' := [(7, .long z_34), (0, .ref aq), (1, .ref fl), (2, .int (nI (sgn P))), (3, .int (nI sg)), (4, .long u4_18), (6, .int (nI cx))]) hx hb dX5_fillMass_35 hl (by decide) rfl (fun ls hl => ?_)
              refine lv_iconst (v := 0) hx hb dX5_fillMass_37 (by decide) ?_
              refine lv_istore (lv' := [(9, .int 0), (7, .long z_34), (0, .ref aq), (1, .ref fl), (2, .int (nI (sgn P))), (3, .int (nI sg)), (4, .long u4_18), (6, .int (nI cx))]) hx hb dX5_fillMass_38 hl (by decide) rfl (fun ls hl => ?_)
              have LOOP40 : ∀ (n40 : Nat) (u7_40 : Int64) (pe : Nat), pe ≤ P → P - pe < n40 → ∀ (H : Heap) (locs : List Loc) (ls : Array Slot), va_P D vwCl [(aq, .inr (5, [.ref aw, .ref ac, .ref ao, .ref am, .int (nI C), .int (nI P), .long tot])), (aw, .inl (cs 0, 5, .inl faw)), (ac, .inl (cs 4, 5, .inr (.inr (.inr (.inr (rowsF 5 ar)))))), ((ar 0), .inl (cs 0, 4, .inl (far 0))), ((ar 1), .inl (cs 0, 4, .inl (far 1))), ((ar 2), .inl (cs 0, 4, .inl (far 2))), ((ar 3), .inl (cs 0, 4, .inl (far 3))), ((ar 4), .inl (cs 0, 4, .inl (far 4))), (fl, .inl (cs 1, 16, .inr (.inl ffl_7)))] H → va_D A [(aq, .inr (5, [.ref aw, .ref ac, .ref ao, .ref am, .int (nI C), .int (nI P), .long tot])), (aw, .inl (cs 0, 5, .inl faw)), (ac, .inl (cs 4, 5, .inr (.inr (.inr (.inr (rowsF 5 ar)))))), ((ar 0), .inl (cs 0, 4, .inl (far 0))), ((ar 1), .inl (cs 0, 4, .inl (far 1))), ((ar 2), .inl (cs 0, 4, .inl (far 2))), ((ar 3), .inl (cs 0, 4, .inl (far 3))), ((ar 4), .inl (cs 0, 4, .inl (far 4))), (fl, .inl (cs 1, 16, .inr (.inl ffl_7)))] → va_S A s.heap H locs → lv_has ls 10 [(0, .ref aq), (1, .ref fl), (2, .int (nI (sgn P))), (3, .int (nI sg)), (4, .long u4_18), (6, .int (nI cx)), (7, .long u7_40), (9, .int (nI pe))] → W p l e ({ frames := 1, cells := 0, slots := 0, locals := 23 } : Room) s m args below meth c H locs 0 0 Q (F0 m 40 ls []) := by
                intro n40
                induction n40 with
                | zero =>
                  intro u7_40 pe hpe hn40 H locs ls hP hD hS hl
                  exact absurd hn40 (Nat.not_lt_zero _)
                | succ n40 ih40 =>
                  intro u7_40 pe hpe hn40 H locs ls hP hD hS hl
                  refine lv_iload hx hb dX5_fillMass_40 (lv_at hl 7 rfl) ?_
                  refine lv_aload_n hx hb dX5_fillMass_42 rfl (lv_at hl 0 rfl) ?_
                  refine va_get (D := D) (ci := 5) (v := .int (nI P)) (C := RX5) (T := TX5) (N := 7) hx hb hg gwX5 hown hK hP 0 rfl rfl 5 (by decide) (hg _ kw_14) (fun _ h9 => h9) rfl dX5_fillMass_43 ?_
                  refine lv_icmp_ge (tgt := 75) hx hb dX5_fillMass_46 (by decide) (fun c_46 => ?_) (fun c_46 => ?_)
                  · have n_46 : P ≤ pe := b_le_t (by omega) (by omega) c_46
                    refine lv_lload hx hb dX5_fillMass_75 (lv_at hl 4 rfl) ?_
                    refine lv_lload hx hb dX5_fillMass_77 (lv_at hl 6 rfl) ?_
                    refine lv_ladd hx hb dX5_fillMass_79 ?_
                    refine lv_topl (fun z_79 e_79 => ?_)
                    refine lv_lstore (lv' := [(4, .long z_79), (0, .ref aq), (1, .ref fl), (2, .int (nI (sgn P))), (3, .int (nI sg)), (6, .int (nI cx)), (7, .long u7_40), (9, .int (nI pe))]) hx hb dX5_fillMass_80 hl (by decide) rfl (fun ls hl => ?_)
                    refine lv_iinc (v := (nI (cx + 1))) (lv' := [(6, .int (nI (cx + 1))), (4, .long z_79), (0, .ref aq), (1, .ref fl), (2, .int (nI (sgn P))), (3, .int (nI sg)), (7, .long u7_40), (9, .int (nI pe))]) hx hb dX5_fillMass_82 hl (k := 5) rfl (nI_add cx 1) (by decide) rfl (fun ls hl => ?_)
                    refine lv_goto (tgt := 18) hx hb dX5_fillMass_85 (by decide) ?_
                    exact ih18 z_79 (cx + 1) (by omega) (by omega) _ _ ls hP hD hS (lv_sub hl [2, 3, 4, 5, 1, 0] rfl)
                  · have n_46 : pe < P := b_le_f (by omega) (by omega) c_46
                    refine lv_lload hx hb dX5_fillMass_49 (lv_at hl 6 rfl) ?_
                    refine lv_aload_n hx hb dX5_fillMass_51 rfl (lv_at hl 0 rfl) ?_
                    refine lv_iload hx hb dX5_fillMass_52 (lv_at hl 5 rfl) ?_
                    refine lv_iload hx hb dX5_fillMass_54 (lv_at hl 7 rfl) ?_
                    refine lv_iload_n hx hb dX5_fillMass_56 rfl (lv_at hl 3 rfl) ?_
                    refine lv_iload hx hb dX5_fillMass_57 (lv_at hl 7 rfl) ?_
                    refine lv_ishr hx hb dX5_fillMass_59 ?_
                    refine lv_topi (fun z_59 e_59 => ?_)
                    refine lv_iconst (v := 1) hx hb dX5_fillMass_60 (by decide) ?_
                    refine lv_iand hx hb dX5_fillMass_61 ?_
                    refine lv_topi (fun z_61 e_61 => ?_)
                    obtain ⟨j_61, hj_61, ee_61⟩ := pk_andE z_59 (m := 1) 1 rfl
                    obtain rfl : z_61 = nI j_61 := e_61.trans ee_61
                    have hj_61 : j_61 < 2 := hj_61
                    have hPc := hP.sub (ws' := [(aq, .inr (5, [.ref aw, .ref ac, .ref ao, .ref am, .int (nI C), .int (nI P), .long tot])), (ac, .inl (cs 4, 5, .inr (.inr (.inr (.inr (rowsF 5 ar)))))), ((ar 0), .inl (cs 0, 4, .inl (far 0))), ((ar 1), .inl (cs 0, 4, .inl (far 1))), ((ar 2), .inl (cs 0, 4, .inl (far 2))), ((ar 3), .inl (cs 0, 4, .inl (far 3))), ((ar 4), .inl (cs 0, 4, .inl (far 4)))]) [0, 2, 3, 4, 5, 6, 7] rfl
                    refine vp_callSi (W.runV (As := [.int (nI cx), .int (nI pe), .int (nI j_61)]) (rest := [.long u7_40]) ⟨hx, hb, hml, hown, hg⟩ (q_likely l D cs aq aw ac ao am C (by omega) P (by omega) tot ar far cx pe (by omega) (by omega) (nI j_61)) (cwV 3 hg (gw_V kw_23 kw_24 kw_25 kw_19 kw_22) rfl rfl rfl (by decide +kernel) ⟨(Nat.le_of_ble_eq_true rfl), (Nat.le_of_ble_eq_true rfl)⟩) (pr_SV (q := (RX5, TX5, 7)) 5 0 hK hPc rfl rfl) rfl rfl hl.1 rfl (lv_room (Nat.le_of_ble_eq_true rfl)) dX5_fillMass_62 ⟨(Nat.le_of_ble_eq_true rfl), (Nat.le_of_ble_eq_true rfl)⟩) (fun r_62 h_62 => ?_)
                    clear h_62
                    refine lv_i2l hx hb dX5_fillMass_65 rfl ?_
                    refine lv_topl (fun z_65 e_65 => ?_)
                    refine lv_lmul hx hb dX5_fillMass_66 ?_
                    refine lv_topl (fun z_66 e_66 => ?_)
                    refine lv_lstore (lv' := [(7, .long z_66), (0, .ref aq), (1, .ref fl), (2, .int (nI (sgn P))), (3, .int (nI sg)), (4, .long u4_18), (6, .int (nI cx)), (9, .int (nI pe))]) hx hb dX5_fillMass_67 hl (by decide) rfl (fun ls hl => ?_)
                    refine lv_iinc (v := (nI (pe + 1))) (lv' := [(9, .int (nI (pe + 1))), (7, .long z_66), (0, .ref aq), (1, .ref fl), (2, .int (nI (sgn P))), (3, .int (nI sg)), (4, .long u4_18), (6, .int (nI cx))]) hx hb dX5_fillMass_69 hl (k := 7) rfl (nI_add pe 1) (by decide) rfl (fun ls hl => ?_)
                    refine lv_goto (tgt := 40) hx hb dX5_fillMass_72 (by decide) ?_
                    exact ih40 z_66 (pe + 1) (by omega) (by omega) _ _ ls hP hD hS (lv_sub hl [2, 3, 4, 5, 6, 7, 1, 0] rfl)
              exact LOOP40 (P - 0 + 1) z_34 0 (by omega) (Nat.lt_succ_self _) _ _ ls hP hD hS (lv_sub hl [2, 3, 4, 5, 6, 7, 1, 0] rfl)
        exact LOOP18 (C - 0 + 1) 0 0 (by omega) (Nat.lt_succ_self _) _ _ ls hP hD hS (lv_sub hl [2, 3, 4, 5, 1, 0] rfl)
  exact LOOP7 (sgn P - 0 + 1) 0 ffl (by omega) (Nat.lt_succ_self _) _ _ ls hP hD hS (lv_sub hl [2, 3, 1, 0] rfl)

theorem dX5_adopt_0 : decode cX5_adopt 0 = .ok (.aload_n 0, 1) := by decide +kernel
theorem dX5_adopt_1 : decode cX5_adopt 1 = .ok (.aload_n 1, 1) := by decide +kernel
theorem dX5_adopt_2 : decode cX5_adopt 2 = .ok (.getfield 27, 3) := by decide +kernel
theorem dX5_adopt_5 : decode cX5_adopt 5 = .ok (.putfield 33, 3) := by decide +kernel
theorem dX5_adopt_8 : decode cX5_adopt 8 = .ok (.aload_n 0, 1) := by decide +kernel
theorem dX5_adopt_9 : decode cX5_adopt 9 = .ok (.aload_n 1, 1) := by decide +kernel
theorem dX5_adopt_10 : decode cX5_adopt 10 = .ok (.getfield 34, 3) := by decide +kernel
theorem dX5_adopt_13 : decode cX5_adopt 13 = .ok (.putfield 37, 3) := by decide +kernel
theorem dX5_adopt_16 : decode cX5_adopt 16 = .ok (.aload_n 0, 1) := by decide +kernel
theorem dX5_adopt_17 : decode cX5_adopt 17 = .ok (.lconst 0, 1) := by decide +kernel
theorem dX5_adopt_18 : decode cX5_adopt 18 = .ok (.putfield 38, 3) := by decide +kernel
theorem dX5_adopt_21 : decode cX5_adopt 21 = .ok (.iconst 0, 1) := by decide +kernel
theorem dX5_adopt_22 : decode cX5_adopt 22 = .ok (.istore_n 2, 1) := by decide +kernel
theorem dX5_adopt_23 : decode cX5_adopt 23 = .ok (.iload_n 2, 1) := by decide +kernel
theorem dX5_adopt_24 : decode cX5_adopt 24 = .ok (.aload_n 0, 1) := by decide +kernel
theorem dX5_adopt_25 : decode cX5_adopt 25 = .ok (.getfield 33, 3) := by decide +kernel
theorem dX5_adopt_28 : decode cX5_adopt 28 = .ok (.if_icmp .ge 69, 3) := by decide +kernel
theorem dX5_adopt_31 : decode cX5_adopt 31 = .ok (.aload_n 0, 1) := by decide +kernel
theorem dX5_adopt_32 : decode cX5_adopt 32 = .ok (.getfield 9, 3) := by decide +kernel
theorem dX5_adopt_35 : decode cX5_adopt 35 = .ok (.iload_n 2, 1) := by decide +kernel
theorem dX5_adopt_36 : decode cX5_adopt 36 = .ok (.aload_n 1, 1) := by decide +kernel
theorem dX5_adopt_37 : decode cX5_adopt 37 = .ok (.getfield 42, 3) := by decide +kernel
theorem dX5_adopt_40 : decode cX5_adopt 40 = .ok (.iload_n 2, 1) := by decide +kernel
theorem dX5_adopt_41 : decode cX5_adopt 41 = .ok (.iaload, 1) := by decide +kernel
theorem dX5_adopt_42 : decode cX5_adopt 42 = .ok (.iastore, 1) := by decide +kernel
theorem dX5_adopt_43 : decode cX5_adopt 43 = .ok (.aload_n 0, 1) := by decide +kernel
theorem dX5_adopt_44 : decode cX5_adopt 44 = .ok (.dup, 1) := by decide +kernel
theorem dX5_adopt_45 : decode cX5_adopt 45 = .ok (.getfield 38, 3) := by decide +kernel
theorem dX5_adopt_48 : decode cX5_adopt 48 = .ok (.aload_n 0, 1) := by decide +kernel
theorem dX5_adopt_49 : decode cX5_adopt 49 = .ok (.getfield 9, 3) := by decide +kernel
theorem dX5_adopt_52 : decode cX5_adopt 52 = .ok (.iload_n 2, 1) := by decide +kernel
theorem dX5_adopt_53 : decode cX5_adopt 53 = .ok (.iaload, 1) := by decide +kernel
theorem dX5_adopt_54 : decode cX5_adopt 54 = .ok (.i2l, 1) := by decide +kernel
theorem dX5_adopt_55 : decode cX5_adopt 55 = .ok (.ladd, 1) := by decide +kernel
theorem dX5_adopt_56 : decode cX5_adopt 56 = .ok (.putfield 38, 3) := by decide +kernel
theorem dX5_adopt_59 : decode cX5_adopt 59 = .ok (.iconst 0, 1) := by decide +kernel
theorem dX5_adopt_60 : decode cX5_adopt 60 = .ok (.istore_n 3, 1) := by decide +kernel
theorem dX5_adopt_61 : decode cX5_adopt 61 = .ok (.iload_n 3, 1) := by decide +kernel
theorem dX5_adopt_62 : decode cX5_adopt 62 = .ok (.aload_n 0, 1) := by decide +kernel
theorem dX5_adopt_63 : decode cX5_adopt 63 = .ok (.getfield 37, 3) := by decide +kernel
theorem dX5_adopt_66 : decode cX5_adopt 66 = .ok (.if_icmp .ge 25, 3) := by decide +kernel
theorem dX5_adopt_69 : decode cX5_adopt 69 = .ok (.aload_n 0, 1) := by decide +kernel
theorem dX5_adopt_70 : decode cX5_adopt 70 = .ok (.getfield 17, 3) := by decide +kernel
theorem dX5_adopt_73 : decode cX5_adopt 73 = .ok (.iload_n 2, 1) := by decide +kernel
theorem dX5_adopt_74 : decode cX5_adopt 74 = .ok (.aaload, 1) := by decide +kernel
theorem dX5_adopt_75 : decode cX5_adopt 75 = .ok (.iload_n 3, 1) := by decide +kernel
theorem dX5_adopt_76 : decode cX5_adopt 76 = .ok (.aload_n 1, 1) := by decide +kernel
theorem dX5_adopt_77 : decode cX5_adopt 77 = .ok (.getfield 43, 3) := by decide +kernel
theorem dX5_adopt_80 : decode cX5_adopt 80 = .ok (.iload_n 2, 1) := by decide +kernel
theorem dX5_adopt_81 : decode cX5_adopt 81 = .ok (.aaload, 1) := by decide +kernel
theorem dX5_adopt_82 : decode cX5_adopt 82 = .ok (.iload_n 3, 1) := by decide +kernel
theorem dX5_adopt_83 : decode cX5_adopt 83 = .ok (.iaload, 1) := by decide +kernel
theorem dX5_adopt_84 : decode cX5_adopt 84 = .ok (.iastore, 1) := by decide +kernel
theorem dX5_adopt_85 : decode cX5_adopt 85 = .ok (.iinc 3 1, 3) := by decide +kernel
theorem dX5_adopt_88 : decode cX5_adopt 88 = .ok (.goto (-27), 3) := by decide +kernel
theorem dX5_adopt_91 : decode cX5_adopt 91 = .ok (.iinc 2 1, 3) := by decide +kernel
theorem dX5_adopt_94 : decode cX5_adopt 94 = .ok (.goto (-71), 3) := by decide +kernel
theorem dX5_adopt_97 : decode cX5_adopt 97 = .ok (.iconst 0, 1) := by decide +kernel
theorem dX5_adopt_98 : decode cX5_adopt 98 = .ok (.istore_n 2, 1) := by decide +kernel
theorem dX5_adopt_99 : decode cX5_adopt 99 = .ok (.iload_n 2, 1) := by decide +kernel
theorem dX5_adopt_100 : decode cX5_adopt 100 = .ok (.aload_n 0, 1) := by decide +kernel
theorem dX5_adopt_101 : decode cX5_adopt 101 = .ok (.getfield 37, 3) := by decide +kernel
theorem dX5_adopt_104 : decode cX5_adopt 104 = .ok (.if_icmp .ge 28, 3) := by decide +kernel
theorem dX5_adopt_107 : decode cX5_adopt 107 = .ok (.aload_n 0, 1) := by decide +kernel
theorem dX5_adopt_108 : decode cX5_adopt 108 = .ok (.getfield 20, 3) := by decide +kernel
theorem dX5_adopt_111 : decode cX5_adopt 111 = .ok (.iload_n 2, 1) := by decide +kernel
theorem dX5_adopt_112 : decode cX5_adopt 112 = .ok (.iconst 0, 1) := by decide +kernel
theorem dX5_adopt_113 : decode cX5_adopt 113 = .ok (.iastore, 1) := by decide +kernel
theorem dX5_adopt_114 : decode cX5_adopt 114 = .ok (.aload_n 0, 1) := by decide +kernel
theorem dX5_adopt_115 : decode cX5_adopt 115 = .ok (.dup, 1) := by decide +kernel
theorem dX5_adopt_116 : decode cX5_adopt 116 = .ok (.getfield 38, 3) := by decide +kernel
theorem dX5_adopt_119 : decode cX5_adopt 119 = .ok (.ldc2_w 44, 3) := by decide +kernel
theorem dX5_adopt_122 : decode cX5_adopt 122 = .ok (.lmul, 1) := by decide +kernel
theorem dX5_adopt_123 : decode cX5_adopt 123 = .ok (.putfield 38, 3) := by decide +kernel
theorem dX5_adopt_126 : decode cX5_adopt 126 = .ok (.iinc 2 1, 3) := by decide +kernel
theorem dX5_adopt_129 : decode cX5_adopt 129 = .ok (.goto (-30), 3) := by decide +kernel
theorem dX5_adopt_132 : decode cX5_adopt 132 = .ok (.aload_n 0, 1) := by decide +kernel
theorem dX5_adopt_133 : decode cX5_adopt 133 = .ok (.aload_n 0, 1) := by decide +kernel
theorem dX5_adopt_134 : decode cX5_adopt 134 = .ok (.getfield 23, 3) := by decide +kernel
theorem dX5_adopt_137 : decode cX5_adopt 137 = .ok (.invokevirtual 46, 3) := by decide +kernel
theorem dX5_adopt_140 : decode cX5_adopt 140 = .ok (.return_, 1) := by decide +kernel
theorem kw_31 : (.fieldLink RX5 27 "NobodyChecks$Reader" "cases" "I" : Cond) ∈ gw_tbl := gw_in (by decide +kernel) (by decide +kernel)
theorem kw_32 : (.fieldLink RX5 34 "NobodyChecks$Reader" "persons" "I" : Cond) ∈ gw_tbl := gw_in (by decide +kernel) (by decide +kernel)
theorem kw_33 : (.fieldLink RX5 38 "NobodyChecks$Question" "total" "J" : Cond) ∈ gw_tbl := gw_in (by decide +kernel) (by decide +kernel)
theorem kw_34 : (.fieldLink RX5 23 "NobodyChecks$Question" "mass" "[J" : Cond) ∈ gw_tbl := gw_in (by decide +kernel) (by decide +kernel)
theorem kw_35 : (.code yX5_fillMass cX5_fillMass 10 none : Cond) ∈ gw_tbl := gw_in (by decide +kernel) (by decide +kernel)
theorem kw_36 : (.methodLink RX5 46 yX5_fillMass : Cond) ∈ gw_tbl := gw_in (by decide +kernel) (by decide +kernel)
theorem kw_37 : (.instanceMethod yX5_fillMass : Cond) ∈ gw_tbl := gw_in (by decide +kernel) (by decide +kernel)
theorem kw_38 : (.selects RX5 yX5_fillMass yX5_fillMass : Cond) ∈ gw_tbl := gw_in (by decide +kernel) (by decide +kernel)
theorem kw_39 : (.fieldLink RX5 20 "NobodyChecks$Question" "costs" "[I" : Cond) ∈ gw_tbl := gw_in (by decide +kernel) (by decide +kernel)
theorem kw_40 : (.fieldLink RX5 42 "NobodyChecks$Reader" "weights" "[I" : Cond) ∈ gw_tbl := gw_in (by decide +kernel) (by decide +kernel)
theorem kw_41 : (.fieldLink RX5 43 "NobodyChecks$Reader" "chances" "[[I" : Cond) ∈ gw_tbl := gw_in (by decide +kernel) (by decide +kernel)

set_option maxHeartbeats 4000000 in
set_option maxRecDepth 100000 in
theorem q_adopt (l : Launch) (D : va_G) (cs : Nat → ClassId) (aq : Nat) (aw : Nat) (ac : Nat) (ao : Nat) (am : Nat) (C : Nat) (hC5 : C ≤ 5) (P : Nat) (hP4 : P ≤ 4) (tot : Int64) (ar : Nat → Nat) (far : Nat → Nat → Int32) (faw : Nat → Int32) (fao : Nat → Int32) (fam : Nat → Int64) (rd : Nat) (rw : Nat) (rc : Nat) (rC : Nat) (rP : Nat) (rA : Nat) (rD : Int32) (rV : Int32) (hrC : rC ≤ 5) (hrP : rP ≤ 4) (hrA : rA ≤ 4) (rr : Nat → Nat) (frr : Nat → Nat → Int32) (frw : Nat → Int32) (sz : Nat) : Met l yX5_adopt (Cond.code yX5_adopt cX5_adopt 4 none :: gw_tbl) ({ frames := 2, cells := 0, slots := 0, locals := 52 }) (pc_M D cs [(aq, .inr (5, [.ref aw, .ref ac, .ref ao, .ref am, .int (nI C), .int (nI P), .long tot])), (aw, .inl (cs 0, 5, .inl faw)), (ac, .inl (cs 4, 5, .inr (.inr (.inr (.inr (rowsF 5 ar)))))), ((ar 0), .inl (cs 0, 4, .inl (far 0))), ((ar 1), .inl (cs 0, 4, .inl (far 1))), ((ar 2), .inl (cs 0, 4, .inl (far 2))), ((ar 3), .inl (cs 0, 4, .inl (far 3))), ((ar 4), .inl (cs 0, 4, .inl (far 4))), (ao, .inl (cs 0, 4, .inl fao)), (am, .inl (cs 1, 16, .inr (.inl fam))), (rd, .inr (7, [.ref rw, .ref rc, .int (nI rC), .int (nI rP), .int (nI rA), .int rD, .int rV])), (rw, .inl (cs 0, 5, .inl frw)), (rc, .inl (cs 4, 5, .inr (.inr (.inr (.inr (rowsF 5 rr)))))), ((rr 0), .inl (cs 0, 4, .inl (frr 0))), ((rr 1), .inl (cs 0, 4, .inl (frr 1))), ((rr 2), .inl (cs 0, 4, .inl (frr 2))), ((rr 3), .inl (cs 0, 4, .inl (frr 3))), ((rr 4), .inl (cs 0, 4, .inl (frr 4)))] sz [.ref aq, .ref rd]) (va_Qv (fun (u : Unit) => True) (fun u t => ∃ (tot2 : Int64), ∃ (faw2 : Nat → Int32), ∃ (fao2 : Nat → Int32), ∃ (fam2 : Nat → Int64), ∃ (far2 : Nat → Nat → Int32), va_P D vwCl [(aq, .inr (5, [.ref aw, .ref ac, .ref ao, .ref am, .int (nI rC), .int (nI rP), .long tot2])), (aw, .inl (cs 0, 5, .inl faw2)), (ac, .inl (cs 4, 5, .inr (.inr (.inr (.inr (rowsF 5 ar)))))), ((ar 0), .inl (cs 0, 4, .inl (far2 0))), ((ar 1), .inl (cs 0, 4, .inl (far2 1))), ((ar 2), .inl (cs 0, 4, .inl (far2 2))), ((ar 3), .inl (cs 0, 4, .inl (far2 3))), ((ar 4), .inl (cs 0, 4, .inl (far2 4))), (ao, .inl (cs 0, 4, .inl fao2)), (am, .inl (cs 1, 16, .inr (.inl fam2))), (rd, .inr (7, [.ref rw, .ref rc, .int (nI rC), .int (nI rP), .int (nI rA), .int rD, .int rV])), (rw, .inl (cs 0, 5, .inl frw)), (rc, .inl (cs 4, 5, .inr (.inr (.inr (.inr (rowsF 5 rr)))))), ((rr 0), .inl (cs 0, 4, .inl (frr 0))), ((rr 1), .inl (cs 0, 4, .inl (frr 1))), ((rr 2), .inl (cs 0, 4, .inl (frr 2))), ((rr 3), .inl (cs 0, 4, .inl (frr 3))), ((rr 4), .inl (cs 0, 4, .inl (frr 4)))] t.heap ∧ va_D (va_A [(aq, .inr (5, [.ref aw, .ref ac, .ref ao, .ref am, .int (nI C), .int (nI P), .long tot])), (aw, .inl (cs 0, 5, .inl faw)), (ac, .inl (cs 4, 5, .inr (.inr (.inr (.inr (rowsF 5 ar)))))), ((ar 0), .inl (cs 0, 4, .inl (far 0))), ((ar 1), .inl (cs 0, 4, .inl (far 1))), ((ar 2), .inl (cs 0, 4, .inl (far 2))), ((ar 3), .inl (cs 0, 4, .inl (far 3))), ((ar 4), .inl (cs 0, 4, .inl (far 4))), (ao, .inl (cs 0, 4, .inl fao)), (am, .inl (cs 1, 16, .inr (.inl fam))), (rd, .inr (7, [.ref rw, .ref rc, .int (nI rC), .int (nI rP), .int (nI rA), .int rD, .int rV])), (rw, .inl (cs 0, 5, .inl frw)), (rc, .inl (cs 4, 5, .inr (.inr (.inr (.inr (rowsF 5 rr)))))), ((rr 0), .inl (cs 0, 4, .inl (frr 0))), ((rr 1), .inl (cs 0, 4, .inl (frr 1))), ((rr 2), .inl (cs 0, 4, .inl (frr 2))), ((rr 3), .inl (cs 0, 4, .inl (frr 3))), ((rr 4), .inl (cs 0, 4, .inl (frr 4)))] sz) [(aq, .inr (5, [.ref aw, .ref ac, .ref ao, .ref am, .int (nI rC), .int (nI rP), .long tot2])), (aw, .inl (cs 0, 5, .inl faw2)), (ac, .inl (cs 4, 5, .inr (.inr (.inr (.inr (rowsF 5 ar)))))), ((ar 0), .inl (cs 0, 4, .inl (far2 0))), ((ar 1), .inl (cs 0, 4, .inl (far2 1))), ((ar 2), .inl (cs 0, 4, .inl (far2 2))), ((ar 3), .inl (cs 0, 4, .inl (far2 3))), ((ar 4), .inl (cs 0, 4, .inl (far2 4))), (ao, .inl (cs 0, 4, .inl fao2)), (am, .inl (cs 1, 16, .inr (.inl fam2))), (rd, .inr (7, [.ref rw, .ref rc, .int (nI rC), .int (nI rP), .int (nI rA), .int rD, .int rV])), (rw, .inl (cs 0, 5, .inl frw)), (rc, .inl (cs 4, 5, .inr (.inr (.inr (.inr (rowsF 5 rr)))))), ((rr 0), .inl (cs 0, 4, .inl (frr 0))), ((rr 1), .inl (cs 0, 4, .inl (frr 1))), ((rr 2), .inl (cs 0, 4, .inl (frr 2))), ((rr 3), .inl (cs 0, 4, .inl (frr 3))), ((rr 4), .inl (cs 0, 4, .inl (frr 4)))]) (va_A [(aq, .inr (5, [.ref aw, .ref ac, .ref ao, .ref am, .int (nI C), .int (nI P), .long tot])), (aw, .inl (cs 0, 5, .inl faw)), (ac, .inl (cs 4, 5, .inr (.inr (.inr (.inr (rowsF 5 ar)))))), ((ar 0), .inl (cs 0, 4, .inl (far 0))), ((ar 1), .inl (cs 0, 4, .inl (far 1))), ((ar 2), .inl (cs 0, 4, .inl (far 2))), ((ar 3), .inl (cs 0, 4, .inl (far 3))), ((ar 4), .inl (cs 0, 4, .inl (far 4))), (ao, .inl (cs 0, 4, .inl fao)), (am, .inl (cs 1, 16, .inr (.inl fam))), (rd, .inr (7, [.ref rw, .ref rc, .int (nI rC), .int (nI rP), .int (nI rA), .int rD, .int rV])), (rw, .inl (cs 0, 5, .inl frw)), (rc, .inl (cs 4, 5, .inr (.inr (.inr (.inr (rowsF 5 rr)))))), ((rr 0), .inl (cs 0, 4, .inl (frr 0))), ((rr 1), .inl (cs 0, 4, .inl (frr 1))), ((rr 2), .inl (cs 0, 4, .inl (frr 2))), ((rr 3), .inl (cs 0, 4, .inl (frr 3))), ((rr 4), .inl (cs 0, 4, .inl (frr 4)))] sz)) 0 0 (va_A [(aq, .inr (5, [.ref aw, .ref ac, .ref ao, .ref am, .int (nI C), .int (nI P), .long tot])), (aw, .inl (cs 0, 5, .inl faw)), (ac, .inl (cs 4, 5, .inr (.inr (.inr (.inr (rowsF 5 ar)))))), ((ar 0), .inl (cs 0, 4, .inl (far 0))), ((ar 1), .inl (cs 0, 4, .inl (far 1))), ((ar 2), .inl (cs 0, 4, .inl (far 2))), ((ar 3), .inl (cs 0, 4, .inl (far 3))), ((ar 4), .inl (cs 0, 4, .inl (far 4))), (ao, .inl (cs 0, 4, .inl fao)), (am, .inl (cs 1, 16, .inr (.inl fam))), (rd, .inr (7, [.ref rw, .ref rc, .int (nI rC), .int (nI rP), .int (nI rA), .int rD, .int rV])), (rw, .inl (cs 0, 5, .inl frw)), (rc, .inl (cs 4, 5, .inr (.inr (.inr (.inr (rowsF 5 rr)))))), ((rr 0), .inl (cs 0, 4, .inl (frr 0))), ((rr 1), .inl (cs 0, 4, .inl (frr 1))), ((rr 2), .inl (cs 0, 4, .inl (frr 2))), ((rr 3), .inl (cs 0, 4, .inl (frr 3))), ((rr 4), .inl (cs 0, 4, .inl (frr 4)))] sz) := by
  refine Met.ofW (cc := cX5_adopt) (maxL := 4) (ret := none) (by decide) rfl ?_
  intro p e s m args below meth c s₁ B hml hv
  obtain ⟨hargs, hsz, hP, hK, hD0⟩ := hv
  have hx := B.exec
  have hb := B.bytes
  have hr := B.returns
  have hts := atoms_spec (ws := Cond.code yX5_adopt cX5_adopt 4 none :: gw_tbl) B.pre
  have hg := fun (w : Cond) (h : w ∈ gw_tbl) => hts w (List.mem_cons_of_mem _ h)
  have hown : s.vm.findClass RX5 = some m.cls := findClass_of_methodNamed B.named
  have hlocks := B.notSynchronized
  subst hsz
  have hD := hD0.self (sz := s.heap.size)
  generalize hAe : va_A [(aq, .inr (5, [.ref aw, .ref ac, .ref ao, .ref am, .int (nI C), .int (nI P), .long tot])), (aw, .inl (cs 0, 5, .inl faw)), (ac, .inl (cs 4, 5, .inr (.inr (.inr (.inr (rowsF 5 ar)))))), ((ar 0), .inl (cs 0, 4, .inl (far 0))), ((ar 1), .inl (cs 0, 4, .inl (far 1))), ((ar 2), .inl (cs 0, 4, .inl (far 2))), ((ar 3), .inl (cs 0, 4, .inl (far 3))), ((ar 4), .inl (cs 0, 4, .inl (far 4))), (ao, .inl (cs 0, 4, .inl fao)), (am, .inl (cs 1, 16, .inr (.inl fam))), (rd, .inr (7, [.ref rw, .ref rc, .int (nI rC), .int (nI rP), .int (nI rA), .int rD, .int rV])), (rw, .inl (cs 0, 5, .inl frw)), (rc, .inl (cs 4, 5, .inr (.inr (.inr (.inr (rowsF 5 rr)))))), ((rr 0), .inl (cs 0, 4, .inl (frr 0))), ((rr 1), .inl (cs 0, 4, .inl (frr 1))), ((rr 2), .inl (cs 0, 4, .inl (frr 2))), ((rr 3), .inl (cs 0, 4, .inl (frr 3))), ((rr 4), .inl (cs 0, 4, .inl (frr 4)))] s.heap.size = A at hD ⊢
  have hA : ∀ q : Nat, s.heap.size ≤ q → A q := fun q h => by rw [← hAe]; exact Or.inr h
  have hS : va_S A s.heap s.heap [] := va_S.rf
  have hP : va_P D vwCl [(aq, .inr (5, [.ref aw, .ref ac, .ref ao, .ref am, .int (nI C), .int (nI P), .long tot])), (aw, .inl (cs 0, 5, .inl faw)), (ac, .inl (cs 4, 5, .inr (.inr (.inr (.inr (rowsF 5 ar)))))), ((ar 0), .inl (cs 0, 4, .inl (far 0))), ((ar 1), .inl (cs 0, 4, .inl (far 1))), ((ar 2), .inl (cs 0, 4, .inl (far 2))), ((ar 3), .inl (cs 0, 4, .inl (far 3))), ((ar 4), .inl (cs 0, 4, .inl (far 4))), (ao, .inl (cs 0, 4, .inl fao)), (am, .inl (cs 1, 16, .inr (.inl fam))), (rd, .inr (7, [.ref rw, .ref rc, .int (nI rC), .int (nI rP), .int (nI rA), .int rD, .int rV])), (rw, .inl (cs 0, 5, .inl frw)), (rc, .inl (cs 4, 5, .inr (.inr (.inr (.inr (rowsF 5 rr)))))), ((rr 0), .inl (cs 0, 4, .inl (frr 0))), ((rr 1), .inl (cs 0, 4, .inl (frr 1))), ((rr 2), .inl (cs 0, 4, .inl (frr 2))), ((rr 3), .inl (cs 0, 4, .inl (frr 3))), ((rr 4), .inl (cs 0, 4, .inl (frr 4)))] s.heap := hP
  have hl := lv_entry ([.ref aq, .ref rd]) (n := 4) (Nat.le_of_ble_eq_true rfl)
  rw [show entryFrame m args 4 = F0 m 0 (lg_sl ([.ref aq, .ref rd]) ++ List.replicate (4 - (lg_sl ([.ref aq, .ref rd])).length) Slot.unset).toArray [] from by rw [hargs]; exact lg_entry_eq ..]
  generalize (lg_sl ([.ref aq, .ref rd]) ++ List.replicate (4 - (lg_sl ([.ref aq, .ref rd])).length) Slot.unset).toArray = ls at hl ⊢
  have hl : lv_has ls 4 [(0, .ref aq), (1, .ref rd)] := hl
  refine W_genQ (fun Q hQ => ?_)
  have hlm := lim_le hP4
  have hlq := lim_pos P
  have hsg := sgn_le hP4
  refine lv_aload_n hx hb dX5_adopt_0 rfl (lv_at hl 0 rfl) ?_
  refine lv_aload_n hx hb dX5_adopt_1 rfl (lv_at hl 1 rfl) ?_
  refine va_get (D := D) (ci := 7) (v := .int (nI rC)) (C := RX7) (T := TX7) (N := 7) hx hb hg gwX7 hown hK hP 10 rfl rfl 2 (by decide) (hg _ kw_31) (fun _ h9 => h9) rfl dX5_adopt_2 ?_
  refine va_put (D := D) (ci := 5) (v := .int (nI rC)) (ty := .int) (C := RX5) (T := TX5) (N := 7) hx hb hg gwX5 tyX5 tyX5_ok nmX5 hown hK hP hD hS 0 rfl rfl 4 (by decide) (hg _ kw_13) (fun _ h9 => h9) rfl (by decide +kernel) rfl rfl (Nat.le_of_ble_eq_true rfl) dX5_adopt_5 (fun H locs hP hD hS => ?_)
  have hP : va_P D vwCl [(aq, .inr (5, [.ref aw, .ref ac, .ref ao, .ref am, .int (nI rC), .int (nI P), .long tot])), (aw, .inl (cs 0, 5, .inl faw)), (ac, .inl (cs 4, 5, .inr (.inr (.inr (.inr (rowsF 5 ar)))))), ((ar 0), .inl (cs 0, 4, .inl (far 0))), ((ar 1), .inl (cs 0, 4, .inl (far 1))), ((ar 2), .inl (cs 0, 4, .inl (far 2))), ((ar 3), .inl (cs 0, 4, .inl (far 3))), ((ar 4), .inl (cs 0, 4, .inl (far 4))), (ao, .inl (cs 0, 4, .inl fao)), (am, .inl (cs 1, 16, .inr (.inl fam))), (rd, .inr (7, [.ref rw, .ref rc, .int (nI rC), .int (nI rP), .int (nI rA), .int rD, .int rV])), (rw, .inl (cs 0, 5, .inl frw)), (rc, .inl (cs 4, 5, .inr (.inr (.inr (.inr (rowsF 5 rr)))))), ((rr 0), .inl (cs 0, 4, .inl (frr 0))), ((rr 1), .inl (cs 0, 4, .inl (frr 1))), ((rr 2), .inl (cs 0, 4, .inl (frr 2))), ((rr 3), .inl (cs 0, 4, .inl (frr 3))), ((rr 4), .inl (cs 0, 4, .inl (frr 4)))] H := hP
  have hD : va_D A [(aq, .inr (5, [.ref aw, .ref ac, .ref ao, .ref am, .int (nI rC), .int (nI P), .long tot])), (aw, .inl (cs 0, 5, .inl faw)), (ac, .inl (cs 4, 5, .inr (.inr (.inr (.inr (rowsF 5 ar)))))), ((ar 0), .inl (cs 0, 4, .inl (far 0))), ((ar 1), .inl (cs 0, 4, .inl (far 1))), ((ar 2), .inl (cs 0, 4, .inl (far 2))), ((ar 3), .inl (cs 0, 4, .inl (far 3))), ((ar 4), .inl (cs 0, 4, .inl (far 4))), (ao, .inl (cs 0, 4, .inl fao)), (am, .inl (cs 1, 16, .inr (.inl fam))), (rd, .inr (7, [.ref rw, .ref rc, .int (nI rC), .int (nI rP), .int (nI rA), .int rD, .int rV])), (rw, .inl (cs 0, 5, .inl frw)), (rc, .inl (cs 4, 5, .inr (.inr (.inr (.inr (rowsF 5 rr)))))), ((rr 0), .inl (cs 0, 4, .inl (frr 0))), ((rr 1), .inl (cs 0, 4, .inl (frr 1))), ((rr 2), .inl (cs 0, 4, .inl (frr 2))), ((rr 3), .inl (cs 0, 4, .inl (frr 3))), ((rr 4), .inl (cs 0, 4, .inl (frr 4)))] := hD
  refine lv_aload_n hx hb dX5_adopt_8 rfl (lv_at hl 0 rfl) ?_
  refine lv_aload_n hx hb dX5_adopt_9 rfl (lv_at hl 1 rfl) ?_
  refine va_get (D := D) (ci := 7) (v := .int (nI rP)) (C := RX7) (T := TX7) (N := 7) hx hb hg gwX7 hown hK hP 10 rfl rfl 3 (by decide) (hg _ kw_32) (fun _ h9 => h9) rfl dX5_adopt_10 ?_
  refine va_put (D := D) (ci := 5) (v := .int (nI rP)) (ty := .int) (C := RX5) (T := TX5) (N := 7) hx hb hg gwX5 tyX5 tyX5_ok nmX5 hown hK hP hD hS 0 rfl rfl 5 (by decide) (hg _ kw_14) (fun _ h9 => h9) rfl (by decide +kernel) rfl rfl (Nat.le_of_ble_eq_true rfl) dX5_adopt_13 (fun H locs hP hD hS => ?_)
  have hP : va_P D vwCl [(aq, .inr (5, [.ref aw, .ref ac, .ref ao, .ref am, .int (nI rC), .int (nI rP), .long tot])), (aw, .inl (cs 0, 5, .inl faw)), (ac, .inl (cs 4, 5, .inr (.inr (.inr (.inr (rowsF 5 ar)))))), ((ar 0), .inl (cs 0, 4, .inl (far 0))), ((ar 1), .inl (cs 0, 4, .inl (far 1))), ((ar 2), .inl (cs 0, 4, .inl (far 2))), ((ar 3), .inl (cs 0, 4, .inl (far 3))), ((ar 4), .inl (cs 0, 4, .inl (far 4))), (ao, .inl (cs 0, 4, .inl fao)), (am, .inl (cs 1, 16, .inr (.inl fam))), (rd, .inr (7, [.ref rw, .ref rc, .int (nI rC), .int (nI rP), .int (nI rA), .int rD, .int rV])), (rw, .inl (cs 0, 5, .inl frw)), (rc, .inl (cs 4, 5, .inr (.inr (.inr (.inr (rowsF 5 rr)))))), ((rr 0), .inl (cs 0, 4, .inl (frr 0))), ((rr 1), .inl (cs 0, 4, .inl (frr 1))), ((rr 2), .inl (cs 0, 4, .inl (frr 2))), ((rr 3), .inl (cs 0, 4, .inl (frr 3))), ((rr 4), .inl (cs 0, 4, .inl (frr 4)))] H := hP
  have hD : va_D A [(aq, .inr (5, [.ref aw, .ref ac, .ref ao, .ref am, .int (nI rC), .int (nI rP), .long tot])), (aw, .inl (cs 0, 5, .inl faw)), (ac, .inl (cs 4, 5, .inr (.inr (.inr (.inr (rowsF 5 ar)))))), ((ar 0), .inl (cs 0, 4, .inl (far 0))), ((ar 1), .inl (cs 0, 4, .inl (far 1))), ((ar 2), .inl (cs 0, 4, .inl (far 2))), ((ar 3), .inl (cs 0, 4, .inl (far 3))), ((ar 4), .inl (cs 0, 4, .inl (far 4))), (ao, .inl (cs 0, 4, .inl fao)), (am, .inl (cs 1, 16, .inr (.inl fam))), (rd, .inr (7, [.ref rw, .ref rc, .int (nI rC), .int (nI rP), .int (nI rA), .int rD, .int rV])), (rw, .inl (cs 0, 5, .inl frw)), (rc, .inl (cs 4, 5, .inr (.inr (.inr (.inr (rowsF 5 rr)))))), ((rr 0), .inl (cs 0, 4, .inl (frr 0))), ((rr 1), .inl (cs 0, 4, .inl (frr 1))), ((rr 2), .inl (cs 0, 4, .inl (frr 2))), ((rr 3), .inl (cs 0, 4, .inl (frr 3))), ((rr 4), .inl (cs 0, 4, .inl (frr 4)))] := hD
  refine lv_aload_n hx hb dX5_adopt_16 rfl (lv_at hl 0 rfl) ?_
  refine lv_lconst (v := 0) hx hb dX5_adopt_17 (by decide) ?_
  refine va_put (D := D) (ci := 5) (v := .long 0) (ty := .long) (C := RX5) (T := TX5) (N := 7) hx hb hg gwX5 tyX5 tyX5_ok nmX5 hown hK hP hD hS 0 rfl rfl 6 (by decide) (hg _ kw_33) (fun _ h9 => h9) rfl (by decide +kernel) rfl rfl (Nat.le_of_ble_eq_true rfl) dX5_adopt_18 (fun H locs hP hD hS => ?_)
  have hP : va_P D vwCl [(aq, .inr (5, [.ref aw, .ref ac, .ref ao, .ref am, .int (nI rC), .int (nI rP), .long 0])), (aw, .inl (cs 0, 5, .inl faw)), (ac, .inl (cs 4, 5, .inr (.inr (.inr (.inr (rowsF 5 ar)))))), ((ar 0), .inl (cs 0, 4, .inl (far 0))), ((ar 1), .inl (cs 0, 4, .inl (far 1))), ((ar 2), .inl (cs 0, 4, .inl (far 2))), ((ar 3), .inl (cs 0, 4, .inl (far 3))), ((ar 4), .inl (cs 0, 4, .inl (far 4))), (ao, .inl (cs 0, 4, .inl fao)), (am, .inl (cs 1, 16, .inr (.inl fam))), (rd, .inr (7, [.ref rw, .ref rc, .int (nI rC), .int (nI rP), .int (nI rA), .int rD, .int rV])), (rw, .inl (cs 0, 5, .inl frw)), (rc, .inl (cs 4, 5, .inr (.inr (.inr (.inr (rowsF 5 rr)))))), ((rr 0), .inl (cs 0, 4, .inl (frr 0))), ((rr 1), .inl (cs 0, 4, .inl (frr 1))), ((rr 2), .inl (cs 0, 4, .inl (frr 2))), ((rr 3), .inl (cs 0, 4, .inl (frr 3))), ((rr 4), .inl (cs 0, 4, .inl (frr 4)))] H := hP
  have hD : va_D A [(aq, .inr (5, [.ref aw, .ref ac, .ref ao, .ref am, .int (nI rC), .int (nI rP), .long 0])), (aw, .inl (cs 0, 5, .inl faw)), (ac, .inl (cs 4, 5, .inr (.inr (.inr (.inr (rowsF 5 ar)))))), ((ar 0), .inl (cs 0, 4, .inl (far 0))), ((ar 1), .inl (cs 0, 4, .inl (far 1))), ((ar 2), .inl (cs 0, 4, .inl (far 2))), ((ar 3), .inl (cs 0, 4, .inl (far 3))), ((ar 4), .inl (cs 0, 4, .inl (far 4))), (ao, .inl (cs 0, 4, .inl fao)), (am, .inl (cs 1, 16, .inr (.inl fam))), (rd, .inr (7, [.ref rw, .ref rc, .int (nI rC), .int (nI rP), .int (nI rA), .int rD, .int rV])), (rw, .inl (cs 0, 5, .inl frw)), (rc, .inl (cs 4, 5, .inr (.inr (.inr (.inr (rowsF 5 rr)))))), ((rr 0), .inl (cs 0, 4, .inl (frr 0))), ((rr 1), .inl (cs 0, 4, .inl (frr 1))), ((rr 2), .inl (cs 0, 4, .inl (frr 2))), ((rr 3), .inl (cs 0, 4, .inl (frr 3))), ((rr 4), .inl (cs 0, 4, .inl (frr 4)))] := hD
  refine lv_iconst (v := 0) hx hb dX5_adopt_21 (by decide) ?_
  refine lv_istore_n (lv' := [(2, .int 0), (0, .ref aq), (1, .ref rd)]) hx hb dX5_adopt_22 rfl hl (by decide) rfl (fun ls hl => ?_)
  have LOOP23 : ∀ (n23 : Nat) (cx : Nat) (faw_23 : Nat → Int32) (waq6_23 : Int64) (far_23 : Nat → Nat → Int32), cx ≤ rC → rC - cx < n23 → ∀ (H : Heap) (locs : List Loc) (ls : Array Slot), va_P D vwCl [(aq, .inr (5, [.ref aw, .ref ac, .ref ao, .ref am, .int (nI rC), .int (nI rP), .long waq6_23])), (aw, .inl (cs 0, 5, .inl faw_23)), (ac, .inl (cs 4, 5, .inr (.inr (.inr (.inr (rowsF 5 ar)))))), ((ar 0), .inl (cs 0, 4, .inl (far_23 0))), ((ar 1), .inl (cs 0, 4, .inl (far_23 1))), ((ar 2), .inl (cs 0, 4, .inl (far_23 2))), ((ar 3), .inl (cs 0, 4, .inl (far_23 3))), ((ar 4), .inl (cs 0, 4, .inl (far_23 4))), (ao, .inl (cs 0, 4, .inl fao)), (am, .inl (cs 1, 16, .inr (.inl fam))), (rd, .inr (7, [.ref rw, .ref rc, .int (nI rC), .int (nI rP), .int (nI rA), .int rD, .int rV])), (rw, .inl (cs 0, 5, .inl frw)), (rc, .inl (cs 4, 5, .inr (.inr (.inr (.inr (rowsF 5 rr)))))), ((rr 0), .inl (cs 0, 4, .inl (frr 0))), ((rr 1), .inl (cs 0, 4, .inl (frr 1))), ((rr 2), .inl (cs 0, 4, .inl (frr 2))), ((rr 3), .inl (cs 0, 4, .inl (frr 3))), ((rr 4), .inl (cs 0, 4, .inl (frr 4)))] H → va_D A [(aq, .inr (5, [.ref aw, .ref ac, .ref ao, .ref am, .int (nI rC), .int (nI rP), .long waq6_23])), (aw, .inl (cs 0, 5, .inl faw_23)), (ac, .inl (cs 4, 5, .inr (.inr (.inr (.inr (rowsF 5 ar)))))), ((ar 0), .inl (cs 0, 4, .inl (far_23 0))), ((ar 1), .inl (cs 0, 4, .inl (far_23 1))), ((ar 2), .inl (cs 0, 4, .inl (far_23 2))), ((ar 3), .inl (cs 0, 4, .inl (far_23 3))), ((ar 4), .inl (cs 0, 4, .inl (far_23 4))), (ao, .inl (cs 0, 4, .inl fao)), (am, .inl (cs 1, 16, .inr (.inl fam))), (rd, .inr (7, [.ref rw, .ref rc, .int (nI rC), .int (nI rP), .int (nI rA), .int rD, .int rV])), (rw, .inl (cs 0, 5, .inl frw)), (rc, .inl (cs 4, 5, .inr (.inr (.inr (.inr (rowsF 5 rr)))))), ((rr 0), .inl (cs 0, 4, .inl (frr 0))), ((rr 1), .inl (cs 0, 4, .inl (frr 1))), ((rr 2), .inl (cs 0, 4, .inl (frr 2))), ((rr 3), .inl (cs 0, 4, .inl (frr 3))), ((rr 4), .inl (cs 0, 4, .inl (frr 4)))] → va_S A s.heap H locs → lv_has ls 4 [(0, .ref aq), (1, .ref rd), (2, .int (nI cx))] → W p l e ({ frames := 2, cells := 0, slots := 0, locals := 52 } : Room) s m args below meth c H locs 0 0 Q (F0 m 23 ls []) := by
    intro n23
    induction n23 with
    | zero =>
      intro cx faw_23 waq6_23 far_23 hcx hn23 H locs ls hP hD hS hl
      exact absurd hn23 (Nat.not_lt_zero _)
    | succ n23 ih23 =>
      intro cx faw_23 waq6_23 far_23 hcx hn23 H locs ls hP hD hS hl
      refine lv_iload_n hx hb dX5_adopt_23 rfl (lv_at hl 2 rfl) ?_
      refine lv_aload_n hx hb dX5_adopt_24 rfl (lv_at hl 0 rfl) ?_
      refine va_get (D := D) (ci := 5) (v := .int (nI rC)) (C := RX5) (T := TX5) (N := 7) hx hb hg gwX5 hown hK hP 0 rfl rfl 4 (by decide) (hg _ kw_13) (fun _ h9 => h9) rfl dX5_adopt_25 ?_
      refine lv_icmp_ge (tgt := 97) hx hb dX5_adopt_28 (by decide) (fun c_28 => ?_) (fun c_28 => ?_)
      · have n_28 : rC ≤ cx := b_le_t (by omega) (by omega) c_28
        refine lv_iconst (v := 0) hx hb dX5_adopt_97 (by decide) ?_
        refine lv_istore_n (lv' := [(2, .int 0), (0, .ref aq), (1, .ref rd)]) hx hb dX5_adopt_98 rfl hl (by decide) rfl (fun ls hl => ?_)
        have LOOP99 : ∀ (n99 : Nat) (cx : Nat) (fao_99 : Nat → Int32) (waq6_99 : Int64), cx ≤ rP → rP - cx < n99 → ∀ (H : Heap) (locs : List Loc) (ls : Array Slot), va_P D vwCl [(aq, .inr (5, [.ref aw, .ref ac, .ref ao, .ref am, .int (nI rC), .int (nI rP), .long waq6_99])), (aw, .inl (cs 0, 5, .inl faw_23)), (ac, .inl (cs 4, 5, .inr (.inr (.inr (.inr (rowsF 5 ar)))))), ((ar 0), .inl (cs 0, 4, .inl (far_23 0))), ((ar 1), .inl (cs 0, 4, .inl (far_23 1))), ((ar 2), .inl (cs 0, 4, .inl (far_23 2))), ((ar 3), .inl (cs 0, 4, .inl (far_23 3))), ((ar 4), .inl (cs 0, 4, .inl (far_23 4))), (ao, .inl (cs 0, 4, .inl fao_99)), (am, .inl (cs 1, 16, .inr (.inl fam))), (rd, .inr (7, [.ref rw, .ref rc, .int (nI rC), .int (nI rP), .int (nI rA), .int rD, .int rV])), (rw, .inl (cs 0, 5, .inl frw)), (rc, .inl (cs 4, 5, .inr (.inr (.inr (.inr (rowsF 5 rr)))))), ((rr 0), .inl (cs 0, 4, .inl (frr 0))), ((rr 1), .inl (cs 0, 4, .inl (frr 1))), ((rr 2), .inl (cs 0, 4, .inl (frr 2))), ((rr 3), .inl (cs 0, 4, .inl (frr 3))), ((rr 4), .inl (cs 0, 4, .inl (frr 4)))] H → va_D A [(aq, .inr (5, [.ref aw, .ref ac, .ref ao, .ref am, .int (nI rC), .int (nI rP), .long waq6_99])), (aw, .inl (cs 0, 5, .inl faw_23)), (ac, .inl (cs 4, 5, .inr (.inr (.inr (.inr (rowsF 5 ar)))))), ((ar 0), .inl (cs 0, 4, .inl (far_23 0))), ((ar 1), .inl (cs 0, 4, .inl (far_23 1))), ((ar 2), .inl (cs 0, 4, .inl (far_23 2))), ((ar 3), .inl (cs 0, 4, .inl (far_23 3))), ((ar 4), .inl (cs 0, 4, .inl (far_23 4))), (ao, .inl (cs 0, 4, .inl fao_99)), (am, .inl (cs 1, 16, .inr (.inl fam))), (rd, .inr (7, [.ref rw, .ref rc, .int (nI rC), .int (nI rP), .int (nI rA), .int rD, .int rV])), (rw, .inl (cs 0, 5, .inl frw)), (rc, .inl (cs 4, 5, .inr (.inr (.inr (.inr (rowsF 5 rr)))))), ((rr 0), .inl (cs 0, 4, .inl (frr 0))), ((rr 1), .inl (cs 0, 4, .inl (frr 1))), ((rr 2), .inl (cs 0, 4, .inl (frr 2))), ((rr 3), .inl (cs 0, 4, .inl (frr 3))), ((rr 4), .inl (cs 0, 4, .inl (frr 4)))] → va_S A s.heap H locs → lv_has ls 4 [(0, .ref aq), (1, .ref rd), (2, .int (nI cx))] → W p l e ({ frames := 2, cells := 0, slots := 0, locals := 52 } : Room) s m args below meth c H locs 0 0 Q (F0 m 99 ls []) := by
          intro n99
          induction n99 with
          | zero =>
            intro cx fao_99 waq6_99 hcx hn99 H locs ls hP hD hS hl
            exact absurd hn99 (Nat.not_lt_zero _)
          | succ n99 ih99 =>
            intro cx fao_99 waq6_99 hcx hn99 H locs ls hP hD hS hl
            refine lv_iload_n hx hb dX5_adopt_99 rfl (lv_at hl 2 rfl) ?_
            refine lv_aload_n hx hb dX5_adopt_100 rfl (lv_at hl 0 rfl) ?_
            refine va_get (D := D) (ci := 5) (v := .int (nI rP)) (C := RX5) (T := TX5) (N := 7) hx hb hg gwX5 hown hK hP 0 rfl rfl 5 (by decide) (hg _ kw_14) (fun _ h9 => h9) rfl dX5_adopt_101 ?_
            refine lv_icmp_ge (tgt := 132) hx hb dX5_adopt_104 (by decide) (fun c_104 => ?_) (fun c_104 => ?_)
            · have n_104 : rP ≤ cx := b_le_t (by omega) (by omega) c_104
              refine lv_aload_n hx hb dX5_adopt_132 rfl (lv_at hl 0 rfl) ?_
              refine lv_aload_n hx hb dX5_adopt_133 rfl (lv_at hl 0 rfl) ?_
              refine va_get (D := D) (ci := 5) (v := .ref am) (C := RX5) (T := TX5) (N := 7) hx hb hg gwX5 hown hK hP 0 rfl rfl 3 (by decide) (hg _ kw_34) (fun _ h9 => h9) rfl dX5_adopt_134 ?_
              have hPc := hP.sub (ws' := [(aq, .inr (5, [.ref aw, .ref ac, .ref ao, .ref am, .int (nI rC), .int (nI rP), .long waq6_99])), (aw, .inl (cs 0, 5, .inl faw_23)), (ac, .inl (cs 4, 5, .inr (.inr (.inr (.inr (rowsF 5 ar)))))), ((ar 0), .inl (cs 0, 4, .inl (far_23 0))), ((ar 1), .inl (cs 0, 4, .inl (far_23 1))), ((ar 2), .inl (cs 0, 4, .inl (far_23 2))), ((ar 3), .inl (cs 0, 4, .inl (far_23 3))), ((ar 4), .inl (cs 0, 4, .inl (far_23 4))), (am, .inl (cs 1, 16, .inr (.inl fam)))]) [0, 1, 2, 3, 4, 5, 6, 7, 9] rfl
              have hDc := hD.sub (ws' := [(aq, .inr (5, [.ref aw, .ref ac, .ref ao, .ref am, .int (nI rC), .int (nI rP), .long waq6_99])), (aw, .inl (cs 0, 5, .inl faw_23)), (ac, .inl (cs 4, 5, .inr (.inr (.inr (.inr (rowsF 5 ar)))))), ((ar 0), .inl (cs 0, 4, .inl (far_23 0))), ((ar 1), .inl (cs 0, 4, .inl (far_23 1))), ((ar 2), .inl (cs 0, 4, .inl (far_23 2))), ((ar 3), .inl (cs 0, 4, .inl (far_23 3))), ((ar 4), .inl (cs 0, 4, .inl (far_23 4))), (am, .inl (cs 1, 16, .inr (.inl fam)))]) [0, 1, 2, 3, 4, 5, 6, 7, 9] (by decide) rfl
              have hFc := va_free (wc := [(aq, .inr (5, [.ref aw, .ref ac, .ref ao, .ref am, .int (nI rC), .int (nI rP), .long waq6_99])), (aw, .inl (cs 0, 5, .inl faw_23)), (ac, .inl (cs 4, 5, .inr (.inr (.inr (.inr (rowsF 5 ar)))))), ((ar 0), .inl (cs 0, 4, .inl (far_23 0))), ((ar 1), .inl (cs 0, 4, .inl (far_23 1))), ((ar 2), .inl (cs 0, 4, .inl (far_23 2))), ((ar 3), .inl (cs 0, 4, .inl (far_23 3))), ((ar 4), .inl (cs 0, 4, .inl (far_23 4))), (am, .inl (cs 1, 16, .inr (.inl fam)))]) hD hS hA [0, 1, 2, 3, 4, 5, 6, 7, 9] rfl
              refine va_callv (va_runV (As := [.ref am]) (rest := []) ⟨hx, hb, hml, hown, hg⟩ (q_fillMass l D cs aq aw ac ao am rC (by omega) rP (by omega) waq6_99 ar far_23 faw_23 am fam _) (cwV 1 hg (gw_V kw_36 kw_37 kw_38 kw_19 kw_35) rfl rfl rfl (by decide +kernel) ⟨(Nat.le_of_ble_eq_true rfl), (Nat.le_of_ble_eq_true rfl)⟩) (pr_MV (q := (RX5, TX5, 7)) 5 0 hK hPc hDc rfl rfl) rfl rfl hl.1 rfl (lv_room (Nat.le_of_ble_eq_true rfl)) dX5_adopt_137 ⟨(Nat.le_of_ble_eq_true rfl), (Nat.le_of_ble_eq_true rfl)⟩) hS (fun q _ h => hFc q h) hFc (fun u t H1 locs ht hvm h_137 hB hz1 hk1 hS => ?_)
              obtain ⟨ffl2_137, hP1, hD1⟩ := hB
              rw [ht] at hP1
              obtain ⟨hP, hD⟩ := va_join (wr := [(ao, .inl (cs 0, 4, .inl fao_99)), (rd, .inr (7, [.ref rw, .ref rc, .int (nI rC), .int (nI rP), .int (nI rA), .int rD, .int rV])), (rw, .inl (cs 0, 5, .inl frw)), (rc, .inl (cs 4, 5, .inr (.inr (.inr (.inr (rowsF 5 rr)))))), ((rr 0), .inl (cs 0, 4, .inl (frr 0))), ((rr 1), .inl (cs 0, 4, .inl (frr 1))), ((rr 2), .inl (cs 0, 4, .inl (frr 2))), ((rr 3), .inl (cs 0, 4, .inl (frr 3))), ((rr 4), .inl (cs 0, 4, .inl (frr 4)))]) (w1 := [(aq, .inr (5, [.ref aw, .ref ac, .ref ao, .ref am, .int (nI rC), .int (nI rP), .long waq6_99])), (aw, .inl (cs 0, 5, .inl faw_23)), (ac, .inl (cs 4, 5, .inr (.inr (.inr (.inr (rowsF 5 ar)))))), ((ar 0), .inl (cs 0, 4, .inl (far_23 0))), ((ar 1), .inl (cs 0, 4, .inl (far_23 1))), ((ar 2), .inl (cs 0, 4, .inl (far_23 2))), ((ar 3), .inl (cs 0, 4, .inl (far_23 3))), ((ar 4), .inl (cs 0, 4, .inl (far_23 4))), (am, .inl (cs 1, 16, .inr (.inl ffl2_137)))]) hP hD [0, 1, 2, 3, 4, 5, 6, 7, 9] [8, 10, 11, 12, 13, 14, 15, 16, 17] rfl rfl (by decide) (by decide) hk1 hFc hP1 hD1
              generalize H1 = H at hP hS ⊢
              have hP : va_P D vwCl [(ao, .inl (cs 0, 4, .inl fao_99)), (rd, .inr (7, [.ref rw, .ref rc, .int (nI rC), .int (nI rP), .int (nI rA), .int rD, .int rV])), (rw, .inl (cs 0, 5, .inl frw)), (rc, .inl (cs 4, 5, .inr (.inr (.inr (.inr (rowsF 5 rr)))))), ((rr 0), .inl (cs 0, 4, .inl (frr 0))), ((rr 1), .inl (cs 0, 4, .inl (frr 1))), ((rr 2), .inl (cs 0, 4, .inl (frr 2))), ((rr 3), .inl (cs 0, 4, .inl (frr 3))), ((rr 4), .inl (cs 0, 4, .inl (frr 4))), (aq, .inr (5, [.ref aw, .ref ac, .ref ao, .ref am, .int (nI rC), .int (nI rP), .long waq6_99])), (aw, .inl (cs 0, 5, .inl faw_23)), (ac, .inl (cs 4, 5, .inr (.inr (.inr (.inr (rowsF 5 ar)))))), ((ar 0), .inl (cs 0, 4, .inl (far_23 0))), ((ar 1), .inl (cs 0, 4, .inl (far_23 1))), ((ar 2), .inl (cs 0, 4, .inl (far_23 2))), ((ar 3), .inl (cs 0, 4, .inl (far_23 3))), ((ar 4), .inl (cs 0, 4, .inl (far_23 4))), (am, .inl (cs 1, 16, .inr (.inl ffl2_137)))] H := hP
              have hD : va_D A [(ao, .inl (cs 0, 4, .inl fao_99)), (rd, .inr (7, [.ref rw, .ref rc, .int (nI rC), .int (nI rP), .int (nI rA), .int rD, .int rV])), (rw, .inl (cs 0, 5, .inl frw)), (rc, .inl (cs 4, 5, .inr (.inr (.inr (.inr (rowsF 5 rr)))))), ((rr 0), .inl (cs 0, 4, .inl (frr 0))), ((rr 1), .inl (cs 0, 4, .inl (frr 1))), ((rr 2), .inl (cs 0, 4, .inl (frr 2))), ((rr 3), .inl (cs 0, 4, .inl (frr 3))), ((rr 4), .inl (cs 0, 4, .inl (frr 4))), (aq, .inr (5, [.ref aw, .ref ac, .ref ao, .ref am, .int (nI rC), .int (nI rP), .long waq6_99])), (aw, .inl (cs 0, 5, .inl faw_23)), (ac, .inl (cs 4, 5, .inr (.inr (.inr (.inr (rowsF 5 ar)))))), ((ar 0), .inl (cs 0, 4, .inl (far_23 0))), ((ar 1), .inl (cs 0, 4, .inl (far_23 1))), ((ar 2), .inl (cs 0, 4, .inl (far_23 2))), ((ar 3), .inl (cs 0, 4, .inl (far_23 3))), ((ar 4), .inl (cs 0, 4, .inl (far_23 4))), (am, .inl (cs 1, 16, .inr (.inl ffl2_137)))] := hD
              refine W.cs (cells' := 0) (slots' := 0) rfl rfl ?_
              refine W_sQ hQ ?_
              refine W.widen (k := 0) (n := 0) (Nat.le_of_ble_eq_true rfl) (Nat.le_of_ble_eq_true rfl) ?_
              have hP9 := hP.sub (ws' := [(aq, .inr (5, [.ref aw, .ref ac, .ref ao, .ref am, .int (nI rC), .int (nI rP), .long waq6_99])), (aw, .inl (cs 0, 5, .inl faw_23)), (ac, .inl (cs 4, 5, .inr (.inr (.inr (.inr (rowsF 5 ar)))))), ((ar 0), .inl (cs 0, 4, .inl (far_23 0))), ((ar 1), .inl (cs 0, 4, .inl (far_23 1))), ((ar 2), .inl (cs 0, 4, .inl (far_23 2))), ((ar 3), .inl (cs 0, 4, .inl (far_23 3))), ((ar 4), .inl (cs 0, 4, .inl (far_23 4))), (ao, .inl (cs 0, 4, .inl fao_99)), (am, .inl (cs 1, 16, .inr (.inl ffl2_137))), (rd, .inr (7, [.ref rw, .ref rc, .int (nI rC), .int (nI rP), .int (nI rA), .int rD, .int rV])), (rw, .inl (cs 0, 5, .inl frw)), (rc, .inl (cs 4, 5, .inr (.inr (.inr (.inr (rowsF 5 rr)))))), ((rr 0), .inl (cs 0, 4, .inl (frr 0))), ((rr 1), .inl (cs 0, 4, .inl (frr 1))), ((rr 2), .inl (cs 0, 4, .inl (frr 2))), ((rr 3), .inl (cs 0, 4, .inl (frr 3))), ((rr 4), .inl (cs 0, 4, .inl (frr 4)))]) [9, 10, 11, 12, 13, 14, 15, 16, 0, 17, 1, 2, 3, 4, 5, 6, 7, 8] rfl
              have hD9 := hD.sub (ws' := [(aq, .inr (5, [.ref aw, .ref ac, .ref ao, .ref am, .int (nI rC), .int (nI rP), .long waq6_99])), (aw, .inl (cs 0, 5, .inl faw_23)), (ac, .inl (cs 4, 5, .inr (.inr (.inr (.inr (rowsF 5 ar)))))), ((ar 0), .inl (cs 0, 4, .inl (far_23 0))), ((ar 1), .inl (cs 0, 4, .inl (far_23 1))), ((ar 2), .inl (cs 0, 4, .inl (far_23 2))), ((ar 3), .inl (cs 0, 4, .inl (far_23 3))), ((ar 4), .inl (cs 0, 4, .inl (far_23 4))), (ao, .inl (cs 0, 4, .inl fao_99)), (am, .inl (cs 1, 16, .inr (.inl ffl2_137))), (rd, .inr (7, [.ref rw, .ref rc, .int (nI rC), .int (nI rP), .int (nI rA), .int rD, .int rV])), (rw, .inl (cs 0, 5, .inl frw)), (rc, .inl (cs 4, 5, .inr (.inr (.inr (.inr (rowsF 5 rr)))))), ((rr 0), .inl (cs 0, 4, .inl (frr 0))), ((rr 1), .inl (cs 0, 4, .inl (frr 1))), ((rr 2), .inl (cs 0, 4, .inl (frr 2))), ((rr 3), .inl (cs 0, 4, .inl (frr 3))), ((rr 4), .inl (cs 0, 4, .inl (frr 4)))]) [9, 10, 11, 12, 13, 14, 15, 16, 0, 17, 1, 2, 3, 4, 5, 6, 7, 8] (by decide) rfl
              exact W.vret hx hb hr (fun t ht hW => ⟨⟨(), rfl, trivial, ⟨waq6_99, faw_23, fao_99, ffl2_137, far_23, by rw [ht]; exact hP9, hD9⟩⟩, hS.F ht⟩) hS.2.2 dX5_adopt_140
            · have n_104 : cx < rP := b_le_f (by omega) (by omega) c_104
              refine lv_aload_n hx hb dX5_adopt_107 rfl (lv_at hl 0 rfl) ?_
              refine va_get (D := D) (ci := 5) (v := .ref ao) (C := RX5) (T := TX5) (N := 7) hx hb hg gwX5 hown hK hP 0 rfl rfl 2 (by decide) (hg _ kw_39) (fun _ h9 => h9) rfl dX5_adopt_108 ?_
              refine lv_iload_n hx hb dX5_adopt_111 rfl (lv_at hl 2 rfl) ?_
              refine lv_iconst (v := 0) hx hb dX5_adopt_112 (by decide) ?_
              refine va_iast hx hb hK hP hD hS 8 0 rfl rfl (vp_in_nI (show cx < 4 by omega) (by decide)) dX5_adopt_113 (fun H locs hP hD hS => ?_)
              obtain ⟨f_113, hf_113⟩ : ∃ f9, f9 = (upd fao_99 (nI cx).toNatClampNeg 0) := ⟨_, rfl⟩
              rw [← hf_113] at hP hD
              have hP : va_P D vwCl [(aq, .inr (5, [.ref aw, .ref ac, .ref ao, .ref am, .int (nI rC), .int (nI rP), .long waq6_99])), (aw, .inl (cs 0, 5, .inl faw_23)), (ac, .inl (cs 4, 5, .inr (.inr (.inr (.inr (rowsF 5 ar)))))), ((ar 0), .inl (cs 0, 4, .inl (far_23 0))), ((ar 1), .inl (cs 0, 4, .inl (far_23 1))), ((ar 2), .inl (cs 0, 4, .inl (far_23 2))), ((ar 3), .inl (cs 0, 4, .inl (far_23 3))), ((ar 4), .inl (cs 0, 4, .inl (far_23 4))), (ao, .inl (cs 0, 4, .inl f_113)), (am, .inl (cs 1, 16, .inr (.inl fam))), (rd, .inr (7, [.ref rw, .ref rc, .int (nI rC), .int (nI rP), .int (nI rA), .int rD, .int rV])), (rw, .inl (cs 0, 5, .inl frw)), (rc, .inl (cs 4, 5, .inr (.inr (.inr (.inr (rowsF 5 rr)))))), ((rr 0), .inl (cs 0, 4, .inl (frr 0))), ((rr 1), .inl (cs 0, 4, .inl (frr 1))), ((rr 2), .inl (cs 0, 4, .inl (frr 2))), ((rr 3), .inl (cs 0, 4, .inl (frr 3))), ((rr 4), .inl (cs 0, 4, .inl (frr 4)))] H := hP
              have hD : va_D A [(aq, .inr (5, [.ref aw, .ref ac, .ref ao, .ref am, .int (nI rC), .int (nI rP), .long waq6_99])), (aw, .inl (cs 0, 5, .inl faw_23)), (ac, .inl (cs 4, 5, .inr (.inr (.inr (.inr (rowsF 5 ar)))))), ((ar 0), .inl (cs 0, 4, .inl (far_23 0))), ((ar 1), .inl (cs 0, 4, .inl (far_23 1))), ((ar 2), .inl (cs 0, 4, .inl (far_23 2))), ((ar 3), .inl (cs 0, 4, .inl (far_23 3))), ((ar 4), .inl (cs 0, 4, .inl (far_23 4))), (ao, .inl (cs 0, 4, .inl f_113)), (am, .inl (cs 1, 16, .inr (.inl fam))), (rd, .inr (7, [.ref rw, .ref rc, .int (nI rC), .int (nI rP), .int (nI rA), .int rD, .int rV])), (rw, .inl (cs 0, 5, .inl frw)), (rc, .inl (cs 4, 5, .inr (.inr (.inr (.inr (rowsF 5 rr)))))), ((rr 0), .inl (cs 0, 4, .inl (frr 0))), ((rr 1), .inl (cs 0, 4, .inl (frr 1))), ((rr 2), .inl (cs 0, 4, .inl (frr 2))), ((rr 3), .inl (cs 0, 4, .inl (frr 3))), ((rr 4), .inl (cs 0, 4, .inl (frr 4)))] := hD
              refine lv_aload_n hx hb dX5_adopt_114 rfl (lv_at hl 0 rfl) ?_
              refine lv_dup hx hb dX5_adopt_115 rfl ?_
              refine va_get (D := D) (ci := 5) (v := .long waq6_99) (C := RX5) (T := TX5) (N := 7) hx hb hg gwX5 hown hK hP 0 rfl rfl 6 (by decide) (hg _ kw_33) (fun _ h9 => h9) rfl dX5_adopt_116 ?_
              refine lv_ldc2 hx hb hown (hg _ kw_26) dX5_adopt_119 ?_
              refine lv_lmul hx hb dX5_adopt_122 ?_
              refine lv_topl (fun z_122 e_122 => ?_)
              refine va_put (D := D) (ci := 5) (v := .long z_122) (ty := .long) (C := RX5) (T := TX5) (N := 7) hx hb hg gwX5 tyX5 tyX5_ok nmX5 hown hK hP hD hS 0 rfl rfl 6 (by decide) (hg _ kw_33) (fun _ h9 => h9) rfl (by decide +kernel) rfl rfl (Nat.le_of_ble_eq_true rfl) dX5_adopt_123 (fun H locs hP hD hS => ?_)
              have hP : va_P D vwCl [(aq, .inr (5, [.ref aw, .ref ac, .ref ao, .ref am, .int (nI rC), .int (nI rP), .long z_122])), (aw, .inl (cs 0, 5, .inl faw_23)), (ac, .inl (cs 4, 5, .inr (.inr (.inr (.inr (rowsF 5 ar)))))), ((ar 0), .inl (cs 0, 4, .inl (far_23 0))), ((ar 1), .inl (cs 0, 4, .inl (far_23 1))), ((ar 2), .inl (cs 0, 4, .inl (far_23 2))), ((ar 3), .inl (cs 0, 4, .inl (far_23 3))), ((ar 4), .inl (cs 0, 4, .inl (far_23 4))), (ao, .inl (cs 0, 4, .inl f_113)), (am, .inl (cs 1, 16, .inr (.inl fam))), (rd, .inr (7, [.ref rw, .ref rc, .int (nI rC), .int (nI rP), .int (nI rA), .int rD, .int rV])), (rw, .inl (cs 0, 5, .inl frw)), (rc, .inl (cs 4, 5, .inr (.inr (.inr (.inr (rowsF 5 rr)))))), ((rr 0), .inl (cs 0, 4, .inl (frr 0))), ((rr 1), .inl (cs 0, 4, .inl (frr 1))), ((rr 2), .inl (cs 0, 4, .inl (frr 2))), ((rr 3), .inl (cs 0, 4, .inl (frr 3))), ((rr 4), .inl (cs 0, 4, .inl (frr 4)))] H := hP
              have hD : va_D A [(aq, .inr (5, [.ref aw, .ref ac, .ref ao, .ref am, .int (nI rC), .int (nI rP), .long z_122])), (aw, .inl (cs 0, 5, .inl faw_23)), (ac, .inl (cs 4, 5, .inr (.inr (.inr (.inr (rowsF 5 ar)))))), ((ar 0), .inl (cs 0, 4, .inl (far_23 0))), ((ar 1), .inl (cs 0, 4, .inl (far_23 1))), ((ar 2), .inl (cs 0, 4, .inl (far_23 2))), ((ar 3), .inl (cs 0, 4, .inl (far_23 3))), ((ar 4), .inl (cs 0, 4, .inl (far_23 4))), (ao, .inl (cs 0, 4, .inl f_113)), (am, .inl (cs 1, 16, .inr (.inl fam))), (rd, .inr (7, [.ref rw, .ref rc, .int (nI rC), .int (nI rP), .int (nI rA), .int rD, .int rV])), (rw, .inl (cs 0, 5, .inl frw)), (rc, .inl (cs 4, 5, .inr (.inr (.inr (.inr (rowsF 5 rr)))))), ((rr 0), .inl (cs 0, 4, .inl (frr 0))), ((rr 1), .inl (cs 0, 4, .inl (frr 1))), ((rr 2), .inl (cs 0, 4, .inl (frr 2))), ((rr 3), .inl (cs 0, 4, .inl (frr 3))), ((rr 4), .inl (cs 0, 4, .inl (frr 4)))] := hD
              refine lv_iinc (v := (nI (cx + 1))) (lv' := [(2, .int (nI (cx + 1))), (0, .ref aq), (1, .ref rd)]) hx hb dX5_adopt_126 hl (k := 2) rfl (nI_add cx 1) (by decide) rfl (fun ls hl => ?_)
              refine lv_goto (tgt := 99) hx hb dX5_adopt_129 (by decide) ?_
              exact ih99 (cx + 1) f_113 z_122 (by omega) (by omega) _ _ ls hP hD hS (lv_sub hl [1, 2, 0] rfl)
        exact LOOP99 (rP - 0 + 1) 0 fao waq6_23 (by omega) (Nat.lt_succ_self _) _ _ ls hP hD hS (lv_sub hl [1, 2, 0] rfl)
      · have n_28 : cx < rC := b_le_f (by omega) (by omega) c_28
        refine lv_aload_n hx hb dX5_adopt_31 rfl (lv_at hl 0 rfl) ?_
        refine va_get (D := D) (ci := 5) (v := .ref aw) (C := RX5) (T := TX5) (N := 7) hx hb hg gwX5 hown hK hP 0 rfl rfl 0 (by decide) (hg _ kw_21) (fun _ h9 => h9) rfl dX5_adopt_32 ?_
        refine lv_iload_n hx hb dX5_adopt_35 rfl (lv_at hl 2 rfl) ?_
        refine lv_aload_n hx hb dX5_adopt_36 rfl (lv_at hl 1 rfl) ?_
        refine va_get (D := D) (ci := 7) (v := .ref rw) (C := RX7) (T := TX7) (N := 7) hx hb hg gwX7 hown hK hP 10 rfl rfl 0 (by decide) (hg _ kw_40) (fun _ h9 => h9) rfl dX5_adopt_37 ?_
        refine lv_iload_n hx hb dX5_adopt_40 rfl (lv_at hl 2 rfl) ?_
        refine va_iald hx hb hK hP 11 0 rfl rfl (vp_in_nI (show cx < 5 by omega) (by decide)) dX5_adopt_41 ?_
        refine lv_topi (fun z_41 e_41 => ?_)
        refine va_iast hx hb hK hP hD hS 1 0 rfl rfl (vp_in_nI (show cx < 5 by omega) (by decide)) dX5_adopt_42 (fun H locs hP hD hS => ?_)
        obtain ⟨f_42, hf_42⟩ : ∃ f9, f9 = (upd faw_23 (nI cx).toNatClampNeg z_41) := ⟨_, rfl⟩
        rw [← hf_42] at hP hD
        have hP : va_P D vwCl [(aq, .inr (5, [.ref aw, .ref ac, .ref ao, .ref am, .int (nI rC), .int (nI rP), .long waq6_23])), (aw, .inl (cs 0, 5, .inl f_42)), (ac, .inl (cs 4, 5, .inr (.inr (.inr (.inr (rowsF 5 ar)))))), ((ar 0), .inl (cs 0, 4, .inl (far_23 0))), ((ar 1), .inl (cs 0, 4, .inl (far_23 1))), ((ar 2), .inl (cs 0, 4, .inl (far_23 2))), ((ar 3), .inl (cs 0, 4, .inl (far_23 3))), ((ar 4), .inl (cs 0, 4, .inl (far_23 4))), (ao, .inl (cs 0, 4, .inl fao)), (am, .inl (cs 1, 16, .inr (.inl fam))), (rd, .inr (7, [.ref rw, .ref rc, .int (nI rC), .int (nI rP), .int (nI rA), .int rD, .int rV])), (rw, .inl (cs 0, 5, .inl frw)), (rc, .inl (cs 4, 5, .inr (.inr (.inr (.inr (rowsF 5 rr)))))), ((rr 0), .inl (cs 0, 4, .inl (frr 0))), ((rr 1), .inl (cs 0, 4, .inl (frr 1))), ((rr 2), .inl (cs 0, 4, .inl (frr 2))), ((rr 3), .inl (cs 0, 4, .inl (frr 3))), ((rr 4), .inl (cs 0, 4, .inl (frr 4)))] H := hP
        have hD : va_D A [(aq, .inr (5, [.ref aw, .ref ac, .ref ao, .ref am, .int (nI rC), .int (nI rP), .long waq6_23])), (aw, .inl (cs 0, 5, .inl f_42)), (ac, .inl (cs 4, 5, .inr (.inr (.inr (.inr (rowsF 5 ar)))))), ((ar 0), .inl (cs 0, 4, .inl (far_23 0))), ((ar 1), .inl (cs 0, 4, .inl (far_23 1))), ((ar 2), .inl (cs 0, 4, .inl (far_23 2))), ((ar 3), .inl (cs 0, 4, .inl (far_23 3))), ((ar 4), .inl (cs 0, 4, .inl (far_23 4))), (ao, .inl (cs 0, 4, .inl fao)), (am, .inl (cs 1, 16, .inr (.inl fam))), (rd, .inr (7, [.ref rw, .ref rc, .int (nI rC), .int (nI rP), .int (nI rA), .int rD, .int rV])), (rw, .inl (cs 0, 5, .inl frw)), (rc, .inl (cs 4, 5, .inr (.inr (.inr (.inr (rowsF 5 rr)))))), ((rr 0), .inl (cs 0, 4, .inl (frr 0))), ((rr 1), .inl (cs 0, 4, .inl (frr 1))), ((rr 2), .inl (cs 0, 4, .inl (frr 2))), ((rr 3), .inl (cs 0, 4, .inl (frr 3))), ((rr 4), .inl (cs 0, 4, .inl (frr 4)))] := hD
        refine lv_aload_n hx hb dX5_adopt_43 rfl (lv_at hl 0 rfl) ?_
        refine lv_dup hx hb dX5_adopt_44 rfl ?_
        refine va_get (D := D) (ci := 5) (v := .long waq6_23) (C := RX5) (T := TX5) (N := 7) hx hb hg gwX5 hown hK hP 0 rfl rfl 6 (by decide) (hg _ kw_33) (fun _ h9 => h9) rfl dX5_adopt_45 ?_
        refine lv_aload_n hx hb dX5_adopt_48 rfl (lv_at hl 0 rfl) ?_
        refine va_get (D := D) (ci := 5) (v := .ref aw) (C := RX5) (T := TX5) (N := 7) hx hb hg gwX5 hown hK hP 0 rfl rfl 0 (by decide) (hg _ kw_21) (fun _ h9 => h9) rfl dX5_adopt_49 ?_
        refine lv_iload_n hx hb dX5_adopt_52 rfl (lv_at hl 2 rfl) ?_
        refine va_iald hx hb hK hP 1 0 rfl rfl (vp_in_nI (show cx < 5 by omega) (by decide)) dX5_adopt_53 ?_
        refine lv_topi (fun z_53 e_53 => ?_)
        refine lv_i2l hx hb dX5_adopt_54 rfl ?_
        refine lv_topl (fun z_54 e_54 => ?_)
        refine lv_ladd hx hb dX5_adopt_55 ?_
        refine lv_topl (fun z_55 e_55 => ?_)
        refine va_put (D := D) (ci := 5) (v := .long z_55) (ty := .long) (C := RX5) (T := TX5) (N := 7) hx hb hg gwX5 tyX5 tyX5_ok nmX5 hown hK hP hD hS 0 rfl rfl 6 (by decide) (hg _ kw_33) (fun _ h9 => h9) rfl (by decide +kernel) rfl rfl (Nat.le_of_ble_eq_true rfl) dX5_adopt_56 (fun H locs hP hD hS => ?_)
        have hP : va_P D vwCl [(aq, .inr (5, [.ref aw, .ref ac, .ref ao, .ref am, .int (nI rC), .int (nI rP), .long z_55])), (aw, .inl (cs 0, 5, .inl f_42)), (ac, .inl (cs 4, 5, .inr (.inr (.inr (.inr (rowsF 5 ar)))))), ((ar 0), .inl (cs 0, 4, .inl (far_23 0))), ((ar 1), .inl (cs 0, 4, .inl (far_23 1))), ((ar 2), .inl (cs 0, 4, .inl (far_23 2))), ((ar 3), .inl (cs 0, 4, .inl (far_23 3))), ((ar 4), .inl (cs 0, 4, .inl (far_23 4))), (ao, .inl (cs 0, 4, .inl fao)), (am, .inl (cs 1, 16, .inr (.inl fam))), (rd, .inr (7, [.ref rw, .ref rc, .int (nI rC), .int (nI rP), .int (nI rA), .int rD, .int rV])), (rw, .inl (cs 0, 5, .inl frw)), (rc, .inl (cs 4, 5, .inr (.inr (.inr (.inr (rowsF 5 rr)))))), ((rr 0), .inl (cs 0, 4, .inl (frr 0))), ((rr 1), .inl (cs 0, 4, .inl (frr 1))), ((rr 2), .inl (cs 0, 4, .inl (frr 2))), ((rr 3), .inl (cs 0, 4, .inl (frr 3))), ((rr 4), .inl (cs 0, 4, .inl (frr 4)))] H := hP
        have hD : va_D A [(aq, .inr (5, [.ref aw, .ref ac, .ref ao, .ref am, .int (nI rC), .int (nI rP), .long z_55])), (aw, .inl (cs 0, 5, .inl f_42)), (ac, .inl (cs 4, 5, .inr (.inr (.inr (.inr (rowsF 5 ar)))))), ((ar 0), .inl (cs 0, 4, .inl (far_23 0))), ((ar 1), .inl (cs 0, 4, .inl (far_23 1))), ((ar 2), .inl (cs 0, 4, .inl (far_23 2))), ((ar 3), .inl (cs 0, 4, .inl (far_23 3))), ((ar 4), .inl (cs 0, 4, .inl (far_23 4))), (ao, .inl (cs 0, 4, .inl fao)), (am, .inl (cs 1, 16, .inr (.inl fam))), (rd, .inr (7, [.ref rw, .ref rc, .int (nI rC), .int (nI rP), .int (nI rA), .int rD, .int rV])), (rw, .inl (cs 0, 5, .inl frw)), (rc, .inl (cs 4, 5, .inr (.inr (.inr (.inr (rowsF 5 rr)))))), ((rr 0), .inl (cs 0, 4, .inl (frr 0))), ((rr 1), .inl (cs 0, 4, .inl (frr 1))), ((rr 2), .inl (cs 0, 4, .inl (frr 2))), ((rr 3), .inl (cs 0, 4, .inl (frr 3))), ((rr 4), .inl (cs 0, 4, .inl (frr 4)))] := hD
        refine lv_iconst (v := 0) hx hb dX5_adopt_59 (by decide) ?_
        refine lv_istore_n (lv' := [(3, .int 0), (0, .ref aq), (1, .ref rd), (2, .int (nI cx))]) hx hb dX5_adopt_60 rfl hl (by decide) rfl (fun ls hl => ?_)
        have LOOP61 : ∀ (n61 : Nat) (pe : Nat) (far_61 : Nat → Nat → Int32), pe ≤ rP → rP - pe < n61 → ∀ (H : Heap) (locs : List Loc) (ls : Array Slot), va_P D vwCl [(aq, .inr (5, [.ref aw, .ref ac, .ref ao, .ref am, .int (nI rC), .int (nI rP), .long z_55])), (aw, .inl (cs 0, 5, .inl f_42)), (ac, .inl (cs 4, 5, .inr (.inr (.inr (.inr (rowsF 5 ar)))))), ((ar 0), .inl (cs 0, 4, .inl (far_61 0))), ((ar 1), .inl (cs 0, 4, .inl (far_61 1))), ((ar 2), .inl (cs 0, 4, .inl (far_61 2))), ((ar 3), .inl (cs 0, 4, .inl (far_61 3))), ((ar 4), .inl (cs 0, 4, .inl (far_61 4))), (ao, .inl (cs 0, 4, .inl fao)), (am, .inl (cs 1, 16, .inr (.inl fam))), (rd, .inr (7, [.ref rw, .ref rc, .int (nI rC), .int (nI rP), .int (nI rA), .int rD, .int rV])), (rw, .inl (cs 0, 5, .inl frw)), (rc, .inl (cs 4, 5, .inr (.inr (.inr (.inr (rowsF 5 rr)))))), ((rr 0), .inl (cs 0, 4, .inl (frr 0))), ((rr 1), .inl (cs 0, 4, .inl (frr 1))), ((rr 2), .inl (cs 0, 4, .inl (frr 2))), ((rr 3), .inl (cs 0, 4, .inl (frr 3))), ((rr 4), .inl (cs 0, 4, .inl (frr 4)))] H → va_D A [(aq, .inr (5, [.ref aw, .ref ac, .ref ao, .ref am, .int (nI rC), .int (nI rP), .long z_55])), (aw, .inl (cs 0, 5, .inl f_42)), (ac, .inl (cs 4, 5, .inr (.inr (.inr (.inr (rowsF 5 ar)))))), ((ar 0), .inl (cs 0, 4, .inl (far_61 0))), ((ar 1), .inl (cs 0, 4, .inl (far_61 1))), ((ar 2), .inl (cs 0, 4, .inl (far_61 2))), ((ar 3), .inl (cs 0, 4, .inl (far_61 3))), ((ar 4), .inl (cs 0, 4, .inl (far_61 4))), (ao, .inl (cs 0, 4, .inl fao)), (am, .inl (cs 1, 16, .inr (.inl fam))), (rd, .inr (7, [.ref rw, .ref rc, .int (nI rC), .int (nI rP), .int (nI rA), .int rD, .int rV])), (rw, .inl (cs 0, 5, .inl frw)), (rc, .inl (cs 4, 5, .inr (.inr (.inr (.inr (rowsF 5 rr)))))), ((rr 0), .inl (cs 0, 4, .inl (frr 0))), ((rr 1), .inl (cs 0, 4, .inl (frr 1))), ((rr 2), .inl (cs 0, 4, .inl (frr 2))), ((rr 3), .inl (cs 0, 4, .inl (frr 3))), ((rr 4), .inl (cs 0, 4, .inl (frr 4)))] → va_S A s.heap H locs → lv_has ls 4 [(0, .ref aq), (1, .ref rd), (2, .int (nI cx)), (3, .int (nI pe))] → W p l e ({ frames := 2, cells := 0, slots := 0, locals := 52 } : Room) s m args below meth c H locs 0 0 Q (F0 m 61 ls []) := by
          intro n61
          induction n61 with
          | zero =>
            intro pe far_61 hpe hn61 H locs ls hP hD hS hl
            exact absurd hn61 (Nat.not_lt_zero _)
          | succ n61 ih61 =>
            intro pe far_61 hpe hn61 H locs ls hP hD hS hl
            refine lv_iload_n hx hb dX5_adopt_61 rfl (lv_at hl 3 rfl) ?_
            refine lv_aload_n hx hb dX5_adopt_62 rfl (lv_at hl 0 rfl) ?_
            refine va_get (D := D) (ci := 5) (v := .int (nI rP)) (C := RX5) (T := TX5) (N := 7) hx hb hg gwX5 hown hK hP 0 rfl rfl 5 (by decide) (hg _ kw_14) (fun _ h9 => h9) rfl dX5_adopt_63 ?_
            refine lv_icmp_ge (tgt := 91) hx hb dX5_adopt_66 (by decide) (fun c_66 => ?_) (fun c_66 => ?_)
            · have n_66 : rP ≤ pe := b_le_t (by omega) (by omega) c_66
              refine lv_iinc (v := (nI (cx + 1))) (lv' := [(2, .int (nI (cx + 1))), (0, .ref aq), (1, .ref rd), (3, .int (nI pe))]) hx hb dX5_adopt_91 hl (k := 2) rfl (nI_add cx 1) (by decide) rfl (fun ls hl => ?_)
              refine lv_goto (tgt := 23) hx hb dX5_adopt_94 (by decide) ?_
              exact ih23 (cx + 1) f_42 z_55 far_61 (by omega) (by omega) _ _ ls hP hD hS (lv_sub hl [1, 2, 0] rfl)
            · have n_66 : pe < rP := b_le_f (by omega) (by omega) c_66
              refine lv_aload_n hx hb dX5_adopt_69 rfl (lv_at hl 0 rfl) ?_
              refine va_get (D := D) (ci := 5) (v := .ref ac) (C := RX5) (T := TX5) (N := 7) hx hb hg gwX5 hown hK hP 0 rfl rfl 1 (by decide) (hg _ kw_20) (fun _ h9 => h9) rfl dX5_adopt_70 ?_
              refine lv_iload_n hx hb dX5_adopt_73 rfl (lv_at hl 2 rfl) ?_
              refine va_aldR (k := cx) hx hb hK hP 2 4 rfl rfl (show cx < 5 by omega) (by decide) dX5_adopt_74 ?_
              refine lv_iload_n hx hb dX5_adopt_75 rfl (lv_at hl 3 rfl) ?_
              refine lv_aload_n hx hb dX5_adopt_76 rfl (lv_at hl 1 rfl) ?_
              refine va_get (D := D) (ci := 7) (v := .ref rc) (C := RX7) (T := TX7) (N := 7) hx hb hg gwX7 hown hK hP 10 rfl rfl 1 (by decide) (hg _ kw_41) (fun _ h9 => h9) rfl dX5_adopt_77 ?_
              refine lv_iload_n hx hb dX5_adopt_80 rfl (lv_at hl 2 rfl) ?_
              refine va_aldR (k := cx) hx hb hK hP 12 4 rfl rfl (show cx < 5 by omega) (by decide) dX5_adopt_81 ?_
              refine lv_iload_n hx hb dX5_adopt_82 rfl (lv_at hl 3 rfl) ?_
              refine va_iald hx hb hK hP (13 + cx) 0 (rat_5 (g := fun j9 => (rr j9, .inl (cs 0, 4, .inl (frr j9)))) (show cx < 5 by omega) ⟨rfl, rfl, rfl, rfl, rfl⟩) rfl (vp_in_nI (show pe < 4 by omega) (by decide)) dX5_adopt_83 ?_
              refine lv_topi (fun z_83 e_83 => ?_)
              refine va_iast hx hb hK hP hD hS (3 + cx) 0 (rat_5 (g := fun j9 => (ar j9, .inl (cs 0, 4, .inl (far_61 j9)))) (show cx < 5 by omega) ⟨rfl, rfl, rfl, rfl, rfl⟩) rfl (vp_in_nI (show pe < 4 by omega) (by decide)) dX5_adopt_84 (fun H locs hP hD hS => ?_)
              obtain ⟨f_84, hf_84⟩ : ∃ f9, f9 = va_up far_61 cx (upd (far_61 cx) (nI pe).toNatClampNeg z_83) := ⟨_, rfl⟩
              have hP : va_P D vwCl [(aq, .inr (5, [.ref aw, .ref ac, .ref ao, .ref am, .int (nI rC), .int (nI rP), .long z_55])), (aw, .inl (cs 0, 5, .inl f_42)), (ac, .inl (cs 4, 5, .inr (.inr (.inr (.inr (rowsF 5 ar)))))), ((ar 0), .inl (cs 0, 4, .inl (f_84 0))), ((ar 1), .inl (cs 0, 4, .inl (f_84 1))), ((ar 2), .inl (cs 0, 4, .inl (f_84 2))), ((ar 3), .inl (cs 0, 4, .inl (f_84 3))), ((ar 4), .inl (cs 0, 4, .inl (f_84 4))), (ao, .inl (cs 0, 4, .inl fao)), (am, .inl (cs 1, 16, .inr (.inl fam))), (rd, .inr (7, [.ref rw, .ref rc, .int (nI rC), .int (nI rP), .int (nI rA), .int rD, .int rV])), (rw, .inl (cs 0, 5, .inl frw)), (rc, .inl (cs 4, 5, .inr (.inr (.inr (.inr (rowsF 5 rr)))))), ((rr 0), .inl (cs 0, 4, .inl (frr 0))), ((rr 1), .inl (cs 0, 4, .inl (frr 1))), ((rr 2), .inl (cs 0, 4, .inl (frr 2))), ((rr 3), .inl (cs 0, 4, .inl (frr 3))), ((rr 4), .inl (cs 0, 4, .inl (frr 4)))] H := by
                have h9 : cx < 5 := by omega
                rw [hf_84]
                rcases lt_5 h9 with rfl | rfl | rfl | rfl | rfl <;> exact hP
              have hD : va_D A [(aq, .inr (5, [.ref aw, .ref ac, .ref ao, .ref am, .int (nI rC), .int (nI rP), .long z_55])), (aw, .inl (cs 0, 5, .inl f_42)), (ac, .inl (cs 4, 5, .inr (.inr (.inr (.inr (rowsF 5 ar)))))), ((ar 0), .inl (cs 0, 4, .inl (f_84 0))), ((ar 1), .inl (cs 0, 4, .inl (f_84 1))), ((ar 2), .inl (cs 0, 4, .inl (f_84 2))), ((ar 3), .inl (cs 0, 4, .inl (f_84 3))), ((ar 4), .inl (cs 0, 4, .inl (f_84 4))), (ao, .inl (cs 0, 4, .inl fao)), (am, .inl (cs 1, 16, .inr (.inl fam))), (rd, .inr (7, [.ref rw, .ref rc, .int (nI rC), .int (nI rP), .int (nI rA), .int rD, .int rV])), (rw, .inl (cs 0, 5, .inl frw)), (rc, .inl (cs 4, 5, .inr (.inr (.inr (.inr (rowsF 5 rr)))))), ((rr 0), .inl (cs 0, 4, .inl (frr 0))), ((rr 1), .inl (cs 0, 4, .inl (frr 1))), ((rr 2), .inl (cs 0, 4, .inl (frr 2))), ((rr 3), .inl (cs 0, 4, .inl (frr 3))), ((rr 4), .inl (cs 0, 4, .inl (frr 4)))] := by
                have h9 : cx < 5 := by omega
                rw [hf_84]
                rcases lt_5 h9 with rfl | rfl | rfl | rfl | rfl <;> exact hD
              refine lv_iinc (v := (nI (pe + 1))) (lv' := [(3, .int (nI (pe + 1))), (0, .ref aq), (1, .ref rd), (2, .int (nI cx))]) hx hb dX5_adopt_85 hl (k := 3) rfl (nI_add pe 1) (by decide) rfl (fun ls hl => ?_)
              refine lv_goto (tgt := 61) hx hb dX5_adopt_88 (by decide) ?_
              exact ih61 (pe + 1) f_84 (by omega) (by omega) _ _ ls hP hD hS (lv_sub hl [1, 2, 3, 0] rfl)
        exact LOOP61 (rP - 0 + 1) 0 far_23 (by omega) (Nat.lt_succ_self _) _ _ ls hP hD hS (lv_sub hl [1, 2, 3, 0] rfl)
  exact LOOP23 (rC - 0 + 1) 0 faw 0 far (by omega) (Nat.lt_succ_self _) _ _ ls hP hD hS (lv_sub hl [1, 2, 0] rfl)
