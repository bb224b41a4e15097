theorem dX8_append_0 : decode cX8_append 0 = .ok (.aload_n 0, 1) := by decide +kernel
theorem dX8_append_1 : decode cX8_append 1 = .ok (.getfield 21, 3) := by decide +kernel
theorem dX8_append_4 : decode cX8_append 4 = .ok (.bipush 24, 2) := by decide +kernel
theorem dX8_append_6 : decode cX8_append 6 = .ok (.if_icmp .ge 33, 3) := by decide +kernel
theorem dX8_append_9 : decode cX8_append 9 = .ok (.aload_n 0, 1) := by decide +kernel
theorem dX8_append_10 : decode cX8_append 10 = .ok (.getfield 9, 3) := by decide +kernel
theorem dX8_append_13 : decode cX8_append 13 = .ok (.aload_n 0, 1) := by decide +kernel
theorem dX8_append_14 : decode cX8_append 14 = .ok (.getfield 21, 3) := by decide +kernel
theorem dX8_append_17 : decode cX8_append 17 = .ok (.iload_n 1, 1) := by decide +kernel
theorem dX8_append_18 : decode cX8_append 18 = .ok (.iastore, 1) := by decide +kernel
theorem dX8_append_19 : decode cX8_append 19 = .ok (.aload_n 0, 1) := by decide +kernel
theorem dX8_append_20 : decode cX8_append 20 = .ok (.getfield 15, 3) := by decide +kernel
theorem dX8_append_23 : decode cX8_append 23 = .ok (.aload_n 0, 1) := by decide +kernel
theorem dX8_append_24 : decode cX8_append 24 = .ok (.getfield 21, 3) := by decide +kernel
theorem dX8_append_27 : decode cX8_append 27 = .ok (.lload_n 2, 1) := by decide +kernel
theorem dX8_append_28 : decode cX8_append 28 = .ok (.lastore, 1) := by decide +kernel
theorem dX8_append_29 : decode cX8_append 29 = .ok (.aload_n 0, 1) := by decide +kernel
theorem dX8_append_30 : decode cX8_append 30 = .ok (.dup, 1) := by decide +kernel
theorem dX8_append_31 : decode cX8_append 31 = .ok (.getfield 21, 3) := by decide +kernel
theorem dX8_append_34 : decode cX8_append 34 = .ok (.iconst 1, 1) := by decide +kernel
theorem dX8_append_35 : decode cX8_append 35 = .ok (.iadd, 1) := by decide +kernel
theorem dX8_append_36 : decode cX8_append 36 = .ok (.putfield 21, 3) := by decide +kernel
theorem dX8_append_39 : decode cX8_append 39 = .ok (.return_, 1) := by decide +kernel
theorem kw_98 : (.fieldLink RX8 21 "NobodyChecks$Rows" "size" "I" : Cond) ∈ gw_tbl := gw_in (by decide +kernel) (by decide +kernel)
theorem kw_99 : (.fieldLink RX8 9 "NobodyChecks$Rows" "answers" "[I" : Cond) ∈ gw_tbl := gw_in (by decide +kernel) (by decide +kernel)
theorem kw_100 : (.fieldLink RX8 15 "NobodyChecks$Rows" "guesses" "[J" : Cond) ∈ gw_tbl := gw_in (by decide +kernel) (by decide +kernel)

set_option maxHeartbeats 4000000 in
set_option maxRecDepth 100000 in
theorem w_append (l : Launch) (D : va_G) (cs : Nat → ClassId) (ro : Nat) (ra : Nat) (rg : Nat) (rs : Nat) (hrs : rs ≤ 24) (fra : Nat → Int32) (frg : Nat → Int64) (an : Int32) (gu : Int64) (sz : Nat) : Met l yX8_append (Cond.code yX8_append cX8_append 4 none :: gw_tbl) ({ frames := 0, cells := 0, slots := 0, locals := 0 }) (pc_M D cs [(ro, .inr (8, [.ref ra, .ref rg, .int (nI rs)])), (ra, .inl (cs 0, 24, .inl fra)), (rg, .inl (cs 1, 24, .inr (.inl frg)))] sz [.ref ro, .int an, .long gu]) (va_Qv (fun (u : Unit) => True) (fun u t => ∃ (rs2 : Nat), ∃ (fra2 : Nat → Int32), ∃ (frg2 : Nat → Int64), (rs2 ≤ 24) ∧ va_P D vwCl [(ro, .inr (8, [.ref ra, .ref rg, .int (nI rs2)])), (ra, .inl (cs 0, 24, .inl fra2)), (rg, .inl (cs 1, 24, .inr (.inl frg2)))] t.heap ∧ va_D (va_A [(ro, .inr (8, [.ref ra, .ref rg, .int (nI rs)])), (ra, .inl (cs 0, 24, .inl fra)), (rg, .inl (cs 1, 24, .inr (.inl frg)))] sz) [(ro, .inr (8, [.ref ra, .ref rg, .int (nI rs2)])), (ra, .inl (cs 0, 24, .inl fra2)), (rg, .inl (cs 1, 24, .inr (.inl frg2)))]) (va_A [(ro, .inr (8, [.ref ra, .ref rg, .int (nI rs)])), (ra, .inl (cs 0, 24, .inl fra)), (rg, .inl (cs 1, 24, .inr (.inl frg)))] sz)) 0 0 (va_A [(ro, .inr (8, [.ref ra, .ref rg, .int (nI rs)])), (ra, .inl (cs 0, 24, .inl fra)), (rg, .inl (cs 1, 24, .inr (.inl frg)))] sz) := by
  refine Met.ofW (cc := cX8_append) (maxL := 4) (ret := none) (by decide) rfl ?_
  intro p e s m args below meth c s₁ B hml hv
  obtain ⟨hargs, hsz, hP, hK, hD0⟩ := hv
  have hx := B.exec
  have hb := B.bytes
  have hr := B.returns
  have hts := atoms_spec (ws := Cond.code yX8_append cX8_append 4 none :: gw_tbl) B.pre
  have hg := fun (w : Cond) (h : w ∈ gw_tbl) => hts w (List.mem_cons_of_mem _ h)
  have hown : s.vm.findClass RX8 = some m.cls := findClass_of_methodNamed B.named
  have hlocks := B.notSynchronized
  subst hsz
  have hD := hD0.self (sz := s.heap.size)
  generalize hAe : va_A [(ro, .inr (8, [.ref ra, .ref rg, .int (nI rs)])), (ra, .inl (cs 0, 24, .inl fra)), (rg, .inl (cs 1, 24, .inr (.inl frg)))] s.heap.size = A at hD ⊢
  have hA : ∀ q : Nat, s.heap.size ≤ q → A q := fun q h => by rw [← hAe]; exact Or.inr h
  have hS : va_S A s.heap s.heap [] := va_S.rf
  have hP : va_P D vwCl [(ro, .inr (8, [.ref ra, .ref rg, .int (nI rs)])), (ra, .inl (cs 0, 24, .inl fra)), (rg, .inl (cs 1, 24, .inr (.inl frg)))] s.heap := hP
  have hl := lv_entry ([.ref ro, .int an, .long gu]) (n := 4) (Nat.le_of_ble_eq_true rfl)
  rw [show entryFrame m args 4 = F0 m 0 (lg_sl ([.ref ro, .int an, .long gu]) ++ List.replicate (4 - (lg_sl ([.ref ro, .int an, .long gu])).length) Slot.unset).toArray [] from by rw [hargs]; exact lg_entry_eq ..]
  generalize (lg_sl ([.ref ro, .int an, .long gu]) ++ List.replicate (4 - (lg_sl ([.ref ro, .int an, .long gu])).length) Slot.unset).toArray = ls at hl ⊢
  have hl : lv_has ls 4 [(0, .ref ro), (1, .int an), (2, .long gu)] := hl
  refine W_genQ (fun Q hQ => ?_)
  refine lv_aload_n hx hb dX8_append_0 rfl (lv_at hl 0 rfl) ?_
  refine va_get (D := D) (ci := 8) (v := .int (nI rs)) (C := RX8) (T := TX8) (N := 3) hx hb hg gwX8 hown hK hP 0 rfl rfl 2 (by decide) (hg _ kw_98) (fun _ h9 => h9) rfl dX8_append_1 ?_
  refine lv_bipush (v := 24) hx hb dX8_append_4 (by decide) ?_
  refine lv_icmp_ge (tgt := 39) hx hb dX8_append_6 (by decide) (fun c_6 => ?_) (fun c_6 => ?_)
  · have n_6 : 24 ≤ rs := b_le_t (by omega) (by omega) c_6
    refine W_sQ hQ ?_
    refine W.widen (k := 0) (n := 0) (Nat.le_of_ble_eq_true rfl) (Nat.le_of_ble_eq_true rfl) ?_
    have hP9 := hP.sub (ws' := [(ro, .inr (8, [.ref ra, .ref rg, .int (nI rs)])), (ra, .inl (cs 0, 24, .inl fra)), (rg, .inl (cs 1, 24, .inr (.inl frg)))]) [0, 1, 2] rfl
    have hD9 := hD.sub (ws' := [(ro, .inr (8, [.ref ra, .ref rg, .int (nI rs)])), (ra, .inl (cs 0, 24, .inl fra)), (rg, .inl (cs 1, 24, .inr (.inl frg)))]) [0, 1, 2] (by decide) rfl
    exact W.vret hx hb hr (fun t ht hW => ⟨⟨(), rfl, trivial, ⟨rs, fra, frg, (by omega), by rw [ht]; exact hP9, hD9⟩⟩, hS.F ht⟩) hS.2.2 dX8_append_39
  · have n_6 : rs < 24 := b_le_f (by omega) (by omega) c_6
    refine lv_aload_n hx hb dX8_append_9 rfl (lv_at hl 0 rfl) ?_
    refine va_get (D := D) (ci := 8) (v := .ref ra) (C := RX8) (T := TX8) (N := 3) hx hb hg gwX8 hown hK hP 0 rfl rfl 0 (by decide) (hg _ kw_99) (fun _ h9 => h9) rfl dX8_append_10 ?_
    refine lv_aload_n hx hb dX8_append_13 rfl (lv_at hl 0 rfl) ?_
    refine va_get (D := D) (ci := 8) (v := .int (nI rs)) (C := RX8) (T := TX8) (N := 3) hx hb hg gwX8 hown hK hP 0 rfl rfl 2 (by decide) (hg _ kw_98) (fun _ h9 => h9) rfl dX8_append_14 ?_
    refine lv_iload_n hx hb dX8_append_17 rfl (lv_at hl 1 rfl) ?_
    refine va_iast hx hb hK hP hD hS 1 0 rfl rfl (vp_in_nI (show rs < 24 by omega) (by decide)) dX8_append_18 (fun H locs hP hD hS => ?_)
    obtain ⟨f_18, hf_18⟩ : ∃ f9, f9 = (upd fra (nI rs).toNatClampNeg an) := ⟨_, rfl⟩
    rw [← hf_18] at hP hD
    have hP : va_P D vwCl [(ro, .inr (8, [.ref ra, .ref rg, .int (nI rs)])), (ra, .inl (cs 0, 24, .inl f_18)), (rg, .inl (cs 1, 24, .inr (.inl frg)))] H := hP
    have hD : va_D A [(ro, .inr (8, [.ref ra, .ref rg, .int (nI rs)])), (ra, .inl (cs 0, 24, .inl f_18)), (rg, .inl (cs 1, 24, .inr (.inl frg)))] := hD
    refine lv_aload_n hx hb dX8_append_19 rfl (lv_at hl 0 rfl) ?_
    refine va_get (D := D) (ci := 8) (v := .ref rg) (C := RX8) (T := TX8) (N := 3) hx hb hg gwX8 hown hK hP 0 rfl rfl 1 (by decide) (hg _ kw_100) (fun _ h9 => h9) rfl dX8_append_20 ?_
    refine lv_aload_n hx hb dX8_append_23 rfl (lv_at hl 0 rfl) ?_
    refine va_get (D := D) (ci := 8) (v := .int (nI rs)) (C := RX8) (T := TX8) (N := 3) hx hb hg gwX8 hown hK hP 0 rfl rfl 2 (by decide) (hg _ kw_98) (fun _ h9 => h9) rfl dX8_append_24 ?_
    refine lv_lload_n hx hb dX8_append_27 rfl (lv_at hl 2 rfl) ?_
    refine va_last hx hb hK hP hD hS 2 1 rfl rfl (vp_in_nI (show rs < 24 by omega) (by decide)) dX8_append_28 (fun H locs hP hD hS => ?_)
    obtain ⟨f_28, hf_28⟩ : ∃ f9, f9 = (vp_updL frg (nI rs).toNatClampNeg gu) := ⟨_, rfl⟩
    rw [← hf_28] at hP hD
    have hP : va_P D vwCl [(ro, .inr (8, [.ref ra, .ref rg, .int (nI rs)])), (ra, .inl (cs 0, 24, .inl f_18)), (rg, .inl (cs 1, 24, .inr (.inl f_28)))] H := hP
    have hD : va_D A [(ro, .inr (8, [.ref ra, .ref rg, .int (nI rs)])), (ra, .inl (cs 0, 24, .inl f_18)), (rg, .inl (cs 1, 24, .inr (.inl f_28)))] := hD
    refine lv_aload_n hx hb dX8_append_29 rfl (lv_at hl 0 rfl) ?_
    refine lv_dup hx hb dX8_append_30 rfl ?_
    refine va_get (D := D) (ci := 8) (v := .int (nI rs)) (C := RX8) (T := TX8) (N := 3) hx hb hg gwX8 hown hK hP 0 rfl rfl 2 (by decide) (hg _ kw_98) (fun _ h9 => h9) rfl dX8_append_31 ?_
    refine lv_iconst (v := 1) hx hb dX8_append_34 (by decide) ?_
    refine lv_iadd hx hb dX8_append_35 ?_
    refine lv_topi (fun z_35 e_35 => ?_)
    obtain rfl : z_35 = nI (rs + 1) := e_35.trans (nI_add _ _)
    refine va_put (D := D) (ci := 8) (v := .int (nI (rs + 1))) (ty := .int) (C := RX8) (T := TX8) (N := 3) hx hb hg gwX8 tyX8 tyX8_ok nmX8 hown hK hP hD hS 0 rfl rfl 2 (by decide) (hg _ kw_98) (fun _ h9 => h9) rfl (by decide +kernel) rfl rfl (Nat.le_of_ble_eq_true rfl) dX8_append_36 (fun H locs hP hD hS => ?_)
    have hP : va_P D vwCl [(ro, .inr (8, [.ref ra, .ref rg, .int (nI (rs + 1))])), (ra, .inl (cs 0, 24, .inl f_18)), (rg, .inl (cs 1, 24, .inr (.inl f_28)))] H := hP
    have hD : va_D A [(ro, .inr (8, [.ref ra, .ref rg, .int (nI (rs + 1))])), (ra, .inl (cs 0, 24, .inl f_18)), (rg, .inl (cs 1, 24, .inr (.inl f_28)))] := hD
    refine W_sQ hQ ?_
    refine W.widen (k := 0) (n := 0) (Nat.le_of_ble_eq_true rfl) (Nat.le_of_ble_eq_true rfl) ?_
    have hP9 := hP.sub (ws' := [(ro, .inr (8, [.ref ra, .ref rg, .int (nI (rs + 1))])), (ra, .inl (cs 0, 24, .inl f_18)), (rg, .inl (cs 1, 24, .inr (.inl f_28)))]) [0, 1, 2] rfl
    have hD9 := hD.sub (ws' := [(ro, .inr (8, [.ref ra, .ref rg, .int (nI (rs + 1))])), (ra, .inl (cs 0, 24, .inl f_18)), (rg, .inl (cs 1, 24, .inr (.inl f_28)))]) [0, 1, 2] (by decide) rfl
    exact W.vret hx hb hr (fun t ht hW => ⟨⟨(), rfl, trivial, ⟨rs + 1, f_18, f_28, (by omega), by rw [ht]; exact hP9, hD9⟩⟩, hS.F ht⟩) hS.2.2 dX8_append_39

theorem dX8_answerOf_0 : decode cX8_answerOf 0 = .ok (.aload_n 0, 1) := by decide +kernel
theorem dX8_answerOf_1 : decode cX8_answerOf 1 = .ok (.getfield 9, 3) := by decide +kernel
theorem dX8_answerOf_4 : decode cX8_answerOf 4 = .ok (.iload_n 1, 1) := by decide +kernel
theorem dX8_answerOf_5 : decode cX8_answerOf 5 = .ok (.iaload, 1) := by decide +kernel
theorem dX8_answerOf_6 : decode cX8_answerOf 6 = .ok (.istore_n 3, 1) := by decide +kernel
theorem dX8_answerOf_7 : decode cX8_answerOf 7 = .ok (.iconst 0, 1) := by decide +kernel
theorem dX8_answerOf_8 : decode cX8_answerOf 8 = .ok (.istore 4, 2) := by decide +kernel
theorem dX8_answerOf_10 : decode cX8_answerOf 10 = .ok (.iload 4, 2) := by decide +kernel
theorem dX8_answerOf_12 : decode cX8_answerOf 12 = .ok (.iload_n 2, 1) := by decide +kernel
theorem dX8_answerOf_13 : decode cX8_answerOf 13 = .ok (.if_icmp .ge 13, 3) := by decide +kernel
theorem dX8_answerOf_16 : decode cX8_answerOf 16 = .ok (.iload_n 3, 1) := by decide +kernel
theorem dX8_answerOf_17 : decode cX8_answerOf 17 = .ok (.iconst 3, 1) := by decide +kernel
theorem dX8_answerOf_18 : decode cX8_answerOf 18 = .ok (.idiv, 1) := by decide +kernel
theorem dX8_answerOf_19 : decode cX8_answerOf 19 = .ok (.istore_n 3, 1) := by decide +kernel
theorem dX8_answerOf_20 : decode cX8_answerOf 20 = .ok (.iinc 4 1, 3) := by decide +kernel
theorem dX8_answerOf_23 : decode cX8_answerOf 23 = .ok (.goto (-13), 3) := by decide +kernel
theorem dX8_answerOf_26 : decode cX8_answerOf 26 = .ok (.iload_n 3, 1) := by decide +kernel
theorem dX8_answerOf_27 : decode cX8_answerOf 27 = .ok (.iconst 3, 1) := by decide +kernel
theorem dX8_answerOf_28 : decode cX8_answerOf 28 = .ok (.irem, 1) := by decide +kernel
theorem dX8_answerOf_29 : decode cX8_answerOf 29 = .ok (.ireturn, 1) := by decide +kernel

set_option maxHeartbeats 4000000 in
set_option maxRecDepth 100000 in
theorem w_answerOf (l : Launch) (D : va_G) (cs : Nat → ClassId) (ro : Nat) (ra : Nat) (rg : Nat) (rs : Nat) (hrs : rs ≤ 24) (fra : Nat → Int32) (rw_ : Nat) (hrw : rw_ < 24) (pe : Nat) (hpe : pe ≤ 4) : Met l yX8_answerOf (Cond.code yX8_answerOf cX8_answerOf 5 (some .int) :: gw_tbl) ({ frames := 0, cells := 0, slots := 0, locals := 0 }) (pc_S D cs [(ro, .inr (8, [.ref ra, .ref rg, .int (nI rs)])), (ra, .inl (cs 0, 24, .inl fra))] [.ref ro, .int (nI rw_), .int (nI pe)]) (vp_Si (fun r => True)) 0 0 (fun _ => False) := by
  refine Met.ofW (cc := cX8_answerOf) (maxL := 5) (ret := (some .int)) (by decide) rfl ?_
  intro p e s m args below meth c s₁ B hml hv
  obtain ⟨hargs, hP, hK⟩ := hv
  have hx := B.exec
  have hb := B.bytes
  have hr := B.returns
  have hts := atoms_spec (ws := Cond.code yX8_answerOf cX8_answerOf 5 (some .int) :: gw_tbl) B.pre
  have hg := fun (w : Cond) (h : w ∈ gw_tbl) => hts w (List.mem_cons_of_mem _ h)
  have hown : s.vm.findClass RX8 = some m.cls := findClass_of_methodNamed B.named
  have hlocks := B.notSynchronized
  have hl := lv_entry ([.ref ro, .int (nI rw_), .int (nI pe)]) (n := 5) (Nat.le_of_ble_eq_true rfl)
  rw [show entryFrame m args 5 = F0 m 0 (lg_sl ([.ref ro, .int (nI rw_), .int (nI pe)]) ++ List.replicate (5 - (lg_sl ([.ref ro, .int (nI rw_), .int (nI pe)])).length) Slot.unset).toArray [] from by rw [hargs]; exact lg_entry_eq ..]
  generalize (lg_sl ([.ref ro, .int (nI rw_), .int (nI pe)]) ++ List.replicate (5 - (lg_sl ([.ref ro, .int (nI rw_), .int (nI pe)])).length) Slot.unset).toArray = ls at hl ⊢
  have hl : lv_has ls 5 [(0, .ref ro), (1, .int (nI rw_)), (2, .int (nI pe))] := hl
  refine W_genQ (fun Q hQ => ?_)
  refine lv_aload_n hx hb dX8_answerOf_0 rfl (lv_at hl 0 rfl) ?_
  refine va_get (D := D) (ci := 8) (v := .ref ra) (C := RX8) (T := TX8) (N := 3) hx hb hg gwX8 hown hK hP 0 rfl rfl 0 (by decide) (hg _ kw_99) (fun _ h9 => h9) rfl dX8_answerOf_1 ?_
  refine lv_iload_n hx hb dX8_answerOf_4 rfl (lv_at hl 1 rfl) ?_
  refine va_iald hx hb hK hP 1 0 rfl rfl (vp_in_nI (show rw_ < 24 by omega) (by decide)) dX8_answerOf_5 ?_
  refine lv_topi (fun z_5 e_5 => ?_)
  refine lv_istore_n (lv' := [(3, .int z_5), (0, .ref ro), (1, .int (nI rw_)), (2, .int (nI pe))]) hx hb dX8_answerOf_6 rfl hl (by decide) rfl (fun ls hl => ?_)
  refine lv_iconst (v := 0) hx hb dX8_answerOf_7 (by decide) ?_
  refine lv_istore (lv' := [(4, .int 0), (3, .int z_5), (0, .ref ro), (1, .int (nI rw_)), (2, .int (nI pe))]) hx hb dX8_answerOf_8 hl (by decide) rfl (fun ls hl => ?_)
  have LOOP10 : ∀ (n10 : Nat) (u3_10 : Int32) (k : Nat), k ≤ pe → pe - k < n10 → ∀ (ls : Array Slot), lv_has ls 5 [(0, .ref ro), (1, .int (nI rw_)), (2, .int (nI pe)), (3, .int u3_10), (4, .int (nI k))] → W p l e ({ frames := 0, cells := 0, slots := 0, locals := 0 } : Room) s m args below meth c s.heap [] 0 0 Q (F0 m 10 ls []) := by
    intro n10
    induction n10 with
    | zero =>
      intro u3_10 k hk hn10 ls hl
      exact absurd hn10 (Nat.not_lt_zero _)
    | succ n10 ih10 =>
      intro u3_10 k hk hn10 ls hl
      refine lv_iload hx hb dX8_answerOf_10 (lv_at hl 4 rfl) ?_
      refine lv_iload_n hx hb dX8_answerOf_12 rfl (lv_at hl 2 rfl) ?_
      refine lv_icmp_ge (tgt := 26) hx hb dX8_answerOf_13 (by decide) (fun c_13 => ?_) (fun c_13 => ?_)
      · have n_13 : pe ≤ k := b_le_t (by omega) (by omega) c_13
        refine lv_iload_n hx hb dX8_answerOf_26 rfl (lv_at hl 3 rfl) ?_
        refine lv_iconst (v := 3) hx hb dX8_answerOf_27 (by decide) ?_
        refine lv_irem hx hb dX8_answerOf_28 (by decide) ?_
        refine lv_topi (fun z_28 e_28 => ?_)
        refine W_sQ hQ ?_
        exact W.iret (v := z_28) hx hb hr (fun t ht hW => ⟨z_28, rfl, trivial, ht⟩) (fun _ h => absurd h List.not_mem_nil) dX8_answerOf_29
      · have n_13 : k < pe := b_le_f (by omega) (by omega) c_13
        refine lv_iload_n hx hb dX8_answerOf_16 rfl (lv_at hl 3 rfl) ?_
        refine lv_iconst (v := 3) hx hb dX8_answerOf_17 (by decide) ?_
        refine lv_idiv hx hb dX8_answerOf_18 (by decide) ?_
        refine lv_topi (fun z_18 e_18 => ?_)
        refine lv_istore_n (lv' := [(3, .int z_18), (0, .ref ro), (1, .int (nI rw_)), (2, .int (nI pe)), (4, .int (nI k))]) hx hb dX8_answerOf_19 rfl hl (by decide) rfl (fun ls hl => ?_)
        refine lv_iinc (v := (nI (k + 1))) (lv' := [(4, .int (nI (k + 1))), (3, .int z_18), (0, .ref ro), (1, .int (nI rw_)), (2, .int (nI pe))]) hx hb dX8_answerOf_20 hl (k := 4) rfl (nI_add k 1) (by decide) rfl (fun ls hl => ?_)
        refine lv_goto (tgt := 10) hx hb dX8_answerOf_23 (by decide) ?_
        exact ih10 z_18 (k + 1) (by omega) (by omega) ls (lv_sub hl [2, 3, 4, 1, 0] rfl)
  exact LOOP10 (pe - 0 + 1) z_5 0 (by omega) (Nat.lt_succ_self _) ls (lv_sub hl [2, 3, 4, 1, 0] rfl)

theorem dX8_guessOf_0 : decode cX8_guessOf 0 = .ok (.aload_n 0, 1) := by decide +kernel
theorem dX8_guessOf_1 : decode cX8_guessOf 1 = .ok (.getfield 15, 3) := by decide +kernel
theorem dX8_guessOf_4 : decode cX8_guessOf 4 = .ok (.iload_n 1, 1) := by decide +kernel
theorem dX8_guessOf_5 : decode cX8_guessOf 5 = .ok (.laload, 1) := by decide +kernel
theorem dX8_guessOf_6 : decode cX8_guessOf 6 = .ok (.lstore_n 3, 1) := by decide +kernel
theorem dX8_guessOf_7 : decode cX8_guessOf 7 = .ok (.iconst 0, 1) := by decide +kernel
theorem dX8_guessOf_8 : decode cX8_guessOf 8 = .ok (.istore 5, 2) := by decide +kernel
theorem dX8_guessOf_10 : decode cX8_guessOf 10 = .ok (.iload 5, 2) := by decide +kernel
theorem dX8_guessOf_12 : decode cX8_guessOf 12 = .ok (.iload_n 2, 1) := by decide +kernel
theorem dX8_guessOf_13 : decode cX8_guessOf 13 = .ok (.if_icmp .ge 15, 3) := by decide +kernel
theorem dX8_guessOf_16 : decode cX8_guessOf 16 = .ok (.lload_n 3, 1) := by decide +kernel
theorem dX8_guessOf_17 : decode cX8_guessOf 17 = .ok (.ldc2_w 19, 3) := by decide +kernel
theorem dX8_guessOf_20 : decode cX8_guessOf 20 = .ok (.ldiv, 1) := by decide +kernel
theorem dX8_guessOf_21 : decode cX8_guessOf 21 = .ok (.lstore_n 3, 1) := by decide +kernel
theorem dX8_guessOf_22 : decode cX8_guessOf 22 = .ok (.iinc 5 1, 3) := by decide +kernel
theorem dX8_guessOf_25 : decode cX8_guessOf 25 = .ok (.goto (-15), 3) := by decide +kernel
theorem dX8_guessOf_28 : decode cX8_guessOf 28 = .ok (.lload_n 3, 1) := by decide +kernel
theorem dX8_guessOf_29 : decode cX8_guessOf 29 = .ok (.ldc2_w 19, 3) := by decide +kernel
theorem dX8_guessOf_32 : decode cX8_guessOf 32 = .ok (.lrem, 1) := by decide +kernel
theorem dX8_guessOf_33 : decode cX8_guessOf 33 = .ok (.l2i, 1) := by decide +kernel
theorem dX8_guessOf_34 : decode cX8_guessOf 34 = .ok (.ireturn, 1) := by decide +kernel

set_option maxHeartbeats 4000000 in
set_option maxRecDepth 100000 in
theorem w_guessOf (l : Launch) (D : va_G) (cs : Nat → ClassId) (ro : Nat) (ra : Nat) (rg : Nat) (rs : Nat) (hrs : rs ≤ 24) (frg : Nat → Int64) (rw_ : Nat) (hrw : rw_ < 24) (pe : Nat) (hpe : pe ≤ 4) : Met l yX8_guessOf (Cond.code yX8_guessOf cX8_guessOf 6 (some .int) :: gw_tbl) ({ frames := 0, cells := 0, slots := 0, locals := 0 }) (pc_S D cs [(ro, .inr (8, [.ref ra, .ref rg, .int (nI rs)])), (rg, .inl (cs 1, 24, .inr (.inl frg)))] [.ref ro, .int (nI rw_), .int (nI pe)]) (vp_Si (fun r => True)) 0 0 (fun _ => False) := by
  refine Met.ofW (cc := cX8_guessOf) (maxL := 6) (ret := (some .int)) (by decide) rfl ?_
  intro p e s m args below meth c s₁ B hml hv
  obtain ⟨hargs, hP, hK⟩ := hv
  have hx := B.exec
  have hb := B.bytes
  have hr := B.returns
  have hts := atoms_spec (ws := Cond.code yX8_guessOf cX8_guessOf 6 (some .int) :: gw_tbl) B.pre
  have hg := fun (w : Cond) (h : w ∈ gw_tbl) => hts w (List.mem_cons_of_mem _ h)
  have hown : s.vm.findClass RX8 = some m.cls := findClass_of_methodNamed B.named
  have hlocks := B.notSynchronized
  have hl := lv_entry ([.ref ro, .int (nI rw_), .int (nI pe)]) (n := 6) (Nat.le_of_ble_eq_true rfl)
  rw [show entryFrame m args 6 = F0 m 0 (lg_sl ([.ref ro, .int (nI rw_), .int (nI pe)]) ++ List.replicate (6 - (lg_sl ([.ref ro, .int (nI rw_), .int (nI pe)])).length) Slot.unset).toArray [] from by rw [hargs]; exact lg_entry_eq ..]
  generalize (lg_sl ([.ref ro, .int (nI rw_), .int (nI pe)]) ++ List.replicate (6 - (lg_sl ([.ref ro, .int (nI rw_), .int (nI pe)])).length) Slot.unset).toArray = ls at hl ⊢
  have hl : lv_has ls 6 [(0, .ref ro), (1, .int (nI rw_)), (2, .int (nI pe))] := hl
  refine W_genQ (fun Q hQ => ?_)
  refine lv_aload_n hx hb dX8_guessOf_0 rfl (lv_at hl 0 rfl) ?_
  refine va_get (D := D) (ci := 8) (v := .ref rg) (C := RX8) (T := TX8) (N := 3) hx hb hg gwX8 hown hK hP 0 rfl rfl 1 (by decide) (hg _ kw_100) (fun _ h9 => h9) rfl dX8_guessOf_1 ?_
  refine lv_iload_n hx hb dX8_guessOf_4 rfl (lv_at hl 1 rfl) ?_
  refine va_lald hx hb hK hP 1 1 rfl rfl (vp_in_nI (show rw_ < 24 by omega) (by decide)) dX8_guessOf_5 ?_
  refine lv_topl (fun z_5 e_5 => ?_)
  refine lv_lstore_n (lv' := [(3, .long z_5), (0, .ref ro), (1, .int (nI rw_)), (2, .int (nI pe))]) hx hb dX8_guessOf_6 rfl hl (by decide) rfl (fun ls hl => ?_)
  refine lv_iconst (v := 0) hx hb dX8_guessOf_7 (by decide) ?_
  refine lv_istore (lv' := [(5, .int 0), (3, .long z_5), (0, .ref ro), (1, .int (nI rw_)), (2, .int (nI pe))]) hx hb dX8_guessOf_8 hl (by decide) rfl (fun ls hl => ?_)
  have LOOP10 : ∀ (n10 : Nat) (u3_10 : Int64) (k : Nat), k ≤ pe → pe - k < n10 → ∀ (ls : Array Slot), lv_has ls 6 [(0, .ref ro), (1, .int (nI rw_)), (2, .int (nI pe)), (3, .long u3_10), (5, .int (nI k))] → W p l e ({ frames := 0, cells := 0, slots := 0, locals := 0 } : Room) s m args below meth c s.heap [] 0 0 Q (F0 m 10 ls []) := by
    intro n10
    induction n10 with
    | zero =>
      intro u3_10 k hk hn10 ls hl
      exact absurd hn10 (Nat.not_lt_zero _)
    | succ n10 ih10 =>
      intro u3_10 k hk hn10 ls hl
      refine lv_iload hx hb dX8_guessOf_10 (lv_at hl 4 rfl) ?_
      refine lv_iload_n hx hb dX8_guessOf_12 rfl (lv_at hl 2 rfl) ?_
      refine lv_icmp_ge (tgt := 28) hx hb dX8_guessOf_13 (by decide) (fun c_13 => ?_) (fun c_13 => ?_)
      · have n_13 : pe ≤ k := b_le_t (by omega) (by omega) c_13
        refine lv_lload_n hx hb dX8_guessOf_28 rfl (lv_at hl 3 rfl) ?_
        refine lv_ldc2 hx hb hown (hg _ kw_4) dX8_guessOf_29 ?_
        refine lv_lrem hx hb dX8_guessOf_32 (by decide) ?_
        refine lv_topl (fun z_32 e_32 => ?_)
        refine lv_l2i hx hb dX8_guessOf_33 rfl ?_
        refine lv_topi (fun z_33 e_33 => ?_)
        refine W_sQ hQ ?_
        exact W.iret (v := z_33) hx hb hr (fun t ht hW => ⟨z_33, rfl, trivial, ht⟩) (fun _ h => absurd h List.not_mem_nil) dX8_guessOf_34
      · have n_13 : k < pe := b_le_f (by omega) (by omega) c_13
        refine lv_lload_n hx hb dX8_guessOf_16 rfl (lv_at hl 3 rfl) ?_
        refine lv_ldc2 hx hb hown (hg _ kw_4) dX8_guessOf_17 ?_
        refine lv_ldiv hx hb dX8_guessOf_20 (by decide) ?_
        refine lv_topl (fun z_20 e_20 => ?_)
        refine lv_lstore_n (lv' := [(3, .long z_20), (0, .ref ro), (1, .int (nI rw_)), (2, .int (nI pe)), (5, .int (nI k))]) hx hb dX8_guessOf_21 rfl hl (by decide) rfl (fun ls hl => ?_)
        refine lv_iinc (v := (nI (k + 1))) (lv' := [(5, .int (nI (k + 1))), (3, .long z_20), (0, .ref ro), (1, .int (nI rw_)), (2, .int (nI pe))]) hx hb dX8_guessOf_22 hl (k := 4) rfl (nI_add k 1) (by decide) rfl (fun ls hl => ?_)
        refine lv_goto (tgt := 10) hx hb dX8_guessOf_25 (by decide) ?_
        exact ih10 z_20 (k + 1) (by omega) (by omega) ls (lv_sub hl [2, 3, 4, 1, 0] rfl)
  exact LOOP10 (pe - 0 + 1) z_5 0 (by omega) (Nat.lt_succ_self _) ls (lv_sub hl [2, 3, 4, 1, 0] rfl)

theorem dX8_bothAnswered_0 : decode cX8_bothAnswered 0 = .ok (.aload_n 0, 1) := by decide +kernel
theorem dX8_bothAnswered_1 : decode cX8_bothAnswered 1 = .ok (.iload_n 1, 1) := by decide +kernel
theorem dX8_bothAnswered_2 : decode cX8_bothAnswered 2 = .ok (.iload_n 2, 1) := by decide +kernel
theorem dX8_bothAnswered_3 : decode cX8_bothAnswered 3 = .ok (.invokevirtual 29, 3) := by decide +kernel
theorem dX8_bothAnswered_6 : decode cX8_bothAnswered 6 = .ok (.iconst 2, 1) := by decide +kernel
theorem dX8_bothAnswered_7 : decode cX8_bothAnswered 7 = .ok (.if_icmp .eq 17, 3) := by decide +kernel
theorem dX8_bothAnswered_10 : decode cX8_bothAnswered 10 = .ok (.aload_n 0, 1) := by decide +kernel
theorem dX8_bothAnswered_11 : decode cX8_bothAnswered 11 = .ok (.iload_n 1, 1) := by decide +kernel
theorem dX8_bothAnswered_12 : decode cX8_bothAnswered 12 = .ok (.iload_n 3, 1) := by decide +kernel
theorem dX8_bothAnswered_13 : decode cX8_bothAnswered 13 = .ok (.invokevirtual 29, 3) := by decide +kernel
theorem dX8_bothAnswered_16 : decode cX8_bothAnswered 16 = .ok (.iconst 2, 1) := by decide +kernel
theorem dX8_bothAnswered_17 : decode cX8_bothAnswered 17 = .ok (.if_icmp .eq 7, 3) := by decide +kernel
theorem dX8_bothAnswered_20 : decode cX8_bothAnswered 20 = .ok (.iconst 1, 1) := by decide +kernel
theorem dX8_bothAnswered_21 : decode cX8_bothAnswered 21 = .ok (.goto 4, 3) := by decide +kernel
theorem dX8_bothAnswered_24 : decode cX8_bothAnswered 24 = .ok (.iconst 0, 1) := by decide +kernel
theorem dX8_bothAnswered_25 : decode cX8_bothAnswered 25 = .ok (.ireturn, 1) := by decide +kernel
theorem kw_101 : (.code yX8_answerOf cX8_answerOf 5 (some .int) : Cond) ∈ gw_tbl := gw_in (by decide +kernel) (by decide +kernel)
theorem kw_102 : (.methodLink RX8 29 yX8_answerOf : Cond) ∈ gw_tbl := gw_in (by decide +kernel) (by decide +kernel)
theorem kw_103 : (.instanceMethod yX8_answerOf : Cond) ∈ gw_tbl := gw_in (by decide +kernel) (by decide +kernel)
theorem kw_104 : (.selects RX8 yX8_answerOf yX8_answerOf : Cond) ∈ gw_tbl := gw_in (by decide +kernel) (by decide +kernel)
theorem kw_105 : (.initialized RX8 : Cond) ∈ gw_tbl := gw_in (by decide +kernel) (by decide +kernel)

set_option maxHeartbeats 4000000 in
set_option maxRecDepth 100000 in
theorem w_bothAnswered (l : Launch) (D : va_G) (cs : Nat → ClassId) (ro : Nat) (ra : Nat) (rg : Nat) (rs : Nat) (hrs : rs ≤ 24) (fra : Nat → Int32) (rw_ : Nat) (hrw : rw_ < 24) (i_ : Nat) (j_ : Nat) (hi_ : i_ ≤ 4) (hj_ : j_ ≤ 4) : Met l yX8_bothAnswered (Cond.code yX8_bothAnswered cX8_bothAnswered 4 (some .boolean) :: gw_tbl) ({ frames := 1, cells := 0, slots := 0, locals := 24 }) (pc_S D cs [(ro, .inr (8, [.ref ra, .ref rg, .int (nI rs)])), (ra, .inl (cs 0, 24, .inl fra))] [.ref ro, .int (nI rw_), .int (nI i_), .int (nI j_)]) (vp_Si (fun r => r = 0 ∨ r = 1)) 0 0 (fun _ => False) := by
  refine Met.ofW (cc := cX8_bothAnswered) (maxL := 4) (ret := (some .boolean)) (by decide) rfl ?_
  intro p e s m args below meth c s₁ B hml hv
  obtain ⟨hargs, hP, hK⟩ := hv
  have hx := B.exec
  have hb := B.bytes
  have hr := B.returns
  have hts := atoms_spec (ws := Cond.code yX8_bothAnswered cX8_bothAnswered 4 (some .boolean) :: gw_tbl) B.pre
  have hg := fun (w : Cond) (h : w ∈ gw_tbl) => hts w (List.mem_cons_of_mem _ h)
  have hown : s.vm.findClass RX8 = some m.cls := findClass_of_methodNamed B.named
  have hlocks := B.notSynchronized
  have hl := lv_entry ([.ref ro, .int (nI rw_), .int (nI i_), .int (nI j_)]) (n := 4) (Nat.le_of_ble_eq_true rfl)
  rw [show entryFrame m args 4 = F0 m 0 (lg_sl ([.ref ro, .int (nI rw_), .int (nI i_), .int (nI j_)]) ++ List.replicate (4 - (lg_sl ([.ref ro, .int (nI rw_), .int (nI i_), .int (nI j_)])).length) Slot.unset).toArray [] from by rw [hargs]; exact lg_entry_eq ..]
  generalize (lg_sl ([.ref ro, .int (nI rw_), .int (nI i_), .int (nI j_)]) ++ List.replicate (4 - (lg_sl ([.ref ro, .int (nI rw_), .int (nI i_), .int (nI j_)])).length) Slot.unset).toArray = ls at hl ⊢
  have hl : lv_has ls 4 [(0, .ref ro), (1, .int (nI rw_)), (2, .int (nI i_)), (3, .int (nI j_))] := hl
  refine W_genQ (fun Q hQ => ?_)
  refine lv_aload_n hx hb dX8_bothAnswered_0 rfl (lv_at hl 0 rfl) ?_
  refine lv_iload_n hx hb dX8_bothAnswered_1 rfl (lv_at hl 1 rfl) ?_
  refine lv_iload_n hx hb dX8_bothAnswered_2 rfl (lv_at hl 2 rfl) ?_
  have hPc := hP.sub (ws' := [(ro, .inr (8, [.ref ra, .ref rg, .int (nI rs)])), (ra, .inl (cs 0, 24, .inl fra))]) [0, 1] rfl
  refine vp_callSi (W.runV (As := [.int (nI rw_), .int (nI i_)]) (rest := []) ⟨hx, hb, hml, hown, hg⟩ (w_answerOf l D cs ro ra rg rs (by omega) fra rw_ (by omega) i_ (by omega)) (cwV 2 hg (gw_V kw_102 kw_103 kw_104 kw_105 kw_101) rfl rfl rfl (by decide +kernel) ⟨(Nat.le_of_ble_eq_true rfl), (Nat.le_of_ble_eq_true rfl)⟩) (pr_SV (q := (RX8, TX8, 3)) 8 0 hK hPc rfl rfl) rfl rfl hl.1 rfl (lv_room (Nat.le_of_ble_eq_true rfl)) dX8_bothAnswered_3 ⟨(Nat.le_of_ble_eq_true rfl), (Nat.le_of_ble_eq_true rfl)⟩) (fun r_3 h_3 => ?_)
  clear h_3
  refine lv_iconst (v := 2) hx hb dX8_bothAnswered_6 (by decide) ?_
  refine lv_icmp_eq (tgt := 24) hx hb dX8_bothAnswered_7 (by decide) (fun c_7 => ?_) (fun c_7 => ?_)
  · refine lv_iconst (v := 0) hx hb dX8_bothAnswered_24 (by decide) ?_
    refine W_sQ hQ ?_
    exact W.zret (v := 0) hx hb hr (by decide) (fun t ht hW => ⟨0, rfl, (Or.inl rfl), ht⟩) (fun _ h => absurd h List.not_mem_nil) dX8_bothAnswered_25
  · refine lv_aload_n hx hb dX8_bothAnswered_10 rfl (lv_at hl 0 rfl) ?_
    refine lv_iload_n hx hb dX8_bothAnswered_11 rfl (lv_at hl 1 rfl) ?_
    refine lv_iload_n hx hb dX8_bothAnswered_12 rfl (lv_at hl 3 rfl) ?_
    have hPc := hP.sub (ws' := [(ro, .inr (8, [.ref ra, .ref rg, .int (nI rs)])), (ra, .inl (cs 0, 24, .inl fra))]) [0, 1] rfl
    refine vp_callSi (W.runV (As := [.int (nI rw_), .int (nI j_)]) (rest := []) ⟨hx, hb, hml, hown, hg⟩ (w_answerOf l D cs ro ra rg rs (by omega) fra rw_ (by omega) j_ (by omega)) (cwV 2 hg (gw_V kw_102 kw_103 kw_104 kw_105 kw_101) rfl rfl rfl (by decide +kernel) ⟨(Nat.le_of_ble_eq_true rfl), (Nat.le_of_ble_eq_true rfl)⟩) (pr_SV (q := (RX8, TX8, 3)) 8 0 hK hPc rfl rfl) rfl rfl hl.1 rfl (lv_room (Nat.le_of_ble_eq_true rfl)) dX8_bothAnswered_13 ⟨(Nat.le_of_ble_eq_true rfl), (Nat.le_of_ble_eq_true rfl)⟩) (fun r_13 h_13 => ?_)
    clear h_13
    refine lv_iconst (v := 2) hx hb dX8_bothAnswered_16 (by decide) ?_
    refine lv_icmp_eq (tgt := 24) hx hb dX8_bothAnswered_17 (by decide) (fun c_17 => ?_) (fun c_17 => ?_)
    · refine lv_iconst (v := 0) hx hb dX8_bothAnswered_24 (by decide) ?_
      refine W_sQ hQ ?_
      exact W.zret (v := 0) hx hb hr (by decide) (fun t ht hW => ⟨0, rfl, (Or.inl rfl), ht⟩) (fun _ h => absurd h List.not_mem_nil) dX8_bothAnswered_25
    · refine lv_iconst (v := 1) hx hb dX8_bothAnswered_20 (by decide) ?_
      refine lv_goto (tgt := 25) hx hb dX8_bothAnswered_21 (by decide) ?_
      refine W_sQ hQ ?_
      exact W.zret (v := 1) hx hb hr (by decide) (fun t ht hW => ⟨1, rfl, (Or.inr rfl), ht⟩) (fun _ h => absurd h List.not_mem_nil) dX8_bothAnswered_25

theorem dX8_answeredByBoth_0 : decode cX8_answeredByBoth 0 = .ok (.iconst 0, 1) := by decide +kernel
theorem dX8_answeredByBoth_1 : decode cX8_answeredByBoth 1 = .ok (.istore_n 3, 1) := by decide +kernel
theorem dX8_answeredByBoth_2 : decode cX8_answeredByBoth 2 = .ok (.iconst 0, 1) := by decide +kernel
theorem dX8_answeredByBoth_3 : decode cX8_answeredByBoth 3 = .ok (.istore 4, 2) := by decide +kernel
theorem dX8_answeredByBoth_5 : decode cX8_answeredByBoth 5 = .ok (.iload 4, 2) := by decide +kernel
theorem dX8_answeredByBoth_7 : decode cX8_answeredByBoth 7 = .ok (.aload_n 0, 1) := by decide +kernel
theorem dX8_answeredByBoth_8 : decode cX8_answeredByBoth 8 = .ok (.getfield 21, 3) := by decide +kernel
theorem dX8_answeredByBoth_11 : decode cX8_answeredByBoth 11 = .ok (.if_icmp .ge 23, 3) := by decide +kernel
theorem dX8_answeredByBoth_14 : decode cX8_answeredByBoth 14 = .ok (.aload_n 0, 1) := by decide +kernel
theorem dX8_answeredByBoth_15 : decode cX8_answeredByBoth 15 = .ok (.iload 4, 2) := by decide +kernel
theorem dX8_answeredByBoth_17 : decode cX8_answeredByBoth 17 = .ok (.iload_n 1, 1) := by decide +kernel
theorem dX8_answeredByBoth_18 : decode cX8_answeredByBoth 18 = .ok (.iload_n 2, 1) := by decide +kernel
theorem dX8_answeredByBoth_19 : decode cX8_answeredByBoth 19 = .ok (.invokevirtual 25, 3) := by decide +kernel
theorem dX8_answeredByBoth_22 : decode cX8_answeredByBoth 22 = .ok (.ifCond .eq 6, 3) := by decide +kernel
theorem dX8_answeredByBoth_25 : decode cX8_answeredByBoth 25 = .ok (.iinc 3 1, 3) := by decide +kernel
theorem dX8_answeredByBoth_28 : decode cX8_answeredByBoth 28 = .ok (.iinc 4 1, 3) := by decide +kernel
theorem dX8_answeredByBoth_31 : decode cX8_answeredByBoth 31 = .ok (.goto (-26), 3) := by decide +kernel
theorem dX8_answeredByBoth_34 : decode cX8_answeredByBoth 34 = .ok (.iload_n 3, 1) := by decide +kernel
theorem dX8_answeredByBoth_35 : decode cX8_answeredByBoth 35 = .ok (.ireturn, 1) := by decide +kernel
theorem kw_106 : (.code yX8_bothAnswered cX8_bothAnswered 4 (some .boolean) : Cond) ∈ gw_tbl := gw_in (by decide +kernel) (by decide +kernel)
theorem kw_107 : (.methodLink RX8 25 yX8_bothAnswered : Cond) ∈ gw_tbl := gw_in (by decide +kernel) (by decide +kernel)
theorem kw_108 : (.instanceMethod yX8_bothAnswered : Cond) ∈ gw_tbl := gw_in (by decide +kernel) (by decide +kernel)
theorem kw_109 : (.selects RX8 yX8_bothAnswered yX8_bothAnswered : Cond) ∈ gw_tbl := gw_in (by decide +kernel) (by decide +kernel)

set_option maxHeartbeats 4000000 in
set_option maxRecDepth 100000 in
theorem w_answeredByBoth (l : Launch) (D : va_G) (cs : Nat → ClassId) (ro : Nat) (ra : Nat) (rg : Nat) (rs : Nat) (hrs : rs ≤ 24) (fra : Nat → Int32) (i_ : Nat) (j_ : Nat) (hi_ : i_ ≤ 4) (hj_ : j_ ≤ 4) : Met l yX8_answeredByBoth (Cond.code yX8_answeredByBoth cX8_answeredByBoth 5 (some .int) :: gw_tbl) ({ frames := 2, cells := 0, slots := 0, locals := 47 }) (pc_S D cs [(ro, .inr (8, [.ref ra, .ref rg, .int (nI rs)])), (ra, .inl (cs 0, 24, .inl fra))] [.ref ro, .int (nI i_), .int (nI j_)]) (vp_Si (fun r => True)) 0 0 (fun _ => False) := by
  refine Met.ofW (cc := cX8_answeredByBoth) (maxL := 5) (ret := (some .int)) (by decide) rfl ?_
  intro p e s m args below meth c s₁ B hml hv
  obtain ⟨hargs, hP, hK⟩ := hv
  have hx := B.exec
  have hb := B.bytes
  have hr := B.returns
  have hts := atoms_spec (ws := Cond.code yX8_answeredByBoth cX8_answeredByBoth 5 (some .int) :: gw_tbl) B.pre
  have hg := fun (w : Cond) (h : w ∈ gw_tbl) => hts w (List.mem_cons_of_mem _ h)
  have hown : s.vm.findClass RX8 = some m.cls := findClass_of_methodNamed B.named
  have hlocks := B.notSynchronized
  have hl := lv_entry ([.ref ro, .int (nI i_), .int (nI j_)]) (n := 5) (Nat.le_of_ble_eq_true rfl)
  rw [show entryFrame m args 5 = F0 m 0 (lg_sl ([.ref ro, .int (nI i_), .int (nI j_)]) ++ List.replicate (5 - (lg_sl ([.ref ro, .int (nI i_), .int (nI j_)])).length) Slot.unset).toArray [] from by rw [hargs]; exact lg_entry_eq ..]
  generalize (lg_sl ([.ref ro, .int (nI i_), .int (nI j_)]) ++ List.replicate (5 - (lg_sl ([.ref ro, .int (nI i_), .int (nI j_)])).length) Slot.unset).toArray = ls at hl ⊢
  have hl : lv_has ls 5 [(0, .ref ro), (1, .int (nI i_)), (2, .int (nI j_))] := hl
  refine W_genQ (fun Q hQ => ?_)
  refine lv_iconst (v := 0) hx hb dX8_answeredByBoth_0 (by decide) ?_
  refine lv_istore_n (lv' := [(3, .int 0), (0, .ref ro), (1, .int (nI i_)), (2, .int (nI j_))]) hx hb dX8_answeredByBoth_1 rfl hl (by decide) rfl (fun ls hl => ?_)
  refine lv_iconst (v := 0) hx hb dX8_answeredByBoth_2 (by decide) ?_
  refine lv_istore (lv' := [(4, .int 0), (3, .int 0), (0, .ref ro), (1, .int (nI i_)), (2, .int (nI j_))]) hx hb dX8_answeredByBoth_3 hl (by decide) rfl (fun ls hl => ?_)
  have LOOP5 : ∀ (n5 : Nat) (u3_5 : Int32) (k : Nat), k ≤ rs → rs - k < n5 → ∀ (ls : Array Slot), lv_has ls 5 [(0, .ref ro), (1, .int (nI i_)), (2, .int (nI j_)), (3, .int u3_5), (4, .int (nI k))] → W p l e ({ frames := 2, cells := 0, slots := 0, locals := 47 } : Room) s m args below meth c s.heap [] 0 0 Q (F0 m 5 ls []) := by
    intro n5
    induction n5 with
    | zero =>
      intro u3_5 k hk hn5 ls hl
      exact absurd hn5 (Nat.not_lt_zero _)
    | succ n5 ih5 =>
      intro u3_5 k hk hn5 ls hl
      refine lv_iload hx hb dX8_answeredByBoth_5 (lv_at hl 4 rfl) ?_
      refine lv_aload_n hx hb dX8_answeredByBoth_7 rfl (lv_at hl 0 rfl) ?_
      refine va_get (D := D) (ci := 8) (v := .int (nI rs)) (C := RX8) (T := TX8) (N := 3) hx hb hg gwX8 hown hK hP 0 rfl rfl 2 (by decide) (hg _ kw_98) (fun _ h9 => h9) rfl dX8_answeredByBoth_8 ?_
      refine lv_icmp_ge (tgt := 34) hx hb dX8_answeredByBoth_11 (by decide) (fun c_11 => ?_) (fun c_11 => ?_)
      · have n_11 : rs ≤ k := b_le_t (by omega) (by omega) c_11
        refine lv_iload_n hx hb dX8_answeredByBoth_34 rfl (lv_at hl 3 rfl) ?_
        refine W_sQ hQ ?_
        exact W.iret (v := u3_5) hx hb hr (fun t ht hW => ⟨u3_5, rfl, trivial, ht⟩) (fun _ h => absurd h List.not_mem_nil) dX8_answeredByBoth_35
      · have n_11 : k < rs := b_le_f (by omega) (by omega) c_11
        refine lv_aload_n hx hb dX8_answeredByBoth_14 rfl (lv_at hl 0 rfl) ?_
        refine lv_iload hx hb dX8_answeredByBoth_15 (lv_at hl 4 rfl) ?_
        refine lv_iload_n hx hb dX8_answeredByBoth_17 rfl (lv_at hl 1 rfl) ?_
        refine lv_iload_n hx hb dX8_answeredByBoth_18 rfl (lv_at hl 2 rfl) ?_
        have hPc := hP.sub (ws' := [(ro, .inr (8, [.ref ra, .ref rg, .int (nI rs)])), (ra, .inl (cs 0, 24, .inl fra))]) [0, 1] rfl
        refine vp_callSi (W.runV (As := [.int (nI k), .int (nI i_), .int (nI j_)]) (rest := []) ⟨hx, hb, hml, hown, hg⟩ (w_bothAnswered l D cs ro ra rg rs (by omega) fra k (by omega) i_ j_ (by omega) (by omega)) (cwV 3 hg (gw_V kw_107 kw_108 kw_109 kw_105 kw_106) rfl rfl rfl (by decide +kernel) ⟨(Nat.le_of_ble_eq_true rfl), (Nat.le_of_ble_eq_true rfl)⟩) (pr_SV (q := (RX8, TX8, 3)) 8 0 hK hPc rfl rfl) rfl rfl hl.1 rfl (lv_room (Nat.le_of_ble_eq_true rfl)) dX8_answeredByBoth_19 ⟨(Nat.le_of_ble_eq_true rfl), (Nat.le_of_ble_eq_true rfl)⟩) (fun r_19 h_19 => ?_)
        rcases h_19 with rfl | rfl
        · refine lv_if_eq (tgt := 28) hx hb dX8_answeredByBoth_22 (by decide) (fun c_22 => ?_) (fun c_22 => absurd c_22 (by decide))
          refine lv_iinc (v := (nI (k + 1))) (lv' := [(4, .int (nI (k + 1))), (0, .ref ro), (1, .int (nI i_)), (2, .int (nI j_)), (3, .int u3_5)]) hx hb dX8_answeredByBoth_28 hl (k := 4) rfl (nI_add k 1) (by decide) rfl (fun ls hl => ?_)
          refine lv_goto (tgt := 5) hx hb dX8_answeredByBoth_31 (by decide) ?_
          exact ih5 u3_5 (k + 1) (by omega) (by omega) ls (lv_sub hl [1, 2, 3, 4, 0] rfl)
        · refine lv_if_eq (tgt := 28) hx hb dX8_answeredByBoth_22 (by decide) (fun c_22 => absurd c_22 (by decide)) (fun c_22 => ?_)
          obtain ⟨z_25, e_25⟩ : ∃ y : Int32, y = u3_5 + 1 := ⟨_, rfl⟩
          refine lv_iinc (v := z_25) (lv' := [(3, .int z_25), (0, .ref ro), (1, .int (nI i_)), (2, .int (nI j_)), (4, .int (nI k))]) hx hb dX8_answeredByBoth_25 hl (k := 3) rfl (by rw [e_25]; rfl) (by decide) rfl (fun ls hl => ?_)
          refine lv_iinc (v := (nI (k + 1))) (lv' := [(4, .int (nI (k + 1))), (3, .int z_25), (0, .ref ro), (1, .int (nI i_)), (2, .int (nI j_))]) hx hb dX8_answeredByBoth_28 hl (k := 4) rfl (nI_add k 1) (by decide) rfl (fun ls hl => ?_)
          refine lv_goto (tgt := 5) hx hb dX8_answeredByBoth_31 (by decide) ?_
          exact ih5 z_25 (k + 1) (by omega) (by omega) ls (lv_sub hl [2, 3, 4, 1, 0] rfl)
  exact LOOP5 (rs - 0 + 1) 0 0 (by omega) (Nat.lt_succ_self _) ls (lv_sub hl [2, 3, 4, 1, 0] rfl)

theorem dX8_sameInOneRow_0 : decode cX8_sameInOneRow 0 = .ok (.iconst 0, 1) := by decide +kernel
theorem dX8_sameInOneRow_1 : decode cX8_sameInOneRow 1 = .ok (.istore_n 3, 1) := by decide +kernel
theorem dX8_sameInOneRow_2 : decode cX8_sameInOneRow 2 = .ok (.iconst 0, 1) := by decide +kernel
theorem dX8_sameInOneRow_3 : decode cX8_sameInOneRow 3 = .ok (.istore 4, 2) := by decide +kernel
theorem dX8_sameInOneRow_5 : decode cX8_sameInOneRow 5 = .ok (.iload 4, 2) := by decide +kernel
theorem dX8_sameInOneRow_7 : decode cX8_sameInOneRow 7 = .ok (.aload_n 0, 1) := by decide +kernel
theorem dX8_sameInOneRow_8 : decode cX8_sameInOneRow 8 = .ok (.getfield 21, 3) := by decide +kernel
theorem dX8_sameInOneRow_11 : decode cX8_sameInOneRow 11 = .ok (.if_icmp .ge 40, 3) := by decide +kernel
theorem dX8_sameInOneRow_14 : decode cX8_sameInOneRow 14 = .ok (.aload_n 0, 1) := by decide +kernel
theorem dX8_sameInOneRow_15 : decode cX8_sameInOneRow 15 = .ok (.iload 4, 2) := by decide +kernel
theorem dX8_sameInOneRow_17 : decode cX8_sameInOneRow 17 = .ok (.iload_n 1, 1) := by decide +kernel
theorem dX8_sameInOneRow_18 : decode cX8_sameInOneRow 18 = .ok (.iload_n 2, 1) := by decide +kernel
theorem dX8_sameInOneRow_19 : decode cX8_sameInOneRow 19 = .ok (.invokevirtual 25, 3) := by decide +kernel
theorem dX8_sameInOneRow_22 : decode cX8_sameInOneRow 22 = .ok (.ifCond .eq 23, 3) := by decide +kernel
theorem dX8_sameInOneRow_25 : decode cX8_sameInOneRow 25 = .ok (.aload_n 0, 1) := by decide +kernel
theorem dX8_sameInOneRow_26 : decode cX8_sameInOneRow 26 = .ok (.iload 4, 2) := by decide +kernel
theorem dX8_sameInOneRow_28 : decode cX8_sameInOneRow 28 = .ok (.iload_n 1, 1) := by decide +kernel
theorem dX8_sameInOneRow_29 : decode cX8_sameInOneRow 29 = .ok (.invokevirtual 29, 3) := by decide +kernel
theorem dX8_sameInOneRow_32 : decode cX8_sameInOneRow 32 = .ok (.aload_n 0, 1) := by decide +kernel
theorem dX8_sameInOneRow_33 : decode cX8_sameInOneRow 33 = .ok (.iload 4, 2) := by decide +kernel
theorem dX8_sameInOneRow_35 : decode cX8_sameInOneRow 35 = .ok (.iload_n 2, 1) := by decide +kernel
theorem dX8_sameInOneRow_36 : decode cX8_sameInOneRow 36 = .ok (.invokevirtual 29, 3) := by decide +kernel
theorem dX8_sameInOneRow_39 : decode cX8_sameInOneRow 39 = .ok (.if_icmp .ne 6, 3) := by decide +kernel
theorem dX8_sameInOneRow_42 : decode cX8_sameInOneRow 42 = .ok (.iinc 3 1, 3) := by decide +kernel
theorem dX8_sameInOneRow_45 : decode cX8_sameInOneRow 45 = .ok (.iinc 4 1, 3) := by decide +kernel
theorem dX8_sameInOneRow_48 : decode cX8_sameInOneRow 48 = .ok (.goto (-43), 3) := by decide +kernel
theorem dX8_sameInOneRow_51 : decode cX8_sameInOneRow 51 = .ok (.iload_n 3, 1) := by decide +kernel
theorem dX8_sameInOneRow_52 : decode cX8_sameInOneRow 52 = .ok (.ireturn, 1) := by decide +kernel

set_option maxHeartbeats 4000000 in
set_option maxRecDepth 100000 in
theorem w_sameInOneRow (l : Launch) (D : va_G) (cs : Nat → ClassId) (ro : Nat) (ra : Nat) (rg : Nat) (rs : Nat) (hrs : rs ≤ 24) (fra : Nat → Int32) (i_ : Nat) (j_ : Nat) (hi_ : i_ ≤ 4) (hj_ : j_ ≤ 4) : Met l yX8_sameInOneRow (Cond.code yX8_sameInOneRow cX8_sameInOneRow 5 (some .int) :: gw_tbl) ({ frames := 2, cells := 0, slots := 0, locals := 47 }) (pc_S D cs [(ro, .inr (8, [.ref ra, .ref rg, .int (nI rs)])), (ra, .inl (cs 0, 24, .inl fra))] [.ref ro, .int (nI i_), .int (nI j_)]) (vp_Si (fun r => True)) 0 0 (fun _ => False) := by
  refine Met.ofW (cc := cX8_sameInOneRow) (maxL := 5) (ret := (some .int)) (by decide) rfl ?_
  intro p e s m args below meth c s₁ B hml hv
  obtain ⟨hargs, hP, hK⟩ := hv
  have hx := B.exec
  have hb := B.bytes
  have hr := B.returns
  have hts := atoms_spec (ws := Cond.code yX8_sameInOneRow cX8_sameInOneRow 5 (some .int) :: gw_tbl) B.pre
  have hg := fun (w : Cond) (h : w ∈ gw_tbl) => hts w (List.mem_cons_of_mem _ h)
  have hown : s.vm.findClass RX8 = some m.cls := findClass_of_methodNamed B.named
  have hlocks := B.notSynchronized
  have hl := lv_entry ([.ref ro, .int (nI i_), .int (nI j_)]) (n := 5) (Nat.le_of_ble_eq_true rfl)
  rw [show entryFrame m args 5 = F0 m 0 (lg_sl ([.ref ro, .int (nI i_), .int (nI j_)]) ++ List.replicate (5 - (lg_sl ([.ref ro, .int (nI i_), .int (nI j_)])).length) Slot.unset).toArray [] from by rw [hargs]; exact lg_entry_eq ..]
  generalize (lg_sl ([.ref ro, .int (nI i_), .int (nI j_)]) ++ List.replicate (5 - (lg_sl ([.ref ro, .int (nI i_), .int (nI j_)])).length) Slot.unset).toArray = ls at hl ⊢
  have hl : lv_has ls 5 [(0, .ref ro), (1, .int (nI i_)), (2, .int (nI j_))] := hl
  refine W_genQ (fun Q hQ => ?_)
  refine lv_iconst (v := 0) hx hb dX8_sameInOneRow_0 (by decide) ?_
  refine lv_istore_n (lv' := [(3, .int 0), (0, .ref ro), (1, .int (nI i_)), (2, .int (nI j_))]) hx hb dX8_sameInOneRow_1 rfl hl (by decide) rfl (fun ls hl => ?_)
  refine lv_iconst (v := 0) hx hb dX8_sameInOneRow_2 (by decide) ?_
  refine lv_istore (lv' := [(4, .int 0), (3, .int 0), (0, .ref ro), (1, .int (nI i_)), (2, .int (nI j_))]) hx hb dX8_sameInOneRow_3 hl (by decide) rfl (fun ls hl => ?_)
  have LOOP5 : ∀ (n5 : Nat) (u3_5 : Int32) (k : Nat), k ≤ rs → rs - k < n5 → ∀ (ls : Array Slot), lv_has ls 5 [(0, .ref ro), (1, .int (nI i_)), (2, .int (nI j_)), (3, .int u3_5), (4, .int (nI k))] → W p l e ({ frames := 2, cells := 0, slots := 0, locals := 47 } : Room) s m args below meth c s.heap [] 0 0 Q (F0 m 5 ls []) := by
    intro n5
    induction n5 with
    | zero =>
      intro u3_5 k hk hn5 ls hl
      exact absurd hn5 (Nat.not_lt_zero _)
    | succ n5 ih5 =>
      intro u3_5 k hk hn5 ls hl
      refine lv_iload hx hb dX8_sameInOneRow_5 (lv_at hl 4 rfl) ?_
      refine lv_aload_n hx hb dX8_sameInOneRow_7 rfl (lv_at hl 0 rfl) ?_
      refine va_get (D := D) (ci := 8) (v := .int (nI rs)) (C := RX8) (T := TX8) (N := 3) hx hb hg gwX8 hown hK hP 0 rfl rfl 2 (by decide) (hg _ kw_98) (fun _ h9 => h9) rfl dX8_sameInOneRow_8 ?_
      refine lv_icmp_ge (tgt := 51) hx hb dX8_sameInOneRow_11 (by decide) (fun c_11 => ?_) (fun c_11 => ?_)
      · have n_11 : rs ≤ k := b_le_t (by omega) (by omega) c_11
        refine lv_iload_n hx hb dX8_sameInOneRow_51 rfl (lv_at hl 3 rfl) ?_
        refine W_sQ hQ ?_
        exact W.iret (v := u3_5) hx hb hr (fun t ht hW => ⟨u3_5, rfl, trivial, ht⟩) (fun _ h => absurd h List.not_mem_nil) dX8_sameInOneRow_52
      · have n_11 : k < rs := b_le_f (by omega) (by omega) c_11
        refine lv_aload_n hx hb dX8_sameInOneRow_14 rfl (lv_at hl 0 rfl) ?_
        refine lv_iload hx hb dX8_sameInOneRow_15 (lv_at hl 4 rfl) ?_
        refine lv_iload_n hx hb dX8_sameInOneRow_17 rfl (lv_at hl 1 rfl) ?_
        refine lv_iload_n hx hb dX8_sameInOneRow_18 rfl (lv_at hl 2 rfl) ?_
        have hPc := hP.sub (ws' := [(ro, .inr (8, [.ref ra, .ref rg, .int (nI rs)])), (ra, .inl (cs 0, 24, .inl fra))]) [0, 1] rfl
        refine vp_callSi (W.runV (As := [.int (nI k), .int (nI i_), .int (nI j_)]) (rest := []) ⟨hx, hb, hml, hown, hg⟩ (w_bothAnswered l D cs ro ra rg rs (by omega) fra k (by omega) i_ j_ (by omega) (by omega)) (cwV 3 hg (gw_V kw_107 kw_108 kw_109 kw_105 kw_106) rfl rfl rfl (by decide +kernel) ⟨(Nat.le_of_ble_eq_true rfl), (Nat.le_of_ble_eq_true rfl)⟩) (pr_SV (q := (RX8, TX8, 3)) 8 0 hK hPc rfl rfl) rfl rfl hl.1 rfl (lv_room (Nat.le_of_ble_eq_true rfl)) dX8_sameInOneRow_19 ⟨(Nat.le_of_ble_eq_true rfl), (Nat.le_of_ble_eq_true rfl)⟩) (fun r_19 h_19 => ?_)
        rcases h_19 with rfl | rfl
        · refine lv_if_eq (tgt := 45) hx hb dX8_sameInOneRow_22 (by decide) (fun c_22 => ?_) (fun c_22 => absurd c_22 (by decide))
          refine lv_iinc (v := (nI (k + 1))) (lv' := [(4, .int (nI (k + 1))), (0, .ref ro), (1, .int (nI i_)), (2, .int (nI j_)), (3, .int u3_5)]) hx hb dX8_sameInOneRow_45 hl (k := 4) rfl (nI_add k 1) (by decide) rfl (fun ls hl => ?_)
          refine lv_goto (tgt := 5) hx hb dX8_sameInOneRow_48 (by decide) ?_
          exact ih5 u3_5 (k + 1) (by omega) (by omega) ls (lv_sub hl [1, 2, 3, 4, 0] rfl)
        · refine lv_if_eq (tgt := 45) hx hb dX8_sameInOneRow_22 (by decide) (fun c_22 => absurd c_22 (by decide)) (fun c_22 => ?_)
          refine lv_aload_n hx hb dX8_sameInOneRow_25 rfl (lv_at hl 0 rfl) ?_
          refine lv_iload hx hb dX8_sameInOneRow_26 (lv_at hl 4 rfl) ?_
          refine lv_iload_n hx hb dX8_sameInOneRow_28 rfl (lv_at hl 1 rfl) ?_
          have hPc := hP.sub (ws' := [(ro, .inr (8, [.ref ra, .ref rg, .int (nI rs)])), (ra, .inl (cs 0, 24, .inl fra))]) [0, 1] rfl
          refine vp_callSi (W.runV (As := [.int (nI k), .int (nI i_)]) (rest := []) ⟨hx, hb, hml, hown, hg⟩ (w_answerOf l D cs ro ra rg rs (by omega) fra k (by omega) i_ (by omega)) (cwV 2 hg (gw_V kw_102 kw_103 kw_104 kw_105 kw_101) rfl rfl rfl (by decide +kernel) ⟨(Nat.le_of_ble_eq_true rfl), (Nat.le_of_ble_eq_true rfl)⟩) (pr_SV (q := (RX8, TX8, 3)) 8 0 hK hPc rfl rfl) rfl rfl hl.1 rfl (lv_room (Nat.le_of_ble_eq_true rfl)) dX8_sameInOneRow_29 ⟨(Nat.le_of_ble_eq_true rfl), (Nat.le_of_ble_eq_true rfl)⟩) (fun r_29 h_29 => ?_)
          clear h_29
          refine lv_aload_n hx hb dX8_sameInOneRow_32 rfl (lv_at hl 0 rfl) ?_
          refine lv_iload hx hb dX8_sameInOneRow_33 (lv_at hl 4 rfl) ?_
          refine lv_iload_n hx hb dX8_sameInOneRow_35 rfl (lv_at hl 2 rfl) ?_
          have hPc := hP.sub (ws' := [(ro, .inr (8, [.ref ra, .ref rg, .int (nI rs)])), (ra, .inl (cs 0, 24, .inl fra))]) [0, 1] rfl
          refine vp_callSi (W.runV (As := [.int (nI k), .int (nI j_)]) (rest := [.int r_29]) ⟨hx, hb, hml, hown, hg⟩ (w_answerOf l D cs ro ra rg rs (by omega) fra k (by omega) j_ (by omega)) (cwV 2 hg (gw_V kw_102 kw_103 kw_104 kw_105 kw_101) rfl rfl rfl (by decide +kernel) ⟨(Nat.le_of_ble_eq_true rfl), (Nat.le_of_ble_eq_true rfl)⟩) (pr_SV (q := (RX8, TX8, 3)) 8 0 hK hPc rfl rfl) rfl rfl hl.1 rfl (lv_room (Nat.le_of_ble_eq_true rfl)) dX8_sameInOneRow_36 ⟨(Nat.le_of_ble_eq_true rfl), (Nat.le_of_ble_eq_true rfl)⟩) (fun r_36 h_36 => ?_)
          clear h_36
          refine lv_icmp_ne (tgt := 45) hx hb dX8_sameInOneRow_39 (by decide) (fun c_39 => ?_) (fun c_39 => ?_)
          · refine lv_iinc (v := (nI (k + 1))) (lv' := [(4, .int (nI (k + 1))), (0, .ref ro), (1, .int (nI i_)), (2, .int (nI j_)), (3, .int u3_5)]) hx hb dX8_sameInOneRow_45 hl (k := 4) rfl (nI_add k 1) (by decide) rfl (fun ls hl => ?_)
            refine lv_goto (tgt := 5) hx hb dX8_sameInOneRow_48 (by decide) ?_
            exact ih5 u3_5 (k + 1) (by omega) (by omega) ls (lv_sub hl [1, 2, 3, 4, 0] rfl)
          · obtain ⟨z_42, e_42⟩ : ∃ y : Int32, y = u3_5 + 1 := ⟨_, rfl⟩
            refine lv_iinc (v := z_42) (lv' := [(3, .int z_42), (0, .ref ro), (1, .int (nI i_)), (2, .int (nI j_)), (4, .int (nI k))]) hx hb dX8_sameInOneRow_42 hl (k := 3) rfl (by rw [e_42]; rfl) (by decide) rfl (fun ls hl => ?_)
            refine lv_iinc (v := (nI (k + 1))) (lv' := [(4, .int (nI (k + 1))), (3, .int z_42), (0, .ref ro), (1, .int (nI i_)), (2, .int (nI j_))]) hx hb dX8_sameInOneRow_45 hl (k := 4) rfl (nI_add k 1) (by decide) rfl (fun ls hl => ?_)
            refine lv_goto (tgt := 5) hx hb dX8_sameInOneRow_48 (by decide) ?_
            exact ih5 z_42 (k + 1) (by omega) (by omega) ls (lv_sub hl [2, 3, 4, 1, 0] rfl)
  exact LOOP5 (rs - 0 + 1) 0 0 (by omega) (Nat.lt_succ_self _) ls (lv_sub hl [2, 3, 4, 1, 0] rfl)

theorem dX8_sameElsewhere_0 : decode cX8_sameElsewhere 0 = .ok (.iconst 0, 1) := by decide +kernel
theorem dX8_sameElsewhere_1 : decode cX8_sameElsewhere 1 = .ok (.istore 4, 2) := by decide +kernel
theorem dX8_sameElsewhere_3 : decode cX8_sameElsewhere 3 = .ok (.iconst 0, 1) := by decide +kernel
theorem dX8_sameElsewhere_4 : decode cX8_sameElsewhere 4 = .ok (.istore 5, 2) := by decide +kernel
theorem dX8_sameElsewhere_6 : decode cX8_sameElsewhere 6 = .ok (.iload 5, 2) := by decide +kernel
theorem dX8_sameElsewhere_8 : decode cX8_sameElsewhere 8 = .ok (.aload_n 0, 1) := by decide +kernel
theorem dX8_sameElsewhere_9 : decode cX8_sameElsewhere 9 = .ok (.getfield 21, 3) := by decide +kernel
theorem dX8_sameElsewhere_12 : decode cX8_sameElsewhere 12 = .ok (.if_icmp .ge 57, 3) := by decide +kernel
theorem dX8_sameElsewhere_15 : decode cX8_sameElsewhere 15 = .ok (.iload 5, 2) := by decide +kernel
theorem dX8_sameElsewhere_17 : decode cX8_sameElsewhere 17 = .ok (.iload_n 1, 1) := by decide +kernel
theorem dX8_sameElsewhere_18 : decode cX8_sameElsewhere 18 = .ok (.if_icmp .eq 18, 3) := by decide +kernel
theorem dX8_sameElsewhere_21 : decode cX8_sameElsewhere 21 = .ok (.aload_n 0, 1) := by decide +kernel
theorem dX8_sameElsewhere_22 : decode cX8_sameElsewhere 22 = .ok (.iload 5, 2) := by decide +kernel
theorem dX8_sameElsewhere_24 : decode cX8_sameElsewhere 24 = .ok (.iload_n 2, 1) := by decide +kernel
theorem dX8_sameElsewhere_25 : decode cX8_sameElsewhere 25 = .ok (.iload_n 3, 1) := by decide +kernel
theorem dX8_sameElsewhere_26 : decode cX8_sameElsewhere 26 = .ok (.invokevirtual 25, 3) := by decide +kernel
theorem dX8_sameElsewhere_29 : decode cX8_sameElsewhere 29 = .ok (.ifCond .eq 7, 3) := by decide +kernel
theorem dX8_sameElsewhere_32 : decode cX8_sameElsewhere 32 = .ok (.iconst 1, 1) := by decide +kernel
theorem dX8_sameElsewhere_33 : decode cX8_sameElsewhere 33 = .ok (.goto 4, 3) := by decide +kernel
theorem dX8_sameElsewhere_36 : decode cX8_sameElsewhere 36 = .ok (.iconst 0, 1) := by decide +kernel
theorem dX8_sameElsewhere_37 : decode cX8_sameElsewhere 37 = .ok (.istore 6, 2) := by decide +kernel
theorem dX8_sameElsewhere_39 : decode cX8_sameElsewhere 39 = .ok (.iload 6, 2) := by decide +kernel
theorem dX8_sameElsewhere_41 : decode cX8_sameElsewhere 41 = .ok (.ifCond .eq 22, 3) := by decide +kernel
theorem dX8_sameElsewhere_44 : decode cX8_sameElsewhere 44 = .ok (.aload_n 0, 1) := by decide +kernel
theorem dX8_sameElsewhere_45 : decode cX8_sameElsewhere 45 = .ok (.iload_n 1, 1) := by decide +kernel
theorem dX8_sameElsewhere_46 : decode cX8_sameElsewhere 46 = .ok (.iload_n 2, 1) := by decide +kernel
theorem dX8_sameElsewhere_47 : decode cX8_sameElsewhere 47 = .ok (.invokevirtual 29, 3) := by decide +kernel
theorem dX8_sameElsewhere_50 : decode cX8_sameElsewhere 50 = .ok (.aload_n 0, 1) := by decide +kernel
theorem dX8_sameElsewhere_51 : decode cX8_sameElsewhere 51 = .ok (.iload 5, 2) := by decide +kernel
theorem dX8_sameElsewhere_53 : decode cX8_sameElsewhere 53 = .ok (.iload_n 3, 1) := by decide +kernel
theorem dX8_sameElsewhere_54 : decode cX8_sameElsewhere 54 = .ok (.invokevirtual 29, 3) := by decide +kernel
theorem dX8_sameElsewhere_57 : decode cX8_sameElsewhere 57 = .ok (.if_icmp .ne 6, 3) := by decide +kernel
theorem dX8_sameElsewhere_60 : decode cX8_sameElsewhere 60 = .ok (.iinc 4 1, 3) := by decide +kernel
theorem dX8_sameElsewhere_63 : decode cX8_sameElsewhere 63 = .ok (.iinc 5 1, 3) := by decide +kernel
theorem dX8_sameElsewhere_66 : decode cX8_sameElsewhere 66 = .ok (.goto (-60), 3) := by decide +kernel
theorem dX8_sameElsewhere_69 : decode cX8_sameElsewhere 69 = .ok (.iload 4, 2) := by decide +kernel
theorem dX8_sameElsewhere_71 : decode cX8_sameElsewhere 71 = .ok (.ireturn, 1) := by decide +kernel

set_option maxHeartbeats 4000000 in
set_option maxRecDepth 100000 in
theorem w_sameElsewhere (l : Launch) (D : va_G) (cs : Nat → ClassId) (ro : Nat) (ra : Nat) (rg : Nat) (rs : Nat) (hrs : rs ≤ 24) (fra : Nat → Int32) (rw_ : Nat) (hrw : rw_ < 24) (i_ : Nat) (j_ : Nat) (hi_ : i_ ≤ 4) (hj_ : j_ ≤ 4) : Met l yX8_sameElsewhere (Cond.code yX8_sameElsewhere cX8_sameElsewhere 7 (some .int) :: gw_tbl) ({ frames := 2, cells := 0, slots := 0, locals := 47 }) (pc_S D cs [(ro, .inr (8, [.ref ra, .ref rg, .int (nI rs)])), (ra, .inl (cs 0, 24, .inl fra))] [.ref ro, .int (nI rw_), .int (nI i_), .int (nI j_)]) (vp_Si (fun r => True)) 0 0 (fun _ => False) := by
  refine Met.ofW (cc := cX8_sameElsewhere) (maxL := 7) (ret := (some .int)) (by decide) rfl ?_
  intro p e s m args below meth c s₁ B hml hv
  obtain ⟨hargs, hP, hK⟩ := hv
  have hx := B.exec
  have hb := B.bytes
  have hr := B.returns
  have hts := atoms_spec (ws := Cond.code yX8_sameElsewhere cX8_sameElsewhere 7 (some .int) :: gw_tbl) B.pre
  have hg := fun (w : Cond) (h : w ∈ gw_tbl) => hts w (List.mem_cons_of_mem _ h)
  have hown : s.vm.findClass RX8 = some m.cls := findClass_of_methodNamed B.named
  have hlocks := B.notSynchronized
  have hl := lv_entry ([.ref ro, .int (nI rw_), .int (nI i_), .int (nI j_)]) (n := 7) (Nat.le_of_ble_eq_true rfl)
  rw [show entryFrame m args 7 = F0 m 0 (lg_sl ([.ref ro, .int (nI rw_), .int (nI i_), .int (nI j_)]) ++ List.replicate (7 - (lg_sl ([.ref ro, .int (nI rw_), .int (nI i_), .int (nI j_)])).length) Slot.unset).toArray [] from by rw [hargs]; exact lg_entry_eq ..]
  generalize (lg_sl ([.ref ro, .int (nI rw_), .int (nI i_), .int (nI j_)]) ++ List.replicate (7 - (lg_sl ([.ref ro, .int (nI rw_), .int (nI i_), .int (nI j_)])).length) Slot.unset).toArray = ls at hl ⊢
  have hl : lv_has ls 7 [(0, .ref ro), (1, .int (nI rw_)), (2, .int (nI i_)), (3, .int (nI j_))] := hl
  refine W_genQ (fun Q hQ => ?_)
  refine lv_iconst (v := 0) hx hb dX8_sameElsewhere_0 (by decide) ?_
  refine lv_istore (lv' := [(4, .int 0), (0, .ref ro), (1, .int (nI rw_)), (2, .int (nI i_)), (3, .int (nI j_))]) hx hb dX8_sameElsewhere_1 hl (by decide) rfl (fun ls hl => ?_)
  refine lv_iconst (v := 0) hx hb dX8_sameElsewhere_3 (by decide) ?_
  refine lv_istore (lv' := [(5, .int 0), (4, .int 0), (0, .ref ro), (1, .int (nI rw_)), (2, .int (nI i_)), (3, .int (nI j_))]) hx hb dX8_sameElsewhere_4 hl (by decide) rfl (fun ls hl => ?_)
  have LOOP6 : ∀ (n6 : Nat) (u4_6 : Int32) (k : Nat), k ≤ rs → rs - k < n6 → ∀ (ls : Array Slot), lv_has ls 7 [(0, .ref ro), (1, .int (nI rw_)), (2, .int (nI i_)), (3, .int (nI j_)), (4, .int u4_6), (5, .int (nI k))] → W p l e ({ frames := 2, cells := 0, slots := 0, locals := 47 } : Room) s m args below meth c s.heap [] 0 0 Q (F0 m 6 ls []) := by
    intro n6
    induction n6 with
    | zero =>
      intro u4_6 k hk hn6 ls hl
      exact absurd hn6 (Nat.not_lt_zero _)
    | succ n6 ih6 =>
      intro u4_6 k hk hn6 ls hl
      refine lv_iload hx hb dX8_sameElsewhere_6 (lv_at hl 5 rfl) ?_
      refine lv_aload_n hx hb dX8_sameElsewhere_8 rfl (lv_at hl 0 rfl) ?_
      refine va_get (D := D) (ci := 8) (v := .int (nI rs)) (C := RX8) (T := TX8) (N := 3) hx hb hg gwX8 hown hK hP 0 rfl rfl 2 (by decide) (hg _ kw_98) (fun _ h9 => h9) rfl dX8_sameElsewhere_9 ?_
      refine lv_icmp_ge (tgt := 69) hx hb dX8_sameElsewhere_12 (by decide) (fun c_12 => ?_) (fun c_12 => ?_)
      · have n_12 : rs ≤ k := b_le_t (by omega) (by omega) c_12
        refine lv_iload hx hb dX8_sameElsewhere_69 (lv_at hl 4 rfl) ?_
        refine W_sQ hQ ?_
        exact W.iret (v := u4_6) hx hb hr (fun t ht hW => ⟨u4_6, rfl, trivial, ht⟩) (fun _ h => absurd h List.not_mem_nil) dX8_sameElsewhere_71
      · have n_12 : k < rs := b_le_f (by omega) (by omega) c_12
        refine lv_iload hx hb dX8_sameElsewhere_15 (lv_at hl 5 rfl) ?_
        refine lv_iload_n hx hb dX8_sameElsewhere_17 rfl (lv_at hl 1 rfl) ?_
        refine lv_icmp_eq (tgt := 36) hx hb dX8_sameElsewhere_18 (by decide) (fun c_18 => ?_) (fun c_18 => ?_)
        · have n_18 : k = rw_ := b_eq_t (by omega) (by omega) c_18
          refine lv_iconst (v := 0) hx hb dX8_sameElsewhere_36 (by decide) ?_
          refine lv_istore (lv' := [(6, .int 0), (0, .ref ro), (1, .int (nI rw_)), (2, .int (nI i_)), (3, .int (nI j_)), (4, .int u4_6), (5, .int (nI k))]) hx hb dX8_sameElsewhere_37 hl (by decide) rfl (fun ls hl => ?_)
          refine lv_iload hx hb dX8_sameElsewhere_39 (lv_at hl 0 rfl) ?_
          refine lv_if_eq (tgt := 63) hx hb dX8_sameElsewhere_41 (by decide) (fun c_41 => ?_) (fun c_41 => absurd c_41 (by decide))
          refine lv_iinc (v := (nI (k + 1))) (lv' := [(5, .int (nI (k + 1))), (6, .int 0), (0, .ref ro), (1, .int (nI rw_)), (2, .int (nI i_)), (3, .int (nI j_)), (4, .int u4_6)]) hx hb dX8_sameElsewhere_63 hl (k := 6) rfl (nI_add k 1) (by decide) rfl (fun ls hl => ?_)
          refine lv_goto (tgt := 6) hx hb dX8_sameElsewhere_66 (by decide) ?_
          exact ih6 u4_6 (k + 1) (by omega) (by omega) ls (lv_sub hl [2, 3, 4, 5, 6, 0] rfl)
        · have n_18 : ¬ k = rw_ := b_eq_f (by omega) (by omega) c_18
          refine lv_aload_n hx hb dX8_sameElsewhere_21 rfl (lv_at hl 0 rfl) ?_
          refine lv_iload hx hb dX8_sameElsewhere_22 (lv_at hl 5 rfl) ?_
          refine lv_iload_n hx hb dX8_sameElsewhere_24 rfl (lv_at hl 2 rfl) ?_
          refine lv_iload_n hx hb dX8_sameElsewhere_25 rfl (lv_at hl 3 rfl) ?_
          have hPc := hP.sub (ws' := [(ro, .inr (8, [.ref ra, .ref rg, .int (nI rs)])), (ra, .inl (cs 0, 24, .inl fra))]) [0, 1] rfl
          refine vp_callSi (W.runV (As := [.int (nI k), .int (nI i_), .int (nI j_)]) (rest := []) ⟨hx, hb, hml, hown, hg⟩ (w_bothAnswered l D cs ro ra rg rs (by omega) fra k (by omega) i_ j_ (by omega) (by omega)) (cwV 3 hg (gw_V kw_107 kw_108 kw_109 kw_105 kw_106) rfl rfl rfl (by decide +kernel) ⟨(Nat.le_of_ble_eq_true rfl), (Nat.le_of_ble_eq_true rfl)⟩) (pr_SV (q := (RX8, TX8, 3)) 8 0 hK hPc rfl rfl) rfl rfl hl.1 rfl (lv_room (Nat.le_of_ble_eq_true rfl)) dX8_sameElsewhere_26 ⟨(Nat.le_of_ble_eq_true rfl), (Nat.le_of_ble_eq_true rfl)⟩) (fun r_26 h_26 => ?_)
          rcases h_26 with rfl | rfl
          · refine lv_if_eq (tgt := 36) hx hb dX8_sameElsewhere_29 (by decide) (fun c_29 => ?_) (fun c_29 => absurd c_29 (by decide))
            refine lv_iconst (v := 0) hx hb dX8_sameElsewhere_36 (by decide) ?_
            refine lv_istore (lv' := [(6, .int 0), (0, .ref ro), (1, .int (nI rw_)), (2, .int (nI i_)), (3, .int (nI j_)), (4, .int u4_6), (5, .int (nI k))]) hx hb dX8_sameElsewhere_37 hl (by decide) rfl (fun ls hl => ?_)
            refine lv_iload hx hb dX8_sameElsewhere_39 (lv_at hl 0 rfl) ?_
            refine lv_if_eq (tgt := 63) hx hb dX8_sameElsewhere_41 (by decide) (fun c_41 => ?_) (fun c_41 => absurd c_41 (by decide))
            refine lv_iinc (v := (nI (k + 1))) (lv' := [(5, .int (nI (k + 1))), (6, .int 0), (0, .ref ro), (1, .int (nI rw_)), (2, .int (nI i_)), (3, .int (nI j_)), (4, .int u4_6)]) hx hb dX8_sameElsewhere_63 hl (k := 6) rfl (nI_add k 1) (by decide) rfl (fun ls hl => ?_)
            refine lv_goto (tgt := 6) hx hb dX8_sameElsewhere_66 (by decide) ?_
            exact ih6 u4_6 (k + 1) (by omega) (by omega) ls (lv_sub hl [2, 3, 4, 5, 6, 0] rfl)
          · refine lv_if_eq (tgt := 36) hx hb dX8_sameElsewhere_29 (by decide) (fun c_29 => absurd c_29 (by decide)) (fun c_29 => ?_)
            refine lv_iconst (v := 1) hx hb dX8_sameElsewhere_32 (by decide) ?_
            refine lv_goto (tgt := 37) hx hb dX8_sameElsewhere_33 (by decide) ?_
            refine lv_istore (lv' := [(6, .int 1), (0, .ref ro), (1, .int (nI rw_)), (2, .int (nI i_)), (3, .int (nI j_)), (4, .int u4_6), (5, .int (nI k))]) hx hb dX8_sameElsewhere_37 hl (by decide) rfl (fun ls hl => ?_)
            refine lv_iload hx hb dX8_sameElsewhere_39 (lv_at hl 0 rfl) ?_
            refine lv_if_eq (tgt := 63) hx hb dX8_sameElsewhere_41 (by decide) (fun c_41 => absurd c_41 (by decide)) (fun c_41 => ?_)
            refine lv_aload_n hx hb dX8_sameElsewhere_44 rfl (lv_at hl 1 rfl) ?_
            refine lv_iload_n hx hb dX8_sameElsewhere_45 rfl (lv_at hl 2 rfl) ?_
            refine lv_iload_n hx hb dX8_sameElsewhere_46 rfl (lv_at hl 3 rfl) ?_
            have hPc := hP.sub (ws' := [(ro, .inr (8, [.ref ra, .ref rg, .int (nI rs)])), (ra, .inl (cs 0, 24, .inl fra))]) [0, 1] rfl
            refine vp_callSi (W.runV (As := [.int (nI rw_), .int (nI i_)]) (rest := []) ⟨hx, hb, hml, hown, hg⟩ (w_answerOf l D cs ro ra rg rs (by omega) fra rw_ (by omega) i_ (by omega)) (cwV 2 hg (gw_V kw_102 kw_103 kw_104 kw_105 kw_101) rfl rfl rfl (by decide +kernel) ⟨(Nat.le_of_ble_eq_true rfl), (Nat.le_of_ble_eq_true rfl)⟩) (pr_SV (q := (RX8, TX8, 3)) 8 0 hK hPc rfl rfl) rfl rfl hl.1 rfl (lv_room (Nat.le_of_ble_eq_true rfl)) dX8_sameElsewhere_47 ⟨(Nat.le_of_ble_eq_true rfl), (Nat.le_of_ble_eq_true rfl)⟩) (fun r_47 h_47 => ?_)
            clear h_47
            refine lv_aload_n hx hb dX8_sameElsewhere_50 rfl (lv_at hl 1 rfl) ?_
            refine lv_iload hx hb dX8_sameElsewhere_51 (lv_at hl 6 rfl) ?_
            refine lv_iload_n hx hb dX8_sameElsewhere_53 rfl (lv_at hl 4 rfl) ?_
            have hPc := hP.sub (ws' := [(ro, .inr (8, [.ref ra, .ref rg, .int (nI rs)])), (ra, .inl (cs 0, 24, .inl fra))]) [0, 1] rfl
            refine vp_callSi (W.runV (As := [.int (nI k), .int (nI j_)]) (rest := [.int r_47]) ⟨hx, hb, hml, hown, hg⟩ (w_answerOf l D cs ro ra rg rs (by omega) fra k (by omega) j_ (by omega)) (cwV 2 hg (gw_V kw_102 kw_103 kw_104 kw_105 kw_101) rfl rfl rfl (by decide +kernel) ⟨(Nat.le_of_ble_eq_true rfl), (Nat.le_of_ble_eq_true rfl)⟩) (pr_SV (q := (RX8, TX8, 3)) 8 0 hK hPc rfl rfl) rfl rfl hl.1 rfl (lv_room (Nat.le_of_ble_eq_true rfl)) dX8_sameElsewhere_54 ⟨(Nat.le_of_ble_eq_true rfl), (Nat.le_of_ble_eq_true rfl)⟩) (fun r_54 h_54 => ?_)
            clear h_54
            refine lv_icmp_ne (tgt := 63) hx hb dX8_sameElsewhere_57 (by decide) (fun c_57 => ?_) (fun c_57 => ?_)
            · refine lv_iinc (v := (nI (k + 1))) (lv' := [(5, .int (nI (k + 1))), (6, .int 1), (0, .ref ro), (1, .int (nI rw_)), (2, .int (nI i_)), (3, .int (nI j_)), (4, .int u4_6)]) hx hb dX8_sameElsewhere_63 hl (k := 6) rfl (nI_add k 1) (by decide) rfl (fun ls hl => ?_)
              refine lv_goto (tgt := 6) hx hb dX8_sameElsewhere_66 (by decide) ?_
              exact ih6 u4_6 (k + 1) (by omega) (by omega) ls (lv_sub hl [2, 3, 4, 5, 6, 0] rfl)
            · obtain ⟨z_60, e_60⟩ : ∃ y : Int32, y = u4_6 + 1 := ⟨_, rfl⟩
              refine lv_iinc (v := z_60) (lv' := [(4, .int z_60), (6, .int 1), (0, .ref ro), (1, .int (nI rw_)), (2, .int (nI i_)), (3, .int (nI j_)), (5, .int (nI k))]) hx hb dX8_sameElsewhere_60 hl (k := 5) rfl (by rw [e_60]; rfl) (by decide) rfl (fun ls hl => ?_)
              refine lv_iinc (v := (nI (k + 1))) (lv' := [(5, .int (nI (k + 1))), (4, .int z_60), (6, .int 1), (0, .ref ro), (1, .int (nI rw_)), (2, .int (nI i_)), (3, .int (nI j_))]) hx hb dX8_sameElsewhere_63 hl (k := 6) rfl (nI_add k 1) (by decide) rfl (fun ls hl => ?_)
              refine lv_goto (tgt := 6) hx hb dX8_sameElsewhere_66 (by decide) ?_
              exact ih6 z_60 (k + 1) (by omega) (by omega) ls (lv_sub hl [3, 4, 5, 6, 1, 0] rfl)
  exact LOOP6 (rs - 0 + 1) 0 0 (by omega) (Nat.lt_succ_self _) ls (lv_sub hl [2, 3, 4, 5, 1, 0] rfl)

theorem dX8_sameInTwoRows_0 : decode cX8_sameInTwoRows 0 = .ok (.iconst 0, 1) := by decide +kernel
theorem dX8_sameInTwoRows_1 : decode cX8_sameInTwoRows 1 = .ok (.istore_n 3, 1) := by decide +kernel
theorem dX8_sameInTwoRows_2 : decode cX8_sameInTwoRows 2 = .ok (.iconst 0, 1) := by decide +kernel
theorem dX8_sameInTwoRows_3 : decode cX8_sameInTwoRows 3 = .ok (.istore 4, 2) := by decide +kernel
theorem dX8_sameInTwoRows_5 : decode cX8_sameInTwoRows 5 = .ok (.iload 4, 2) := by decide +kernel
theorem dX8_sameInTwoRows_7 : decode cX8_sameInTwoRows 7 = .ok (.aload_n 0, 1) := by decide +kernel
theorem dX8_sameInTwoRows_8 : decode cX8_sameInTwoRows 8 = .ok (.getfield 21, 3) := by decide +kernel
theorem dX8_sameInTwoRows_11 : decode cX8_sameInTwoRows 11 = .ok (.if_icmp .ge 31, 3) := by decide +kernel
theorem dX8_sameInTwoRows_14 : decode cX8_sameInTwoRows 14 = .ok (.aload_n 0, 1) := by decide +kernel
theorem dX8_sameInTwoRows_15 : decode cX8_sameInTwoRows 15 = .ok (.iload 4, 2) := by decide +kernel
theorem dX8_sameInTwoRows_17 : decode cX8_sameInTwoRows 17 = .ok (.iload_n 1, 1) := by decide +kernel
theorem dX8_sameInTwoRows_18 : decode cX8_sameInTwoRows 18 = .ok (.iload_n 2, 1) := by decide +kernel
theorem dX8_sameInTwoRows_19 : decode cX8_sameInTwoRows 19 = .ok (.invokevirtual 25, 3) := by decide +kernel
theorem dX8_sameInTwoRows_22 : decode cX8_sameInTwoRows 22 = .ok (.ifCond .eq 14, 3) := by decide +kernel
theorem dX8_sameInTwoRows_25 : decode cX8_sameInTwoRows 25 = .ok (.iload_n 3, 1) := by decide +kernel
theorem dX8_sameInTwoRows_26 : decode cX8_sameInTwoRows 26 = .ok (.aload_n 0, 1) := by decide +kernel
theorem dX8_sameInTwoRows_27 : decode cX8_sameInTwoRows 27 = .ok (.iload 4, 2) := by decide +kernel
theorem dX8_sameInTwoRows_29 : decode cX8_sameInTwoRows 29 = .ok (.iload_n 1, 1) := by decide +kernel
theorem dX8_sameInTwoRows_30 : decode cX8_sameInTwoRows 30 = .ok (.iload_n 2, 1) := by decide +kernel
theorem dX8_sameInTwoRows_31 : decode cX8_sameInTwoRows 31 = .ok (.invokevirtual 33, 3) := by decide +kernel
theorem dX8_sameInTwoRows_34 : decode cX8_sameInTwoRows 34 = .ok (.iadd, 1) := by decide +kernel
theorem dX8_sameInTwoRows_35 : decode cX8_sameInTwoRows 35 = .ok (.istore_n 3, 1) := by decide +kernel
theorem dX8_sameInTwoRows_36 : decode cX8_sameInTwoRows 36 = .ok (.iinc 4 1, 3) := by decide +kernel
theorem dX8_sameInTwoRows_39 : decode cX8_sameInTwoRows 39 = .ok (.goto (-34), 3) := by decide +kernel
theorem dX8_sameInTwoRows_42 : decode cX8_sameInTwoRows 42 = .ok (.iload_n 3, 1) := by decide +kernel
theorem dX8_sameInTwoRows_43 : decode cX8_sameInTwoRows 43 = .ok (.ireturn, 1) := by decide +kernel
theorem kw_110 : (.code yX8_sameElsewhere cX8_sameElsewhere 7 (some .int) : Cond) ∈ gw_tbl := gw_in (by decide +kernel) (by decide +kernel)
theorem kw_111 : (.methodLink RX8 33 yX8_sameElsewhere : Cond) ∈ gw_tbl := gw_in (by decide +kernel) (by decide +kernel)
theorem kw_112 : (.instanceMethod yX8_sameElsewhere : Cond) ∈ gw_tbl := gw_in (by decide +kernel) (by decide +kernel)
theorem kw_113 : (.selects RX8 yX8_sameElsewhere yX8_sameElsewhere : Cond) ∈ gw_tbl := gw_in (by decide +kernel) (by decide +kernel)

set_option maxHeartbeats 4000000 in
set_option maxRecDepth 100000 in
theorem w_sameInTwoRows (l : Launch) (D : va_G) (cs : Nat → ClassId) (ro : Nat) (ra : Nat) (rg : Nat) (rs : Nat) (hrs : rs ≤ 24) (fra : Nat → Int32) (i_ : Nat) (j_ : Nat) (hi_ : i_ ≤ 4) (hj_ : j_ ≤ 4) : Met l yX8_sameInTwoRows (Cond.code yX8_sameInTwoRows cX8_sameInTwoRows 5 (some .int) :: gw_tbl) ({ frames := 3, cells := 0, slots := 0, locals := 73 }) (pc_S D cs [(ro, .inr (8, [.ref ra, .ref rg, .int (nI rs)])), (ra, .inl (cs 0, 24, .inl fra))] [.ref ro, .int (nI i_), .int (nI j_)]) (vp_Si (fun r => True)) 0 0 (fun _ => False) := by
  refine Met.ofW (cc := cX8_sameInTwoRows) (maxL := 5) (ret := (some .int)) (by decide) rfl ?_
  intro p e s m args below meth c s₁ B hml hv
  obtain ⟨hargs, hP, hK⟩ := hv
  have hx := B.exec
  have hb := B.bytes
  have hr := B.returns
  have hts := atoms_spec (ws := Cond.code yX8_sameInTwoRows cX8_sameInTwoRows 5 (some .int) :: gw_tbl) B.pre
  have hg := fun (w : Cond) (h : w ∈ gw_tbl) => hts w (List.mem_cons_of_mem _ h)
  have hown : s.vm.findClass RX8 = some m.cls := findClass_of_methodNamed B.named
  have hlocks := B.notSynchronized
  have hl := lv_entry ([.ref ro, .int (nI i_), .int (nI j_)]) (n := 5) (Nat.le_of_ble_eq_true rfl)
  rw [show entryFrame m args 5 = F0 m 0 (lg_sl ([.ref ro, .int (nI i_), .int (nI j_)]) ++ List.replicate (5 - (lg_sl ([.ref ro, .int (nI i_), .int (nI j_)])).length) Slot.unset).toArray [] from by rw [hargs]; exact lg_entry_eq ..]
  generalize (lg_sl ([.ref ro, .int (nI i_), .int (nI j_)]) ++ List.replicate (5 - (lg_sl ([.ref ro, .int (nI i_), .int (nI j_)])).length) Slot.unset).toArray = ls at hl ⊢
  have hl : lv_has ls 5 [(0, .ref ro), (1, .int (nI i_)), (2, .int (nI j_))] := hl
  refine W_genQ (fun Q hQ => ?_)
  refine lv_iconst (v := 0) hx hb dX8_sameInTwoRows_0 (by decide) ?_
  refine lv_istore_n (lv' := [(3, .int 0), (0, .ref ro), (1, .int (nI i_)), (2, .int (nI j_))]) hx hb dX8_sameInTwoRows_1 rfl hl (by decide) rfl (fun ls hl => ?_)
  refine lv_iconst (v := 0) hx hb dX8_sameInTwoRows_2 (by decide) ?_
  refine lv_istore (lv' := [(4, .int 0), (3, .int 0), (0, .ref ro), (1, .int (nI i_)), (2, .int (nI j_))]) hx hb dX8_sameInTwoRows_3 hl (by decide) rfl (fun ls hl => ?_)
  have LOOP5 : ∀ (n5 : Nat) (u3_5 : Int32) (k : Nat), k ≤ rs → rs - k < n5 → ∀ (ls : Array Slot), lv_has ls 5 [(0, .ref ro), (1, .int (nI i_)), (2, .int (nI j_)), (3, .int u3_5), (4, .int (nI k))] → W p l e ({ frames := 3, cells := 0, slots := 0, locals := 73 } : Room) s m args below meth c s.heap [] 0 0 Q (F0 m 5 ls []) := by
    intro n5
    induction n5 with
    | zero =>
      intro u3_5 k hk hn5 ls hl
      exact absurd hn5 (Nat.not_lt_zero _)
    | succ n5 ih5 =>
      intro u3_5 k hk hn5 ls hl
      refine lv_iload hx hb dX8_sameInTwoRows_5 (lv_at hl 4 rfl) ?_
      refine lv_aload_n hx hb dX8_sameInTwoRows_7 rfl (lv_at hl 0 rfl) ?_
      refine va_get (D := D) (ci := 8) (v := .int (nI rs)) (C := RX8) (T := TX8) (N := 3) hx hb hg gwX8 hown hK hP 0 rfl rfl 2 (by decide) (hg _ kw_98) (fun _ h9 => h9) rfl dX8_sameInTwoRows_8 ?_
      refine lv_icmp_ge (tgt := 42) hx hb dX8_sameInTwoRows_11 (by decide) (fun c_11 => ?_) (fun c_11 => ?_)
      · have n_11 : rs ≤ k := b_le_t (by omega) (by omega) c_11
        refine lv_iload_n hx hb dX8_sameInTwoRows_42 rfl (lv_at hl 3 rfl) ?_
        refine W_sQ hQ ?_
        exact W.iret (v := u3_5) hx hb hr (fun t ht hW => ⟨u3_5, rfl, trivial, ht⟩) (fun _ h => absurd h List.not_mem_nil) dX8_sameInTwoRows_43
      · have n_11 : k < rs := b_le_f (by omega) (by omega) c_11
        refine lv_aload_n hx hb dX8_sameInTwoRows_14 rfl (lv_at hl 0 rfl) ?_
        refine lv_iload hx hb dX8_sameInTwoRows_15 (lv_at hl 4 rfl) ?_
        refine lv_iload_n hx hb dX8_sameInTwoRows_17 rfl (lv_at hl 1 rfl) ?_
        refine lv_iload_n hx hb dX8_sameInTwoRows_18 rfl (lv_at hl 2 rfl) ?_
        have hPc := hP.sub (ws' := [(ro, .inr (8, [.ref ra, .ref rg, .int (nI rs)])), (ra, .inl (cs 0, 24, .inl fra))]) [0, 1] rfl
        refine vp_callSi (W.runV (As := [.int (nI k), .int (nI i_), .int (nI j_)]) (rest := []) ⟨hx, hb, hml, hown, hg⟩ (w_bothAnswered l D cs ro ra rg rs (by omega) fra k (by omega) i_ j_ (by omega) (by omega)) (cwV 3 hg (gw_V kw_107 kw_108 kw_109 kw_105 kw_106) rfl rfl rfl (by decide +kernel) ⟨(Nat.le_of_ble_eq_true rfl), (Nat.le_of_ble_eq_true rfl)⟩) (pr_SV (q := (RX8, TX8, 3)) 8 0 hK hPc rfl rfl) rfl rfl hl.1 rfl (lv_room (Nat.le_of_ble_eq_true rfl)) dX8_sameInTwoRows_19 ⟨(Nat.le_of_ble_eq_true rfl), (Nat.le_of_ble_eq_true rfl)⟩) (fun r_19 h_19 => ?_)
        rcases h_19 with rfl | rfl
        · refine lv_if_eq (tgt := 36) hx hb dX8_sameInTwoRows_22 (by decide) (fun c_22 => ?_) (fun c_22 => absurd c_22 (by decide))
          refine lv_iinc (v := (nI (k + 1))) (lv' := [(4, .int (nI (k + 1))), (0, .ref ro), (1, .int (nI i_)), (2, .int (nI j_)), (3, .int u3_5)]) hx hb dX8_sameInTwoRows_36 hl (k := 4) rfl (nI_add k 1) (by decide) rfl (fun ls hl => ?_)
          refine lv_goto (tgt := 5) hx hb dX8_sameInTwoRows_39 (by decide) ?_
          exact ih5 u3_5 (k + 1) (by omega) (by omega) ls (lv_sub hl [1, 2, 3, 4, 0] rfl)
        · refine lv_if_eq (tgt := 36) hx hb dX8_sameInTwoRows_22 (by decide) (fun c_22 => absurd c_22 (by decide)) (fun c_22 => ?_)
          refine lv_iload_n hx hb dX8_sameInTwoRows_25 rfl (lv_at hl 3 rfl) ?_
          refine lv_aload_n hx hb dX8_sameInTwoRows_26 rfl (lv_at hl 0 rfl) ?_
          refine lv_iload hx hb dX8_sameInTwoRows_27 (lv_at hl 4 rfl) ?_
          refine lv_iload_n hx hb dX8_sameInTwoRows_29 rfl (lv_at hl 1 rfl) ?_
          refine lv_iload_n hx hb dX8_sameInTwoRows_30 rfl (lv_at hl 2 rfl) ?_
          have hPc := hP.sub (ws' := [(ro, .inr (8, [.ref ra, .ref rg, .int (nI rs)])), (ra, .inl (cs 0, 24, .inl fra))]) [0, 1] rfl
          refine vp_callSi (W.runV (As := [.int (nI k), .int (nI i_), .int (nI j_)]) (rest := [.int u3_5]) ⟨hx, hb, hml, hown, hg⟩ (w_sameElsewhere l D cs ro ra rg rs (by omega) fra k (by omega) i_ j_ (by omega) (by omega)) (cwV 3 hg (gw_V kw_111 kw_112 kw_113 kw_105 kw_110) rfl rfl rfl (by decide +kernel) ⟨(Nat.le_of_ble_eq_true rfl), (Nat.le_of_ble_eq_true rfl)⟩) (pr_SV (q := (RX8, TX8, 3)) 8 0 hK hPc rfl rfl) rfl rfl hl.1 rfl (lv_room (Nat.le_of_ble_eq_true rfl)) dX8_sameInTwoRows_31 ⟨(Nat.le_of_ble_eq_true rfl), (Nat.le_of_ble_eq_true rfl)⟩) (fun r_31 h_31 => ?_)
          clear h_31
          refine lv_iadd hx hb dX8_sameInTwoRows_34 ?_
          refine lv_topi (fun z_34 e_34 => ?_)
          refine lv_istore_n (lv' := [(3, .int z_34), (0, .ref ro), (1, .int (nI i_)), (2, .int (nI j_)), (4, .int (nI k))]) hx hb dX8_sameInTwoRows_35 rfl hl (by decide) rfl (fun ls hl => ?_)
          refine lv_iinc (v := (nI (k + 1))) (lv' := [(4, .int (nI (k + 1))), (3, .int z_34), (0, .ref ro), (1, .int (nI i_)), (2, .int (nI j_))]) hx hb dX8_sameInTwoRows_36 hl (k := 4) rfl (nI_add k 1) (by decide) rfl (fun ls hl => ?_)
          refine lv_goto (tgt := 5) hx hb dX8_sameInTwoRows_39 (by decide) ?_
          exact ih5 z_34 (k + 1) (by omega) (by omega) ls (lv_sub hl [2, 3, 4, 1, 0] rfl)
  exact LOOP5 (rs - 0 + 1) 0 0 (by omega) (Nat.lt_succ_self _) ls (lv_sub hl [2, 3, 4, 1, 0] rfl)

theorem dX8_says_0 : decode cX8_says 0 = .ok (.iconst 0, 1) := by decide +kernel
theorem dX8_says_1 : decode cX8_says 1 = .ok (.istore_n 3, 1) := by decide +kernel
theorem dX8_says_2 : decode cX8_says 2 = .ok (.iconst 0, 1) := by decide +kernel
theorem dX8_says_3 : decode cX8_says 3 = .ok (.istore 4, 2) := by decide +kernel
theorem dX8_says_5 : decode cX8_says 5 = .ok (.iconst 0, 1) := by decide +kernel
theorem dX8_says_6 : decode cX8_says 6 = .ok (.istore 5, 2) := by decide +kernel
theorem dX8_says_8 : decode cX8_says 8 = .ok (.iload 5, 2) := by decide +kernel
theorem dX8_says_10 : decode cX8_says 10 = .ok (.iload_n 2, 1) := by decide +kernel
theorem dX8_says_11 : decode cX8_says 11 = .ok (.if_icmp .ge 47, 3) := by decide +kernel
theorem dX8_says_14 : decode cX8_says 14 = .ok (.aload_n 0, 1) := by decide +kernel
theorem dX8_says_15 : decode cX8_says 15 = .ok (.iload_n 1, 1) := by decide +kernel
theorem dX8_says_16 : decode cX8_says 16 = .ok (.iload 5, 2) := by decide +kernel
theorem dX8_says_18 : decode cX8_says 18 = .ok (.invokevirtual 29, 3) := by decide +kernel
theorem dX8_says_21 : decode cX8_says 21 = .ok (.istore 6, 2) := by decide +kernel
theorem dX8_says_23 : decode cX8_says 23 = .ok (.iload_n 3, 1) := by decide +kernel
theorem dX8_says_24 : decode cX8_says 24 = .ok (.iload 6, 2) := by decide +kernel
theorem dX8_says_26 : decode cX8_says 26 = .ok (.iconst 1, 1) := by decide +kernel
theorem dX8_says_27 : decode cX8_says 27 = .ok (.if_icmp .ne 7, 3) := by decide +kernel
theorem dX8_says_30 : decode cX8_says 30 = .ok (.iconst 1, 1) := by decide +kernel
theorem dX8_says_31 : decode cX8_says 31 = .ok (.goto 4, 3) := by decide +kernel
theorem dX8_says_34 : decode cX8_says 34 = .ok (.iconst 0, 1) := by decide +kernel
theorem dX8_says_35 : decode cX8_says 35 = .ok (.iadd, 1) := by decide +kernel
theorem dX8_says_36 : decode cX8_says 36 = .ok (.istore_n 3, 1) := by decide +kernel
theorem dX8_says_37 : decode cX8_says 37 = .ok (.iload 4, 2) := by decide +kernel
theorem dX8_says_39 : decode cX8_says 39 = .ok (.iload 6, 2) := by decide +kernel
theorem dX8_says_41 : decode cX8_says 41 = .ok (.ifCond .ne 7, 3) := by decide +kernel
theorem dX8_says_44 : decode cX8_says 44 = .ok (.iconst 1, 1) := by decide +kernel
theorem dX8_says_45 : decode cX8_says 45 = .ok (.goto 4, 3) := by decide +kernel
theorem dX8_says_48 : decode cX8_says 48 = .ok (.iconst 0, 1) := by decide +kernel
theorem dX8_says_49 : decode cX8_says 49 = .ok (.iadd, 1) := by decide +kernel
theorem dX8_says_50 : decode cX8_says 50 = .ok (.istore 4, 2) := by decide +kernel
theorem dX8_says_52 : decode cX8_says 52 = .ok (.iinc 5 1, 3) := by decide +kernel
theorem dX8_says_55 : decode cX8_says 55 = .ok (.goto (-47), 3) := by decide +kernel
theorem dX8_says_58 : decode cX8_says 58 = .ok (.iload_n 3, 1) := by decide +kernel
theorem dX8_says_59 : decode cX8_says 59 = .ok (.iload 4, 2) := by decide +kernel
theorem dX8_says_61 : decode cX8_says 61 = .ok (.invokestatic 37, 3) := by decide +kernel
theorem dX8_says_64 : decode cX8_says 64 = .ok (.ireturn, 1) := by decide +kernel
theorem kw_114 : (.code yX8_sideOf cX8_sideOf 2 (some .int) : Cond) ∈ gw_tbl := gw_in (by decide +kernel) (by decide +kernel)
theorem kw_115 : (.methodLink RX8 37 yX8_sideOf : Cond) ∈ gw_tbl := gw_in (by decide +kernel) (by decide +kernel)
theorem kw_116 : (.static yX8_sideOf : Cond) ∈ gw_tbl := gw_in (by decide +kernel) (by decide +kernel)

set_option maxHeartbeats 4000000 in
set_option maxRecDepth 100000 in
theorem w_says (l : Launch) (D : va_G) (cs : Nat → ClassId) (ro : Nat) (ra : Nat) (rg : Nat) (rs : Nat) (hrs : rs ≤ 24) (fra : Nat → Int32) (rw_ : Nat) (hrw : rw_ < 24) (P : Nat) (hP4 : P ≤ 4) : Met l yX8_says (Cond.code yX8_says cX8_says 7 (some .int) :: gw_tbl) ({ frames := 1, cells := 0, slots := 0, locals := 24 }) (pc_S D cs [(ro, .inr (8, [.ref ra, .ref rg, .int (nI rs)])), (ra, .inl (cs 0, 24, .inl fra))] [.ref ro, .int (nI rw_), .int (nI P)]) (vp_Si (fun r => True)) 0 0 (fun _ => False) := by
  refine Met.ofW (cc := cX8_says) (maxL := 7) (ret := (some .int)) (by decide) rfl ?_
  intro p e s m args below meth c s₁ B hml hv
  obtain ⟨hargs, hP, hK⟩ := hv
  have hx := B.exec
  have hb := B.bytes
  have hr := B.returns
  have hts := atoms_spec (ws := Cond.code yX8_says cX8_says 7 (some .int) :: gw_tbl) B.pre
  have hg := fun (w : Cond) (h : w ∈ gw_tbl) => hts w (List.mem_cons_of_mem _ h)
  have hown : s.vm.findClass RX8 = some m.cls := findClass_of_methodNamed B.named
  have hlocks := B.notSynchronized
  have hl := lv_entry ([.ref ro, .int (nI rw_), .int (nI P)]) (n := 7) (Nat.le_of_ble_eq_true rfl)
  rw [show entryFrame m args 7 = F0 m 0 (lg_sl ([.ref ro, .int (nI rw_), .int (nI P)]) ++ List.replicate (7 - (lg_sl ([.ref ro, .int (nI rw_), .int (nI P)])).length) Slot.unset).toArray [] from by rw [hargs]; exact lg_entry_eq ..]
  generalize (lg_sl ([.ref ro, .int (nI rw_), .int (nI P)]) ++ List.replicate (7 - (lg_sl ([.ref ro, .int (nI rw_), .int (nI P)])).length) Slot.unset).toArray = ls at hl ⊢
  have hl : lv_has ls 7 [(0, .ref ro), (1, .int (nI rw_)), (2, .int (nI P))] := hl
  refine W_genQ (fun Q hQ => ?_)
  have hlm := lim_le hP4
  have hlq := lim_pos P
  have hsg := sgn_le hP4
  refine lv_iconst (v := 0) hx hb dX8_says_0 (by decide) ?_
  refine lv_istore_n (lv' := [(3, .int 0), (0, .ref ro), (1, .int (nI rw_)), (2, .int (nI P))]) hx hb dX8_says_1 rfl hl (by decide) rfl (fun ls hl => ?_)
  refine lv_iconst (v := 0) hx hb dX8_says_2 (by decide) ?_
  refine lv_istore (lv' := [(4, .int 0), (3, .int 0), (0, .ref ro), (1, .int (nI rw_)), (2, .int (nI P))]) hx hb dX8_says_3 hl (by decide) rfl (fun ls hl => ?_)
  refine lv_iconst (v := 0) hx hb dX8_says_5 (by decide) ?_
  refine lv_istore (lv' := [(5, .int 0), (4, .int 0), (3, .int 0), (0, .ref ro), (1, .int (nI rw_)), (2, .int (nI P))]) hx hb dX8_says_6 hl (by decide) rfl (fun ls hl => ?_)
  have LOOP8 : ∀ (n8 : Nat) (u3_8 : Int32) (u4_8 : Int32) (k : Nat), k ≤ P → P - k < n8 → ∀ (ls : Array Slot), lv_has ls 7 [(0, .ref ro), (1, .int (nI rw_)), (2, .int (nI P)), (3, .int u3_8), (4, .int u4_8), (5, .int (nI k))] → W p l e ({ frames := 1, cells := 0, slots := 0, locals := 24 } : Room) s m args below meth c s.heap [] 0 0 Q (F0 m 8 ls []) := by
    intro n8
    induction n8 with
    | zero =>
      intro u3_8 u4_8 k hk hn8 ls hl
      exact absurd hn8 (Nat.not_lt_zero _)
    | succ n8 ih8 =>
      intro u3_8 u4_8 k hk hn8 ls hl
      refine lv_iload hx hb dX8_says_8 (lv_at hl 5 rfl) ?_
      refine lv_iload_n hx hb dX8_says_10 rfl (lv_at hl 2 rfl) ?_
      refine lv_icmp_ge (tgt := 58) hx hb dX8_says_11 (by decide) (fun c_11 => ?_) (fun c_11 => ?_)
      · have n_11 : P ≤ k := b_le_t (by omega) (by omega) c_11
        refine lv_iload_n hx hb dX8_says_58 rfl (lv_at hl 3 rfl) ?_
        refine lv_iload hx hb dX8_says_59 (lv_at hl 4 rfl) ?_
        refine vp_callSi (W.runS (As := [.int u3_8, .int u4_8]) (rest := []) ⟨hx, hb, hml, hown, hg⟩ (c_sideOf l u3_8 u4_8) (va_cwS 2 hg (gw_S kw_115 kw_116 kw_105 kw_114) rfl rfl rfl (by decide +kernel) ⟨(Nat.le_of_ble_eq_true rfl), (Nat.le_of_ble_eq_true rfl)⟩) pr_0 rfl rfl hl.1 rfl (lv_room (Nat.le_of_ble_eq_true rfl)) dX8_says_61 ⟨(Nat.le_of_ble_eq_true rfl), (Nat.le_of_ble_eq_true rfl)⟩) (fun r_61 h_61 => ?_)
        clear h_61
        refine W_sQ hQ ?_
        exact W.iret (v := r_61) hx hb hr (fun t ht hW => ⟨r_61, rfl, trivial, ht⟩) (fun _ h => absurd h List.not_mem_nil) dX8_says_64
      · have n_11 : k < P := b_le_f (by omega) (by omega) c_11
        refine lv_aload_n hx hb dX8_says_14 rfl (lv_at hl 0 rfl) ?_
        refine lv_iload_n hx hb dX8_says_15 rfl (lv_at hl 1 rfl) ?_
        refine lv_iload hx hb dX8_says_16 (lv_at hl 5 rfl) ?_
        have hPc := hP.sub (ws' := [(ro, .inr (8, [.ref ra, .ref rg, .int (nI rs)])), (ra, .inl (cs 0, 24, .inl fra))]) [0, 1] rfl
        refine vp_callSi (W.runV (As := [.int (nI rw_), .int (nI k)]) (rest := []) ⟨hx, hb, hml, hown, hg⟩ (w_answerOf l D cs ro ra rg rs (by omega) fra rw_ (by omega) k (by omega)) (cwV 2 hg (gw_V kw_102 kw_103 kw_104 kw_105 kw_101) rfl rfl rfl (by decide +kernel) ⟨(Nat.le_of_ble_eq_true rfl), (Nat.le_of_ble_eq_true rfl)⟩) (pr_SV (q := (RX8, TX8, 3)) 8 0 hK hPc rfl rfl) rfl rfl hl.1 rfl (lv_room (Nat.le_of_ble_eq_true rfl)) dX8_says_18 ⟨(Nat.le_of_ble_eq_true rfl), (Nat.le_of_ble_eq_true rfl)⟩) (fun r_18 h_18 => ?_)
        clear h_18
        refine lv_istore (lv' := [(6, .int r_18), (0, .ref ro), (1, .int (nI rw_)), (2, .int (nI P)), (3, .int u3_8), (4, .int u4_8), (5, .int (nI k))]) hx hb dX8_says_21 hl (by decide) rfl (fun ls hl => ?_)
        refine lv_iload_n hx hb dX8_says_23 rfl (lv_at hl 4 rfl) ?_
        refine lv_iload hx hb dX8_says_24 (lv_at hl 0 rfl) ?_
        refine lv_iconst (v := 1) hx hb dX8_says_26 (by decide) ?_
        refine lv_icmp_ne (tgt := 34) hx hb dX8_says_27 (by decide) (fun c_27 => ?_) (fun c_27 => ?_)
        · refine lv_iconst (v := 0) hx hb dX8_says_34 (by decide) ?_
          refine lv_iadd hx hb dX8_says_35 ?_
          refine lv_topi (fun z_35 e_35 => ?_)
          refine lv_istore_n (lv' := [(3, .int z_35), (6, .int r_18), (0, .ref ro), (1, .int (nI rw_)), (2, .int (nI P)), (4, .int u4_8), (5, .int (nI k))]) hx hb dX8_says_36 rfl hl (by decide) rfl (fun ls hl => ?_)
          refine lv_iload hx hb dX8_says_37 (lv_at hl 5 rfl) ?_
          refine lv_iload hx hb dX8_says_39 (lv_at hl 1 rfl) ?_
          refine lv_if_ne (tgt := 48) hx hb dX8_says_41 (by decide) (fun c_41 => ?_) (fun c_41 => ?_)
          · refine lv_iconst (v := 0) hx hb dX8_says_48 (by decide) ?_
            refine lv_iadd hx hb dX8_says_49 ?_
            refine lv_topi (fun z_49 e_49 => ?_)
            refine lv_istore (lv' := [(4, .int z_49), (3, .int z_35), (6, .int r_18), (0, .ref ro), (1, .int (nI rw_)), (2, .int (nI P)), (5, .int (nI k))]) hx hb dX8_says_50 hl (by decide) rfl (fun ls hl => ?_)
            refine lv_iinc (v := (nI (k + 1))) (lv' := [(5, .int (nI (k + 1))), (4, .int z_49), (3, .int z_35), (6, .int r_18), (0, .ref ro), (1, .int (nI rw_)), (2, .int (nI P))]) hx hb dX8_says_52 hl (k := 6) rfl (nI_add k 1) (by decide) rfl (fun ls hl => ?_)
            refine lv_goto (tgt := 8) hx hb dX8_says_55 (by decide) ?_
            exact ih8 z_35 z_49 (k + 1) (by omega) (by omega) ls (lv_sub hl [4, 5, 6, 2, 1, 0] rfl)
          · refine lv_iconst (v := 1) hx hb dX8_says_44 (by decide) ?_
            refine lv_goto (tgt := 49) hx hb dX8_says_45 (by decide) ?_
            refine lv_iadd hx hb dX8_says_49 ?_
            refine lv_topi (fun z_49 e_49 => ?_)
            refine lv_istore (lv' := [(4, .int z_49), (3, .int z_35), (6, .int r_18), (0, .ref ro), (1, .int (nI rw_)), (2, .int (nI P)), (5, .int (nI k))]) hx hb dX8_says_50 hl (by decide) rfl (fun ls hl => ?_)
            refine lv_iinc (v := (nI (k + 1))) (lv' := [(5, .int (nI (k + 1))), (4, .int z_49), (3, .int z_35), (6, .int r_18), (0, .ref ro), (1, .int (nI rw_)), (2, .int (nI P))]) hx hb dX8_says_52 hl (k := 6) rfl (nI_add k 1) (by decide) rfl (fun ls hl => ?_)
            refine lv_goto (tgt := 8) hx hb dX8_says_55 (by decide) ?_
            exact ih8 z_35 z_49 (k + 1) (by omega) (by omega) ls (lv_sub hl [4, 5, 6, 2, 1, 0] rfl)
        · refine lv_iconst (v := 1) hx hb dX8_says_30 (by decide) ?_
          refine lv_goto (tgt := 35) hx hb dX8_says_31 (by decide) ?_
          refine lv_iadd hx hb dX8_says_35 ?_
          refine lv_topi (fun z_35 e_35 => ?_)
          refine lv_istore_n (lv' := [(3, .int z_35), (6, .int r_18), (0, .ref ro), (1, .int (nI rw_)), (2, .int (nI P)), (4, .int u4_8), (5, .int (nI k))]) hx hb dX8_says_36 rfl hl (by decide) rfl (fun ls hl => ?_)
          refine lv_iload hx hb dX8_says_37 (lv_at hl 5 rfl) ?_
          refine lv_iload hx hb dX8_says_39 (lv_at hl 1 rfl) ?_
          refine lv_if_ne (tgt := 48) hx hb dX8_says_41 (by decide) (fun c_41 => ?_) (fun c_41 => ?_)
          · refine lv_iconst (v := 0) hx hb dX8_says_48 (by decide) ?_
            refine lv_iadd hx hb dX8_says_49 ?_
            refine lv_topi (fun z_49 e_49 => ?_)
            refine lv_istore (lv' := [(4, .int z_49), (3, .int z_35), (6, .int r_18), (0, .ref ro), (1, .int (nI rw_)), (2, .int (nI P)), (5, .int (nI k))]) hx hb dX8_says_50 hl (by decide) rfl (fun ls hl => ?_)
            refine lv_iinc (v := (nI (k + 1))) (lv' := [(5, .int (nI (k + 1))), (4, .int z_49), (3, .int z_35), (6, .int r_18), (0, .ref ro), (1, .int (nI rw_)), (2, .int (nI P))]) hx hb dX8_says_52 hl (k := 6) rfl (nI_add k 1) (by decide) rfl (fun ls hl => ?_)
            refine lv_goto (tgt := 8) hx hb dX8_says_55 (by decide) ?_
            exact ih8 z_35 z_49 (k + 1) (by omega) (by omega) ls (lv_sub hl [4, 5, 6, 2, 1, 0] rfl)
          · refine lv_iconst (v := 1) hx hb dX8_says_44 (by decide) ?_
            refine lv_goto (tgt := 49) hx hb dX8_says_45 (by decide) ?_
            refine lv_iadd hx hb dX8_says_49 ?_
            refine lv_topi (fun z_49 e_49 => ?_)
            refine lv_istore (lv' := [(4, .int z_49), (3, .int z_35), (6, .int r_18), (0, .ref ro), (1, .int (nI rw_)), (2, .int (nI P)), (5, .int (nI k))]) hx hb dX8_says_50 hl (by decide) rfl (fun ls hl => ?_)
            refine lv_iinc (v := (nI (k + 1))) (lv' := [(5, .int (nI (k + 1))), (4, .int z_49), (3, .int z_35), (6, .int r_18), (0, .ref ro), (1, .int (nI rw_)), (2, .int (nI P))]) hx hb dX8_says_52 hl (k := 6) rfl (nI_add k 1) (by decide) rfl (fun ls hl => ?_)
            refine lv_goto (tgt := 8) hx hb dX8_says_55 (by decide) ?_
            exact ih8 z_35 z_49 (k + 1) (by omega) (by omega) ls (lv_sub hl [4, 5, 6, 2, 1, 0] rfl)
  exact LOOP8 (P - 0 + 1) 0 0 0 (by omega) (Nat.lt_succ_self _) ls (lv_sub hl [3, 4, 5, 2, 1, 0] rfl)

theorem dX8_surprisedAt_0 : decode cX8_surprisedAt 0 = .ok (.aload_n 0, 1) := by decide +kernel
theorem dX8_surprisedAt_1 : decode cX8_surprisedAt 1 = .ok (.getfield 15, 3) := by decide +kernel
theorem dX8_surprisedAt_4 : decode cX8_surprisedAt 4 = .ok (.iload_n 1, 1) := by decide +kernel
theorem dX8_surprisedAt_5 : decode cX8_surprisedAt 5 = .ok (.laload, 1) := by decide +kernel
theorem dX8_surprisedAt_6 : decode cX8_surprisedAt 6 = .ok (.ldc2_w 40, 3) := by decide +kernel
theorem dX8_surprisedAt_9 : decode cX8_surprisedAt 9 = .ok (.lcmp, 1) := by decide +kernel
theorem dX8_surprisedAt_10 : decode cX8_surprisedAt 10 = .ok (.ifCond .ne 5, 3) := by decide +kernel
theorem dX8_surprisedAt_13 : decode cX8_surprisedAt 13 = .ok (.iconst (-1), 1) := by decide +kernel
theorem dX8_surprisedAt_14 : decode cX8_surprisedAt 14 = .ok (.ireturn, 1) := by decide +kernel
theorem dX8_surprisedAt_15 : decode cX8_surprisedAt 15 = .ok (.iconst 0, 1) := by decide +kernel
theorem dX8_surprisedAt_16 : decode cX8_surprisedAt 16 = .ok (.istore_n 3, 1) := by decide +kernel
theorem dX8_surprisedAt_17 : decode cX8_surprisedAt 17 = .ok (.iconst 0, 1) := by decide +kernel
theorem dX8_surprisedAt_18 : decode cX8_surprisedAt 18 = .ok (.istore 4, 2) := by decide +kernel
theorem dX8_surprisedAt_20 : decode cX8_surprisedAt 20 = .ok (.iconst 0, 1) := by decide +kernel
theorem dX8_surprisedAt_21 : decode cX8_surprisedAt 21 = .ok (.istore 5, 2) := by decide +kernel
theorem dX8_surprisedAt_23 : decode cX8_surprisedAt 23 = .ok (.iload 5, 2) := by decide +kernel
theorem dX8_surprisedAt_25 : decode cX8_surprisedAt 25 = .ok (.iload_n 2, 1) := by decide +kernel
theorem dX8_surprisedAt_26 : decode cX8_surprisedAt 26 = .ok (.if_icmp .ge 54, 3) := by decide +kernel
theorem dX8_surprisedAt_29 : decode cX8_surprisedAt 29 = .ok (.aload_n 0, 1) := by decide +kernel
theorem dX8_surprisedAt_30 : decode cX8_surprisedAt 30 = .ok (.iload_n 1, 1) := by decide +kernel
theorem dX8_surprisedAt_31 : decode cX8_surprisedAt 31 = .ok (.iload 5, 2) := by decide +kernel
theorem dX8_surprisedAt_33 : decode cX8_surprisedAt 33 = .ok (.invokevirtual 29, 3) := by decide +kernel
theorem dX8_surprisedAt_36 : decode cX8_surprisedAt 36 = .ok (.istore 6, 2) := by decide +kernel
theorem dX8_surprisedAt_38 : decode cX8_surprisedAt 38 = .ok (.iload_n 3, 1) := by decide +kernel
theorem dX8_surprisedAt_39 : decode cX8_surprisedAt 39 = .ok (.iload 6, 2) := by decide +kernel
theorem dX8_surprisedAt_41 : decode cX8_surprisedAt 41 = .ok (.iconst 1, 1) := by decide +kernel
theorem dX8_surprisedAt_42 : decode cX8_surprisedAt 42 = .ok (.if_icmp .ne 7, 3) := by decide +kernel
theorem dX8_surprisedAt_45 : decode cX8_surprisedAt 45 = .ok (.iconst 1, 1) := by decide +kernel
theorem dX8_surprisedAt_46 : decode cX8_surprisedAt 46 = .ok (.goto 4, 3) := by decide +kernel
theorem dX8_surprisedAt_49 : decode cX8_surprisedAt 49 = .ok (.iconst 0, 1) := by decide +kernel
theorem dX8_surprisedAt_50 : decode cX8_surprisedAt 50 = .ok (.iadd, 1) := by decide +kernel
theorem dX8_surprisedAt_51 : decode cX8_surprisedAt 51 = .ok (.istore_n 3, 1) := by decide +kernel
theorem dX8_surprisedAt_52 : decode cX8_surprisedAt 52 = .ok (.iload 4, 2) := by decide +kernel
theorem dX8_surprisedAt_54 : decode cX8_surprisedAt 54 = .ok (.iload 6, 2) := by decide +kernel
theorem dX8_surprisedAt_56 : decode cX8_surprisedAt 56 = .ok (.iconst 2, 1) := by decide +kernel
theorem dX8_surprisedAt_57 : decode cX8_surprisedAt 57 = .ok (.if_icmp .ne 7, 3) := by decide +kernel
theorem dX8_surprisedAt_60 : decode cX8_surprisedAt 60 = .ok (.iconst 0, 1) := by decide +kernel
theorem dX8_surprisedAt_61 : decode cX8_surprisedAt 61 = .ok (.goto 10, 3) := by decide +kernel
theorem dX8_surprisedAt_64 : decode cX8_surprisedAt 64 = .ok (.aload_n 0, 1) := by decide +kernel
theorem dX8_surprisedAt_65 : decode cX8_surprisedAt 65 = .ok (.iload_n 1, 1) := by decide +kernel
theorem dX8_surprisedAt_66 : decode cX8_surprisedAt 66 = .ok (.iload 5, 2) := by decide +kernel
theorem dX8_surprisedAt_68 : decode cX8_surprisedAt 68 = .ok (.invokevirtual 42, 3) := by decide +kernel
theorem dX8_surprisedAt_71 : decode cX8_surprisedAt 71 = .ok (.iadd, 1) := by decide +kernel
theorem dX8_surprisedAt_72 : decode cX8_surprisedAt 72 = .ok (.istore 4, 2) := by decide +kernel
theorem dX8_surprisedAt_74 : decode cX8_surprisedAt 74 = .ok (.iinc 5 1, 3) := by decide +kernel
theorem dX8_surprisedAt_77 : decode cX8_surprisedAt 77 = .ok (.goto (-54), 3) := by decide +kernel
theorem dX8_surprisedAt_80 : decode cX8_surprisedAt 80 = .ok (.bipush 100, 2) := by decide +kernel
theorem dX8_surprisedAt_82 : decode cX8_surprisedAt 82 = .ok (.iload_n 3, 1) := by decide +kernel
theorem dX8_surprisedAt_83 : decode cX8_surprisedAt 83 = .ok (.imul, 1) := by decide +kernel
theorem dX8_surprisedAt_84 : decode cX8_surprisedAt 84 = .ok (.iload 4, 2) := by decide +kernel
theorem dX8_surprisedAt_86 : decode cX8_surprisedAt 86 = .ok (.invokestatic 37, 3) := by decide +kernel
theorem dX8_surprisedAt_89 : decode cX8_surprisedAt 89 = .ok (.ireturn, 1) := by decide +kernel
theorem kw_117 : (.constantLong RX8 40 (-1) : Cond) ∈ gw_tbl := gw_in (by decide +kernel) (by decide +kernel)
theorem kw_118 : (.code yX8_guessOf cX8_guessOf 6 (some .int) : Cond) ∈ gw_tbl := gw_in (by decide +kernel) (by decide +kernel)
theorem kw_119 : (.methodLink RX8 42 yX8_guessOf : Cond) ∈ gw_tbl := gw_in (by decide +kernel) (by decide +kernel)
theorem kw_120 : (.instanceMethod yX8_guessOf : Cond) ∈ gw_tbl := gw_in (by decide +kernel) (by decide +kernel)
theorem kw_121 : (.selects RX8 yX8_guessOf yX8_guessOf : Cond) ∈ gw_tbl := gw_in (by decide +kernel) (by decide +kernel)

set_option maxHeartbeats 4000000 in
set_option maxRecDepth 100000 in
theorem w_surprisedAt (l : Launch) (D : va_G) (cs : Nat → ClassId) (ro : Nat) (ra : Nat) (rg : Nat) (rs : Nat) (hrs : rs ≤ 24) (fra : Nat → Int32) (frg : Nat → Int64) (rw_ : Nat) (hrw : rw_ < 24) (P : Nat) (hP4 : P ≤ 4) : Met l yX8_surprisedAt (Cond.code yX8_surprisedAt cX8_surprisedAt 7 (some .int) :: gw_tbl) ({ frames := 1, cells := 0, slots := 0, locals := 25 }) (pc_S D cs [(ro, .inr (8, [.ref ra, .ref rg, .int (nI rs)])), (ra, .inl (cs 0, 24, .inl fra)), (rg, .inl (cs 1, 24, .inr (.inl frg)))] [.ref ro, .int (nI rw_), .int (nI P)]) (vp_Si (fun r => True)) 0 0 (fun _ => False) := by
  refine Met.ofW (cc := cX8_surprisedAt) (maxL := 7) (ret := (some .int)) (by decide) rfl ?_
  intro p e s m args below meth c s₁ B hml hv
  obtain ⟨hargs, hP, hK⟩ := hv
  have hx := B.exec
  have hb := B.bytes
  have hr := B.returns
  have hts := atoms_spec (ws := Cond.code yX8_surprisedAt cX8_surprisedAt 7 (some .int) :: gw_tbl) B.pre
  have hg := fun (w : Cond) (h : w ∈ gw_tbl) => hts w (List.mem_cons_of_mem _ h)
  have hown : s.vm.findClass RX8 = some m.cls := findClass_of_methodNamed B.named
  have hlocks := B.notSynchronized
  have hl := lv_entry ([.ref ro, .int (nI rw_), .int (nI P)]) (n := 7) (Nat.le_of_ble_eq_true rfl)
  rw [show entryFrame m args 7 = F0 m 0 (lg_sl ([.ref ro, .int (nI rw_), .int (nI P)]) ++ List.replicate (7 - (lg_sl ([.ref ro, .int (nI rw_), .int (nI P)])).length) Slot.unset).toArray [] from by rw [hargs]; exact lg_entry_eq ..]
  generalize (lg_sl ([.ref ro, .int (nI rw_), .int (nI P)]) ++ List.replicate (7 - (lg_sl ([.ref ro, .int (nI rw_), .int (nI P)])).length) Slot.unset).toArray = ls at hl ⊢
  have hl : lv_has ls 7 [(0, .ref ro), (1, .int (nI rw_)), (2, .int (nI P))] := hl
  refine W_genQ (fun Q hQ => ?_)
  have hlm := lim_le hP4
  have hlq := lim_pos P
  have hsg := sgn_le hP4
  refine lv_aload_n hx hb dX8_surprisedAt_0 rfl (lv_at hl 0 rfl) ?_
  refine va_get (D := D) (ci := 8) (v := .ref rg) (C := RX8) (T := TX8) (N := 3) hx hb hg gwX8 hown hK hP 0 rfl rfl 1 (by decide) (hg _ kw_100) (fun _ h9 => h9) rfl dX8_surprisedAt_1 ?_
  refine lv_iload_n hx hb dX8_surprisedAt_4 rfl (lv_at hl 1 rfl) ?_
  refine va_lald hx hb hK hP 2 1 rfl rfl (vp_in_nI (show rw_ < 24 by omega) (by decide)) dX8_surprisedAt_5 ?_
  refine lv_topl (fun z_5 e_5 => ?_)
  refine lv_ldc2 hx hb hown (hg _ kw_117) dX8_surprisedAt_6 ?_
  refine W.lcmp hx hb dX8_surprisedAt_9 ?_
  refine lv_topi (fun z_9 e_9 => ?_)
  refine lv_if_ne (tgt := 15) hx hb dX8_surprisedAt_10 (by decide) (fun c_10 => ?_) (fun c_10 => ?_)
  · refine lv_iconst (v := 0) hx hb dX8_surprisedAt_15 (by decide) ?_
    refine lv_istore_n (lv' := [(3, .int 0), (0, .ref ro), (1, .int (nI rw_)), (2, .int (nI P))]) hx hb dX8_surprisedAt_16 rfl hl (by decide) rfl (fun ls hl => ?_)
    refine lv_iconst (v := 0) hx hb dX8_surprisedAt_17 (by decide) ?_
    refine lv_istore (lv' := [(4, .int 0), (3, .int 0), (0, .ref ro), (1, .int (nI rw_)), (2, .int (nI P))]) hx hb dX8_surprisedAt_18 hl (by decide) rfl (fun ls hl => ?_)
    refine lv_iconst (v := 0) hx hb dX8_surprisedAt_20 (by decide) ?_
    refine lv_istore (lv' := [(5, .int 0), (4, .int 0), (3, .int 0), (0, .ref ro), (1, .int (nI rw_)), (2, .int (nI P))]) hx hb dX8_surprisedAt_21 hl (by decide) rfl (fun ls hl => ?_)
    have LOOP23 : ∀ (n23 : Nat) (u3_23 : Int32) (u4_23 : Int32) (k : Nat), k ≤ P → P - k < n23 → ∀ (ls : Array Slot), lv_has ls 7 [(0, .ref ro), (1, .int (nI rw_)), (2, .int (nI P)), (3, .int u3_23), (4, .int u4_23), (5, .int (nI k))] → W p l e ({ frames := 1, cells := 0, slots := 0, locals := 25 } : Room) s m args below meth c s.heap [] 0 0 Q (F0 m 23 ls []) := by
      intro n23
      induction n23 with
      | zero =>
        intro u3_23 u4_23 k hk hn23 ls hl
        exact absurd hn23 (Nat.not_lt_zero _)
      | succ n23 ih23 =>
        intro u3_23 u4_23 k hk hn23 ls hl
        refine lv_iload hx hb dX8_surprisedAt_23 (lv_at hl 5 rfl) ?_
        refine lv_iload_n hx hb dX8_surprisedAt_25 rfl (lv_at hl 2 rfl) ?_
        refine lv_icmp_ge (tgt := 80) hx hb dX8_surprisedAt_26 (by decide) (fun c_26 => ?_) (fun c_26 => ?_)
        · have n_26 : P ≤ k := b_le_t (by omega) (by omega) c_26
          refine lv_bipush (v := 100) hx hb dX8_surprisedAt_80 (by decide) ?_
          refine lv_iload_n hx hb dX8_surprisedAt_82 rfl (lv_at hl 3 rfl) ?_
          refine lv_imul hx hb dX8_surprisedAt_83 ?_
          refine lv_topi (fun z_83 e_83 => ?_)
          refine lv_iload hx hb dX8_surprisedAt_84 (lv_at hl 4 rfl) ?_
          refine vp_callSi (W.runS (As := [.int z_83, .int u4_23]) (rest := []) ⟨hx, hb, hml, hown, hg⟩ (c_sideOf l z_83 u4_23) (va_cwS 2 hg (gw_S kw_115 kw_116 kw_105 kw_114) rfl rfl rfl (by decide +kernel) ⟨(Nat.le_of_ble_eq_true rfl), (Nat.le_of_ble_eq_true rfl)⟩) pr_0 rfl rfl hl.1 rfl (lv_room (Nat.le_of_ble_eq_true rfl)) dX8_surprisedAt_86 ⟨(Nat.le_of_ble_eq_true rfl), (Nat.le_of_ble_eq_true rfl)⟩) (fun r_86 h_86 => ?_)
          clear h_86
          refine W_sQ hQ ?_
          exact W.iret (v := r_86) hx hb hr (fun t ht hW => ⟨r_86, rfl, trivial, ht⟩) (fun _ h => absurd h List.not_mem_nil) dX8_surprisedAt_89
        · have n_26 : k < P := b_le_f (by omega) (by omega) c_26
          refine lv_aload_n hx hb dX8_surprisedAt_29 rfl (lv_at hl 0 rfl) ?_
          refine lv_iload_n hx hb dX8_surprisedAt_30 rfl (lv_at hl 1 rfl) ?_
          refine lv_iload hx hb dX8_surprisedAt_31 (lv_at hl 5 rfl) ?_
          have hPc := hP.sub (ws' := [(ro, .inr (8, [.ref ra, .ref rg, .int (nI rs)])), (ra, .inl (cs 0, 24, .inl fra))]) [0, 1] rfl
          refine vp_callSi (W.runV (As := [.int (nI rw_), .int (nI k)]) (rest := []) ⟨hx, hb, hml, hown, hg⟩ (w_answerOf l D cs ro ra rg rs (by omega) fra rw_ (by omega) k (by omega)) (cwV 2 hg (gw_V kw_102 kw_103 kw_104 kw_105 kw_101) rfl rfl rfl (by decide +kernel) ⟨(Nat.le_of_ble_eq_true rfl), (Nat.le_of_ble_eq_true rfl)⟩) (pr_SV (q := (RX8, TX8, 3)) 8 0 hK hPc rfl rfl) rfl rfl hl.1 rfl (lv_room (Nat.le_of_ble_eq_true rfl)) dX8_surprisedAt_33 ⟨(Nat.le_of_ble_eq_true rfl), (Nat.le_of_ble_eq_true rfl)⟩) (fun r_33 h_33 => ?_)
          clear h_33
          refine lv_istore (lv' := [(6, .int r_33), (0, .ref ro), (1, .int (nI rw_)), (2, .int (nI P)), (3, .int u3_23), (4, .int u4_23), (5, .int (nI k))]) hx hb dX8_surprisedAt_36 hl (by decide) rfl (fun ls hl => ?_)
          refine lv_iload_n hx hb dX8_surprisedAt_38 rfl (lv_at hl 4 rfl) ?_
          refine lv_iload hx hb dX8_surprisedAt_39 (lv_at hl 0 rfl) ?_
          refine lv_iconst (v := 1) hx hb dX8_surprisedAt_41 (by decide) ?_
          refine lv_icmp_ne (tgt := 49) hx hb dX8_surprisedAt_42 (by decide) (fun c_42 => ?_) (fun c_42 => ?_)
          · refine lv_iconst (v := 0) hx hb dX8_surprisedAt_49 (by decide) ?_
            refine lv_iadd hx hb dX8_surprisedAt_50 ?_
            refine lv_topi (fun z_50 e_50 => ?_)
            refine lv_istore_n (lv' := [(3, .int z_50), (6, .int r_33), (0, .ref ro), (1, .int (nI rw_)), (2, .int (nI P)), (4, .int u4_23), (5, .int (nI k))]) hx hb dX8_surprisedAt_51 rfl hl (by decide) rfl (fun ls hl => ?_)
            refine lv_iload hx hb dX8_surprisedAt_52 (lv_at hl 5 rfl) ?_
            refine lv_iload hx hb dX8_surprisedAt_54 (lv_at hl 1 rfl) ?_
            refine lv_iconst (v := 2) hx hb dX8_surprisedAt_56 (by decide) ?_
            refine lv_icmp_ne (tgt := 64) hx hb dX8_surprisedAt_57 (by decide) (fun c_57 => ?_) (fun c_57 => ?_)
            · refine lv_aload_n hx hb dX8_surprisedAt_64 rfl (lv_at hl 2 rfl) ?_
              refine lv_iload_n hx hb dX8_surprisedAt_65 rfl (lv_at hl 3 rfl) ?_
              refine lv_iload hx hb dX8_surprisedAt_66 (lv_at hl 6 rfl) ?_
              have hPc := hP.sub (ws' := [(ro, .inr (8, [.ref ra, .ref rg, .int (nI rs)])), (rg, .inl (cs 1, 24, .inr (.inl frg)))]) [0, 2] rfl
              refine vp_callSi (W.runV (As := [.int (nI rw_), .int (nI k)]) (rest := [.int u4_23]) ⟨hx, hb, hml, hown, hg⟩ (w_guessOf l D cs ro ra rg rs (by omega) frg rw_ (by omega) k (by omega)) (cwV 2 hg (gw_V kw_119 kw_120 kw_121 kw_105 kw_118) rfl rfl rfl (by decide +kernel) ⟨(Nat.le_of_ble_eq_true rfl), (Nat.le_of_ble_eq_true rfl)⟩) (pr_SV (q := (RX8, TX8, 3)) 8 0 hK hPc rfl rfl) rfl rfl hl.1 rfl (lv_room (Nat.le_of_ble_eq_true rfl)) dX8_surprisedAt_68 ⟨(Nat.le_of_ble_eq_true rfl), (Nat.le_of_ble_eq_true rfl)⟩) (fun r_68 h_68 => ?_)
              clear h_68
              refine lv_iadd hx hb dX8_surprisedAt_71 ?_
              refine lv_topi (fun z_71 e_71 => ?_)
              refine lv_istore (lv' := [(4, .int z_71), (3, .int z_50), (6, .int r_33), (0, .ref ro), (1, .int (nI rw_)), (2, .int (nI P)), (5, .int (nI k))]) hx hb dX8_surprisedAt_72 hl (by decide) rfl (fun ls hl => ?_)
              refine lv_iinc (v := (nI (k + 1))) (lv' := [(5, .int (nI (k + 1))), (4, .int z_71), (3, .int z_50), (6, .int r_33), (0, .ref ro), (1, .int (nI rw_)), (2, .int (nI P))]) hx hb dX8_surprisedAt_74 hl (k := 6) rfl (nI_add k 1) (by decide) rfl (fun ls hl => ?_)
              refine lv_goto (tgt := 23) hx hb dX8_surprisedAt_77 (by decide) ?_
              exact ih23 z_50 z_71 (k + 1) (by omega) (by omega) ls (lv_sub hl [4, 5, 6, 2, 1, 0] rfl)
            · refine lv_iconst (v := 0) hx hb dX8_surprisedAt_60 (by decide) ?_
              refine lv_goto (tgt := 71) hx hb dX8_surprisedAt_61 (by decide) ?_
              refine lv_iadd hx hb dX8_surprisedAt_71 ?_
              refine lv_topi (fun z_71 e_71 => ?_)
              refine lv_istore (lv' := [(4, .int z_71), (3, .int z_50), (6, .int r_33), (0, .ref ro), (1, .int (nI rw_)), (2, .int (nI P)), (5, .int (nI k))]) hx hb dX8_surprisedAt_72 hl (by decide) rfl (fun ls hl => ?_)
              refine lv_iinc (v := (nI (k + 1))) (lv' := [(5, .int (nI (k + 1))), (4, .int z_71), (3, .int z_50), (6, .int r_33), (0, .ref ro), (1, .int (nI rw_)), (2, .int (nI P))]) hx hb dX8_surprisedAt_74 hl (k := 6) rfl (nI_add k 1) (by decide) rfl (fun ls hl => ?_)
              refine lv_goto (tgt := 23) hx hb dX8_surprisedAt_77 (by decide) ?_
              exact ih23 z_50 z_71 (k + 1) (by omega) (by omega) ls (lv_sub hl [4, 5, 6, 2, 1, 0] rfl)
          · refine lv_iconst (v := 1) hx hb dX8_surprisedAt_45 (by decide) ?_
            refine lv_goto (tgt := 50) hx hb dX8_surprisedAt_46 (by decide) ?_
            refine lv_iadd hx hb dX8_surprisedAt_50 ?_
            refine lv_topi (fun z_50 e_50 => ?_)
            refine lv_istore_n (lv' := [(3, .int z_50), (6, .int r_33), (0, .ref ro), (1, .int (nI rw_)), (2, .int (nI P)), (4, .int u4_23), (5, .int (nI k))]) hx hb dX8_surprisedAt_51 rfl hl (by decide) rfl (fun ls hl => ?_)
            refine lv_iload hx hb dX8_surprisedAt_52 (lv_at hl 5 rfl) ?_
            refine lv_iload hx hb dX8_surprisedAt_54 (lv_at hl 1 rfl) ?_
            refine lv_iconst (v := 2) hx hb dX8_surprisedAt_56 (by decide) ?_
            refine lv_icmp_ne (tgt := 64) hx hb dX8_surprisedAt_57 (by decide) (fun c_57 => ?_) (fun c_57 => ?_)
            · refine lv_aload_n hx hb dX8_surprisedAt_64 rfl (lv_at hl 2 rfl) ?_
              refine lv_iload_n hx hb dX8_surprisedAt_65 rfl (lv_at hl 3 rfl) ?_
              refine lv_iload hx hb dX8_surprisedAt_66 (lv_at hl 6 rfl) ?_
              have hPc := hP.sub (ws' := [(ro, .inr (8, [.ref ra, .ref rg, .int (nI rs)])), (rg, .inl (cs 1, 24, .inr (.inl frg)))]) [0, 2] rfl
              refine vp_callSi (W.runV (As := [.int (nI rw_), .int (nI k)]) (rest := [.int u4_23]) ⟨hx, hb, hml, hown, hg⟩ (w_guessOf l D cs ro ra rg rs (by omega) frg rw_ (by omega) k (by omega)) (cwV 2 hg (gw_V kw_119 kw_120 kw_121 kw_105 kw_118) rfl rfl rfl (by decide +kernel) ⟨(Nat.le_of_ble_eq_true rfl), (Nat.le_of_ble_eq_true rfl)⟩) (pr_SV (q := (RX8, TX8, 3)) 8 0 hK hPc rfl rfl) rfl rfl hl.1 rfl (lv_room (Nat.le_of_ble_eq_true rfl)) dX8_surprisedAt_68 ⟨(Nat.le_of_ble_eq_true rfl), (Nat.le_of_ble_eq_true rfl)⟩) (fun r_68 h_68 => ?_)
              clear h_68
              refine lv_iadd hx hb dX8_surprisedAt_71 ?_
              refine lv_topi (fun z_71 e_71 => ?_)
              refine lv_istore (lv' := [(4, .int z_71), (3, .int z_50), (6, .int r_33), (0, .ref ro), (1, .int (nI rw_)), (2, .int (nI P)), (5, .int (nI k))]) hx hb dX8_surprisedAt_72 hl (by decide) rfl (fun ls hl => ?_)
              refine lv_iinc (v := (nI (k + 1))) (lv' := [(5, .int (nI (k + 1))), (4, .int z_71), (3, .int z_50), (6, .int r_33), (0, .ref ro), (1, .int (nI rw_)), (2, .int (nI P))]) hx hb dX8_surprisedAt_74 hl (k := 6) rfl (nI_add k 1) (by decide) rfl (fun ls hl => ?_)
              refine lv_goto (tgt := 23) hx hb dX8_surprisedAt_77 (by decide) ?_
              exact ih23 z_50 z_71 (k + 1) (by omega) (by omega) ls (lv_sub hl [4, 5, 6, 2, 1, 0] rfl)
            · refine lv_iconst (v := 0) hx hb dX8_surprisedAt_60 (by decide) ?_
              refine lv_goto (tgt := 71) hx hb dX8_surprisedAt_61 (by decide) ?_
              refine lv_iadd hx hb dX8_surprisedAt_71 ?_
              refine lv_topi (fun z_71 e_71 => ?_)
              refine lv_istore (lv' := [(4, .int z_71), (3, .int z_50), (6, .int r_33), (0, .ref ro), (1, .int (nI rw_)), (2, .int (nI P)), (5, .int (nI k))]) hx hb dX8_surprisedAt_72 hl (by decide) rfl (fun ls hl => ?_)
              refine lv_iinc (v := (nI (k + 1))) (lv' := [(5, .int (nI (k + 1))), (4, .int z_71), (3, .int z_50), (6, .int r_33), (0, .ref ro), (1, .int (nI rw_)), (2, .int (nI P))]) hx hb dX8_surprisedAt_74 hl (k := 6) rfl (nI_add k 1) (by decide) rfl (fun ls hl => ?_)
              refine lv_goto (tgt := 23) hx hb dX8_surprisedAt_77 (by decide) ?_
              exact ih23 z_50 z_71 (k + 1) (by omega) (by omega) ls (lv_sub hl [4, 5, 6, 2, 1, 0] rfl)
    exact LOOP23 (P - 0 + 1) 0 0 0 (by omega) (Nat.lt_succ_self _) ls (lv_sub hl [3, 4, 5, 2, 1, 0] rfl)
  · refine lv_iconst (v := (-1)) hx hb dX8_surprisedAt_13 (by decide) ?_
    refine W_sQ hQ ?_
    exact W.iret (v := (-1)) hx hb hr (fun t ht hW => ⟨(-1), rfl, trivial, ht⟩) (fun _ h => absurd h List.not_mem_nil) dX8_surprisedAt_14
