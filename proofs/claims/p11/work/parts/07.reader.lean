theorem lk_3 {x : Int32} (h1 : ¬ x = 44) (h2 : ¬ x = 58) (h3 : ¬ x = 59) : Op.lookupswitch.offset (#[(44, 40), (58, 35), (59, 45)] : Array (Int × Int)).toList 50 x.toInt = 50 := by
  have e1 : ¬ x.toInt = 44 := fun q => h1 ((fa_eq _ _).mpr q)
  have e2 : ¬ x.toInt = 58 := fun q => h2 ((fa_eq _ _).mpr q)
  have e3 : ¬ x.toInt = 59 := fun q => h3 ((fa_eq _ _).mpr q)
  simp [Op.lookupswitch.offset, e1, e2, e3, Ne.symm e1, Ne.symm e2, Ne.symm e3]

theorem dX2_toldBy_0 : decode cX2_toldBy 0 = .ok (.iconst 0, 1) := by decide +kernel
theorem dX2_toldBy_1 : decode cX2_toldBy 1 = .ok (.istore_n 2, 1) := by decide +kernel
theorem dX2_toldBy_2 : decode cX2_toldBy 2 = .ok (.iconst 0, 1) := by decide +kernel
theorem dX2_toldBy_3 : decode cX2_toldBy 3 = .ok (.istore_n 3, 1) := by decide +kernel
theorem dX2_toldBy_4 : decode cX2_toldBy 4 = .ok (.iconst 0, 1) := by decide +kernel
theorem dX2_toldBy_5 : decode cX2_toldBy 5 = .ok (.istore 4, 2) := by decide +kernel
theorem dX2_toldBy_7 : decode cX2_toldBy 7 = .ok (.iload 4, 2) := by decide +kernel
theorem dX2_toldBy_9 : decode cX2_toldBy 9 = .ok (.bipush 8, 2) := by decide +kernel
theorem dX2_toldBy_11 : decode cX2_toldBy 11 = .ok (.if_icmp .ge 48, 3) := by decide +kernel
theorem dX2_toldBy_14 : decode cX2_toldBy 14 = .ok (.lload_n 0, 1) := by decide +kernel
theorem dX2_toldBy_15 : decode cX2_toldBy 15 = .ok (.iload 4, 2) := by decide +kernel
theorem dX2_toldBy_17 : decode cX2_toldBy 17 = .ok (.invokestatic 15, 3) := by decide +kernel
theorem dX2_toldBy_20 : decode cX2_toldBy 20 = .ok (.istore 5, 2) := by decide +kernel
theorem dX2_toldBy_22 : decode cX2_toldBy 22 = .ok (.iload 5, 2) := by decide +kernel
theorem dX2_toldBy_24 : decode cX2_toldBy 24 = .ok (.bipush 126, 2) := by decide +kernel
theorem dX2_toldBy_26 : decode cX2_toldBy 26 = .ok (.if_icmp .gt 12, 3) := by decide +kernel
theorem dX2_toldBy_29 : decode cX2_toldBy 29 = .ok (.iload_n 3, 1) := by decide +kernel
theorem dX2_toldBy_30 : decode cX2_toldBy 30 = .ok (.ifCond .eq 10, 3) := by decide +kernel
theorem dX2_toldBy_33 : decode cX2_toldBy 33 = .ok (.iload 5, 2) := by decide +kernel
theorem dX2_toldBy_35 : decode cX2_toldBy 35 = .ok (.ifCond .eq 5, 3) := by decide +kernel
theorem dX2_toldBy_38 : decode cX2_toldBy 38 = .ok (.iconst (-1), 1) := by decide +kernel
theorem dX2_toldBy_39 : decode cX2_toldBy 39 = .ok (.ireturn, 1) := by decide +kernel
theorem dX2_toldBy_40 : decode cX2_toldBy 40 = .ok (.iload 5, 2) := by decide +kernel
theorem dX2_toldBy_42 : decode cX2_toldBy 42 = .ok (.ifCond .ne 8, 3) := by decide +kernel
theorem dX2_toldBy_45 : decode cX2_toldBy 45 = .ok (.iconst 1, 1) := by decide +kernel
theorem dX2_toldBy_46 : decode cX2_toldBy 46 = .ok (.istore_n 3, 1) := by decide +kernel
theorem dX2_toldBy_47 : decode cX2_toldBy 47 = .ok (.goto 6, 3) := by decide +kernel
theorem dX2_toldBy_50 : decode cX2_toldBy 50 = .ok (.iinc 2 1, 3) := by decide +kernel
theorem dX2_toldBy_53 : decode cX2_toldBy 53 = .ok (.iinc 4 1, 3) := by decide +kernel
theorem dX2_toldBy_56 : decode cX2_toldBy 56 = .ok (.goto (-49), 3) := by decide +kernel
theorem dX2_toldBy_59 : decode cX2_toldBy 59 = .ok (.iload_n 2, 1) := by decide +kernel
theorem dX2_toldBy_60 : decode cX2_toldBy 60 = .ok (.ireturn, 1) := by decide +kernel
theorem kw_42 : (.code yX2_codeAt cX2_codeAt 3 (some .int) : Cond) ∈ gw_tbl := gw_in (by decide +kernel) (by decide +kernel)
theorem kw_43 : (.methodLink RX2 15 yX2_codeAt : Cond) ∈ gw_tbl := gw_in (by decide +kernel) (by decide +kernel)
theorem kw_44 : (.static yX2_codeAt : Cond) ∈ gw_tbl := gw_in (by decide +kernel) (by decide +kernel)
theorem kw_45 : (.initialized RX2 : Cond) ∈ gw_tbl := gw_in (by decide +kernel) (by decide +kernel)

set_option maxHeartbeats 4000000 in
set_option maxRecDepth 100000 in
theorem g_toldBy (l : Launch) (v : Int64) : Met l yX2_toldBy (Cond.code yX2_toldBy cX2_toldBy 6 (some .int) :: gw_tbl) ({ frames := 1, cells := 0, slots := 0, locals := 22 }) (pc_0 [.long v]) (vp_Si (fun r => True)) 0 0 (fun _ => False) := by
  refine Met.ofW (cc := cX2_toldBy) (maxL := 6) (ret := (some .int)) (by decide) rfl ?_
  intro p e s m args below meth c s₁ B hml hv
  obtain ⟨hargs, -⟩ := hv
  have hx := B.exec
  have hb := B.bytes
  have hr := B.returns
  have hts := atoms_spec (ws := Cond.code yX2_toldBy cX2_toldBy 6 (some .int) :: gw_tbl) B.pre
  have hg := fun (w : Cond) (h : w ∈ gw_tbl) => hts w (List.mem_cons_of_mem _ h)
  have hown : s.vm.findClass RX2 = some m.cls := findClass_of_methodNamed B.named
  have hlocks := B.notSynchronized
  have hl := lv_entry ([.long v]) (n := 6) (Nat.le_of_ble_eq_true rfl)
  rw [show entryFrame m args 6 = F0 m 0 (lg_sl ([.long v]) ++ List.replicate (6 - (lg_sl ([.long v])).length) Slot.unset).toArray [] from by rw [hargs]; exact lg_entry_eq ..]
  generalize (lg_sl ([.long v]) ++ List.replicate (6 - (lg_sl ([.long v])).length) Slot.unset).toArray = ls at hl ⊢
  have hl : lv_has ls 6 [(0, .long v)] := hl
  refine W_genQ (fun Q hQ => ?_)
  refine lv_iconst (v := 0) hx hb dX2_toldBy_0 (by decide) ?_
  refine lv_istore_n (lv' := [(2, .int 0), (0, .long v)]) hx hb dX2_toldBy_1 rfl hl (by decide) rfl (fun ls hl => ?_)
  refine lv_iconst (v := 0) hx hb dX2_toldBy_2 (by decide) ?_
  refine lv_istore_n (lv' := [(3, .int 0), (2, .int 0), (0, .long v)]) hx hb dX2_toldBy_3 rfl hl (by decide) rfl (fun ls hl => ?_)
  refine lv_iconst (v := 0) hx hb dX2_toldBy_4 (by decide) ?_
  refine lv_istore (lv' := [(4, .int 0), (3, .int 0), (2, .int 0), (0, .long v)]) hx hb dX2_toldBy_5 hl (by decide) rfl (fun ls hl => ?_)
  have LOOP7 : ∀ (n7 : Nat) (u2_7 : Int32) (u3_7 : Int32) (k : Nat), k ≤ 8 → 8 - k < n7 → ∀ (ls : Array Slot), lv_has ls 6 [(0, .long v), (2, .int u2_7), (3, .int u3_7), (4, .int (nI k))] → W p l e ({ frames := 1, cells := 0, slots := 0, locals := 22 } : Room) s m args below meth c s.heap [] 0 0 Q (F0 m 7 ls []) := by
    intro n7
    induction n7 with
    | zero =>
      intro u2_7 u3_7 k hk hn7 ls hl
      exact absurd hn7 (Nat.not_lt_zero _)
    | succ n7 ih7 =>
      intro u2_7 u3_7 k hk hn7 ls hl
      refine lv_iload hx hb dX2_toldBy_7 (lv_at hl 3 rfl) ?_
      refine lv_bipush (v := 8) hx hb dX2_toldBy_9 (by decide) ?_
      refine lv_icmp_ge (tgt := 59) hx hb dX2_toldBy_11 (by decide) (fun c_11 => ?_) (fun c_11 => ?_)
      · have n_11 : 8 ≤ k := b_le_t (by omega) (by omega) c_11
        refine lv_iload_n hx hb dX2_toldBy_59 rfl (lv_at hl 1 rfl) ?_
        refine W_sQ hQ ?_
        exact W.iret (v := u2_7) hx hb hr (fun t ht hW => ⟨u2_7, rfl, trivial, ht⟩) (fun _ h => absurd h List.not_mem_nil) dX2_toldBy_60
      · have n_11 : k < 8 := b_le_f (by omega) (by omega) c_11
        refine lv_lload_n hx hb dX2_toldBy_14 rfl (lv_at hl 0 rfl) ?_
        refine lv_iload hx hb dX2_toldBy_15 (lv_at hl 3 rfl) ?_
        refine vp_callSi (W.runS (As := [.long v, .int (nI k)]) (rest := []) ⟨hx, hb, hml, hown, hg⟩ (c_codeAt l v (nI k)) (va_cwS 2 hg (gw_S kw_43 kw_44 kw_45 kw_42) rfl rfl rfl (by decide +kernel) ⟨(Nat.le_of_ble_eq_true rfl), (Nat.le_of_ble_eq_true rfl)⟩) pr_0 rfl rfl hl.1 rfl (lv_room (Nat.le_of_ble_eq_true rfl)) dX2_toldBy_17 ⟨(Nat.le_of_ble_eq_true rfl), (Nat.le_of_ble_eq_true rfl)⟩) (fun r_17 h_17 => ?_)
        clear h_17
        refine lv_istore (lv' := [(5, .int r_17), (0, .long v), (2, .int u2_7), (3, .int u3_7), (4, .int (nI k))]) hx hb dX2_toldBy_20 hl (by decide) rfl (fun ls hl => ?_)
        refine lv_iload hx hb dX2_toldBy_22 (lv_at hl 0 rfl) ?_
        refine lv_bipush (v := 126) hx hb dX2_toldBy_24 (by decide) ?_
        refine lv_icmp_gt (tgt := 38) hx hb dX2_toldBy_26 (by decide) (fun c_26 => ?_) (fun c_26 => ?_)
        · refine lv_iconst (v := (-1)) hx hb dX2_toldBy_38 (by decide) ?_
          refine W_sQ hQ ?_
          exact W.iret (v := (-1)) hx hb hr (fun t ht hW => ⟨(-1), rfl, trivial, ht⟩) (fun _ h => absurd h List.not_mem_nil) dX2_toldBy_39
        · refine lv_iload_n hx hb dX2_toldBy_29 rfl (lv_at hl 3 rfl) ?_
          refine lv_if_eq (tgt := 40) hx hb dX2_toldBy_30 (by decide) (fun c_30 => ?_) (fun c_30 => ?_)
          · refine lv_iload hx hb dX2_toldBy_40 (lv_at hl 0 rfl) ?_
            refine lv_if_ne (tgt := 50) hx hb dX2_toldBy_42 (by decide) (fun c_42 => ?_) (fun c_42 => ?_)
            · obtain ⟨z_50, e_50⟩ : ∃ y : Int32, y = u2_7 + 1 := ⟨_, rfl⟩
              refine lv_iinc (v := z_50) (lv' := [(2, .int z_50), (5, .int r_17), (0, .long v), (3, .int u3_7), (4, .int (nI k))]) hx hb dX2_toldBy_50 hl (k := 2) rfl (by rw [e_50]; rfl) (by decide) rfl (fun ls hl => ?_)
              refine lv_iinc (v := (nI (k + 1))) (lv' := [(4, .int (nI (k + 1))), (2, .int z_50), (5, .int r_17), (0, .long v), (3, .int u3_7)]) hx hb dX2_toldBy_53 hl (k := 4) rfl (nI_add k 1) (by decide) rfl (fun ls hl => ?_)
              refine lv_goto (tgt := 7) hx hb dX2_toldBy_56 (by decide) ?_
              exact ih7 z_50 u3_7 (k + 1) (by omega) (by omega) ls (lv_sub hl [3, 1, 4, 0] rfl)
            · refine lv_iconst (v := 1) hx hb dX2_toldBy_45 (by decide) ?_
              refine lv_istore_n (lv' := [(3, .int 1), (5, .int r_17), (0, .long v), (2, .int u2_7), (4, .int (nI k))]) hx hb dX2_toldBy_46 rfl hl (by decide) rfl (fun ls hl => ?_)
              refine lv_goto (tgt := 53) hx hb dX2_toldBy_47 (by decide) ?_
              refine lv_iinc (v := (nI (k + 1))) (lv' := [(4, .int (nI (k + 1))), (3, .int 1), (5, .int r_17), (0, .long v), (2, .int u2_7)]) hx hb dX2_toldBy_53 hl (k := 4) rfl (nI_add k 1) (by decide) rfl (fun ls hl => ?_)
              refine lv_goto (tgt := 7) hx hb dX2_toldBy_56 (by decide) ?_
              exact ih7 u2_7 1 (k + 1) (by omega) (by omega) ls (lv_sub hl [3, 4, 1, 0] rfl)
          · refine lv_iload hx hb dX2_toldBy_33 (lv_at hl 0 rfl) ?_
            refine lv_if_eq (tgt := 40) hx hb dX2_toldBy_35 (by decide) (fun c_35 => ?_) (fun c_35 => ?_)
            · refine lv_iload hx hb dX2_toldBy_40 (lv_at hl 0 rfl) ?_
              refine lv_if_ne (tgt := 50) hx hb dX2_toldBy_42 (by decide) (fun c_42 => ?_) (fun c_42 => ?_)
              · obtain ⟨z_50, e_50⟩ : ∃ y : Int32, y = u2_7 + 1 := ⟨_, rfl⟩
                refine lv_iinc (v := z_50) (lv' := [(2, .int z_50), (5, .int r_17), (0, .long v), (3, .int u3_7), (4, .int (nI k))]) hx hb dX2_toldBy_50 hl (k := 2) rfl (by rw [e_50]; rfl) (by decide) rfl (fun ls hl => ?_)
                refine lv_iinc (v := (nI (k + 1))) (lv' := [(4, .int (nI (k + 1))), (2, .int z_50), (5, .int r_17), (0, .long v), (3, .int u3_7)]) hx hb dX2_toldBy_53 hl (k := 4) rfl (nI_add k 1) (by decide) rfl (fun ls hl => ?_)
                refine lv_goto (tgt := 7) hx hb dX2_toldBy_56 (by decide) ?_
                exact ih7 z_50 u3_7 (k + 1) (by omega) (by omega) ls (lv_sub hl [3, 1, 4, 0] rfl)
              · refine lv_iconst (v := 1) hx hb dX2_toldBy_45 (by decide) ?_
                refine lv_istore_n (lv' := [(3, .int 1), (5, .int r_17), (0, .long v), (2, .int u2_7), (4, .int (nI k))]) hx hb dX2_toldBy_46 rfl hl (by decide) rfl (fun ls hl => ?_)
                refine lv_goto (tgt := 53) hx hb dX2_toldBy_47 (by decide) ?_
                refine lv_iinc (v := (nI (k + 1))) (lv' := [(4, .int (nI (k + 1))), (3, .int 1), (5, .int r_17), (0, .long v), (2, .int u2_7)]) hx hb dX2_toldBy_53 hl (k := 4) rfl (nI_add k 1) (by decide) rfl (fun ls hl => ?_)
                refine lv_goto (tgt := 7) hx hb dX2_toldBy_56 (by decide) ?_
                exact ih7 u2_7 1 (k + 1) (by omega) (by omega) ls (lv_sub hl [3, 4, 1, 0] rfl)
            · refine lv_iconst (v := (-1)) hx hb dX2_toldBy_38 (by decide) ?_
              refine W_sQ hQ ?_
              exact W.iret (v := (-1)) hx hb hr (fun t ht hW => ⟨(-1), rfl, trivial, ht⟩) (fun _ h => absurd h List.not_mem_nil) dX2_toldBy_39
  exact LOOP7 (8 - 0 + 1) 0 0 0 (by omega) (Nat.lt_succ_self _) ls (lv_sub hl [3, 2, 1, 0] rfl)

theorem dX2_append_0 : decode cX2_append 0 = .ok (.iconst 0, 1) := by decide +kernel
theorem dX2_append_1 : decode cX2_append 1 = .ok (.istore 4, 2) := by decide +kernel
theorem dX2_append_3 : decode cX2_append 3 = .ok (.iload 4, 2) := by decide +kernel
theorem dX2_append_5 : decode cX2_append 5 = .ok (.iload_n 3, 1) := by decide +kernel
theorem dX2_append_6 : decode cX2_append 6 = .ok (.if_icmp .ge 43, 3) := by decide +kernel
theorem dX2_append_9 : decode cX2_append 9 = .ok (.aload_n 0, 1) := by decide +kernel
theorem dX2_append_10 : decode cX2_append 10 = .ok (.getfield 19, 3) := by decide +kernel
theorem dX2_append_13 : decode cX2_append 13 = .ok (.bipush 90, 2) := by decide +kernel
theorem dX2_append_15 : decode cX2_append 15 = .ok (.if_icmp .ge 34, 3) := by decide +kernel
theorem dX2_append_18 : decode cX2_append 18 = .ok (.aload_n 0, 1) := by decide +kernel
theorem dX2_append_19 : decode cX2_append 19 = .ok (.getfield 9, 3) := by decide +kernel
theorem dX2_append_22 : decode cX2_append 22 = .ok (.aload_n 0, 1) := by decide +kernel
theorem dX2_append_23 : decode cX2_append 23 = .ok (.getfield 19, 3) := by decide +kernel
theorem dX2_append_26 : decode cX2_append 26 = .ok (.lload_n 1, 1) := by decide +kernel
theorem dX2_append_27 : decode cX2_append 27 = .ok (.iload 4, 2) := by decide +kernel
theorem dX2_append_29 : decode cX2_append 29 = .ok (.invokestatic 15, 3) := by decide +kernel
theorem dX2_append_32 : decode cX2_append 32 = .ok (.iastore, 1) := by decide +kernel
theorem dX2_append_33 : decode cX2_append 33 = .ok (.aload_n 0, 1) := by decide +kernel
theorem dX2_append_34 : decode cX2_append 34 = .ok (.dup, 1) := by decide +kernel
theorem dX2_append_35 : decode cX2_append 35 = .ok (.getfield 19, 3) := by decide +kernel
theorem dX2_append_38 : decode cX2_append 38 = .ok (.iconst 1, 1) := by decide +kernel
theorem dX2_append_39 : decode cX2_append 39 = .ok (.iadd, 1) := by decide +kernel
theorem dX2_append_40 : decode cX2_append 40 = .ok (.putfield 19, 3) := by decide +kernel
theorem dX2_append_43 : decode cX2_append 43 = .ok (.iinc 4 1, 3) := by decide +kernel
theorem dX2_append_46 : decode cX2_append 46 = .ok (.goto (-43), 3) := by decide +kernel
theorem dX2_append_49 : decode cX2_append 49 = .ok (.return_, 1) := by decide +kernel
theorem kw_46 : (.fieldLink RX2 19 "NobodyChecks$Page" "size" "I" : Cond) ∈ gw_tbl := gw_in (by decide +kernel) (by decide +kernel)
theorem kw_47 : (.fieldLink RX2 9 "NobodyChecks$Page" "codes" "[I" : Cond) ∈ gw_tbl := gw_in (by decide +kernel) (by decide +kernel)

set_option maxHeartbeats 4000000 in
set_option maxRecDepth 100000 in
theorem g_append (l : Launch) (D : va_G) (cs : Nat → ClassId) (pg : Nat) (cd : Nat) (ps : Nat) (hps : ps ≤ 90) (fcd : Nat → Int32) (v : Int64) (tl : Int32) (sz : Nat) : Met l yX2_append (Cond.code yX2_append cX2_append 5 none :: gw_tbl) ({ frames := 1, cells := 0, slots := 0, locals := 22 }) (pc_M D cs [(pg, .inr (2, [.ref cd, .int (nI ps)])), (cd, .inl (cs 0, 90, .inl fcd))] sz [.ref pg, .long v, .int tl]) (va_Qv (fun (u : Unit) => True) (fun u t => ∃ (ps2 : Nat), ∃ (fcd2 : Nat → Int32), (ps2 ≤ 90) ∧ va_P D vwCl [(pg, .inr (2, [.ref cd, .int (nI ps2)])), (cd, .inl (cs 0, 90, .inl fcd2))] t.heap ∧ va_D (va_A [(pg, .inr (2, [.ref cd, .int (nI ps)])), (cd, .inl (cs 0, 90, .inl fcd))] sz) [(pg, .inr (2, [.ref cd, .int (nI ps2)])), (cd, .inl (cs 0, 90, .inl fcd2))]) (va_A [(pg, .inr (2, [.ref cd, .int (nI ps)])), (cd, .inl (cs 0, 90, .inl fcd))] sz)) 0 0 (va_A [(pg, .inr (2, [.ref cd, .int (nI ps)])), (cd, .inl (cs 0, 90, .inl fcd))] sz) := by
  refine Met.ofW (cc := cX2_append) (maxL := 5) (ret := none) (by decide) rfl ?_
  intro p e s m args below meth c s₁ B hml hv
  obtain ⟨hargs, hsz, hP, hK, hD0⟩ := hv
  have hx := B.exec
  have hb := B.bytes
  have hr := B.returns
  have hts := atoms_spec (ws := Cond.code yX2_append cX2_append 5 none :: gw_tbl) B.pre
  have hg := fun (w : Cond) (h : w ∈ gw_tbl) => hts w (List.mem_cons_of_mem _ h)
  have hown : s.vm.findClass RX2 = some m.cls := findClass_of_methodNamed B.named
  have hlocks := B.notSynchronized
  subst hsz
  have hD := hD0.self (sz := s.heap.size)
  generalize hAe : va_A [(pg, .inr (2, [.ref cd, .int (nI ps)])), (cd, .inl (cs 0, 90, .inl fcd))] s.heap.size = A at hD ⊢
  have hA : ∀ q : Nat, s.heap.size ≤ q → A q := fun q h => by rw [← hAe]; exact Or.inr h
  have hS : va_S A s.heap s.heap [] := va_S.rf
  have hP : va_P D vwCl [(pg, .inr (2, [.ref cd, .int (nI ps)])), (cd, .inl (cs 0, 90, .inl fcd))] s.heap := hP
  have hl := lv_entry ([.ref pg, .long v, .int tl]) (n := 5) (Nat.le_of_ble_eq_true rfl)
  rw [show entryFrame m args 5 = F0 m 0 (lg_sl ([.ref pg, .long v, .int tl]) ++ List.replicate (5 - (lg_sl ([.ref pg, .long v, .int tl])).length) Slot.unset).toArray [] from by rw [hargs]; exact lg_entry_eq ..]
  generalize (lg_sl ([.ref pg, .long v, .int tl]) ++ List.replicate (5 - (lg_sl ([.ref pg, .long v, .int tl])).length) Slot.unset).toArray = ls at hl ⊢
  have hl : lv_has ls 5 [(0, .ref pg), (1, .long v), (3, .int tl)] := hl
  refine W_genQ (fun Q hQ => ?_)
  refine lv_iconst (v := 0) hx hb dX2_append_0 (by decide) ?_
  refine lv_istore (lv' := [(4, .int 0), (0, .ref pg), (1, .long v), (3, .int tl)]) hx hb dX2_append_1 hl (by decide) rfl (fun ls hl => ?_)
  have LOOP3 : ∀ (n3 : Nat) (u4_3 : Int32) (ps : Nat) (fcd_3 : Nat → Int32), ps ≤ 90 → 90 - ps < n3 → ∀ (H : Heap) (locs : List Loc) (ls : Array Slot), va_P D vwCl [(pg, .inr (2, [.ref cd, .int (nI ps)])), (cd, .inl (cs 0, 90, .inl fcd_3))] H → va_D A [(pg, .inr (2, [.ref cd, .int (nI ps)])), (cd, .inl (cs 0, 90, .inl fcd_3))] → va_S A s.heap H locs → lv_has ls 5 [(0, .ref pg), (1, .long v), (3, .int tl), (4, .int u4_3)] → W p l e ({ frames := 1, cells := 0, slots := 0, locals := 22 } : Room) s m args below meth c H locs 0 0 Q (F0 m 3 ls []) := by
    intro n3
    induction n3 with
    | zero =>
      intro u4_3 ps fcd_3 hps hn3 H locs ls hP hD hS hl
      exact absurd hn3 (Nat.not_lt_zero _)
    | succ n3 ih3 =>
      intro u4_3 ps fcd_3 hps hn3 H locs ls hP hD hS hl
      refine lv_iload hx hb dX2_append_3 (lv_at hl 3 rfl) ?_
      refine lv_iload_n hx hb dX2_append_5 rfl (lv_at hl 2 rfl) ?_
      refine lv_icmp_ge (tgt := 49) hx hb dX2_append_6 (by decide) (fun c_6 => ?_) (fun c_6 => ?_)
      · refine W_sQ hQ ?_
        refine W.widen (k := 0) (n := 0) (Nat.le_of_ble_eq_true rfl) (Nat.le_of_ble_eq_true rfl) ?_
        have hP9 := hP.sub (ws' := [(pg, .inr (2, [.ref cd, .int (nI ps)])), (cd, .inl (cs 0, 90, .inl fcd_3))]) [0, 1] rfl
        have hD9 := hD.sub (ws' := [(pg, .inr (2, [.ref cd, .int (nI ps)])), (cd, .inl (cs 0, 90, .inl fcd_3))]) [0, 1] (by decide) rfl
        exact W.vret hx hb hr (fun t ht hW => ⟨⟨(), rfl, trivial, ⟨ps, fcd_3, (by omega), by rw [ht]; exact hP9, hD9⟩⟩, hS.F ht⟩) hS.2.2 dX2_append_49
      · refine lv_aload_n hx hb dX2_append_9 rfl (lv_at hl 0 rfl) ?_
        refine va_get (D := D) (ci := 2) (v := .int (nI ps)) (C := RX2) (T := TX2) (N := 2) hx hb hg gwX2 hown hK hP 0 rfl rfl 1 (by decide) (hg _ kw_46) (fun _ h9 => h9) rfl dX2_append_10 ?_
        refine lv_bipush (v := 90) hx hb dX2_append_13 (by decide) ?_
        refine lv_icmp_ge (tgt := 49) hx hb dX2_append_15 (by decide) (fun c_15 => ?_) (fun c_15 => ?_)
        · have n_15 : 90 ≤ ps := b_le_t (by omega) (by omega) c_15
          refine W_sQ hQ ?_
          refine W.widen (k := 0) (n := 0) (Nat.le_of_ble_eq_true rfl) (Nat.le_of_ble_eq_true rfl) ?_
          have hP9 := hP.sub (ws' := [(pg, .inr (2, [.ref cd, .int (nI ps)])), (cd, .inl (cs 0, 90, .inl fcd_3))]) [0, 1] rfl
          have hD9 := hD.sub (ws' := [(pg, .inr (2, [.ref cd, .int (nI ps)])), (cd, .inl (cs 0, 90, .inl fcd_3))]) [0, 1] (by decide) rfl
          exact W.vret hx hb hr (fun t ht hW => ⟨⟨(), rfl, trivial, ⟨ps, fcd_3, (by omega), by rw [ht]; exact hP9, hD9⟩⟩, hS.F ht⟩) hS.2.2 dX2_append_49
        · have n_15 : ps < 90 := b_le_f (by omega) (by omega) c_15
          refine lv_aload_n hx hb dX2_append_18 rfl (lv_at hl 0 rfl) ?_
          refine va_get (D := D) (ci := 2) (v := .ref cd) (C := RX2) (T := TX2) (N := 2) hx hb hg gwX2 hown hK hP 0 rfl rfl 0 (by decide) (hg _ kw_47) (fun _ h9 => h9) rfl dX2_append_19 ?_
          refine lv_aload_n hx hb dX2_append_22 rfl (lv_at hl 0 rfl) ?_
          refine va_get (D := D) (ci := 2) (v := .int (nI ps)) (C := RX2) (T := TX2) (N := 2) hx hb hg gwX2 hown hK hP 0 rfl rfl 1 (by decide) (hg _ kw_46) (fun _ h9 => h9) rfl dX2_append_23 ?_
          refine lv_lload_n hx hb dX2_append_26 rfl (lv_at hl 1 rfl) ?_
          refine lv_iload hx hb dX2_append_27 (lv_at hl 3 rfl) ?_
          refine vp_callSi (W.runS (As := [.long v, .int u4_3]) (rest := [.int (nI ps), .ref cd]) ⟨hx, hb, hml, hown, hg⟩ (c_codeAt l v u4_3) (va_cwS 2 hg (gw_S kw_43 kw_44 kw_45 kw_42) rfl rfl rfl (by decide +kernel) ⟨(Nat.le_of_ble_eq_true rfl), (Nat.le_of_ble_eq_true rfl)⟩) pr_0 rfl rfl hl.1 rfl (lv_room (Nat.le_of_ble_eq_true rfl)) dX2_append_29 ⟨(Nat.le_of_ble_eq_true rfl), (Nat.le_of_ble_eq_true rfl)⟩) (fun r_29 h_29 => ?_)
          clear h_29
          refine va_iast hx hb hK hP hD hS 1 0 rfl rfl (vp_in_nI (show ps < 90 by omega) (by decide)) dX2_append_32 (fun H locs hP hD hS => ?_)
          obtain ⟨f_32, hf_32⟩ : ∃ f9, f9 = (upd fcd_3 (nI ps).toNatClampNeg r_29) := ⟨_, rfl⟩
          rw [← hf_32] at hP hD
          have hP : va_P D vwCl [(pg, .inr (2, [.ref cd, .int (nI ps)])), (cd, .inl (cs 0, 90, .inl f_32))] H := hP
          have hD : va_D A [(pg, .inr (2, [.ref cd, .int (nI ps)])), (cd, .inl (cs 0, 90, .inl f_32))] := hD
          refine lv_aload_n hx hb dX2_append_33 rfl (lv_at hl 0 rfl) ?_
          refine lv_dup hx hb dX2_append_34 rfl ?_
          refine va_get (D := D) (ci := 2) (v := .int (nI ps)) (C := RX2) (T := TX2) (N := 2) hx hb hg gwX2 hown hK hP 0 rfl rfl 1 (by decide) (hg _ kw_46) (fun _ h9 => h9) rfl dX2_append_35 ?_
          refine lv_iconst (v := 1) hx hb dX2_append_38 (by decide) ?_
          refine lv_iadd hx hb dX2_append_39 ?_
          refine lv_topi (fun z_39 e_39 => ?_)
          obtain rfl : z_39 = nI (ps + 1) := e_39.trans (nI_add _ _)
          refine va_put (D := D) (ci := 2) (v := .int (nI (ps + 1))) (ty := .int) (C := RX2) (T := TX2) (N := 2) hx hb hg gwX2 tyX2 tyX2_ok nmX2 hown hK hP hD hS 0 rfl rfl 1 (by decide) (hg _ kw_46) (fun _ h9 => h9) rfl (by decide +kernel) rfl rfl (Nat.le_of_ble_eq_true rfl) dX2_append_40 (fun H locs hP hD hS => ?_)
          have hP : va_P D vwCl [(pg, .inr (2, [.ref cd, .int (nI (ps + 1))])), (cd, .inl (cs 0, 90, .inl f_32))] H := hP
          have hD : va_D A [(pg, .inr (2, [.ref cd, .int (nI (ps + 1))])), (cd, .inl (cs 0, 90, .inl f_32))] := hD
          obtain ⟨z_43, e_43⟩ : ∃ y : Int32, y = u4_3 + 1 := ⟨_, rfl⟩
          refine lv_iinc (v := z_43) (lv' := [(4, .int z_43), (0, .ref pg), (1, .long v), (3, .int tl)]) hx hb dX2_append_43 hl (k := 3) rfl (by rw [e_43]; rfl) (by decide) rfl (fun ls hl => ?_)
          refine lv_goto (tgt := 3) hx hb dX2_append_46 (by decide) ?_
          exact ih3 z_43 (ps + 1) f_32 (by omega) (by omega) _ _ ls hP hD hS (lv_sub hl [1, 2, 3, 0] rfl)
  exact LOOP3 (90 - ps + 1) 0 ps fcd (by omega) (Nat.lt_succ_self _) _ _ ls hP hD hS (lv_sub hl [1, 2, 3, 0] rfl)

theorem dX7_takeDigit_0 : decode cX7_takeDigit 0 = .ok (.aload_n 0, 1) := by decide +kernel
theorem dX7_takeDigit_1 : decode cX7_takeDigit 1 = .ok (.iload_n 1, 1) := by decide +kernel
theorem dX7_takeDigit_2 : decode cX7_takeDigit 2 = .ok (.putfield 67, 3) := by decide +kernel
theorem dX7_takeDigit_5 : decode cX7_takeDigit 5 = .ok (.aload_n 0, 1) := by decide +kernel
theorem dX7_takeDigit_6 : decode cX7_takeDigit 6 = .ok (.dup, 1) := by decide +kernel
theorem dX7_takeDigit_7 : decode cX7_takeDigit 7 = .ok (.getfield 45, 3) := by decide +kernel
theorem dX7_takeDigit_10 : decode cX7_takeDigit 10 = .ok (.iconst 1, 1) := by decide +kernel
theorem dX7_takeDigit_11 : decode cX7_takeDigit 11 = .ok (.iadd, 1) := by decide +kernel
theorem dX7_takeDigit_12 : decode cX7_takeDigit 12 = .ok (.putfield 45, 3) := by decide +kernel
theorem dX7_takeDigit_15 : decode cX7_takeDigit 15 = .ok (.return_, 1) := by decide +kernel
theorem kw_48 : (.fieldLink RX7 67 "NobodyChecks$Reader" "value" "I" : Cond) ∈ gw_tbl := gw_in (by decide +kernel) (by decide +kernel)
theorem kw_49 : (.fieldLink RX7 45 "NobodyChecks$Reader" "digits" "I" : Cond) ∈ gw_tbl := gw_in (by decide +kernel) (by decide +kernel)

set_option maxHeartbeats 4000000 in
set_option maxRecDepth 100000 in
theorem r_takeDigit (l : Launch) (D : va_G) (cs : Nat → ClassId) (rd : Nat) (rw : Nat) (rc : Nat) (c1 : Nat) (rP : Nat) (rA : Nat) (rD : Int32) (rV : Int32) (gr : Int32) (sz : Nat) : Met l yX7_takeDigit (Cond.code yX7_takeDigit cX7_takeDigit 2 none :: gw_tbl) ({ frames := 0, cells := 0, slots := 0, locals := 0 }) (pc_M D cs [(rd, .inr (7, [.ref rw, .ref rc, .int (nI (c1 + 1)), .int (nI rP), .int (nI rA), .int rD, .int rV]))] sz [.ref rd, .int gr]) (va_Qv (fun (u : Unit) => True) (fun u t => ∃ (rD2 : Int32), ∃ (rV2 : Int32), va_P D vwCl [(rd, .inr (7, [.ref rw, .ref rc, .int (nI (c1 + 1)), .int (nI rP), .int (nI rA), .int rD2, .int rV2]))] t.heap ∧ va_D (va_A [(rd, .inr (7, [.ref rw, .ref rc, .int (nI (c1 + 1)), .int (nI rP), .int (nI rA), .int rD, .int rV]))] sz) [(rd, .inr (7, [.ref rw, .ref rc, .int (nI (c1 + 1)), .int (nI rP), .int (nI rA), .int rD2, .int rV2]))]) (va_A [(rd, .inr (7, [.ref rw, .ref rc, .int (nI (c1 + 1)), .int (nI rP), .int (nI rA), .int rD, .int rV]))] sz)) 0 0 (va_A [(rd, .inr (7, [.ref rw, .ref rc, .int (nI (c1 + 1)), .int (nI rP), .int (nI rA), .int rD, .int rV]))] sz) := by
  refine Met.ofW (cc := cX7_takeDigit) (maxL := 2) (ret := none) (by decide) rfl ?_
  intro p e s m args below meth c s₁ B hml hv
  obtain ⟨hargs, hsz, hP, hK, hD0⟩ := hv
  have hx := B.exec
  have hb := B.bytes
  have hr := B.returns
  have hts := atoms_spec (ws := Cond.code yX7_takeDigit cX7_takeDigit 2 none :: gw_tbl) B.pre
  have hg := fun (w : Cond) (h : w ∈ gw_tbl) => hts w (List.mem_cons_of_mem _ h)
  have hown : s.vm.findClass RX7 = some m.cls := findClass_of_methodNamed B.named
  have hlocks := B.notSynchronized
  subst hsz
  have hD := hD0.self (sz := s.heap.size)
  generalize hAe : va_A [(rd, .inr (7, [.ref rw, .ref rc, .int (nI (c1 + 1)), .int (nI rP), .int (nI rA), .int rD, .int rV]))] s.heap.size = A at hD ⊢
  have hA : ∀ q : Nat, s.heap.size ≤ q → A q := fun q h => by rw [← hAe]; exact Or.inr h
  have hS : va_S A s.heap s.heap [] := va_S.rf
  have hP : va_P D vwCl [(rd, .inr (7, [.ref rw, .ref rc, .int (nI (c1 + 1)), .int (nI rP), .int (nI rA), .int rD, .int rV]))] s.heap := hP
  have hl := lv_entry ([.ref rd, .int gr]) (n := 2) (Nat.le_of_ble_eq_true rfl)
  rw [show entryFrame m args 2 = F0 m 0 (lg_sl ([.ref rd, .int gr]) ++ List.replicate (2 - (lg_sl ([.ref rd, .int gr])).length) Slot.unset).toArray [] from by rw [hargs]; exact lg_entry_eq ..]
  generalize (lg_sl ([.ref rd, .int gr]) ++ List.replicate (2 - (lg_sl ([.ref rd, .int gr])).length) Slot.unset).toArray = ls at hl ⊢
  have hl : lv_has ls 2 [(0, .ref rd), (1, .int gr)] := hl
  refine W_genQ (fun Q hQ => ?_)
  refine lv_aload_n hx hb dX7_takeDigit_0 rfl (lv_at hl 0 rfl) ?_
  refine lv_iload_n hx hb dX7_takeDigit_1 rfl (lv_at hl 1 rfl) ?_
  refine va_put (D := D) (ci := 7) (v := .int gr) (ty := .int) (C := RX7) (T := TX7) (N := 7) hx hb hg gwX7 tyX7 tyX7_ok nmX7 hown hK hP hD hS 0 rfl rfl 6 (by decide) (hg _ kw_48) (fun _ h9 => h9) rfl (by decide +kernel) rfl rfl (Nat.le_of_ble_eq_true rfl) dX7_takeDigit_2 (fun H locs hP hD hS => ?_)
  have hP : va_P D vwCl [(rd, .inr (7, [.ref rw, .ref rc, .int (nI (c1 + 1)), .int (nI rP), .int (nI rA), .int rD, .int gr]))] H := hP
  have hD : va_D A [(rd, .inr (7, [.ref rw, .ref rc, .int (nI (c1 + 1)), .int (nI rP), .int (nI rA), .int rD, .int gr]))] := hD
  refine lv_aload_n hx hb dX7_takeDigit_5 rfl (lv_at hl 0 rfl) ?_
  refine lv_dup hx hb dX7_takeDigit_6 rfl ?_
  refine va_get (D := D) (ci := 7) (v := .int rD) (C := RX7) (T := TX7) (N := 7) hx hb hg gwX7 hown hK hP 0 rfl rfl 5 (by decide) (hg _ kw_49) (fun _ h9 => h9) rfl dX7_takeDigit_7 ?_
  refine lv_iconst (v := 1) hx hb dX7_takeDigit_10 (by decide) ?_
  refine lv_iadd hx hb dX7_takeDigit_11 ?_
  refine lv_topi (fun z_11 e_11 => ?_)
  refine va_put (D := D) (ci := 7) (v := .int z_11) (ty := .int) (C := RX7) (T := TX7) (N := 7) hx hb hg gwX7 tyX7 tyX7_ok nmX7 hown hK hP hD hS 0 rfl rfl 5 (by decide) (hg _ kw_49) (fun _ h9 => h9) rfl (by decide +kernel) rfl rfl (Nat.le_of_ble_eq_true rfl) dX7_takeDigit_12 (fun H locs hP hD hS => ?_)
  have hP : va_P D vwCl [(rd, .inr (7, [.ref rw, .ref rc, .int (nI (c1 + 1)), .int (nI rP), .int (nI rA), .int z_11, .int gr]))] H := hP
  have hD : va_D A [(rd, .inr (7, [.ref rw, .ref rc, .int (nI (c1 + 1)), .int (nI rP), .int (nI rA), .int z_11, .int gr]))] := hD
  refine W_sQ hQ ?_
  refine W.widen (k := 0) (n := 0) (Nat.le_of_ble_eq_true rfl) (Nat.le_of_ble_eq_true rfl) ?_
  have hP9 := hP.sub (ws' := [(rd, .inr (7, [.ref rw, .ref rc, .int (nI (c1 + 1)), .int (nI rP), .int (nI rA), .int z_11, .int gr]))]) [0] rfl
  have hD9 := hD.sub (ws' := [(rd, .inr (7, [.ref rw, .ref rc, .int (nI (c1 + 1)), .int (nI rP), .int (nI rA), .int z_11, .int gr]))]) [0] (by decide) rfl
  exact W.vret hx hb hr (fun t ht hW => ⟨⟨(), rfl, trivial, ⟨z_11, gr, by rw [ht]; exact hP9, hD9⟩⟩, hS.F ht⟩) hS.2.2 dX7_takeDigit_15

theorem dX7_takesOfWeight_0 : decode cX7_takesOfWeight 0 = .ok (.bipush 10, 2) := by decide +kernel
theorem dX7_takesOfWeight_2 : decode cX7_takesOfWeight 2 = .ok (.aload_n 0, 1) := by decide +kernel
theorem dX7_takesOfWeight_3 : decode cX7_takesOfWeight 3 = .ok (.getfield 67, 3) := by decide +kernel
theorem dX7_takesOfWeight_6 : decode cX7_takesOfWeight 6 = .ok (.imul, 1) := by decide +kernel
theorem dX7_takesOfWeight_7 : decode cX7_takesOfWeight 7 = .ok (.iload_n 1, 1) := by decide +kernel
theorem dX7_takesOfWeight_8 : decode cX7_takesOfWeight 8 = .ok (.iadd, 1) := by decide +kernel
theorem dX7_takesOfWeight_9 : decode cX7_takesOfWeight 9 = .ok (.istore_n 2, 1) := by decide +kernel
theorem dX7_takesOfWeight_10 : decode cX7_takesOfWeight 10 = .ok (.aload_n 0, 1) := by decide +kernel
theorem dX7_takesOfWeight_11 : decode cX7_takesOfWeight 11 = .ok (.getfield 45, 3) := by decide +kernel
theorem dX7_takesOfWeight_14 : decode cX7_takesOfWeight 14 = .ok (.iconst 2, 1) := by decide +kernel
theorem dX7_takesOfWeight_15 : decode cX7_takesOfWeight 15 = .ok (.if_icmp .ge 15, 3) := by decide +kernel
theorem dX7_takesOfWeight_18 : decode cX7_takesOfWeight 18 = .ok (.aload_n 0, 1) := by decide +kernel
theorem dX7_takesOfWeight_19 : decode cX7_takesOfWeight 19 = .ok (.getfield 45, 3) := by decide +kernel
theorem dX7_takesOfWeight_22 : decode cX7_takesOfWeight 22 = .ok (.iconst 1, 1) := by decide +kernel
theorem dX7_takesOfWeight_23 : decode cX7_takesOfWeight 23 = .ok (.if_icmp .ne 9, 3) := by decide +kernel
theorem dX7_takesOfWeight_26 : decode cX7_takesOfWeight 26 = .ok (.iload_n 2, 1) := by decide +kernel
theorem dX7_takesOfWeight_27 : decode cX7_takesOfWeight 27 = .ok (.ifCond .ne 5, 3) := by decide +kernel
theorem dX7_takesOfWeight_30 : decode cX7_takesOfWeight 30 = .ok (.iconst 0, 1) := by decide +kernel
theorem dX7_takesOfWeight_31 : decode cX7_takesOfWeight 31 = .ok (.ireturn, 1) := by decide +kernel
theorem dX7_takesOfWeight_32 : decode cX7_takesOfWeight 32 = .ok (.aload_n 0, 1) := by decide +kernel
theorem dX7_takesOfWeight_33 : decode cX7_takesOfWeight 33 = .ok (.iload_n 2, 1) := by decide +kernel
theorem dX7_takesOfWeight_34 : decode cX7_takesOfWeight 34 = .ok (.invokevirtual 70, 3) := by decide +kernel
theorem dX7_takesOfWeight_37 : decode cX7_takesOfWeight 37 = .ok (.aload_n 0, 1) := by decide +kernel
theorem dX7_takesOfWeight_38 : decode cX7_takesOfWeight 38 = .ok (.getfield 9, 3) := by decide +kernel
theorem dX7_takesOfWeight_41 : decode cX7_takesOfWeight 41 = .ok (.aload_n 0, 1) := by decide +kernel
theorem dX7_takesOfWeight_42 : decode cX7_takesOfWeight 42 = .ok (.getfield 24, 3) := by decide +kernel
theorem dX7_takesOfWeight_45 : decode cX7_takesOfWeight 45 = .ok (.iconst 1, 1) := by decide +kernel
theorem dX7_takesOfWeight_46 : decode cX7_takesOfWeight 46 = .ok (.isub, 1) := by decide +kernel
theorem dX7_takesOfWeight_47 : decode cX7_takesOfWeight 47 = .ok (.aload_n 0, 1) := by decide +kernel
theorem dX7_takesOfWeight_48 : decode cX7_takesOfWeight 48 = .ok (.getfield 67, 3) := by decide +kernel
theorem dX7_takesOfWeight_51 : decode cX7_takesOfWeight 51 = .ok (.iastore, 1) := by decide +kernel
theorem dX7_takesOfWeight_52 : decode cX7_takesOfWeight 52 = .ok (.iconst 1, 1) := by decide +kernel
theorem dX7_takesOfWeight_53 : decode cX7_takesOfWeight 53 = .ok (.ireturn, 1) := by decide +kernel
theorem kw_50 : (.code yX7_takeDigit cX7_takeDigit 2 none : Cond) ∈ gw_tbl := gw_in (by decide +kernel) (by decide +kernel)
theorem kw_51 : (.methodLink RX7 70 yX7_takeDigit : Cond) ∈ gw_tbl := gw_in (by decide +kernel) (by decide +kernel)
theorem kw_52 : (.instanceMethod yX7_takeDigit : Cond) ∈ gw_tbl := gw_in (by decide +kernel) (by decide +kernel)
theorem kw_53 : (.selects RX7 yX7_takeDigit yX7_takeDigit : Cond) ∈ gw_tbl := gw_in (by decide +kernel) (by decide +kernel)
theorem kw_54 : (.initialized RX7 : Cond) ∈ gw_tbl := gw_in (by decide +kernel) (by decide +kernel)
theorem kw_55 : (.fieldLink RX7 9 "NobodyChecks$Reader" "weights" "[I" : Cond) ∈ gw_tbl := gw_in (by decide +kernel) (by decide +kernel)
theorem kw_56 : (.fieldLink RX7 24 "NobodyChecks$Reader" "cases" "I" : Cond) ∈ gw_tbl := gw_in (by decide +kernel) (by decide +kernel)

set_option maxHeartbeats 4000000 in
set_option maxRecDepth 100000 in
theorem r_takesOfWeight (l : Launch) (D : va_G) (cs : Nat → ClassId) (rd : Nat) (rw : Nat) (rc : Nat) (c1 : Nat) (rP : Nat) (rA : Nat) (rD : Int32) (rV : Int32) (hc1 : c1 ≤ 4) (hrP : rP ≤ 4) (hrA : rA ≤ 4) (frw : Nat → Int32) (dg : Int32) (sz : Nat) : Met l yX7_takesOfWeight (Cond.code yX7_takesOfWeight cX7_takesOfWeight 3 (some .boolean) :: gw_tbl) ({ frames := 1, cells := 0, slots := 0, locals := 21 }) (pc_M D cs [(rd, .inr (7, [.ref rw, .ref rc, .int (nI (c1 + 1)), .int (nI rP), .int (nI rA), .int rD, .int rV])), (rw, .inl (cs 0, 5, .inl frw))] sz [.ref rd, .int dg]) (va_Qi (fun (r : Int32) (u : Unit) => r = 0 ∨ r = 1) (fun u t => ∃ (rD2 : Int32), ∃ (rV2 : Int32), ∃ (frw2 : Nat → Int32), va_P D vwCl [(rd, .inr (7, [.ref rw, .ref rc, .int (nI (c1 + 1)), .int (nI rP), .int (nI rA), .int rD2, .int rV2])), (rw, .inl (cs 0, 5, .inl frw2))] t.heap ∧ va_D (va_A [(rd, .inr (7, [.ref rw, .ref rc, .int (nI (c1 + 1)), .int (nI rP), .int (nI rA), .int rD, .int rV])), (rw, .inl (cs 0, 5, .inl frw))] sz) [(rd, .inr (7, [.ref rw, .ref rc, .int (nI (c1 + 1)), .int (nI rP), .int (nI rA), .int rD2, .int rV2])), (rw, .inl (cs 0, 5, .inl frw2))]) (va_A [(rd, .inr (7, [.ref rw, .ref rc, .int (nI (c1 + 1)), .int (nI rP), .int (nI rA), .int rD, .int rV])), (rw, .inl (cs 0, 5, .inl frw))] sz)) 0 0 (va_A [(rd, .inr (7, [.ref rw, .ref rc, .int (nI (c1 + 1)), .int (nI rP), .int (nI rA), .int rD, .int rV])), (rw, .inl (cs 0, 5, .inl frw))] sz) := by
  refine Met.ofW (cc := cX7_takesOfWeight) (maxL := 3) (ret := (some .boolean)) (by decide) rfl ?_
  intro p e s m args below meth c s₁ B hml hv
  obtain ⟨hargs, hsz, hP, hK, hD0⟩ := hv
  have hx := B.exec
  have hb := B.bytes
  have hr := B.returns
  have hts := atoms_spec (ws := Cond.code yX7_takesOfWeight cX7_takesOfWeight 3 (some .boolean) :: gw_tbl) B.pre
  have hg := fun (w : Cond) (h : w ∈ gw_tbl) => hts w (List.mem_cons_of_mem _ h)
  have hown : s.vm.findClass RX7 = some m.cls := findClass_of_methodNamed B.named
  have hlocks := B.notSynchronized
  subst hsz
  have hD := hD0.self (sz := s.heap.size)
  generalize hAe : va_A [(rd, .inr (7, [.ref rw, .ref rc, .int (nI (c1 + 1)), .int (nI rP), .int (nI rA), .int rD, .int rV])), (rw, .inl (cs 0, 5, .inl frw))] s.heap.size = A at hD ⊢
  have hA : ∀ q : Nat, s.heap.size ≤ q → A q := fun q h => by rw [← hAe]; exact Or.inr h
  have hS : va_S A s.heap s.heap [] := va_S.rf
  have hP : va_P D vwCl [(rd, .inr (7, [.ref rw, .ref rc, .int (nI (c1 + 1)), .int (nI rP), .int (nI rA), .int rD, .int rV])), (rw, .inl (cs 0, 5, .inl frw))] s.heap := hP
  have hl := lv_entry ([.ref rd, .int dg]) (n := 3) (Nat.le_of_ble_eq_true rfl)
  rw [show entryFrame m args 3 = F0 m 0 (lg_sl ([.ref rd, .int dg]) ++ List.replicate (3 - (lg_sl ([.ref rd, .int dg])).length) Slot.unset).toArray [] from by rw [hargs]; exact lg_entry_eq ..]
  generalize (lg_sl ([.ref rd, .int dg]) ++ List.replicate (3 - (lg_sl ([.ref rd, .int dg])).length) Slot.unset).toArray = ls at hl ⊢
  have hl : lv_has ls 3 [(0, .ref rd), (1, .int dg)] := hl
  refine W_genQ (fun Q hQ => ?_)
  refine lv_bipush (v := 10) hx hb dX7_takesOfWeight_0 (by decide) ?_
  refine lv_aload_n hx hb dX7_takesOfWeight_2 rfl (lv_at hl 0 rfl) ?_
  refine va_get (D := D) (ci := 7) (v := .int rV) (C := RX7) (T := TX7) (N := 7) hx hb hg gwX7 hown hK hP 0 rfl rfl 6 (by decide) (hg _ kw_48) (fun _ h9 => h9) rfl dX7_takesOfWeight_3 ?_
  refine lv_imul hx hb dX7_takesOfWeight_6 ?_
  refine lv_topi (fun z_6 e_6 => ?_)
  refine lv_iload_n hx hb dX7_takesOfWeight_7 rfl (lv_at hl 1 rfl) ?_
  refine lv_iadd hx hb dX7_takesOfWeight_8 ?_
  refine lv_topi (fun z_8 e_8 => ?_)
  refine lv_istore_n (lv' := [(2, .int z_8), (0, .ref rd), (1, .int dg)]) hx hb dX7_takesOfWeight_9 rfl hl (by decide) rfl (fun ls hl => ?_)
  refine lv_aload_n hx hb dX7_takesOfWeight_10 rfl (lv_at hl 1 rfl) ?_
  refine va_get (D := D) (ci := 7) (v := .int rD) (C := RX7) (T := TX7) (N := 7) hx hb hg gwX7 hown hK hP 0 rfl rfl 5 (by decide) (hg _ kw_49) (fun _ h9 => h9) rfl dX7_takesOfWeight_11 ?_
  refine lv_iconst (v := 2) hx hb dX7_takesOfWeight_14 (by decide) ?_
  refine lv_icmp_ge (tgt := 30) hx hb dX7_takesOfWeight_15 (by decide) (fun c_15 => ?_) (fun c_15 => ?_)
  · refine lv_iconst (v := 0) hx hb dX7_takesOfWeight_30 (by decide) ?_
    refine W_sQ hQ ?_
    refine W.widen (k := 0) (n := 0) (Nat.le_of_ble_eq_true rfl) (Nat.le_of_ble_eq_true rfl) ?_
    have hP9 := hP.sub (ws' := [(rd, .inr (7, [.ref rw, .ref rc, .int (nI (c1 + 1)), .int (nI rP), .int (nI rA), .int rD, .int rV])), (rw, .inl (cs 0, 5, .inl frw))]) [0, 1] rfl
    have hD9 := hD.sub (ws' := [(rd, .inr (7, [.ref rw, .ref rc, .int (nI (c1 + 1)), .int (nI rP), .int (nI rA), .int rD, .int rV])), (rw, .inl (cs 0, 5, .inl frw))]) [0, 1] (by decide) rfl
    exact W.zret (v := 0) hx hb hr (by decide) (fun t ht hW => ⟨⟨0, (), rfl, (Or.inl rfl), ⟨rD, rV, frw, by rw [ht]; exact hP9, hD9⟩⟩, hS.F ht⟩) hS.2.2 dX7_takesOfWeight_31
  · refine lv_aload_n hx hb dX7_takesOfWeight_18 rfl (lv_at hl 1 rfl) ?_
    refine va_get (D := D) (ci := 7) (v := .int rD) (C := RX7) (T := TX7) (N := 7) hx hb hg gwX7 hown hK hP 0 rfl rfl 5 (by decide) (hg _ kw_49) (fun _ h9 => h9) rfl dX7_takesOfWeight_19 ?_
    refine lv_iconst (v := 1) hx hb dX7_takesOfWeight_22 (by decide) ?_
    refine lv_icmp_ne (tgt := 32) hx hb dX7_takesOfWeight_23 (by decide) (fun c_23 => ?_) (fun c_23 => ?_)
    · refine lv_aload_n hx hb dX7_takesOfWeight_32 rfl (lv_at hl 1 rfl) ?_
      refine lv_iload_n hx hb dX7_takesOfWeight_33 rfl (lv_at hl 0 rfl) ?_
      have hPc := hP.sub (ws' := [(rd, .inr (7, [.ref rw, .ref rc, .int (nI (c1 + 1)), .int (nI rP), .int (nI rA), .int rD, .int rV]))]) [0] rfl
      have hDc := hD.sub (ws' := [(rd, .inr (7, [.ref rw, .ref rc, .int (nI (c1 + 1)), .int (nI rP), .int (nI rA), .int rD, .int rV]))]) [0] (by decide) rfl
      have hFc := va_free (wc := [(rd, .inr (7, [.ref rw, .ref rc, .int (nI (c1 + 1)), .int (nI rP), .int (nI rA), .int rD, .int rV]))]) hD hS hA [0] rfl
      refine va_callv (va_runV (As := [.int z_8]) (rest := []) ⟨hx, hb, hml, hown, hg⟩ (r_takeDigit l D cs rd rw rc c1 rP rA rD rV z_8 _) (cwV 1 hg (gw_V kw_51 kw_52 kw_53 kw_54 kw_50) rfl rfl rfl (by decide +kernel) ⟨(Nat.le_of_ble_eq_true rfl), (Nat.le_of_ble_eq_true rfl)⟩) (pr_MV (q := (RX7, TX7, 7)) 7 0 hK hPc hDc rfl rfl) rfl rfl hl.1 rfl (lv_room (Nat.le_of_ble_eq_true rfl)) dX7_takesOfWeight_34 ⟨(Nat.le_of_ble_eq_true rfl), (Nat.le_of_ble_eq_true rfl)⟩) hS (fun q _ h => hFc q h) hFc (fun u t H1 locs ht hvm h_34 hB hz1 hk1 hS => ?_)
      obtain ⟨rD2_34, rV2_34, hP1, hD1⟩ := hB
      rw [ht] at hP1
      obtain ⟨hP, hD⟩ := va_join (wr := [(rw, .inl (cs 0, 5, .inl frw))]) (w1 := [(rd, .inr (7, [.ref rw, .ref rc, .int (nI (c1 + 1)), .int (nI rP), .int (nI rA), .int rD2_34, .int rV2_34]))]) hP hD [0] [1] rfl rfl (by decide) (by decide) hk1 hFc hP1 hD1
      generalize H1 = H at hP hS ⊢
      have hP : va_P D vwCl [(rw, .inl (cs 0, 5, .inl frw)), (rd, .inr (7, [.ref rw, .ref rc, .int (nI (c1 + 1)), .int (nI rP), .int (nI rA), .int rD2_34, .int rV2_34]))] H := hP
      have hD : va_D A [(rw, .inl (cs 0, 5, .inl frw)), (rd, .inr (7, [.ref rw, .ref rc, .int (nI (c1 + 1)), .int (nI rP), .int (nI rA), .int rD2_34, .int rV2_34]))] := hD
      refine W.cs (cells' := 0) (slots' := 0) rfl rfl ?_
      refine lv_aload_n hx hb dX7_takesOfWeight_37 rfl (lv_at hl 1 rfl) ?_
      refine va_get (D := D) (ci := 7) (v := .ref rw) (C := RX7) (T := TX7) (N := 7) hx hb hg gwX7 hown hK hP 1 rfl rfl 0 (by decide) (hg _ kw_55) (fun _ h9 => h9) rfl dX7_takesOfWeight_38 ?_
      refine lv_aload_n hx hb dX7_takesOfWeight_41 rfl (lv_at hl 1 rfl) ?_
      refine va_get (D := D) (ci := 7) (v := .int (nI (c1 + 1))) (C := RX7) (T := TX7) (N := 7) hx hb hg gwX7 hown hK hP 1 rfl rfl 2 (by decide) (hg _ kw_56) (fun _ h9 => h9) rfl dX7_takesOfWeight_42 ?_
      refine lv_iconst (v := 1) hx hb dX7_takesOfWeight_45 (by decide) ?_
      refine lv_isub hx hb dX7_takesOfWeight_46 ?_
      refine lv_topi (fun z_46 e_46 => ?_)
      obtain rfl : z_46 = nI c1 := e_46.trans (nI_pred c1)
      refine lv_aload_n hx hb dX7_takesOfWeight_47 rfl (lv_at hl 1 rfl) ?_
      refine va_get (D := D) (ci := 7) (v := .int rV2_34) (C := RX7) (T := TX7) (N := 7) hx hb hg gwX7 hown hK hP 1 rfl rfl 6 (by decide) (hg _ kw_48) (fun _ h9 => h9) rfl dX7_takesOfWeight_48 ?_
      refine va_iast hx hb hK hP hD hS 0 0 rfl rfl (vp_in_nI (show c1 < 5 by omega) (by decide)) dX7_takesOfWeight_51 (fun H locs hP hD hS => ?_)
      obtain ⟨f_51, hf_51⟩ : ∃ f9, f9 = (upd frw (nI c1).toNatClampNeg rV2_34) := ⟨_, rfl⟩
      rw [← hf_51] at hP hD
      have hP : va_P D vwCl [(rw, .inl (cs 0, 5, .inl f_51)), (rd, .inr (7, [.ref rw, .ref rc, .int (nI (c1 + 1)), .int (nI rP), .int (nI rA), .int rD2_34, .int rV2_34]))] H := hP
      have hD : va_D A [(rw, .inl (cs 0, 5, .inl f_51)), (rd, .inr (7, [.ref rw, .ref rc, .int (nI (c1 + 1)), .int (nI rP), .int (nI rA), .int rD2_34, .int rV2_34]))] := hD
      refine lv_iconst (v := 1) hx hb dX7_takesOfWeight_52 (by decide) ?_
      refine W_sQ hQ ?_
      refine W.widen (k := 0) (n := 0) (Nat.le_of_ble_eq_true rfl) (Nat.le_of_ble_eq_true rfl) ?_
      have hP9 := hP.sub (ws' := [(rd, .inr (7, [.ref rw, .ref rc, .int (nI (c1 + 1)), .int (nI rP), .int (nI rA), .int rD2_34, .int rV2_34])), (rw, .inl (cs 0, 5, .inl f_51))]) [1, 0] rfl
      have hD9 := hD.sub (ws' := [(rd, .inr (7, [.ref rw, .ref rc, .int (nI (c1 + 1)), .int (nI rP), .int (nI rA), .int rD2_34, .int rV2_34])), (rw, .inl (cs 0, 5, .inl f_51))]) [1, 0] (by decide) rfl
      exact W.zret (v := 1) hx hb hr (by decide) (fun t ht hW => ⟨⟨1, (), rfl, (Or.inr rfl), ⟨rD2_34, rV2_34, f_51, by rw [ht]; exact hP9, hD9⟩⟩, hS.F ht⟩) hS.2.2 dX7_takesOfWeight_53
    · refine lv_iload_n hx hb dX7_takesOfWeight_26 rfl (lv_at hl 0 rfl) ?_
      refine lv_if_ne (tgt := 32) hx hb dX7_takesOfWeight_27 (by decide) (fun c_27 => ?_) (fun c_27 => ?_)
      · refine lv_aload_n hx hb dX7_takesOfWeight_32 rfl (lv_at hl 1 rfl) ?_
        refine lv_iload_n hx hb dX7_takesOfWeight_33 rfl (lv_at hl 0 rfl) ?_
        have hPc := hP.sub (ws' := [(rd, .inr (7, [.ref rw, .ref rc, .int (nI (c1 + 1)), .int (nI rP), .int (nI rA), .int rD, .int rV]))]) [0] rfl
        have hDc := hD.sub (ws' := [(rd, .inr (7, [.ref rw, .ref rc, .int (nI (c1 + 1)), .int (nI rP), .int (nI rA), .int rD, .int rV]))]) [0] (by decide) rfl
        have hFc := va_free (wc := [(rd, .inr (7, [.ref rw, .ref rc, .int (nI (c1 + 1)), .int (nI rP), .int (nI rA), .int rD, .int rV]))]) hD hS hA [0] rfl
        refine va_callv (va_runV (As := [.int z_8]) (rest := []) ⟨hx, hb, hml, hown, hg⟩ (r_takeDigit l D cs rd rw rc c1 rP rA rD rV z_8 _) (cwV 1 hg (gw_V kw_51 kw_52 kw_53 kw_54 kw_50) rfl rfl rfl (by decide +kernel) ⟨(Nat.le_of_ble_eq_true rfl), (Nat.le_of_ble_eq_true rfl)⟩) (pr_MV (q := (RX7, TX7, 7)) 7 0 hK hPc hDc rfl rfl) rfl rfl hl.1 rfl (lv_room (Nat.le_of_ble_eq_true rfl)) dX7_takesOfWeight_34 ⟨(Nat.le_of_ble_eq_true rfl), (Nat.le_of_ble_eq_true rfl)⟩) hS (fun q _ h => hFc q h) hFc (fun u t H1 locs ht hvm h_34 hB hz1 hk1 hS => ?_)
        obtain ⟨rD2_34, rV2_34, hP1, hD1⟩ := hB
        rw [ht] at hP1
        obtain ⟨hP, hD⟩ := va_join (wr := [(rw, .inl (cs 0, 5, .inl frw))]) (w1 := [(rd, .inr (7, [.ref rw, .ref rc, .int (nI (c1 + 1)), .int (nI rP), .int (nI rA), .int rD2_34, .int rV2_34]))]) hP hD [0] [1] rfl rfl (by decide) (by decide) hk1 hFc hP1 hD1
        generalize H1 = H at hP hS ⊢
        have hP : va_P D vwCl [(rw, .inl (cs 0, 5, .inl frw)), (rd, .inr (7, [.ref rw, .ref rc, .int (nI (c1 + 1)), .int (nI rP), .int (nI rA), .int rD2_34, .int rV2_34]))] H := hP
        have hD : va_D A [(rw, .inl (cs 0, 5, .inl frw)), (rd, .inr (7, [.ref rw, .ref rc, .int (nI (c1 + 1)), .int (nI rP), .int (nI rA), .int rD2_34, .int rV2_34]))] := hD
        refine W.cs (cells' := 0) (slots' := 0) rfl rfl ?_
        refine lv_aload_n hx hb dX7_takesOfWeight_37 rfl (lv_at hl 1 rfl) ?_
        refine va_get (D := D) (ci := 7) (v := .ref rw) (C := RX7) (T := TX7) (N := 7) hx hb hg gwX7 hown hK hP 1 rfl rfl 0 (by decide) (hg _ kw_55) (fun _ h9 => h9) rfl dX7_takesOfWeight_38 ?_
        refine lv_aload_n hx hb dX7_takesOfWeight_41 rfl (lv_at hl 1 rfl) ?_
        refine va_get (D := D) (ci := 7) (v := .int (nI (c1 + 1))) (C := RX7) (T := TX7) (N := 7) hx hb hg gwX7 hown hK hP 1 rfl rfl 2 (by decide) (hg _ kw_56) (fun _ h9 => h9) rfl dX7_takesOfWeight_42 ?_
        refine lv_iconst (v := 1) hx hb dX7_takesOfWeight_45 (by decide) ?_
        refine lv_isub hx hb dX7_takesOfWeight_46 ?_
        refine lv_topi (fun z_46 e_46 => ?_)
        obtain rfl : z_46 = nI c1 := e_46.trans (nI_pred c1)
        refine lv_aload_n hx hb dX7_takesOfWeight_47 rfl (lv_at hl 1 rfl) ?_
        refine va_get (D := D) (ci := 7) (v := .int rV2_34) (C := RX7) (T := TX7) (N := 7) hx hb hg gwX7 hown hK hP 1 rfl rfl 6 (by decide) (hg _ kw_48) (fun _ h9 => h9) rfl dX7_takesOfWeight_48 ?_
        refine va_iast hx hb hK hP hD hS 0 0 rfl rfl (vp_in_nI (show c1 < 5 by omega) (by decide)) dX7_takesOfWeight_51 (fun H locs hP hD hS => ?_)
        obtain ⟨f_51, hf_51⟩ : ∃ f9, f9 = (upd frw (nI c1).toNatClampNeg rV2_34) := ⟨_, rfl⟩
        rw [← hf_51] at hP hD
        have hP : va_P D vwCl [(rw, .inl (cs 0, 5, .inl f_51)), (rd, .inr (7, [.ref rw, .ref rc, .int (nI (c1 + 1)), .int (nI rP), .int (nI rA), .int rD2_34, .int rV2_34]))] H := hP
        have hD : va_D A [(rw, .inl (cs 0, 5, .inl f_51)), (rd, .inr (7, [.ref rw, .ref rc, .int (nI (c1 + 1)), .int (nI rP), .int (nI rA), .int rD2_34, .int rV2_34]))] := hD
        refine lv_iconst (v := 1) hx hb dX7_takesOfWeight_52 (by decide) ?_
        refine W_sQ hQ ?_
        refine W.widen (k := 0) (n := 0) (Nat.le_of_ble_eq_true rfl) (Nat.le_of_ble_eq_true rfl) ?_
        have hP9 := hP.sub (ws' := [(rd, .inr (7, [.ref rw, .ref rc, .int (nI (c1 + 1)), .int (nI rP), .int (nI rA), .int rD2_34, .int rV2_34])), (rw, .inl (cs 0, 5, .inl f_51))]) [1, 0] rfl
        have hD9 := hD.sub (ws' := [(rd, .inr (7, [.ref rw, .ref rc, .int (nI (c1 + 1)), .int (nI rP), .int (nI rA), .int rD2_34, .int rV2_34])), (rw, .inl (cs 0, 5, .inl f_51))]) [1, 0] (by decide) rfl
        exact W.zret (v := 1) hx hb hr (by decide) (fun t ht hW => ⟨⟨1, (), rfl, (Or.inr rfl), ⟨rD2_34, rV2_34, f_51, by rw [ht]; exact hP9, hD9⟩⟩, hS.F ht⟩) hS.2.2 dX7_takesOfWeight_53
      · refine lv_iconst (v := 0) hx hb dX7_takesOfWeight_30 (by decide) ?_
        refine W_sQ hQ ?_
        refine W.widen (k := 0) (n := 0) (Nat.le_of_ble_eq_true rfl) (Nat.le_of_ble_eq_true rfl) ?_
        have hP9 := hP.sub (ws' := [(rd, .inr (7, [.ref rw, .ref rc, .int (nI (c1 + 1)), .int (nI rP), .int (nI rA), .int rD, .int rV])), (rw, .inl (cs 0, 5, .inl frw))]) [0, 1] rfl
        have hD9 := hD.sub (ws' := [(rd, .inr (7, [.ref rw, .ref rc, .int (nI (c1 + 1)), .int (nI rP), .int (nI rA), .int rD, .int rV])), (rw, .inl (cs 0, 5, .inl frw))]) [0, 1] (by decide) rfl
        exact W.zret (v := 0) hx hb hr (by decide) (fun t ht hW => ⟨⟨0, (), rfl, (Or.inl rfl), ⟨rD, rV, frw, by rw [ht]; exact hP9, hD9⟩⟩, hS.F ht⟩) hS.2.2 dX7_takesOfWeight_31

theorem dX7_takesOfChance_0 : decode cX7_takesOfChance 0 = .ok (.bipush 10, 2) := by decide +kernel
theorem dX7_takesOfChance_2 : decode cX7_takesOfChance 2 = .ok (.aload_n 0, 1) := by decide +kernel
theorem dX7_takesOfChance_3 : decode cX7_takesOfChance 3 = .ok (.getfield 67, 3) := by decide +kernel
theorem dX7_takesOfChance_6 : decode cX7_takesOfChance 6 = .ok (.imul, 1) := by decide +kernel
theorem dX7_takesOfChance_7 : decode cX7_takesOfChance 7 = .ok (.iload_n 1, 1) := by decide +kernel
theorem dX7_takesOfChance_8 : decode cX7_takesOfChance 8 = .ok (.iadd, 1) := by decide +kernel
theorem dX7_takesOfChance_9 : decode cX7_takesOfChance 9 = .ok (.istore_n 2, 1) := by decide +kernel
theorem dX7_takesOfChance_10 : decode cX7_takesOfChance 10 = .ok (.aload_n 0, 1) := by decide +kernel
theorem dX7_takesOfChance_11 : decode cX7_takesOfChance 11 = .ok (.getfield 45, 3) := by decide +kernel
theorem dX7_takesOfChance_14 : decode cX7_takesOfChance 14 = .ok (.ifCond .le 18, 3) := by decide +kernel
theorem dX7_takesOfChance_17 : decode cX7_takesOfChance 17 = .ok (.aload_n 0, 1) := by decide +kernel
theorem dX7_takesOfChance_18 : decode cX7_takesOfChance 18 = .ok (.getfield 67, 3) := by decide +kernel
theorem dX7_takesOfChance_21 : decode cX7_takesOfChance 21 = .ok (.ifCond .eq 9, 3) := by decide +kernel
theorem dX7_takesOfChance_24 : decode cX7_takesOfChance 24 = .ok (.iload_n 2, 1) := by decide +kernel
theorem dX7_takesOfChance_25 : decode cX7_takesOfChance 25 = .ok (.bipush 100, 2) := by decide +kernel
theorem dX7_takesOfChance_27 : decode cX7_takesOfChance 27 = .ok (.if_icmp .le 5, 3) := by decide +kernel
theorem dX7_takesOfChance_30 : decode cX7_takesOfChance 30 = .ok (.iconst 0, 1) := by decide +kernel
theorem dX7_takesOfChance_31 : decode cX7_takesOfChance 31 = .ok (.ireturn, 1) := by decide +kernel
theorem dX7_takesOfChance_32 : decode cX7_takesOfChance 32 = .ok (.aload_n 0, 1) := by decide +kernel
theorem dX7_takesOfChance_33 : decode cX7_takesOfChance 33 = .ok (.iload_n 2, 1) := by decide +kernel
theorem dX7_takesOfChance_34 : decode cX7_takesOfChance 34 = .ok (.invokevirtual 70, 3) := by decide +kernel
theorem dX7_takesOfChance_37 : decode cX7_takesOfChance 37 = .ok (.aload_n 0, 1) := by decide +kernel
theorem dX7_takesOfChance_38 : decode cX7_takesOfChance 38 = .ok (.getfield 17, 3) := by decide +kernel
theorem dX7_takesOfChance_41 : decode cX7_takesOfChance 41 = .ok (.aload_n 0, 1) := by decide +kernel
theorem dX7_takesOfChance_42 : decode cX7_takesOfChance 42 = .ok (.getfield 24, 3) := by decide +kernel
theorem dX7_takesOfChance_45 : decode cX7_takesOfChance 45 = .ok (.iconst 1, 1) := by decide +kernel
theorem dX7_takesOfChance_46 : decode cX7_takesOfChance 46 = .ok (.isub, 1) := by decide +kernel
theorem dX7_takesOfChance_47 : decode cX7_takesOfChance 47 = .ok (.aaload, 1) := by decide +kernel
theorem dX7_takesOfChance_48 : decode cX7_takesOfChance 48 = .ok (.aload_n 0, 1) := by decide +kernel
theorem dX7_takesOfChance_49 : decode cX7_takesOfChance 49 = .ok (.getfield 42, 3) := by decide +kernel
theorem dX7_takesOfChance_52 : decode cX7_takesOfChance 52 = .ok (.iconst 1, 1) := by decide +kernel
theorem dX7_takesOfChance_53 : decode cX7_takesOfChance 53 = .ok (.isub, 1) := by decide +kernel
theorem dX7_takesOfChance_54 : decode cX7_takesOfChance 54 = .ok (.aload_n 0, 1) := by decide +kernel
theorem dX7_takesOfChance_55 : decode cX7_takesOfChance 55 = .ok (.getfield 67, 3) := by decide +kernel
theorem dX7_takesOfChance_58 : decode cX7_takesOfChance 58 = .ok (.iastore, 1) := by decide +kernel
theorem dX7_takesOfChance_59 : decode cX7_takesOfChance 59 = .ok (.iconst 1, 1) := by decide +kernel
theorem dX7_takesOfChance_60 : decode cX7_takesOfChance 60 = .ok (.ireturn, 1) := by decide +kernel
theorem kw_57 : (.fieldLink RX7 17 "NobodyChecks$Reader" "chances" "[[I" : Cond) ∈ gw_tbl := gw_in (by decide +kernel) (by decide +kernel)
theorem kw_58 : (.fieldLink RX7 42 "NobodyChecks$Reader" "persons" "I" : Cond) ∈ gw_tbl := gw_in (by decide +kernel) (by decide +kernel)

set_option maxHeartbeats 4000000 in
set_option maxRecDepth 100000 in
theorem r_takesOfChance (l : Launch) (D : va_G) (cs : Nat → ClassId) (rd : Nat) (rw : Nat) (rc : Nat) (c1 : Nat) (p1 : Nat) (rA : Nat) (rD : Int32) (rV : Int32) (hc1 : c1 ≤ 4) (hp1 : p1 ≤ 3) (hrA : rA ≤ 4) (rr : Nat → Nat) (frr : Nat → Nat → Int32) (dg : Int32) (sz : Nat) : Met l yX7_takesOfChance (Cond.code yX7_takesOfChance cX7_takesOfChance 3 (some .boolean) :: gw_tbl) ({ frames := 1, cells := 0, slots := 0, locals := 21 }) (pc_M D cs [(rd, .inr (7, [.ref rw, .ref rc, .int (nI (c1 + 1)), .int (nI (p1 + 1)), .int (nI rA), .int rD, .int rV])), (rc, .inl (cs 4, 5, .inr (.inr (.inr (.inr (rowsF 5 rr)))))), ((rr 0), .inl (cs 0, 4, .inl (frr 0))), ((rr 1), .inl (cs 0, 4, .inl (frr 1))), ((rr 2), .inl (cs 0, 4, .inl (frr 2))), ((rr 3), .inl (cs 0, 4, .inl (frr 3))), ((rr 4), .inl (cs 0, 4, .inl (frr 4)))] sz [.ref rd, .int dg]) (va_Qi (fun (r : Int32) (u : Unit) => r = 0 ∨ r = 1) (fun u t => ∃ (rD2 : Int32), ∃ (rV2 : Int32), ∃ (frr2 : Nat → Nat → Int32), va_P D vwCl [(rd, .inr (7, [.ref rw, .ref rc, .int (nI (c1 + 1)), .int (nI (p1 + 1)), .int (nI rA), .int rD2, .int rV2])), (rc, .inl (cs 4, 5, .inr (.inr (.inr (.inr (rowsF 5 rr)))))), ((rr 0), .inl (cs 0, 4, .inl (frr2 0))), ((rr 1), .inl (cs 0, 4, .inl (frr2 1))), ((rr 2), .inl (cs 0, 4, .inl (frr2 2))), ((rr 3), .inl (cs 0, 4, .inl (frr2 3))), ((rr 4), .inl (cs 0, 4, .inl (frr2 4)))] t.heap ∧ va_D (va_A [(rd, .inr (7, [.ref rw, .ref rc, .int (nI (c1 + 1)), .int (nI (p1 + 1)), .int (nI rA), .int rD, .int rV])), (rc, .inl (cs 4, 5, .inr (.inr (.inr (.inr (rowsF 5 rr)))))), ((rr 0), .inl (cs 0, 4, .inl (frr 0))), ((rr 1), .inl (cs 0, 4, .inl (frr 1))), ((rr 2), .inl (cs 0, 4, .inl (frr 2))), ((rr 3), .inl (cs 0, 4, .inl (frr 3))), ((rr 4), .inl (cs 0, 4, .inl (frr 4)))] sz) [(rd, .inr (7, [.ref rw, .ref rc, .int (nI (c1 + 1)), .int (nI (p1 + 1)), .int (nI rA), .int rD2, .int rV2])), (rc, .inl (cs 4, 5, .inr (.inr (.inr (.inr (rowsF 5 rr)))))), ((rr 0), .inl (cs 0, 4, .inl (frr2 0))), ((rr 1), .inl (cs 0, 4, .inl (frr2 1))), ((rr 2), .inl (cs 0, 4, .inl (frr2 2))), ((rr 3), .inl (cs 0, 4, .inl (frr2 3))), ((rr 4), .inl (cs 0, 4, .inl (frr2 4)))]) (va_A [(rd, .inr (7, [.ref rw, .ref rc, .int (nI (c1 + 1)), .int (nI (p1 + 1)), .int (nI rA), .int rD, .int rV])), (rc, .inl (cs 4, 5, .inr (.inr (.inr (.inr (rowsF 5 rr)))))), ((rr 0), .inl (cs 0, 4, .inl (frr 0))), ((rr 1), .inl (cs 0, 4, .inl (frr 1))), ((rr 2), .inl (cs 0, 4, .inl (frr 2))), ((rr 3), .inl (cs 0, 4, .inl (frr 3))), ((rr 4), .inl (cs 0, 4, .inl (frr 4)))] sz)) 0 0 (va_A [(rd, .inr (7, [.ref rw, .ref rc, .int (nI (c1 + 1)), .int (nI (p1 + 1)), .int (nI rA), .int rD, .int rV])), (rc, .inl (cs 4, 5, .inr (.inr (.inr (.inr (rowsF 5 rr)))))), ((rr 0), .inl (cs 0, 4, .inl (frr 0))), ((rr 1), .inl (cs 0, 4, .inl (frr 1))), ((rr 2), .inl (cs 0, 4, .inl (frr 2))), ((rr 3), .inl (cs 0, 4, .inl (frr 3))), ((rr 4), .inl (cs 0, 4, .inl (frr 4)))] sz) := by
  refine Met.ofW (cc := cX7_takesOfChance) (maxL := 3) (ret := (some .boolean)) (by decide) rfl ?_
  intro p e s m args below meth c s₁ B hml hv
  obtain ⟨hargs, hsz, hP, hK, hD0⟩ := hv
  have hx := B.exec
  have hb := B.bytes
  have hr := B.returns
  have hts := atoms_spec (ws := Cond.code yX7_takesOfChance cX7_takesOfChance 3 (some .boolean) :: gw_tbl) B.pre
  have hg := fun (w : Cond) (h : w ∈ gw_tbl) => hts w (List.mem_cons_of_mem _ h)
  have hown : s.vm.findClass RX7 = some m.cls := findClass_of_methodNamed B.named
  have hlocks := B.notSynchronized
  subst hsz
  have hD := hD0.self (sz := s.heap.size)
  generalize hAe : va_A [(rd, .inr (7, [.ref rw, .ref rc, .int (nI (c1 + 1)), .int (nI (p1 + 1)), .int (nI rA), .int rD, .int rV])), (rc, .inl (cs 4, 5, .inr (.inr (.inr (.inr (rowsF 5 rr)))))), ((rr 0), .inl (cs 0, 4, .inl (frr 0))), ((rr 1), .inl (cs 0, 4, .inl (frr 1))), ((rr 2), .inl (cs 0, 4, .inl (frr 2))), ((rr 3), .inl (cs 0, 4, .inl (frr 3))), ((rr 4), .inl (cs 0, 4, .inl (frr 4)))] s.heap.size = A at hD ⊢
  have hA : ∀ q : Nat, s.heap.size ≤ q → A q := fun q h => by rw [← hAe]; exact Or.inr h
  have hS : va_S A s.heap s.heap [] := va_S.rf
  have hP : va_P D vwCl [(rd, .inr (7, [.ref rw, .ref rc, .int (nI (c1 + 1)), .int (nI (p1 + 1)), .int (nI rA), .int rD, .int rV])), (rc, .inl (cs 4, 5, .inr (.inr (.inr (.inr (rowsF 5 rr)))))), ((rr 0), .inl (cs 0, 4, .inl (frr 0))), ((rr 1), .inl (cs 0, 4, .inl (frr 1))), ((rr 2), .inl (cs 0, 4, .inl (frr 2))), ((rr 3), .inl (cs 0, 4, .inl (frr 3))), ((rr 4), .inl (cs 0, 4, .inl (frr 4)))] s.heap := hP
  have hl := lv_entry ([.ref rd, .int dg]) (n := 3) (Nat.le_of_ble_eq_true rfl)
  rw [show entryFrame m args 3 = F0 m 0 (lg_sl ([.ref rd, .int dg]) ++ List.replicate (3 - (lg_sl ([.ref rd, .int dg])).length) Slot.unset).toArray [] from by rw [hargs]; exact lg_entry_eq ..]
  generalize (lg_sl ([.ref rd, .int dg]) ++ List.replicate (3 - (lg_sl ([.ref rd, .int dg])).length) Slot.unset).toArray = ls at hl ⊢
  have hl : lv_has ls 3 [(0, .ref rd), (1, .int dg)] := hl
  refine W_genQ (fun Q hQ => ?_)
  refine lv_bipush (v := 10) hx hb dX7_takesOfChance_0 (by decide) ?_
  refine lv_aload_n hx hb dX7_takesOfChance_2 rfl (lv_at hl 0 rfl) ?_
  refine va_get (D := D) (ci := 7) (v := .int rV) (C := RX7) (T := TX7) (N := 7) hx hb hg gwX7 hown hK hP 0 rfl rfl 6 (by decide) (hg _ kw_48) (fun _ h9 => h9) rfl dX7_takesOfChance_3 ?_
  refine lv_imul hx hb dX7_takesOfChance_6 ?_
  refine lv_topi (fun z_6 e_6 => ?_)
  refine lv_iload_n hx hb dX7_takesOfChance_7 rfl (lv_at hl 1 rfl) ?_
  refine lv_iadd hx hb dX7_takesOfChance_8 ?_
  refine lv_topi (fun z_8 e_8 => ?_)
  refine lv_istore_n (lv' := [(2, .int z_8), (0, .ref rd), (1, .int dg)]) hx hb dX7_takesOfChance_9 rfl hl (by decide) rfl (fun ls hl => ?_)
  refine lv_aload_n hx hb dX7_takesOfChance_10 rfl (lv_at hl 1 rfl) ?_
  refine va_get (D := D) (ci := 7) (v := .int rD) (C := RX7) (T := TX7) (N := 7) hx hb hg gwX7 hown hK hP 0 rfl rfl 5 (by decide) (hg _ kw_49) (fun _ h9 => h9) rfl dX7_takesOfChance_11 ?_
  refine lv_if_le (tgt := 32) hx hb dX7_takesOfChance_14 (by decide) (fun c_14 => ?_) (fun c_14 => ?_)
  · refine lv_aload_n hx hb dX7_takesOfChance_32 rfl (lv_at hl 1 rfl) ?_
    refine lv_iload_n hx hb dX7_takesOfChance_33 rfl (lv_at hl 0 rfl) ?_
    have hPc := hP.sub (ws' := [(rd, .inr (7, [.ref rw, .ref rc, .int (nI (c1 + 1)), .int (nI (p1 + 1)), .int (nI rA), .int rD, .int rV]))]) [0] rfl
    have hDc := hD.sub (ws' := [(rd, .inr (7, [.ref rw, .ref rc, .int (nI (c1 + 1)), .int (nI (p1 + 1)), .int (nI rA), .int rD, .int rV]))]) [0] (by decide) rfl
    have hFc := va_free (wc := [(rd, .inr (7, [.ref rw, .ref rc, .int (nI (c1 + 1)), .int (nI (p1 + 1)), .int (nI rA), .int rD, .int rV]))]) hD hS hA [0] rfl
    refine va_callv (va_runV (As := [.int z_8]) (rest := []) ⟨hx, hb, hml, hown, hg⟩ (r_takeDigit l D cs rd rw rc c1 (p1 + 1) rA rD rV z_8 _) (cwV 1 hg (gw_V kw_51 kw_52 kw_53 kw_54 kw_50) rfl rfl rfl (by decide +kernel) ⟨(Nat.le_of_ble_eq_true rfl), (Nat.le_of_ble_eq_true rfl)⟩) (pr_MV (q := (RX7, TX7, 7)) 7 0 hK hPc hDc rfl rfl) rfl rfl hl.1 rfl (lv_room (Nat.le_of_ble_eq_true rfl)) dX7_takesOfChance_34 ⟨(Nat.le_of_ble_eq_true rfl), (Nat.le_of_ble_eq_true rfl)⟩) hS (fun q _ h => hFc q h) hFc (fun u t H1 locs ht hvm h_34 hB hz1 hk1 hS => ?_)
    obtain ⟨rD2_34, rV2_34, hP1, hD1⟩ := hB
    rw [ht] at hP1
    obtain ⟨hP, hD⟩ := va_join (wr := [(rc, .inl (cs 4, 5, .inr (.inr (.inr (.inr (rowsF 5 rr)))))), ((rr 0), .inl (cs 0, 4, .inl (frr 0))), ((rr 1), .inl (cs 0, 4, .inl (frr 1))), ((rr 2), .inl (cs 0, 4, .inl (frr 2))), ((rr 3), .inl (cs 0, 4, .inl (frr 3))), ((rr 4), .inl (cs 0, 4, .inl (frr 4)))]) (w1 := [(rd, .inr (7, [.ref rw, .ref rc, .int (nI (c1 + 1)), .int (nI (p1 + 1)), .int (nI rA), .int rD2_34, .int rV2_34]))]) hP hD [0] [1, 2, 3, 4, 5, 6] rfl rfl (by decide) (by decide) hk1 hFc hP1 hD1
    generalize H1 = H at hP hS ⊢
    have hP : va_P D vwCl [(rc, .inl (cs 4, 5, .inr (.inr (.inr (.inr (rowsF 5 rr)))))), ((rr 0), .inl (cs 0, 4, .inl (frr 0))), ((rr 1), .inl (cs 0, 4, .inl (frr 1))), ((rr 2), .inl (cs 0, 4, .inl (frr 2))), ((rr 3), .inl (cs 0, 4, .inl (frr 3))), ((rr 4), .inl (cs 0, 4, .inl (frr 4))), (rd, .inr (7, [.ref rw, .ref rc, .int (nI (c1 + 1)), .int (nI (p1 + 1)), .int (nI rA), .int rD2_34, .int rV2_34]))] H := hP
    have hD : va_D A [(rc, .inl (cs 4, 5, .inr (.inr (.inr (.inr (rowsF 5 rr)))))), ((rr 0), .inl (cs 0, 4, .inl (frr 0))), ((rr 1), .inl (cs 0, 4, .inl (frr 1))), ((rr 2), .inl (cs 0, 4, .inl (frr 2))), ((rr 3), .inl (cs 0, 4, .inl (frr 3))), ((rr 4), .inl (cs 0, 4, .inl (frr 4))), (rd, .inr (7, [.ref rw, .ref rc, .int (nI (c1 + 1)), .int (nI (p1 + 1)), .int (nI rA), .int rD2_34, .int rV2_34]))] := hD
    refine W.cs (cells' := 0) (slots' := 0) rfl rfl ?_
    refine lv_aload_n hx hb dX7_takesOfChance_37 rfl (lv_at hl 1 rfl) ?_
    refine va_get (D := D) (ci := 7) (v := .ref rc) (C := RX7) (T := TX7) (N := 7) hx hb hg gwX7 hown hK hP 6 rfl rfl 1 (by decide) (hg _ kw_57) (fun _ h9 => h9) rfl dX7_takesOfChance_38 ?_
    refine lv_aload_n hx hb dX7_takesOfChance_41 rfl (lv_at hl 1 rfl) ?_
    refine va_get (D := D) (ci := 7) (v := .int (nI (c1 + 1))) (C := RX7) (T := TX7) (N := 7) hx hb hg gwX7 hown hK hP 6 rfl rfl 2 (by decide) (hg _ kw_56) (fun _ h9 => h9) rfl dX7_takesOfChance_42 ?_
    refine lv_iconst (v := 1) hx hb dX7_takesOfChance_45 (by decide) ?_
    refine lv_isub hx hb dX7_takesOfChance_46 ?_
    refine lv_topi (fun z_46 e_46 => ?_)
    obtain rfl : z_46 = nI c1 := e_46.trans (nI_pred c1)
    refine va_aldR (k := c1) hx hb hK hP 0 4 rfl rfl (show c1 < 5 by omega) (by decide) dX7_takesOfChance_47 ?_
    refine lv_aload_n hx hb dX7_takesOfChance_48 rfl (lv_at hl 1 rfl) ?_
    refine va_get (D := D) (ci := 7) (v := .int (nI (p1 + 1))) (C := RX7) (T := TX7) (N := 7) hx hb hg gwX7 hown hK hP 6 rfl rfl 3 (by decide) (hg _ kw_58) (fun _ h9 => h9) rfl dX7_takesOfChance_49 ?_
    refine lv_iconst (v := 1) hx hb dX7_takesOfChance_52 (by decide) ?_
    refine lv_isub hx hb dX7_takesOfChance_53 ?_
    refine lv_topi (fun z_53 e_53 => ?_)
    obtain rfl : z_53 = nI p1 := e_53.trans (nI_pred p1)
    refine lv_aload_n hx hb dX7_takesOfChance_54 rfl (lv_at hl 1 rfl) ?_
    refine va_get (D := D) (ci := 7) (v := .int rV2_34) (C := RX7) (T := TX7) (N := 7) hx hb hg gwX7 hown hK hP 6 rfl rfl 6 (by decide) (hg _ kw_48) (fun _ h9 => h9) rfl dX7_takesOfChance_55 ?_
    refine va_iast hx hb hK hP hD hS (1 + c1) 0 (rat_5 (g := fun j9 => (rr j9, .inl (cs 0, 4, .inl (frr j9)))) (show c1 < 5 by omega) ⟨rfl, rfl, rfl, rfl, rfl⟩) rfl (vp_in_nI (show p1 < 4 by omega) (by decide)) dX7_takesOfChance_58 (fun H locs hP hD hS => ?_)
    obtain ⟨f_58, hf_58⟩ : ∃ f9, f9 = va_up frr c1 (upd (frr c1) (nI p1).toNatClampNeg rV2_34) := ⟨_, rfl⟩
    have hP : va_P D vwCl [(rc, .inl (cs 4, 5, .inr (.inr (.inr (.inr (rowsF 5 rr)))))), ((rr 0), .inl (cs 0, 4, .inl (f_58 0))), ((rr 1), .inl (cs 0, 4, .inl (f_58 1))), ((rr 2), .inl (cs 0, 4, .inl (f_58 2))), ((rr 3), .inl (cs 0, 4, .inl (f_58 3))), ((rr 4), .inl (cs 0, 4, .inl (f_58 4))), (rd, .inr (7, [.ref rw, .ref rc, .int (nI (c1 + 1)), .int (nI (p1 + 1)), .int (nI rA), .int rD2_34, .int rV2_34]))] H := by
      have h9 : c1 < 5 := by omega
      rw [hf_58]
      rcases lt_5 h9 with rfl | rfl | rfl | rfl | rfl <;> exact hP
    have hD : va_D A [(rc, .inl (cs 4, 5, .inr (.inr (.inr (.inr (rowsF 5 rr)))))), ((rr 0), .inl (cs 0, 4, .inl (f_58 0))), ((rr 1), .inl (cs 0, 4, .inl (f_58 1))), ((rr 2), .inl (cs 0, 4, .inl (f_58 2))), ((rr 3), .inl (cs 0, 4, .inl (f_58 3))), ((rr 4), .inl (cs 0, 4, .inl (f_58 4))), (rd, .inr (7, [.ref rw, .ref rc, .int (nI (c1 + 1)), .int (nI (p1 + 1)), .int (nI rA), .int rD2_34, .int rV2_34]))] := by
      have h9 : c1 < 5 := by omega
      rw [hf_58]
      rcases lt_5 h9 with rfl | rfl | rfl | rfl | rfl <;> exact hD
    refine lv_iconst (v := 1) hx hb dX7_takesOfChance_59 (by decide) ?_
    refine W_sQ hQ ?_
    refine W.widen (k := 0) (n := 0) (Nat.le_of_ble_eq_true rfl) (Nat.le_of_ble_eq_true rfl) ?_
    have hP9 := hP.sub (ws' := [(rd, .inr (7, [.ref rw, .ref rc, .int (nI (c1 + 1)), .int (nI (p1 + 1)), .int (nI rA), .int rD2_34, .int rV2_34])), (rc, .inl (cs 4, 5, .inr (.inr (.inr (.inr (rowsF 5 rr)))))), ((rr 0), .inl (cs 0, 4, .inl (f_58 0))), ((rr 1), .inl (cs 0, 4, .inl (f_58 1))), ((rr 2), .inl (cs 0, 4, .inl (f_58 2))), ((rr 3), .inl (cs 0, 4, .inl (f_58 3))), ((rr 4), .inl (cs 0, 4, .inl (f_58 4)))]) [6, 0, 1, 2, 3, 4, 5] rfl
    have hD9 := hD.sub (ws' := [(rd, .inr (7, [.ref rw, .ref rc, .int (nI (c1 + 1)), .int (nI (p1 + 1)), .int (nI rA), .int rD2_34, .int rV2_34])), (rc, .inl (cs 4, 5, .inr (.inr (.inr (.inr (rowsF 5 rr)))))), ((rr 0), .inl (cs 0, 4, .inl (f_58 0))), ((rr 1), .inl (cs 0, 4, .inl (f_58 1))), ((rr 2), .inl (cs 0, 4, .inl (f_58 2))), ((rr 3), .inl (cs 0, 4, .inl (f_58 3))), ((rr 4), .inl (cs 0, 4, .inl (f_58 4)))]) [6, 0, 1, 2, 3, 4, 5] (by decide) rfl
    exact W.zret (v := 1) hx hb hr (by decide) (fun t ht hW => ⟨⟨1, (), rfl, (Or.inr rfl), ⟨rD2_34, rV2_34, f_58, by rw [ht]; exact hP9, hD9⟩⟩, hS.F ht⟩) hS.2.2 dX7_takesOfChance_60
  · refine lv_aload_n hx hb dX7_takesOfChance_17 rfl (lv_at hl 1 rfl) ?_
    refine va_get (D := D) (ci := 7) (v := .int rV) (C := RX7) (T := TX7) (N := 7) hx hb hg gwX7 hown hK hP 0 rfl rfl 6 (by decide) (hg _ kw_48) (fun _ h9 => h9) rfl dX7_takesOfChance_18 ?_
    refine lv_if_eq (tgt := 30) hx hb dX7_takesOfChance_21 (by decide) (fun c_21 => ?_) (fun c_21 => ?_)
    · refine lv_iconst (v := 0) hx hb dX7_takesOfChance_30 (by decide) ?_
      refine W_sQ hQ ?_
      refine W.widen (k := 0) (n := 0) (Nat.le_of_ble_eq_true rfl) (Nat.le_of_ble_eq_true rfl) ?_
      have hP9 := hP.sub (ws' := [(rd, .inr (7, [.ref rw, .ref rc, .int (nI (c1 + 1)), .int (nI (p1 + 1)), .int (nI rA), .int rD, .int rV])), (rc, .inl (cs 4, 5, .inr (.inr (.inr (.inr (rowsF 5 rr)))))), ((rr 0), .inl (cs 0, 4, .inl (frr 0))), ((rr 1), .inl (cs 0, 4, .inl (frr 1))), ((rr 2), .inl (cs 0, 4, .inl (frr 2))), ((rr 3), .inl (cs 0, 4, .inl (frr 3))), ((rr 4), .inl (cs 0, 4, .inl (frr 4)))]) [0, 1, 2, 3, 4, 5, 6] rfl
      have hD9 := hD.sub (ws' := [(rd, .inr (7, [.ref rw, .ref rc, .int (nI (c1 + 1)), .int (nI (p1 + 1)), .int (nI rA), .int rD, .int rV])), (rc, .inl (cs 4, 5, .inr (.inr (.inr (.inr (rowsF 5 rr)))))), ((rr 0), .inl (cs 0, 4, .inl (frr 0))), ((rr 1), .inl (cs 0, 4, .inl (frr 1))), ((rr 2), .inl (cs 0, 4, .inl (frr 2))), ((rr 3), .inl (cs 0, 4, .inl (frr 3))), ((rr 4), .inl (cs 0, 4, .inl (frr 4)))]) [0, 1, 2, 3, 4, 5, 6] (by decide) rfl
      exact W.zret (v := 0) hx hb hr (by decide) (fun t ht hW => ⟨⟨0, (), rfl, (Or.inl rfl), ⟨rD, rV, frr, by rw [ht]; exact hP9, hD9⟩⟩, hS.F ht⟩) hS.2.2 dX7_takesOfChance_31
    · refine lv_iload_n hx hb dX7_takesOfChance_24 rfl (lv_at hl 0 rfl) ?_
      refine lv_bipush (v := 100) hx hb dX7_takesOfChance_25 (by decide) ?_
      refine lv_icmp_le (tgt := 32) hx hb dX7_takesOfChance_27 (by decide) (fun c_27 => ?_) (fun c_27 => ?_)
      · refine lv_aload_n hx hb dX7_takesOfChance_32 rfl (lv_at hl 1 rfl) ?_
        refine lv_iload_n hx hb dX7_takesOfChance_33 rfl (lv_at hl 0 rfl) ?_
        have hPc := hP.sub (ws' := [(rd, .inr (7, [.ref rw, .ref rc, .int (nI (c1 + 1)), .int (nI (p1 + 1)), .int (nI rA), .int rD, .int rV]))]) [0] rfl
        have hDc := hD.sub (ws' := [(rd, .inr (7, [.ref rw, .ref rc, .int (nI (c1 + 1)), .int (nI (p1 + 1)), .int (nI rA), .int rD, .int rV]))]) [0] (by decide) rfl
        have hFc := va_free (wc := [(rd, .inr (7, [.ref rw, .ref rc, .int (nI (c1 + 1)), .int (nI (p1 + 1)), .int (nI rA), .int rD, .int rV]))]) hD hS hA [0] rfl
        refine va_callv (va_runV (As := [.int z_8]) (rest := []) ⟨hx, hb, hml, hown, hg⟩ (r_takeDigit l D cs rd rw rc c1 (p1 + 1) rA rD rV z_8 _) (cwV 1 hg (gw_V kw_51 kw_52 kw_53 kw_54 kw_50) rfl rfl rfl (by decide +kernel) ⟨(Nat.le_of_ble_eq_true rfl), (Nat.le_of_ble_eq_true rfl)⟩) (pr_MV (q := (RX7, TX7, 7)) 7 0 hK hPc hDc rfl rfl) rfl rfl hl.1 rfl (lv_room (Nat.le_of_ble_eq_true rfl)) dX7_takesOfChance_34 ⟨(Nat.le_of_ble_eq_true rfl), (Nat.le_of_ble_eq_true rfl)⟩) hS (fun q _ h => hFc q h) hFc (fun u t H1 locs ht hvm h_34 hB hz1 hk1 hS => ?_)
        obtain ⟨rD2_34, rV2_34, hP1, hD1⟩ := hB
        rw [ht] at hP1
        obtain ⟨hP, hD⟩ := va_join (wr := [(rc, .inl (cs 4, 5, .inr (.inr (.inr (.inr (rowsF 5 rr)))))), ((rr 0), .inl (cs 0, 4, .inl (frr 0))), ((rr 1), .inl (cs 0, 4, .inl (frr 1))), ((rr 2), .inl (cs 0, 4, .inl (frr 2))), ((rr 3), .inl (cs 0, 4, .inl (frr 3))), ((rr 4), .inl (cs 0, 4, .inl (frr 4)))]) (w1 := [(rd, .inr (7, [.ref rw, .ref rc, .int (nI (c1 + 1)), .int (nI (p1 + 1)), .int (nI rA), .int rD2_34, .int rV2_34]))]) hP hD [0] [1, 2, 3, 4, 5, 6] rfl rfl (by decide) (by decide) hk1 hFc hP1 hD1
        generalize H1 = H at hP hS ⊢
        have hP : va_P D vwCl [(rc, .inl (cs 4, 5, .inr (.inr (.inr (.inr (rowsF 5 rr)))))), ((rr 0), .inl (cs 0, 4, .inl (frr 0))), ((rr 1), .inl (cs 0, 4, .inl (frr 1))), ((rr 2), .inl (cs 0, 4, .inl (frr 2))), ((rr 3), .inl (cs 0, 4, .inl (frr 3))), ((rr 4), .inl (cs 0, 4, .inl (frr 4))), (rd, .inr (7, [.ref rw, .ref rc, .int (nI (c1 + 1)), .int (nI (p1 + 1)), .int (nI rA), .int rD2_34, .int rV2_34]))] H := hP
        have hD : va_D A [(rc, .inl (cs 4, 5, .inr (.inr (.inr (.inr (rowsF 5 rr)))))), ((rr 0), .inl (cs 0, 4, .inl (frr 0))), ((rr 1), .inl (cs 0, 4, .inl (frr 1))), ((rr 2), .inl (cs 0, 4, .inl (frr 2))), ((rr 3), .inl (cs 0, 4, .inl (frr 3))), ((rr 4), .inl (cs 0, 4, .inl (frr 4))), (rd, .inr (7, [.ref rw, .ref rc, .int (nI (c1 + 1)), .int (nI (p1 + 1)), .int (nI rA), .int rD2_34, .int rV2_34]))] := hD
        refine W.cs (cells' := 0) (slots' := 0) rfl rfl ?_
        refine lv_aload_n hx hb dX7_takesOfChance_37 rfl (lv_at hl 1 rfl) ?_
        refine va_get (D := D) (ci := 7) (v := .ref rc) (C := RX7) (T := TX7) (N := 7) hx hb hg gwX7 hown hK hP 6 rfl rfl 1 (by decide) (hg _ kw_57) (fun _ h9 => h9) rfl dX7_takesOfChance_38 ?_
        refine lv_aload_n hx hb dX7_takesOfChance_41 rfl (lv_at hl 1 rfl) ?_
        refine va_get (D := D) (ci := 7) (v := .int (nI (c1 + 1))) (C := RX7) (T := TX7) (N := 7) hx hb hg gwX7 hown hK hP 6 rfl rfl 2 (by decide) (hg _ kw_56) (fun _ h9 => h9) rfl dX7_takesOfChance_42 ?_
        refine lv_iconst (v := 1) hx hb dX7_takesOfChance_45 (by decide) ?_
        refine lv_isub hx hb dX7_takesOfChance_46 ?_
        refine lv_topi (fun z_46 e_46 => ?_)
        obtain rfl : z_46 = nI c1 := e_46.trans (nI_pred c1)
        refine va_aldR (k := c1) hx hb hK hP 0 4 rfl rfl (show c1 < 5 by omega) (by decide) dX7_takesOfChance_47 ?_
        refine lv_aload_n hx hb dX7_takesOfChance_48 rfl (lv_at hl 1 rfl) ?_
        refine va_get (D := D) (ci := 7) (v := .int (nI (p1 + 1))) (C := RX7) (T := TX7) (N := 7) hx hb hg gwX7 hown hK hP 6 rfl rfl 3 (by decide) (hg _ kw_58) (fun _ h9 => h9) rfl dX7_takesOfChance_49 ?_
        refine lv_iconst (v := 1) hx hb dX7_takesOfChance_52 (by decide) ?_
        refine lv_isub hx hb dX7_takesOfChance_53 ?_
        refine lv_topi (fun z_53 e_53 => ?_)
        obtain rfl : z_53 = nI p1 := e_53.trans (nI_pred p1)
        refine lv_aload_n hx hb dX7_takesOfChance_54 rfl (lv_at hl 1 rfl) ?_
        refine va_get (D := D) (ci := 7) (v := .int rV2_34) (C := RX7) (T := TX7) (N := 7) hx hb hg gwX7 hown hK hP 6 rfl rfl 6 (by decide) (hg _ kw_48) (fun _ h9 => h9) rfl dX7_takesOfChance_55 ?_
        refine va_iast hx hb hK hP hD hS (1 + c1) 0 (rat_5 (g := fun j9 => (rr j9, .inl (cs 0, 4, .inl (frr j9)))) (show c1 < 5 by omega) ⟨rfl, rfl, rfl, rfl, rfl⟩) rfl (vp_in_nI (show p1 < 4 by omega) (by decide)) dX7_takesOfChance_58 (fun H locs hP hD hS => ?_)
        obtain ⟨f_58, hf_58⟩ : ∃ f9, f9 = va_up frr c1 (upd (frr c1) (nI p1).toNatClampNeg rV2_34) := ⟨_, rfl⟩
        have hP : va_P D vwCl [(rc, .inl (cs 4, 5, .inr (.inr (.inr (.inr (rowsF 5 rr)))))), ((rr 0), .inl (cs 0, 4, .inl (f_58 0))), ((rr 1), .inl (cs 0, 4, .inl (f_58 1))), ((rr 2), .inl (cs 0, 4, .inl (f_58 2))), ((rr 3), .inl (cs 0, 4, .inl (f_58 3))), ((rr 4), .inl (cs 0, 4, .inl (f_58 4))), (rd, .inr (7, [.ref rw, .ref rc, .int (nI (c1 + 1)), .int (nI (p1 + 1)), .int (nI rA), .int rD2_34, .int rV2_34]))] H := by
          have h9 : c1 < 5 := by omega
          rw [hf_58]
          rcases lt_5 h9 with rfl | rfl | rfl | rfl | rfl <;> exact hP
        have hD : va_D A [(rc, .inl (cs 4, 5, .inr (.inr (.inr (.inr (rowsF 5 rr)))))), ((rr 0), .inl (cs 0, 4, .inl (f_58 0))), ((rr 1), .inl (cs 0, 4, .inl (f_58 1))), ((rr 2), .inl (cs 0, 4, .inl (f_58 2))), ((rr 3), .inl (cs 0, 4, .inl (f_58 3))), ((rr 4), .inl (cs 0, 4, .inl (f_58 4))), (rd, .inr (7, [.ref rw, .ref rc, .int (nI (c1 + 1)), .int (nI (p1 + 1)), .int (nI rA), .int rD2_34, .int rV2_34]))] := by
          have h9 : c1 < 5 := by omega
          rw [hf_58]
          rcases lt_5 h9 with rfl | rfl | rfl | rfl | rfl <;> exact hD
        refine lv_iconst (v := 1) hx hb dX7_takesOfChance_59 (by decide) ?_
        refine W_sQ hQ ?_
        refine W.widen (k := 0) (n := 0) (Nat.le_of_ble_eq_true rfl) (Nat.le_of_ble_eq_true rfl) ?_
        have hP9 := hP.sub (ws' := [(rd, .inr (7, [.ref rw, .ref rc, .int (nI (c1 + 1)), .int (nI (p1 + 1)), .int (nI rA), .int rD2_34, .int rV2_34])), (rc, .inl (cs 4, 5, .inr (.inr (.inr (.inr (rowsF 5 rr)))))), ((rr 0), .inl (cs 0, 4, .inl (f_58 0))), ((rr 1), .inl (cs 0, 4, .inl (f_58 1))), ((rr 2), .inl (cs 0, 4, .inl (f_58 2))), ((rr 3), .inl (cs 0, 4, .inl (f_58 3))), ((rr 4), .inl (cs 0, 4, .inl (f_58 4)))]) [6, 0, 1, 2, 3, 4, 5] rfl
        have hD9 := hD.sub (ws' := [(rd, .inr (7, [.ref rw, .ref rc, .int (nI (c1 + 1)), .int (nI (p1 + 1)), .int (nI rA), .int rD2_34, .int rV2_34])), (rc, .inl (cs 4, 5, .inr (.inr (.inr (.inr (rowsF 5 rr)))))), ((rr 0), .inl (cs 0, 4, .inl (f_58 0))), ((rr 1), .inl (cs 0, 4, .inl (f_58 1))), ((rr 2), .inl (cs 0, 4, .inl (f_58 2))), ((rr 3), .inl (cs 0, 4, .inl (f_58 3))), ((rr 4), .inl (cs 0, 4, .inl (f_58 4)))]) [6, 0, 1, 2, 3, 4, 5] (by decide) rfl
        exact W.zret (v := 1) hx hb hr (by decide) (fun t ht hW => ⟨⟨1, (), rfl, (Or.inr rfl), ⟨rD2_34, rV2_34, f_58, by rw [ht]; exact hP9, hD9⟩⟩, hS.F ht⟩) hS.2.2 dX7_takesOfChance_60
      · refine lv_iconst (v := 0) hx hb dX7_takesOfChance_30 (by decide) ?_
        refine W_sQ hQ ?_
        refine W.widen (k := 0) (n := 0) (Nat.le_of_ble_eq_true rfl) (Nat.le_of_ble_eq_true rfl) ?_
        have hP9 := hP.sub (ws' := [(rd, .inr (7, [.ref rw, .ref rc, .int (nI (c1 + 1)), .int (nI (p1 + 1)), .int (nI rA), .int rD, .int rV])), (rc, .inl (cs 4, 5, .inr (.inr (.inr (.inr (rowsF 5 rr)))))), ((rr 0), .inl (cs 0, 4, .inl (frr 0))), ((rr 1), .inl (cs 0, 4, .inl (frr 1))), ((rr 2), .inl (cs 0, 4, .inl (frr 2))), ((rr 3), .inl (cs 0, 4, .inl (frr 3))), ((rr 4), .inl (cs 0, 4, .inl (frr 4)))]) [0, 1, 2, 3, 4, 5, 6] rfl
        have hD9 := hD.sub (ws' := [(rd, .inr (7, [.ref rw, .ref rc, .int (nI (c1 + 1)), .int (nI (p1 + 1)), .int (nI rA), .int rD, .int rV])), (rc, .inl (cs 4, 5, .inr (.inr (.inr (.inr (rowsF 5 rr)))))), ((rr 0), .inl (cs 0, 4, .inl (frr 0))), ((rr 1), .inl (cs 0, 4, .inl (frr 1))), ((rr 2), .inl (cs 0, 4, .inl (frr 2))), ((rr 3), .inl (cs 0, 4, .inl (frr 3))), ((rr 4), .inl (cs 0, 4, .inl (frr 4)))]) [0, 1, 2, 3, 4, 5, 6] (by decide) rfl
        exact W.zret (v := 0) hx hb hr (by decide) (fun t ht hW => ⟨⟨0, (), rfl, (Or.inl rfl), ⟨rD, rV, frr, by rw [ht]; exact hP9, hD9⟩⟩, hS.F ht⟩) hS.2.2 dX7_takesOfChance_31

theorem dX7_beginCase_0 : decode cX7_beginCase 0 = .ok (.aload_n 0, 1) := by decide +kernel
theorem dX7_beginCase_1 : decode cX7_beginCase 1 = .ok (.dup, 1) := by decide +kernel
theorem dX7_beginCase_2 : decode cX7_beginCase 2 = .ok (.getfield 24, 3) := by decide +kernel
theorem dX7_beginCase_5 : decode cX7_beginCase 5 = .ok (.iconst 1, 1) := by decide +kernel
theorem dX7_beginCase_6 : decode cX7_beginCase 6 = .ok (.iadd, 1) := by decide +kernel
theorem dX7_beginCase_7 : decode cX7_beginCase 7 = .ok (.putfield 24, 3) := by decide +kernel
theorem dX7_beginCase_10 : decode cX7_beginCase 10 = .ok (.aload_n 0, 1) := by decide +kernel
theorem dX7_beginCase_11 : decode cX7_beginCase 11 = .ok (.iconst 0, 1) := by decide +kernel
theorem dX7_beginCase_12 : decode cX7_beginCase 12 = .ok (.putfield 42, 3) := by decide +kernel
theorem dX7_beginCase_15 : decode cX7_beginCase 15 = .ok (.aload_n 0, 1) := by decide +kernel
theorem dX7_beginCase_16 : decode cX7_beginCase 16 = .ok (.iconst 0, 1) := by decide +kernel
theorem dX7_beginCase_17 : decode cX7_beginCase 17 = .ok (.putfield 45, 3) := by decide +kernel
theorem dX7_beginCase_20 : decode cX7_beginCase 20 = .ok (.aload_n 0, 1) := by decide +kernel
theorem dX7_beginCase_21 : decode cX7_beginCase 21 = .ok (.iconst 0, 1) := by decide +kernel
theorem dX7_beginCase_22 : decode cX7_beginCase 22 = .ok (.putfield 67, 3) := by decide +kernel
theorem dX7_beginCase_25 : decode cX7_beginCase 25 = .ok (.return_, 1) := by decide +kernel

set_option maxHeartbeats 4000000 in
set_option maxRecDepth 100000 in
theorem r_beginCase (l : Launch) (D : va_G) (cs : Nat → ClassId) (rd : Nat) (rw : Nat) (rc : Nat) (rC : Nat) (vP : Value) (vA : Value) (vD : Value) (vV : Value) (sz : Nat) : Met l yX7_beginCase (Cond.code yX7_beginCase cX7_beginCase 1 none :: gw_tbl) ({ frames := 0, cells := 0, slots := 0, locals := 0 }) (pc_M D cs [(rd, .inr (7, [.ref rw, .ref rc, .int (nI rC), vP, vA, vD, vV]))] sz [.ref rd]) (va_Qv (fun (u : Unit) => True) (fun u t => va_P D vwCl [(rd, .inr (7, [.ref rw, .ref rc, .int (nI (rC + 1)), .int 0, vA, .int 0, .int 0]))] t.heap ∧ va_D (va_A [(rd, .inr (7, [.ref rw, .ref rc, .int (nI rC), vP, vA, vD, vV]))] sz) [(rd, .inr (7, [.ref rw, .ref rc, .int (nI (rC + 1)), .int 0, vA, .int 0, .int 0]))]) (va_A [(rd, .inr (7, [.ref rw, .ref rc, .int (nI rC), vP, vA, vD, vV]))] sz)) 0 0 (va_A [(rd, .inr (7, [.ref rw, .ref rc, .int (nI rC), vP, vA, vD, vV]))] sz) := by
  refine Met.ofW (cc := cX7_beginCase) (maxL := 1) (ret := none) (by decide) rfl ?_
  intro p e s m args below meth c s₁ B hml hv
  obtain ⟨hargs, hsz, hP, hK, hD0⟩ := hv
  have hx := B.exec
  have hb := B.bytes
  have hr := B.returns
  have hts := atoms_spec (ws := Cond.code yX7_beginCase cX7_beginCase 1 none :: gw_tbl) B.pre
  have hg := fun (w : Cond) (h : w ∈ gw_tbl) => hts w (List.mem_cons_of_mem _ h)
  have hown : s.vm.findClass RX7 = some m.cls := findClass_of_methodNamed B.named
  have hlocks := B.notSynchronized
  subst hsz
  have hD := hD0.self (sz := s.heap.size)
  generalize hAe : va_A [(rd, .inr (7, [.ref rw, .ref rc, .int (nI rC), vP, vA, vD, vV]))] s.heap.size = A at hD ⊢
  have hA : ∀ q : Nat, s.heap.size ≤ q → A q := fun q h => by rw [← hAe]; exact Or.inr h
  have hS : va_S A s.heap s.heap [] := va_S.rf
  have hP : va_P D vwCl [(rd, .inr (7, [.ref rw, .ref rc, .int (nI rC), vP, vA, vD, vV]))] s.heap := hP
  have hl := lv_entry ([.ref rd]) (n := 1) (Nat.le_of_ble_eq_true rfl)
  rw [show entryFrame m args 1 = F0 m 0 (lg_sl ([.ref rd]) ++ List.replicate (1 - (lg_sl ([.ref rd])).length) Slot.unset).toArray [] from by rw [hargs]; exact lg_entry_eq ..]
  generalize (lg_sl ([.ref rd]) ++ List.replicate (1 - (lg_sl ([.ref rd])).length) Slot.unset).toArray = ls at hl ⊢
  have hl : lv_has ls 1 [(0, .ref rd)] := hl
  refine W_genQ (fun Q hQ => ?_)
  refine lv_aload_n hx hb dX7_beginCase_0 rfl (lv_at hl 0 rfl) ?_
  refine lv_dup hx hb dX7_beginCase_1 rfl ?_
  refine va_get (D := D) (ci := 7) (v := .int (nI rC)) (C := RX7) (T := TX7) (N := 7) hx hb hg gwX7 hown hK hP 0 rfl rfl 2 (by decide) (hg _ kw_56) (fun _ h9 => h9) rfl dX7_beginCase_2 ?_
  refine lv_iconst (v := 1) hx hb dX7_beginCase_5 (by decide) ?_
  refine lv_iadd hx hb dX7_beginCase_6 ?_
  refine lv_topi (fun z_6 e_6 => ?_)
  obtain rfl : z_6 = nI (rC + 1) := e_6.trans (nI_add _ _)
  refine va_put (D := D) (ci := 7) (v := .int (nI (rC + 1))) (ty := .int) (C := RX7) (T := TX7) (N := 7) hx hb hg gwX7 tyX7 tyX7_ok nmX7 hown hK hP hD hS 0 rfl rfl 2 (by decide) (hg _ kw_56) (fun _ h9 => h9) rfl (by decide +kernel) rfl rfl (Nat.le_of_ble_eq_true rfl) dX7_beginCase_7 (fun H locs hP hD hS => ?_)
  have hP : va_P D vwCl [(rd, .inr (7, [.ref rw, .ref rc, .int (nI (rC + 1)), vP, vA, vD, vV]))] H := hP
  have hD : va_D A [(rd, .inr (7, [.ref rw, .ref rc, .int (nI (rC + 1)), vP, vA, vD, vV]))] := hD
  refine lv_aload_n hx hb dX7_beginCase_10 rfl (lv_at hl 0 rfl) ?_
  refine lv_iconst (v := 0) hx hb dX7_beginCase_11 (by decide) ?_
  refine va_put (D := D) (ci := 7) (v := .int 0) (ty := .int) (C := RX7) (T := TX7) (N := 7) hx hb hg gwX7 tyX7 tyX7_ok nmX7 hown hK hP hD hS 0 rfl rfl 3 (by decide) (hg _ kw_58) (fun _ h9 => h9) rfl (by decide +kernel) rfl rfl (Nat.le_of_ble_eq_true rfl) dX7_beginCase_12 (fun H locs hP hD hS => ?_)
  have hP : va_P D vwCl [(rd, .inr (7, [.ref rw, .ref rc, .int (nI (rC + 1)), .int 0, vA, vD, vV]))] H := hP
  have hD : va_D A [(rd, .inr (7, [.ref rw, .ref rc, .int (nI (rC + 1)), .int 0, vA, vD, vV]))] := hD
  refine lv_aload_n hx hb dX7_beginCase_15 rfl (lv_at hl 0 rfl) ?_
  refine lv_iconst (v := 0) hx hb dX7_beginCase_16 (by decide) ?_
  refine va_put (D := D) (ci := 7) (v := .int 0) (ty := .int) (C := RX7) (T := TX7) (N := 7) hx hb hg gwX7 tyX7 tyX7_ok nmX7 hown hK hP hD hS 0 rfl rfl 5 (by decide) (hg _ kw_49) (fun _ h9 => h9) rfl (by decide +kernel) rfl rfl (Nat.le_of_ble_eq_true rfl) dX7_beginCase_17 (fun H locs hP hD hS => ?_)
  have hP : va_P D vwCl [(rd, .inr (7, [.ref rw, .ref rc, .int (nI (rC + 1)), .int 0, vA, .int 0, vV]))] H := hP
  have hD : va_D A [(rd, .inr (7, [.ref rw, .ref rc, .int (nI (rC + 1)), .int 0, vA, .int 0, vV]))] := hD
  refine lv_aload_n hx hb dX7_beginCase_20 rfl (lv_at hl 0 rfl) ?_
  refine lv_iconst (v := 0) hx hb dX7_beginCase_21 (by decide) ?_
  refine va_put (D := D) (ci := 7) (v := .int 0) (ty := .int) (C := RX7) (T := TX7) (N := 7) hx hb hg gwX7 tyX7 tyX7_ok nmX7 hown hK hP hD hS 0 rfl rfl 6 (by decide) (hg _ kw_48) (fun _ h9 => h9) rfl (by decide +kernel) rfl rfl (Nat.le_of_ble_eq_true rfl) dX7_beginCase_22 (fun H locs hP hD hS => ?_)
  have hP : va_P D vwCl [(rd, .inr (7, [.ref rw, .ref rc, .int (nI (rC + 1)), .int 0, vA, .int 0, .int 0]))] H := hP
  have hD : va_D A [(rd, .inr (7, [.ref rw, .ref rc, .int (nI (rC + 1)), .int 0, vA, .int 0, .int 0]))] := hD
  refine W_sQ hQ ?_
  refine W.widen (k := 0) (n := 0) (Nat.le_of_ble_eq_true rfl) (Nat.le_of_ble_eq_true rfl) ?_
  have hP9 := hP.sub (ws' := [(rd, .inr (7, [.ref rw, .ref rc, .int (nI (rC + 1)), .int 0, vA, .int 0, .int 0]))]) [0] rfl
  have hD9 := hD.sub (ws' := [(rd, .inr (7, [.ref rw, .ref rc, .int (nI (rC + 1)), .int 0, vA, .int 0, .int 0]))]) [0] (by decide) rfl
  exact W.vret hx hb hr (fun t ht hW => ⟨⟨(), rfl, trivial, ⟨by rw [ht]; exact hP9, hD9⟩⟩, hS.F ht⟩) hS.2.2 dX7_beginCase_25

theorem dX7_beginChance_0 : decode cX7_beginChance 0 = .ok (.aload_n 0, 1) := by decide +kernel
theorem dX7_beginChance_1 : decode cX7_beginChance 1 = .ok (.dup, 1) := by decide +kernel
theorem dX7_beginChance_2 : decode cX7_beginChance 2 = .ok (.getfield 42, 3) := by decide +kernel
theorem dX7_beginChance_5 : decode cX7_beginChance 5 = .ok (.iconst 1, 1) := by decide +kernel
theorem dX7_beginChance_6 : decode cX7_beginChance 6 = .ok (.iadd, 1) := by decide +kernel
theorem dX7_beginChance_7 : decode cX7_beginChance 7 = .ok (.putfield 42, 3) := by decide +kernel
theorem dX7_beginChance_10 : decode cX7_beginChance 10 = .ok (.aload_n 0, 1) := by decide +kernel
theorem dX7_beginChance_11 : decode cX7_beginChance 11 = .ok (.iconst 0, 1) := by decide +kernel
theorem dX7_beginChance_12 : decode cX7_beginChance 12 = .ok (.putfield 45, 3) := by decide +kernel
theorem dX7_beginChance_15 : decode cX7_beginChance 15 = .ok (.aload_n 0, 1) := by decide +kernel
theorem dX7_beginChance_16 : decode cX7_beginChance 16 = .ok (.iconst 0, 1) := by decide +kernel
theorem dX7_beginChance_17 : decode cX7_beginChance 17 = .ok (.putfield 67, 3) := by decide +kernel
theorem dX7_beginChance_20 : decode cX7_beginChance 20 = .ok (.return_, 1) := by decide +kernel

set_option maxHeartbeats 4000000 in
set_option maxRecDepth 100000 in
theorem r_beginChance (l : Launch) (D : va_G) (cs : Nat → ClassId) (rd : Nat) (rw : Nat) (rc : Nat) (rC : Nat) (rP : Nat) (rA : Nat) (rD : Int32) (rV : Int32) (hrC : rC ≤ 5) (hrP : rP ≤ 4) (hrA : rA ≤ 4) (sz : Nat) : Met l yX7_beginChance (Cond.code yX7_beginChance cX7_beginChance 1 none :: gw_tbl) ({ frames := 0, cells := 0, slots := 0, locals := 0 }) (pc_M D cs [(rd, .inr (7, [.ref rw, .ref rc, .int (nI rC), .int (nI rP), .int (nI rA), .int rD, .int rV]))] sz [.ref rd]) (va_Qv (fun (u : Unit) => True) (fun u t => va_P D vwCl [(rd, .inr (7, [.ref rw, .ref rc, .int (nI rC), .int (nI (rP + 1)), .int (nI rA), .int 0, .int 0]))] t.heap ∧ va_D (va_A [(rd, .inr (7, [.ref rw, .ref rc, .int (nI rC), .int (nI rP), .int (nI rA), .int rD, .int rV]))] sz) [(rd, .inr (7, [.ref rw, .ref rc, .int (nI rC), .int (nI (rP + 1)), .int (nI rA), .int 0, .int 0]))]) (va_A [(rd, .inr (7, [.ref rw, .ref rc, .int (nI rC), .int (nI rP), .int (nI rA), .int rD, .int rV]))] sz)) 0 0 (va_A [(rd, .inr (7, [.ref rw, .ref rc, .int (nI rC), .int (nI rP), .int (nI rA), .int rD, .int rV]))] sz) := by
  refine Met.ofW (cc := cX7_beginChance) (maxL := 1) (ret := none) (by decide) rfl ?_
  intro p e s m args below meth c s₁ B hml hv
  obtain ⟨hargs, hsz, hP, hK, hD0⟩ := hv
  have hx := B.exec
  have hb := B.bytes
  have hr := B.returns
  have hts := atoms_spec (ws := Cond.code yX7_beginChance cX7_beginChance 1 none :: gw_tbl) B.pre
  have hg := fun (w : Cond) (h : w ∈ gw_tbl) => hts w (List.mem_cons_of_mem _ h)
  have hown : s.vm.findClass RX7 = some m.cls := findClass_of_methodNamed B.named
  have hlocks := B.notSynchronized
  subst hsz
  have hD := hD0.self (sz := s.heap.size)
  generalize hAe : va_A [(rd, .inr (7, [.ref rw, .ref rc, .int (nI rC), .int (nI rP), .int (nI rA), .int rD, .int rV]))] s.heap.size = A at hD ⊢
  have hA : ∀ q : Nat, s.heap.size ≤ q → A q := fun q h => by rw [← hAe]; exact Or.inr h
  have hS : va_S A s.heap s.heap [] := va_S.rf
  have hP : va_P D vwCl [(rd, .inr (7, [.ref rw, .ref rc, .int (nI rC), .int (nI rP), .int (nI rA), .int rD, .int rV]))] s.heap := hP
  have hl := lv_entry ([.ref rd]) (n := 1) (Nat.le_of_ble_eq_true rfl)
  rw [show entryFrame m args 1 = F0 m 0 (lg_sl ([.ref rd]) ++ List.replicate (1 - (lg_sl ([.ref rd])).length) Slot.unset).toArray [] from by rw [hargs]; exact lg_entry_eq ..]
  generalize (lg_sl ([.ref rd]) ++ List.replicate (1 - (lg_sl ([.ref rd])).length) Slot.unset).toArray = ls at hl ⊢
  have hl : lv_has ls 1 [(0, .ref rd)] := hl
  refine W_genQ (fun Q hQ => ?_)
  refine lv_aload_n hx hb dX7_beginChance_0 rfl (lv_at hl 0 rfl) ?_
  refine lv_dup hx hb dX7_beginChance_1 rfl ?_
  refine va_get (D := D) (ci := 7) (v := .int (nI rP)) (C := RX7) (T := TX7) (N := 7) hx hb hg gwX7 hown hK hP 0 rfl rfl 3 (by decide) (hg _ kw_58) (fun _ h9 => h9) rfl dX7_beginChance_2 ?_
  refine lv_iconst (v := 1) hx hb dX7_beginChance_5 (by decide) ?_
  refine lv_iadd hx hb dX7_beginChance_6 ?_
  refine lv_topi (fun z_6 e_6 => ?_)
  obtain rfl : z_6 = nI (rP + 1) := e_6.trans (nI_add _ _)
  refine va_put (D := D) (ci := 7) (v := .int (nI (rP + 1))) (ty := .int) (C := RX7) (T := TX7) (N := 7) hx hb hg gwX7 tyX7 tyX7_ok nmX7 hown hK hP hD hS 0 rfl rfl 3 (by decide) (hg _ kw_58) (fun _ h9 => h9) rfl (by decide +kernel) rfl rfl (Nat.le_of_ble_eq_true rfl) dX7_beginChance_7 (fun H locs hP hD hS => ?_)
  have hP : va_P D vwCl [(rd, .inr (7, [.ref rw, .ref rc, .int (nI rC), .int (nI (rP + 1)), .int (nI rA), .int rD, .int rV]))] H := hP
  have hD : va_D A [(rd, .inr (7, [.ref rw, .ref rc, .int (nI rC), .int (nI (rP + 1)), .int (nI rA), .int rD, .int rV]))] := hD
  refine lv_aload_n hx hb dX7_beginChance_10 rfl (lv_at hl 0 rfl) ?_
  refine lv_iconst (v := 0) hx hb dX7_beginChance_11 (by decide) ?_
  refine va_put (D := D) (ci := 7) (v := .int 0) (ty := .int) (C := RX7) (T := TX7) (N := 7) hx hb hg gwX7 tyX7 tyX7_ok nmX7 hown hK hP hD hS 0 rfl rfl 5 (by decide) (hg _ kw_49) (fun _ h9 => h9) rfl (by decide +kernel) rfl rfl (Nat.le_of_ble_eq_true rfl) dX7_beginChance_12 (fun H locs hP hD hS => ?_)
  have hP : va_P D vwCl [(rd, .inr (7, [.ref rw, .ref rc, .int (nI rC), .int (nI (rP + 1)), .int (nI rA), .int 0, .int rV]))] H := hP
  have hD : va_D A [(rd, .inr (7, [.ref rw, .ref rc, .int (nI rC), .int (nI (rP + 1)), .int (nI rA), .int 0, .int rV]))] := hD
  refine lv_aload_n hx hb dX7_beginChance_15 rfl (lv_at hl 0 rfl) ?_
  refine lv_iconst (v := 0) hx hb dX7_beginChance_16 (by decide) ?_
  refine va_put (D := D) (ci := 7) (v := .int 0) (ty := .int) (C := RX7) (T := TX7) (N := 7) hx hb hg gwX7 tyX7 tyX7_ok nmX7 hown hK hP hD hS 0 rfl rfl 6 (by decide) (hg _ kw_48) (fun _ h9 => h9) rfl (by decide +kernel) rfl rfl (Nat.le_of_ble_eq_true rfl) dX7_beginChance_17 (fun H locs hP hD hS => ?_)
  have hP : va_P D vwCl [(rd, .inr (7, [.ref rw, .ref rc, .int (nI rC), .int (nI (rP + 1)), .int (nI rA), .int 0, .int 0]))] H := hP
  have hD : va_D A [(rd, .inr (7, [.ref rw, .ref rc, .int (nI rC), .int (nI (rP + 1)), .int (nI rA), .int 0, .int 0]))] := hD
  refine W_sQ hQ ?_
  refine W.widen (k := 0) (n := 0) (Nat.le_of_ble_eq_true rfl) (Nat.le_of_ble_eq_true rfl) ?_
  have hP9 := hP.sub (ws' := [(rd, .inr (7, [.ref rw, .ref rc, .int (nI rC), .int (nI (rP + 1)), .int (nI rA), .int 0, .int 0]))]) [0] rfl
  have hD9 := hD.sub (ws' := [(rd, .inr (7, [.ref rw, .ref rc, .int (nI rC), .int (nI (rP + 1)), .int (nI rA), .int 0, .int 0]))]) [0] (by decide) rfl
  exact W.vret hx hb hr (fun t ht hW => ⟨⟨(), rfl, trivial, ⟨by rw [ht]; exact hP9, hD9⟩⟩, hS.F ht⟩) hS.2.2 dX7_beginChance_20

theorem dX7_mayEndCase_0 : decode cX7_mayEndCase 0 = .ok (.aload_n 0, 1) := by decide +kernel
theorem dX7_mayEndCase_1 : decode cX7_mayEndCase 1 = .ok (.getfield 20, 3) := by decide +kernel
theorem dX7_mayEndCase_4 : decode cX7_mayEndCase 4 = .ok (.ifCond .ne 19, 3) := by decide +kernel
theorem dX7_mayEndCase_7 : decode cX7_mayEndCase 7 = .ok (.aload_n 0, 1) := by decide +kernel
theorem dX7_mayEndCase_8 : decode cX7_mayEndCase 8 = .ok (.getfield 42, 3) := by decide +kernel
theorem dX7_mayEndCase_11 : decode cX7_mayEndCase 11 = .ok (.iconst 2, 1) := by decide +kernel
theorem dX7_mayEndCase_12 : decode cX7_mayEndCase 12 = .ok (.if_icmp .lt 7, 3) := by decide +kernel
theorem dX7_mayEndCase_15 : decode cX7_mayEndCase 15 = .ok (.iconst 1, 1) := by decide +kernel
theorem dX7_mayEndCase_16 : decode cX7_mayEndCase 16 = .ok (.goto 23, 3) := by decide +kernel
theorem dX7_mayEndCase_19 : decode cX7_mayEndCase 19 = .ok (.iconst 0, 1) := by decide +kernel
theorem dX7_mayEndCase_20 : decode cX7_mayEndCase 20 = .ok (.goto 19, 3) := by decide +kernel
theorem dX7_mayEndCase_23 : decode cX7_mayEndCase 23 = .ok (.aload_n 0, 1) := by decide +kernel
theorem dX7_mayEndCase_24 : decode cX7_mayEndCase 24 = .ok (.getfield 42, 3) := by decide +kernel
theorem dX7_mayEndCase_27 : decode cX7_mayEndCase 27 = .ok (.aload_n 0, 1) := by decide +kernel
theorem dX7_mayEndCase_28 : decode cX7_mayEndCase 28 = .ok (.getfield 20, 3) := by decide +kernel
theorem dX7_mayEndCase_31 : decode cX7_mayEndCase 31 = .ok (.if_icmp .ne 7, 3) := by decide +kernel
theorem dX7_mayEndCase_34 : decode cX7_mayEndCase 34 = .ok (.iconst 1, 1) := by decide +kernel
theorem dX7_mayEndCase_35 : decode cX7_mayEndCase 35 = .ok (.goto 4, 3) := by decide +kernel
theorem dX7_mayEndCase_38 : decode cX7_mayEndCase 38 = .ok (.iconst 0, 1) := by decide +kernel
theorem dX7_mayEndCase_39 : decode cX7_mayEndCase 39 = .ok (.ireturn, 1) := by decide +kernel
theorem kw_59 : (.fieldLink RX7 20 "NobodyChecks$Reader" "agreed" "I" : Cond) ∈ gw_tbl := gw_in (by decide +kernel) (by decide +kernel)

set_option maxHeartbeats 4000000 in
set_option maxRecDepth 100000 in
theorem r_mayEndCase (l : Launch) (D : va_G) (cs : Nat → ClassId) (rd : Nat) (rw : Nat) (rc : Nat) (rC : Nat) (rP : Nat) (rA : Nat) (rD : Int32) (rV : Int32) (hrC : rC ≤ 5) (hrP : rP ≤ 4) (hrA : rA ≤ 4) : Met l yX7_mayEndCase (Cond.code yX7_mayEndCase cX7_mayEndCase 1 (some .boolean) :: gw_tbl) ({ frames := 0, cells := 0, slots := 0, locals := 0 }) (pc_S D cs [(rd, .inr (7, [.ref rw, .ref rc, .int (nI rC), .int (nI rP), .int (nI rA), .int rD, .int rV]))] [.ref rd]) (vp_Si (fun r => r = 0 ∨ r = 1)) 0 0 (fun _ => False) := by
  refine Met.ofW (cc := cX7_mayEndCase) (maxL := 1) (ret := (some .boolean)) (by decide) rfl ?_
  intro p e s m args below meth c s₁ B hml hv
  obtain ⟨hargs, hP, hK⟩ := hv
  have hx := B.exec
  have hb := B.bytes
  have hr := B.returns
  have hts := atoms_spec (ws := Cond.code yX7_mayEndCase cX7_mayEndCase 1 (some .boolean) :: gw_tbl) B.pre
  have hg := fun (w : Cond) (h : w ∈ gw_tbl) => hts w (List.mem_cons_of_mem _ h)
  have hown : s.vm.findClass RX7 = some m.cls := findClass_of_methodNamed B.named
  have hlocks := B.notSynchronized
  have hl := lv_entry ([.ref rd]) (n := 1) (Nat.le_of_ble_eq_true rfl)
  rw [show entryFrame m args 1 = F0 m 0 (lg_sl ([.ref rd]) ++ List.replicate (1 - (lg_sl ([.ref rd])).length) Slot.unset).toArray [] from by rw [hargs]; exact lg_entry_eq ..]
  generalize (lg_sl ([.ref rd]) ++ List.replicate (1 - (lg_sl ([.ref rd])).length) Slot.unset).toArray = ls at hl ⊢
  have hl : lv_has ls 1 [(0, .ref rd)] := hl
  refine W_genQ (fun Q hQ => ?_)
  refine lv_aload_n hx hb dX7_mayEndCase_0 rfl (lv_at hl 0 rfl) ?_
  refine va_get (D := D) (ci := 7) (v := .int (nI rA)) (C := RX7) (T := TX7) (N := 7) hx hb hg gwX7 hown hK hP 0 rfl rfl 4 (by decide) (hg _ kw_59) (fun _ h9 => h9) rfl dX7_mayEndCase_1 ?_
  refine lv_if_ne (tgt := 23) hx hb dX7_mayEndCase_4 (by decide) (fun c_4 => ?_) (fun c_4 => ?_)
  · have n_4 : ¬ rA = 0 := b_eq_f (by omega) (by omega) c_4
    refine lv_aload_n hx hb dX7_mayEndCase_23 rfl (lv_at hl 0 rfl) ?_
    refine va_get (D := D) (ci := 7) (v := .int (nI rP)) (C := RX7) (T := TX7) (N := 7) hx hb hg gwX7 hown hK hP 0 rfl rfl 3 (by decide) (hg _ kw_58) (fun _ h9 => h9) rfl dX7_mayEndCase_24 ?_
    refine lv_aload_n hx hb dX7_mayEndCase_27 rfl (lv_at hl 0 rfl) ?_
    refine va_get (D := D) (ci := 7) (v := .int (nI rA)) (C := RX7) (T := TX7) (N := 7) hx hb hg gwX7 hown hK hP 0 rfl rfl 4 (by decide) (hg _ kw_59) (fun _ h9 => h9) rfl dX7_mayEndCase_28 ?_
    refine lv_icmp_ne (tgt := 38) hx hb dX7_mayEndCase_31 (by decide) (fun c_31 => ?_) (fun c_31 => ?_)
    · have n_31 : ¬ rP = rA := b_eq_f (by omega) (by omega) c_31
      refine lv_iconst (v := 0) hx hb dX7_mayEndCase_38 (by decide) ?_
      refine W_sQ hQ ?_
      exact W.zret (v := 0) hx hb hr (by decide) (fun t ht hW => ⟨0, rfl, (Or.inl rfl), ht⟩) (fun _ h => absurd h List.not_mem_nil) dX7_mayEndCase_39
    · have n_31 : rP = rA := b_eq_t (by omega) (by omega) c_31
      refine lv_iconst (v := 1) hx hb dX7_mayEndCase_34 (by decide) ?_
      refine lv_goto (tgt := 39) hx hb dX7_mayEndCase_35 (by decide) ?_
      refine W_sQ hQ ?_
      exact W.zret (v := 1) hx hb hr (by decide) (fun t ht hW => ⟨1, rfl, (Or.inr rfl), ht⟩) (fun _ h => absurd h List.not_mem_nil) dX7_mayEndCase_39
  · have n_4 : rA = 0 := b_eq_t (by omega) (by omega) c_4
    refine lv_aload_n hx hb dX7_mayEndCase_7 rfl (lv_at hl 0 rfl) ?_
    refine va_get (D := D) (ci := 7) (v := .int (nI rP)) (C := RX7) (T := TX7) (N := 7) hx hb hg gwX7 hown hK hP 0 rfl rfl 3 (by decide) (hg _ kw_58) (fun _ h9 => h9) rfl dX7_mayEndCase_8 ?_
    refine lv_iconst (v := 2) hx hb dX7_mayEndCase_11 (by decide) ?_
    refine lv_icmp_lt (tgt := 19) hx hb dX7_mayEndCase_12 (by decide) (fun c_12 => ?_) (fun c_12 => ?_)
    · have n_12 : rP < 2 := b_lt_t (by omega) (by omega) c_12
      refine lv_iconst (v := 0) hx hb dX7_mayEndCase_19 (by decide) ?_
      refine lv_goto (tgt := 39) hx hb dX7_mayEndCase_20 (by decide) ?_
      refine W_sQ hQ ?_
      exact W.zret (v := 0) hx hb hr (by decide) (fun t ht hW => ⟨0, rfl, (Or.inl rfl), ht⟩) (fun _ h => absurd h List.not_mem_nil) dX7_mayEndCase_39
    · have n_12 : 2 ≤ rP := b_lt_f (by omega) (by omega) c_12
      refine lv_iconst (v := 1) hx hb dX7_mayEndCase_15 (by decide) ?_
      refine lv_goto (tgt := 39) hx hb dX7_mayEndCase_16 (by decide) ?_
      refine W_sQ hQ ?_
      exact W.zret (v := 1) hx hb hr (by decide) (fun t ht hW => ⟨1, rfl, (Or.inr rfl), ht⟩) (fun _ h => absurd h List.not_mem_nil) dX7_mayEndCase_39

theorem dX7_endsWeight_0 : decode cX7_endsWeight 0 = .ok (.aload_n 0, 1) := by decide +kernel
theorem dX7_endsWeight_1 : decode cX7_endsWeight 1 = .ok (.getfield 42, 3) := by decide +kernel
theorem dX7_endsWeight_4 : decode cX7_endsWeight 4 = .ok (.ifCond .gt 10, 3) := by decide +kernel
theorem dX7_endsWeight_7 : decode cX7_endsWeight 7 = .ok (.aload_n 0, 1) := by decide +kernel
theorem dX7_endsWeight_8 : decode cX7_endsWeight 8 = .ok (.getfield 67, 3) := by decide +kernel
theorem dX7_endsWeight_11 : decode cX7_endsWeight 11 = .ok (.ifCond .ne 5, 3) := by decide +kernel
theorem dX7_endsWeight_14 : decode cX7_endsWeight 14 = .ok (.iconst 0, 1) := by decide +kernel
theorem dX7_endsWeight_15 : decode cX7_endsWeight 15 = .ok (.ireturn, 1) := by decide +kernel
theorem dX7_endsWeight_16 : decode cX7_endsWeight 16 = .ok (.aload_n 0, 1) := by decide +kernel
theorem dX7_endsWeight_17 : decode cX7_endsWeight 17 = .ok (.invokevirtual 74, 3) := by decide +kernel
theorem dX7_endsWeight_20 : decode cX7_endsWeight 20 = .ok (.iconst 1, 1) := by decide +kernel
theorem dX7_endsWeight_21 : decode cX7_endsWeight 21 = .ok (.ireturn, 1) := by decide +kernel
theorem kw_60 : (.code yX7_beginChance cX7_beginChance 1 none : Cond) ∈ gw_tbl := gw_in (by decide +kernel) (by decide +kernel)
theorem kw_61 : (.methodLink RX7 74 yX7_beginChance : Cond) ∈ gw_tbl := gw_in (by decide +kernel) (by decide +kernel)
theorem kw_62 : (.instanceMethod yX7_beginChance : Cond) ∈ gw_tbl := gw_in (by decide +kernel) (by decide +kernel)
theorem kw_63 : (.selects RX7 yX7_beginChance yX7_beginChance : Cond) ∈ gw_tbl := gw_in (by decide +kernel) (by decide +kernel)

set_option maxHeartbeats 4000000 in
set_option maxRecDepth 100000 in
theorem r_endsWeight (l : Launch) (D : va_G) (cs : Nat → ClassId) (rd : Nat) (rw : Nat) (rc : Nat) (c1 : Nat) (rP : Nat) (rA : Nat) (rD : Int32) (rV : Int32) (hc1 : c1 ≤ 4) (hrP : rP ≤ 4) (hrA : rA ≤ 4) (sz : Nat) : Met l yX7_endsWeight (Cond.code yX7_endsWeight cX7_endsWeight 1 (some .boolean) :: gw_tbl) ({ frames := 1, cells := 0, slots := 0, locals := 20 }) (pc_M D cs [(rd, .inr (7, [.ref rw, .ref rc, .int (nI (c1 + 1)), .int (nI rP), .int (nI rA), .int rD, .int rV]))] sz [.ref rd]) (va_Qi (fun (r : Int32) (u : Unit) => r = 0 ∨ r = 1) (fun u t => ∃ (c2 : Nat), ∃ (rP2 : Nat), ∃ (rA2 : Nat), ∃ (rD2 : Int32), ∃ (rV2 : Int32), (c2 ≤ 4) ∧ (rP2 ≤ 4) ∧ (rA2 ≤ 4) ∧ va_P D vwCl [(rd, .inr (7, [.ref rw, .ref rc, .int (nI (c2 + 1)), .int (nI rP2), .int (nI rA2), .int rD2, .int rV2]))] t.heap ∧ va_D (va_A [(rd, .inr (7, [.ref rw, .ref rc, .int (nI (c1 + 1)), .int (nI rP), .int (nI rA), .int rD, .int rV]))] sz) [(rd, .inr (7, [.ref rw, .ref rc, .int (nI (c2 + 1)), .int (nI rP2), .int (nI rA2), .int rD2, .int rV2]))]) (va_A [(rd, .inr (7, [.ref rw, .ref rc, .int (nI (c1 + 1)), .int (nI rP), .int (nI rA), .int rD, .int rV]))] sz)) 0 0 (va_A [(rd, .inr (7, [.ref rw, .ref rc, .int (nI (c1 + 1)), .int (nI rP), .int (nI rA), .int rD, .int rV]))] sz) := by
  refine Met.ofW (cc := cX7_endsWeight) (maxL := 1) (ret := (some .boolean)) (by decide) rfl ?_
  intro p e s m args below meth c s₁ B hml hv
  obtain ⟨hargs, hsz, hP, hK, hD0⟩ := hv
  have hx := B.exec
  have hb := B.bytes
  have hr := B.returns
  have hts := atoms_spec (ws := Cond.code yX7_endsWeight cX7_endsWeight 1 (some .boolean) :: gw_tbl) B.pre
  have hg := fun (w : Cond) (h : w ∈ gw_tbl) => hts w (List.mem_cons_of_mem _ h)
  have hown : s.vm.findClass RX7 = some m.cls := findClass_of_methodNamed B.named
  have hlocks := B.notSynchronized
  subst hsz
  have hD := hD0.self (sz := s.heap.size)
  generalize hAe : va_A [(rd, .inr (7, [.ref rw, .ref rc, .int (nI (c1 + 1)), .int (nI rP), .int (nI rA), .int rD, .int rV]))] s.heap.size = A at hD ⊢
  have hA : ∀ q : Nat, s.heap.size ≤ q → A q := fun q h => by rw [← hAe]; exact Or.inr h
  have hS : va_S A s.heap s.heap [] := va_S.rf
  have hP : va_P D vwCl [(rd, .inr (7, [.ref rw, .ref rc, .int (nI (c1 + 1)), .int (nI rP), .int (nI rA), .int rD, .int rV]))] s.heap := hP
  have hl := lv_entry ([.ref rd]) (n := 1) (Nat.le_of_ble_eq_true rfl)
  rw [show entryFrame m args 1 = F0 m 0 (lg_sl ([.ref rd]) ++ List.replicate (1 - (lg_sl ([.ref rd])).length) Slot.unset).toArray [] from by rw [hargs]; exact lg_entry_eq ..]
  generalize (lg_sl ([.ref rd]) ++ List.replicate (1 - (lg_sl ([.ref rd])).length) Slot.unset).toArray = ls at hl ⊢
  have hl : lv_has ls 1 [(0, .ref rd)] := hl
  refine W_genQ (fun Q hQ => ?_)
  refine lv_aload_n hx hb dX7_endsWeight_0 rfl (lv_at hl 0 rfl) ?_
  refine va_get (D := D) (ci := 7) (v := .int (nI rP)) (C := RX7) (T := TX7) (N := 7) hx hb hg gwX7 hown hK hP 0 rfl rfl 3 (by decide) (hg _ kw_58) (fun _ h9 => h9) rfl dX7_endsWeight_1 ?_
  refine lv_if_gt (tgt := 14) hx hb dX7_endsWeight_4 (by decide) (fun c_4 => ?_) (fun c_4 => ?_)
  · have n_4 : 0 < rP := b_lt_t (by omega) (by omega) c_4
    refine lv_iconst (v := 0) hx hb dX7_endsWeight_14 (by decide) ?_
    refine W_sQ hQ ?_
    refine W.widen (k := 0) (n := 0) (Nat.le_of_ble_eq_true rfl) (Nat.le_of_ble_eq_true rfl) ?_
    have hP9 := hP.sub (ws' := [(rd, .inr (7, [.ref rw, .ref rc, .int (nI (c1 + 1)), .int (nI rP), .int (nI rA), .int rD, .int rV]))]) [0] rfl
    have hD9 := hD.sub (ws' := [(rd, .inr (7, [.ref rw, .ref rc, .int (nI (c1 + 1)), .int (nI rP), .int (nI rA), .int rD, .int rV]))]) [0] (by decide) rfl
    exact W.zret (v := 0) hx hb hr (by decide) (fun t ht hW => ⟨⟨0, (), rfl, (Or.inl rfl), ⟨c1, rP, rA, rD, rV, (by omega), (by omega), (by omega), by rw [ht]; exact hP9, hD9⟩⟩, hS.F ht⟩) hS.2.2 dX7_endsWeight_15
  · have n_4 : rP ≤ 0 := b_lt_f (by omega) (by omega) c_4
    refine lv_aload_n hx hb dX7_endsWeight_7 rfl (lv_at hl 0 rfl) ?_
    refine va_get (D := D) (ci := 7) (v := .int rV) (C := RX7) (T := TX7) (N := 7) hx hb hg gwX7 hown hK hP 0 rfl rfl 6 (by decide) (hg _ kw_48) (fun _ h9 => h9) rfl dX7_endsWeight_8 ?_
    refine lv_if_ne (tgt := 16) hx hb dX7_endsWeight_11 (by decide) (fun c_11 => ?_) (fun c_11 => ?_)
    · refine lv_aload_n hx hb dX7_endsWeight_16 rfl (lv_at hl 0 rfl) ?_
      have hPc := hP.sub (ws' := [(rd, .inr (7, [.ref rw, .ref rc, .int (nI (c1 + 1)), .int (nI rP), .int (nI rA), .int rD, .int rV]))]) [0] rfl
      have hDc := hD.sub (ws' := [(rd, .inr (7, [.ref rw, .ref rc, .int (nI (c1 + 1)), .int (nI rP), .int (nI rA), .int rD, .int rV]))]) [0] (by decide) rfl
      have hFc := va_free (wc := [(rd, .inr (7, [.ref rw, .ref rc, .int (nI (c1 + 1)), .int (nI rP), .int (nI rA), .int rD, .int rV]))]) hD hS hA [0] rfl
      refine va_callv (va_runV (As := []) (rest := []) ⟨hx, hb, hml, hown, hg⟩ (r_beginChance l D cs rd rw rc (c1 + 1) rP rA rD rV (by omega) (by omega) (by omega) _) (cwV 0 hg (gw_V kw_61 kw_62 kw_63 kw_54 kw_60) rfl rfl rfl (by decide +kernel) ⟨(Nat.le_of_ble_eq_true rfl), (Nat.le_of_ble_eq_true rfl)⟩) (pr_MV (q := (RX7, TX7, 7)) 7 0 hK hPc hDc rfl rfl) rfl rfl hl.1 rfl (lv_room (Nat.le_of_ble_eq_true rfl)) dX7_endsWeight_17 ⟨(Nat.le_of_ble_eq_true rfl), (Nat.le_of_ble_eq_true rfl)⟩) hS (fun q _ h => hFc q h) hFc (fun u t H1 locs ht hvm h_17 hB hz1 hk1 hS => ?_)
      obtain ⟨hP1, hD1⟩ := hB
      rw [ht] at hP1
      obtain ⟨hP, hD⟩ := va_join (wr := []) (w1 := [(rd, .inr (7, [.ref rw, .ref rc, .int (nI (c1 + 1)), .int (nI (rP + 1)), .int (nI rA), .int 0, .int 0]))]) hP hD [0] [] rfl rfl (by decide) (by decide) hk1 hFc hP1 hD1
      generalize H1 = H at hP hS ⊢
      have hP : va_P D vwCl [(rd, .inr (7, [.ref rw, .ref rc, .int (nI (c1 + 1)), .int (nI (rP + 1)), .int (nI rA), .int 0, .int 0]))] H := hP
      have hD : va_D A [(rd, .inr (7, [.ref rw, .ref rc, .int (nI (c1 + 1)), .int (nI (rP + 1)), .int (nI rA), .int 0, .int 0]))] := hD
      refine W.cs (cells' := 0) (slots' := 0) rfl rfl ?_
      refine lv_iconst (v := 1) hx hb dX7_endsWeight_20 (by decide) ?_
      refine W_sQ hQ ?_
      refine W.widen (k := 0) (n := 0) (Nat.le_of_ble_eq_true rfl) (Nat.le_of_ble_eq_true rfl) ?_
      have hP9 := hP.sub (ws' := [(rd, .inr (7, [.ref rw, .ref rc, .int (nI (c1 + 1)), .int (nI (rP + 1)), .int (nI rA), .int 0, .int 0]))]) [0] rfl
      have hD9 := hD.sub (ws' := [(rd, .inr (7, [.ref rw, .ref rc, .int (nI (c1 + 1)), .int (nI (rP + 1)), .int (nI rA), .int 0, .int 0]))]) [0] (by decide) rfl
      exact W.zret (v := 1) hx hb hr (by decide) (fun t ht hW => ⟨⟨1, (), rfl, (Or.inr rfl), ⟨c1, rP + 1, rA, 0, 0, (by omega), (by omega), (by omega), by rw [ht]; exact hP9, hD9⟩⟩, hS.F ht⟩) hS.2.2 dX7_endsWeight_21
    · refine lv_iconst (v := 0) hx hb dX7_endsWeight_14 (by decide) ?_
      refine W_sQ hQ ?_
      refine W.widen (k := 0) (n := 0) (Nat.le_of_ble_eq_true rfl) (Nat.le_of_ble_eq_true rfl) ?_
      have hP9 := hP.sub (ws' := [(rd, .inr (7, [.ref rw, .ref rc, .int (nI (c1 + 1)), .int (nI rP), .int (nI rA), .int rD, .int rV]))]) [0] rfl
      have hD9 := hD.sub (ws' := [(rd, .inr (7, [.ref rw, .ref rc, .int (nI (c1 + 1)), .int (nI rP), .int (nI rA), .int rD, .int rV]))]) [0] (by decide) rfl
      exact W.zret (v := 0) hx hb hr (by decide) (fun t ht hW => ⟨⟨0, (), rfl, (Or.inl rfl), ⟨c1, rP, rA, rD, rV, (by omega), (by omega), (by omega), by rw [ht]; exact hP9, hD9⟩⟩, hS.F ht⟩) hS.2.2 dX7_endsWeight_15

theorem dX7_endsChance_0 : decode cX7_endsChance 0 = .ok (.aload_n 0, 1) := by decide +kernel
theorem dX7_endsChance_1 : decode cX7_endsChance 1 = .ok (.getfield 20, 3) := by decide +kernel
theorem dX7_endsChance_4 : decode cX7_endsChance 4 = .ok (.ifCond .ne 7, 3) := by decide +kernel
theorem dX7_endsChance_7 : decode cX7_endsChance 7 = .ok (.iconst 4, 1) := by decide +kernel
theorem dX7_endsChance_8 : decode cX7_endsChance 8 = .ok (.goto 7, 3) := by decide +kernel
theorem dX7_endsChance_11 : decode cX7_endsChance 11 = .ok (.aload_n 0, 1) := by decide +kernel
theorem dX7_endsChance_12 : decode cX7_endsChance 12 = .ok (.getfield 20, 3) := by decide +kernel
theorem dX7_endsChance_15 : decode cX7_endsChance 15 = .ok (.istore_n 1, 1) := by decide +kernel
theorem dX7_endsChance_16 : decode cX7_endsChance 16 = .ok (.aload_n 0, 1) := by decide +kernel
theorem dX7_endsChance_17 : decode cX7_endsChance 17 = .ok (.getfield 42, 3) := by decide +kernel
theorem dX7_endsChance_20 : decode cX7_endsChance 20 = .ok (.ifCond .eq 11, 3) := by decide +kernel
theorem dX7_endsChance_23 : decode cX7_endsChance 23 = .ok (.aload_n 0, 1) := by decide +kernel
theorem dX7_endsChance_24 : decode cX7_endsChance 24 = .ok (.getfield 42, 3) := by decide +kernel
theorem dX7_endsChance_27 : decode cX7_endsChance 27 = .ok (.iload_n 1, 1) := by decide +kernel
theorem dX7_endsChance_28 : decode cX7_endsChance 28 = .ok (.if_icmp .lt 5, 3) := by decide +kernel
theorem dX7_endsChance_31 : decode cX7_endsChance 31 = .ok (.iconst 0, 1) := by decide +kernel
theorem dX7_endsChance_32 : decode cX7_endsChance 32 = .ok (.ireturn, 1) := by decide +kernel
theorem dX7_endsChance_33 : decode cX7_endsChance 33 = .ok (.aload_n 0, 1) := by decide +kernel
theorem dX7_endsChance_34 : decode cX7_endsChance 34 = .ok (.invokevirtual 74, 3) := by decide +kernel
theorem dX7_endsChance_37 : decode cX7_endsChance 37 = .ok (.iconst 1, 1) := by decide +kernel
theorem dX7_endsChance_38 : decode cX7_endsChance 38 = .ok (.ireturn, 1) := by decide +kernel

set_option maxHeartbeats 4000000 in
set_option maxRecDepth 100000 in
theorem r_endsChance (l : Launch) (D : va_G) (cs : Nat → ClassId) (rd : Nat) (rw : Nat) (rc : Nat) (c1 : Nat) (rP : Nat) (rA : Nat) (rD : Int32) (rV : Int32) (hc1 : c1 ≤ 4) (hrP : rP ≤ 4) (hrA : rA ≤ 4) (sz : Nat) : Met l yX7_endsChance (Cond.code yX7_endsChance cX7_endsChance 2 (some .boolean) :: gw_tbl) ({ frames := 1, cells := 0, slots := 0, locals := 20 }) (pc_M D cs [(rd, .inr (7, [.ref rw, .ref rc, .int (nI (c1 + 1)), .int (nI rP), .int (nI rA), .int rD, .int rV]))] sz [.ref rd]) (va_Qi (fun (r : Int32) (u : Unit) => r = 0 ∨ r = 1) (fun u t => ∃ (c2 : Nat), ∃ (rP2 : Nat), ∃ (rA2 : Nat), ∃ (rD2 : Int32), ∃ (rV2 : Int32), (c2 ≤ 4) ∧ (rP2 ≤ 4) ∧ (rA2 ≤ 4) ∧ va_P D vwCl [(rd, .inr (7, [.ref rw, .ref rc, .int (nI (c2 + 1)), .int (nI rP2), .int (nI rA2), .int rD2, .int rV2]))] t.heap ∧ va_D (va_A [(rd, .inr (7, [.ref rw, .ref rc, .int (nI (c1 + 1)), .int (nI rP), .int (nI rA), .int rD, .int rV]))] sz) [(rd, .inr (7, [.ref rw, .ref rc, .int (nI (c2 + 1)), .int (nI rP2), .int (nI rA2), .int rD2, .int rV2]))]) (va_A [(rd, .inr (7, [.ref rw, .ref rc, .int (nI (c1 + 1)), .int (nI rP), .int (nI rA), .int rD, .int rV]))] sz)) 0 0 (va_A [(rd, .inr (7, [.ref rw, .ref rc, .int (nI (c1 + 1)), .int (nI rP), .int (nI rA), .int rD, .int rV]))] sz) := by
  refine Met.ofW (cc := cX7_endsChance) (maxL := 2) (ret := (some .boolean)) (by decide) rfl ?_
  intro p e s m args below meth c s₁ B hml hv
  obtain ⟨hargs, hsz, hP, hK, hD0⟩ := hv
  have hx := B.exec
  have hb := B.bytes
  have hr := B.returns
  have hts := atoms_spec (ws := Cond.code yX7_endsChance cX7_endsChance 2 (some .boolean) :: gw_tbl) B.pre
  have hg := fun (w : Cond) (h : w ∈ gw_tbl) => hts w (List.mem_cons_of_mem _ h)
  have hown : s.vm.findClass RX7 = some m.cls := findClass_of_methodNamed B.named
  have hlocks := B.notSynchronized
  subst hsz
  have hD := hD0.self (sz := s.heap.size)
  generalize hAe : va_A [(rd, .inr (7, [.ref rw, .ref rc, .int (nI (c1 + 1)), .int (nI rP), .int (nI rA), .int rD, .int rV]))] s.heap.size = A at hD ⊢
  have hA : ∀ q : Nat, s.heap.size ≤ q → A q := fun q h => by rw [← hAe]; exact Or.inr h
  have hS : va_S A s.heap s.heap [] := va_S.rf
  have hP : va_P D vwCl [(rd, .inr (7, [.ref rw, .ref rc, .int (nI (c1 + 1)), .int (nI rP), .int (nI rA), .int rD, .int rV]))] s.heap := hP
  have hl := lv_entry ([.ref rd]) (n := 2) (Nat.le_of_ble_eq_true rfl)
  rw [show entryFrame m args 2 = F0 m 0 (lg_sl ([.ref rd]) ++ List.replicate (2 - (lg_sl ([.ref rd])).length) Slot.unset).toArray [] from by rw [hargs]; exact lg_entry_eq ..]
  generalize (lg_sl ([.ref rd]) ++ List.replicate (2 - (lg_sl ([.ref rd])).length) Slot.unset).toArray = ls at hl ⊢
  have hl : lv_has ls 2 [(0, .ref rd)] := hl
  refine W_genQ (fun Q hQ => ?_)
  refine lv_aload_n hx hb dX7_endsChance_0 rfl (lv_at hl 0 rfl) ?_
  refine va_get (D := D) (ci := 7) (v := .int (nI rA)) (C := RX7) (T := TX7) (N := 7) hx hb hg gwX7 hown hK hP 0 rfl rfl 4 (by decide) (hg _ kw_59) (fun _ h9 => h9) rfl dX7_endsChance_1 ?_
  refine lv_if_ne (tgt := 11) hx hb dX7_endsChance_4 (by decide) (fun c_4 => ?_) (fun c_4 => ?_)
  · have n_4 : ¬ rA = 0 := b_eq_f (by omega) (by omega) c_4
    refine lv_aload_n hx hb dX7_endsChance_11 rfl (lv_at hl 0 rfl) ?_
    refine va_get (D := D) (ci := 7) (v := .int (nI rA)) (C := RX7) (T := TX7) (N := 7) hx hb hg gwX7 hown hK hP 0 rfl rfl 4 (by decide) (hg _ kw_59) (fun _ h9 => h9) rfl dX7_endsChance_12 ?_
    refine lv_istore_n (lv' := [(1, .int (nI rA)), (0, .ref rd)]) hx hb dX7_endsChance_15 rfl hl (by decide) rfl (fun ls hl => ?_)
    refine lv_aload_n hx hb dX7_endsChance_16 rfl (lv_at hl 1 rfl) ?_
    refine va_get (D := D) (ci := 7) (v := .int (nI rP)) (C := RX7) (T := TX7) (N := 7) hx hb hg gwX7 hown hK hP 0 rfl rfl 3 (by decide) (hg _ kw_58) (fun _ h9 => h9) rfl dX7_endsChance_17 ?_
    refine lv_if_eq (tgt := 31) hx hb dX7_endsChance_20 (by decide) (fun c_20 => ?_) (fun c_20 => ?_)
    · have n_20 : rP = 0 := b_eq_t (by omega) (by omega) c_20
      refine lv_iconst (v := 0) hx hb dX7_endsChance_31 (by decide) ?_
      refine W_sQ hQ ?_
      refine W.widen (k := 0) (n := 0) (Nat.le_of_ble_eq_true rfl) (Nat.le_of_ble_eq_true rfl) ?_
      have hP9 := hP.sub (ws' := [(rd, .inr (7, [.ref rw, .ref rc, .int (nI (c1 + 1)), .int (nI rP), .int (nI rA), .int rD, .int rV]))]) [0] rfl
      have hD9 := hD.sub (ws' := [(rd, .inr (7, [.ref rw, .ref rc, .int (nI (c1 + 1)), .int (nI rP), .int (nI rA), .int rD, .int rV]))]) [0] (by decide) rfl
      exact W.zret (v := 0) hx hb hr (by decide) (fun t ht hW => ⟨⟨0, (), rfl, (Or.inl rfl), ⟨c1, rP, rA, rD, rV, (by omega), (by omega), (by omega), by rw [ht]; exact hP9, hD9⟩⟩, hS.F ht⟩) hS.2.2 dX7_endsChance_32
    · have n_20 : ¬ rP = 0 := b_eq_f (by omega) (by omega) c_20
      refine lv_aload_n hx hb dX7_endsChance_23 rfl (lv_at hl 1 rfl) ?_
      refine va_get (D := D) (ci := 7) (v := .int (nI rP)) (C := RX7) (T := TX7) (N := 7) hx hb hg gwX7 hown hK hP 0 rfl rfl 3 (by decide) (hg _ kw_58) (fun _ h9 => h9) rfl dX7_endsChance_24 ?_
      refine lv_iload_n hx hb dX7_endsChance_27 rfl (lv_at hl 0 rfl) ?_
      refine lv_icmp_lt (tgt := 33) hx hb dX7_endsChance_28 (by decide) (fun c_28 => ?_) (fun c_28 => ?_)
      · have n_28 : rP < rA := b_lt_t (by omega) (by omega) c_28
        refine lv_aload_n hx hb dX7_endsChance_33 rfl (lv_at hl 1 rfl) ?_
        have hPc := hP.sub (ws' := [(rd, .inr (7, [.ref rw, .ref rc, .int (nI (c1 + 1)), .int (nI rP), .int (nI rA), .int rD, .int rV]))]) [0] rfl
        have hDc := hD.sub (ws' := [(rd, .inr (7, [.ref rw, .ref rc, .int (nI (c1 + 1)), .int (nI rP), .int (nI rA), .int rD, .int rV]))]) [0] (by decide) rfl
        have hFc := va_free (wc := [(rd, .inr (7, [.ref rw, .ref rc, .int (nI (c1 + 1)), .int (nI rP), .int (nI rA), .int rD, .int rV]))]) hD hS hA [0] rfl
        refine va_callv (va_runV (As := []) (rest := []) ⟨hx, hb, hml, hown, hg⟩ (r_beginChance l D cs rd rw rc (c1 + 1) rP rA rD rV (by omega) (by omega) (by omega) _) (cwV 0 hg (gw_V kw_61 kw_62 kw_63 kw_54 kw_60) rfl rfl rfl (by decide +kernel) ⟨(Nat.le_of_ble_eq_true rfl), (Nat.le_of_ble_eq_true rfl)⟩) (pr_MV (q := (RX7, TX7, 7)) 7 0 hK hPc hDc rfl rfl) rfl rfl hl.1 rfl (lv_room (Nat.le_of_ble_eq_true rfl)) dX7_endsChance_34 ⟨(Nat.le_of_ble_eq_true rfl), (Nat.le_of_ble_eq_true rfl)⟩) hS (fun q _ h => hFc q h) hFc (fun u t H1 locs ht hvm h_34 hB hz1 hk1 hS => ?_)
        obtain ⟨hP1, hD1⟩ := hB
        rw [ht] at hP1
        obtain ⟨hP, hD⟩ := va_join (wr := []) (w1 := [(rd, .inr (7, [.ref rw, .ref rc, .int (nI (c1 + 1)), .int (nI (rP + 1)), .int (nI rA), .int 0, .int 0]))]) hP hD [0] [] rfl rfl (by decide) (by decide) hk1 hFc hP1 hD1
        generalize H1 = H at hP hS ⊢
        have hP : va_P D vwCl [(rd, .inr (7, [.ref rw, .ref rc, .int (nI (c1 + 1)), .int (nI (rP + 1)), .int (nI rA), .int 0, .int 0]))] H := hP
        have hD : va_D A [(rd, .inr (7, [.ref rw, .ref rc, .int (nI (c1 + 1)), .int (nI (rP + 1)), .int (nI rA), .int 0, .int 0]))] := hD
        refine W.cs (cells' := 0) (slots' := 0) rfl rfl ?_
        refine lv_iconst (v := 1) hx hb dX7_endsChance_37 (by decide) ?_
        refine W_sQ hQ ?_
        refine W.widen (k := 0) (n := 0) (Nat.le_of_ble_eq_true rfl) (Nat.le_of_ble_eq_true rfl) ?_
        have hP9 := hP.sub (ws' := [(rd, .inr (7, [.ref rw, .ref rc, .int (nI (c1 + 1)), .int (nI (rP + 1)), .int (nI rA), .int 0, .int 0]))]) [0] rfl
        have hD9 := hD.sub (ws' := [(rd, .inr (7, [.ref rw, .ref rc, .int (nI (c1 + 1)), .int (nI (rP + 1)), .int (nI rA), .int 0, .int 0]))]) [0] (by decide) rfl
        exact W.zret (v := 1) hx hb hr (by decide) (fun t ht hW => ⟨⟨1, (), rfl, (Or.inr rfl), ⟨c1, rP + 1, rA, 0, 0, (by omega), (by omega), (by omega), by rw [ht]; exact hP9, hD9⟩⟩, hS.F ht⟩) hS.2.2 dX7_endsChance_38
      · have n_28 : rA ≤ rP := b_lt_f (by omega) (by omega) c_28
        refine lv_iconst (v := 0) hx hb dX7_endsChance_31 (by decide) ?_
        refine W_sQ hQ ?_
        refine W.widen (k := 0) (n := 0) (Nat.le_of_ble_eq_true rfl) (Nat.le_of_ble_eq_true rfl) ?_
        have hP9 := hP.sub (ws' := [(rd, .inr (7, [.ref rw, .ref rc, .int (nI (c1 + 1)), .int (nI rP), .int (nI rA), .int rD, .int rV]))]) [0] rfl
        have hD9 := hD.sub (ws' := [(rd, .inr (7, [.ref rw, .ref rc, .int (nI (c1 + 1)), .int (nI rP), .int (nI rA), .int rD, .int rV]))]) [0] (by decide) rfl
        exact W.zret (v := 0) hx hb hr (by decide) (fun t ht hW => ⟨⟨0, (), rfl, (Or.inl rfl), ⟨c1, rP, rA, rD, rV, (by omega), (by omega), (by omega), by rw [ht]; exact hP9, hD9⟩⟩, hS.F ht⟩) hS.2.2 dX7_endsChance_32
  · have n_4 : rA = 0 := b_eq_t (by omega) (by omega) c_4
    refine lv_iconst (v := 4) hx hb dX7_endsChance_7 (by decide) ?_
    refine lv_goto (tgt := 15) hx hb dX7_endsChance_8 (by decide) ?_
    refine lv_istore_n (lv' := [(1, .int 4), (0, .ref rd)]) hx hb dX7_endsChance_15 rfl hl (by decide) rfl (fun ls hl => ?_)
    refine lv_aload_n hx hb dX7_endsChance_16 rfl (lv_at hl 1 rfl) ?_
    refine va_get (D := D) (ci := 7) (v := .int (nI rP)) (C := RX7) (T := TX7) (N := 7) hx hb hg gwX7 hown hK hP 0 rfl rfl 3 (by decide) (hg _ kw_58) (fun _ h9 => h9) rfl dX7_endsChance_17 ?_
    refine lv_if_eq (tgt := 31) hx hb dX7_endsChance_20 (by decide) (fun c_20 => ?_) (fun c_20 => ?_)
    · have n_20 : rP = 0 := b_eq_t (by omega) (by omega) c_20
      refine lv_iconst (v := 0) hx hb dX7_endsChance_31 (by decide) ?_
      refine W_sQ hQ ?_
      refine W.widen (k := 0) (n := 0) (Nat.le_of_ble_eq_true rfl) (Nat.le_of_ble_eq_true rfl) ?_
      have hP9 := hP.sub (ws' := [(rd, .inr (7, [.ref rw, .ref rc, .int (nI (c1 + 1)), .int (nI rP), .int (nI rA), .int rD, .int rV]))]) [0] rfl
      have hD9 := hD.sub (ws' := [(rd, .inr (7, [.ref rw, .ref rc, .int (nI (c1 + 1)), .int (nI rP), .int (nI rA), .int rD, .int rV]))]) [0] (by decide) rfl
      exact W.zret (v := 0) hx hb hr (by decide) (fun t ht hW => ⟨⟨0, (), rfl, (Or.inl rfl), ⟨c1, rP, rA, rD, rV, (by omega), (by omega), (by omega), by rw [ht]; exact hP9, hD9⟩⟩, hS.F ht⟩) hS.2.2 dX7_endsChance_32
    · have n_20 : ¬ rP = 0 := b_eq_f (by omega) (by omega) c_20
      refine lv_aload_n hx hb dX7_endsChance_23 rfl (lv_at hl 1 rfl) ?_
      refine va_get (D := D) (ci := 7) (v := .int (nI rP)) (C := RX7) (T := TX7) (N := 7) hx hb hg gwX7 hown hK hP 0 rfl rfl 3 (by decide) (hg _ kw_58) (fun _ h9 => h9) rfl dX7_endsChance_24 ?_
      refine lv_iload_n hx hb dX7_endsChance_27 rfl (lv_at hl 0 rfl) ?_
      refine lv_icmp_lt (tgt := 33) hx hb dX7_endsChance_28 (by decide) (fun c_28 => ?_) (fun c_28 => ?_)
      · have n_28 : rP < 4 := b_lt_t (by omega) (by omega) c_28
        refine lv_aload_n hx hb dX7_endsChance_33 rfl (lv_at hl 1 rfl) ?_
        have hPc := hP.sub (ws' := [(rd, .inr (7, [.ref rw, .ref rc, .int (nI (c1 + 1)), .int (nI rP), .int (nI rA), .int rD, .int rV]))]) [0] rfl
        have hDc := hD.sub (ws' := [(rd, .inr (7, [.ref rw, .ref rc, .int (nI (c1 + 1)), .int (nI rP), .int (nI rA), .int rD, .int rV]))]) [0] (by decide) rfl
        have hFc := va_free (wc := [(rd, .inr (7, [.ref rw, .ref rc, .int (nI (c1 + 1)), .int (nI rP), .int (nI rA), .int rD, .int rV]))]) hD hS hA [0] rfl
        refine va_callv (va_runV (As := []) (rest := []) ⟨hx, hb, hml, hown, hg⟩ (r_beginChance l D cs rd rw rc (c1 + 1) rP rA rD rV (by omega) (by omega) (by omega) _) (cwV 0 hg (gw_V kw_61 kw_62 kw_63 kw_54 kw_60) rfl rfl rfl (by decide +kernel) ⟨(Nat.le_of_ble_eq_true rfl), (Nat.le_of_ble_eq_true rfl)⟩) (pr_MV (q := (RX7, TX7, 7)) 7 0 hK hPc hDc rfl rfl) rfl rfl hl.1 rfl (lv_room (Nat.le_of_ble_eq_true rfl)) dX7_endsChance_34 ⟨(Nat.le_of_ble_eq_true rfl), (Nat.le_of_ble_eq_true rfl)⟩) hS (fun q _ h => hFc q h) hFc (fun u t H1 locs ht hvm h_34 hB hz1 hk1 hS => ?_)
        obtain ⟨hP1, hD1⟩ := hB
        rw [ht] at hP1
        obtain ⟨hP, hD⟩ := va_join (wr := []) (w1 := [(rd, .inr (7, [.ref rw, .ref rc, .int (nI (c1 + 1)), .int (nI (rP + 1)), .int (nI rA), .int 0, .int 0]))]) hP hD [0] [] rfl rfl (by decide) (by decide) hk1 hFc hP1 hD1
        generalize H1 = H at hP hS ⊢
        have hP : va_P D vwCl [(rd, .inr (7, [.ref rw, .ref rc, .int (nI (c1 + 1)), .int (nI (rP + 1)), .int (nI rA), .int 0, .int 0]))] H := hP
        have hD : va_D A [(rd, .inr (7, [.ref rw, .ref rc, .int (nI (c1 + 1)), .int (nI (rP + 1)), .int (nI rA), .int 0, .int 0]))] := hD
        refine W.cs (cells' := 0) (slots' := 0) rfl rfl ?_
        refine lv_iconst (v := 1) hx hb dX7_endsChance_37 (by decide) ?_
        refine W_sQ hQ ?_
        refine W.widen (k := 0) (n := 0) (Nat.le_of_ble_eq_true rfl) (Nat.le_of_ble_eq_true rfl) ?_
        have hP9 := hP.sub (ws' := [(rd, .inr (7, [.ref rw, .ref rc, .int (nI (c1 + 1)), .int (nI (rP + 1)), .int (nI rA), .int 0, .int 0]))]) [0] rfl
        have hD9 := hD.sub (ws' := [(rd, .inr (7, [.ref rw, .ref rc, .int (nI (c1 + 1)), .int (nI (rP + 1)), .int (nI rA), .int 0, .int 0]))]) [0] (by decide) rfl
        exact W.zret (v := 1) hx hb hr (by decide) (fun t ht hW => ⟨⟨1, (), rfl, (Or.inr rfl), ⟨c1, rP + 1, rA, 0, 0, (by omega), (by omega), (by omega), by rw [ht]; exact hP9, hD9⟩⟩, hS.F ht⟩) hS.2.2 dX7_endsChance_38
      · have n_28 : 4 ≤ rP := b_lt_f (by omega) (by omega) c_28
        refine lv_iconst (v := 0) hx hb dX7_endsChance_31 (by decide) ?_
        refine W_sQ hQ ?_
        refine W.widen (k := 0) (n := 0) (Nat.le_of_ble_eq_true rfl) (Nat.le_of_ble_eq_true rfl) ?_
        have hP9 := hP.sub (ws' := [(rd, .inr (7, [.ref rw, .ref rc, .int (nI (c1 + 1)), .int (nI rP), .int (nI rA), .int rD, .int rV]))]) [0] rfl
        have hD9 := hD.sub (ws' := [(rd, .inr (7, [.ref rw, .ref rc, .int (nI (c1 + 1)), .int (nI rP), .int (nI rA), .int rD, .int rV]))]) [0] (by decide) rfl
        exact W.zret (v := 0) hx hb hr (by decide) (fun t ht hW => ⟨⟨0, (), rfl, (Or.inl rfl), ⟨c1, rP, rA, rD, rV, (by omega), (by omega), (by omega), by rw [ht]; exact hP9, hD9⟩⟩, hS.F ht⟩) hS.2.2 dX7_endsChance_32

theorem dX7_endsCase_0 : decode cX7_endsCase 0 = .ok (.aload_n 0, 1) := by decide +kernel
theorem dX7_endsCase_1 : decode cX7_endsCase 1 = .ok (.getfield 42, 3) := by decide +kernel
theorem dX7_endsCase_4 : decode cX7_endsCase 4 = .ok (.ifCond .eq 18, 3) := by decide +kernel
theorem dX7_endsCase_7 : decode cX7_endsCase 7 = .ok (.aload_n 0, 1) := by decide +kernel
theorem dX7_endsCase_8 : decode cX7_endsCase 8 = .ok (.getfield 24, 3) := by decide +kernel
theorem dX7_endsCase_11 : decode cX7_endsCase 11 = .ok (.iconst 5, 1) := by decide +kernel
theorem dX7_endsCase_12 : decode cX7_endsCase 12 = .ok (.if_icmp .ge 10, 3) := by decide +kernel
theorem dX7_endsCase_15 : decode cX7_endsCase 15 = .ok (.aload_n 0, 1) := by decide +kernel
theorem dX7_endsCase_16 : decode cX7_endsCase 16 = .ok (.invokevirtual 48, 3) := by decide +kernel
theorem dX7_endsCase_19 : decode cX7_endsCase 19 = .ok (.ifCond .ne 5, 3) := by decide +kernel
theorem dX7_endsCase_22 : decode cX7_endsCase 22 = .ok (.iconst 0, 1) := by decide +kernel
theorem dX7_endsCase_23 : decode cX7_endsCase 23 = .ok (.ireturn, 1) := by decide +kernel
theorem dX7_endsCase_24 : decode cX7_endsCase 24 = .ok (.aload_n 0, 1) := by decide +kernel
theorem dX7_endsCase_25 : decode cX7_endsCase 25 = .ok (.aload_n 0, 1) := by decide +kernel
theorem dX7_endsCase_26 : decode cX7_endsCase 26 = .ok (.getfield 42, 3) := by decide +kernel
theorem dX7_endsCase_29 : decode cX7_endsCase 29 = .ok (.putfield 20, 3) := by decide +kernel
theorem dX7_endsCase_32 : decode cX7_endsCase 32 = .ok (.aload_n 0, 1) := by decide +kernel
theorem dX7_endsCase_33 : decode cX7_endsCase 33 = .ok (.invokevirtual 27, 3) := by decide +kernel
theorem dX7_endsCase_36 : decode cX7_endsCase 36 = .ok (.iconst 1, 1) := by decide +kernel
theorem dX7_endsCase_37 : decode cX7_endsCase 37 = .ok (.ireturn, 1) := by decide +kernel
theorem kw_64 : (.code yX7_mayEndCase cX7_mayEndCase 1 (some .boolean) : Cond) ∈ gw_tbl := gw_in (by decide +kernel) (by decide +kernel)
theorem kw_65 : (.methodLink RX7 48 yX7_mayEndCase : Cond) ∈ gw_tbl := gw_in (by decide +kernel) (by decide +kernel)
theorem kw_66 : (.instanceMethod yX7_mayEndCase : Cond) ∈ gw_tbl := gw_in (by decide +kernel) (by decide +kernel)
theorem kw_67 : (.selects RX7 yX7_mayEndCase yX7_mayEndCase : Cond) ∈ gw_tbl := gw_in (by decide +kernel) (by decide +kernel)
theorem kw_68 : (.code yX7_beginCase cX7_beginCase 1 none : Cond) ∈ gw_tbl := gw_in (by decide +kernel) (by decide +kernel)
theorem kw_69 : (.methodLink RX7 27 yX7_beginCase : Cond) ∈ gw_tbl := gw_in (by decide +kernel) (by decide +kernel)
theorem kw_70 : (.instanceMethod yX7_beginCase : Cond) ∈ gw_tbl := gw_in (by decide +kernel) (by decide +kernel)
theorem kw_71 : (.selects RX7 yX7_beginCase yX7_beginCase : Cond) ∈ gw_tbl := gw_in (by decide +kernel) (by decide +kernel)

set_option maxHeartbeats 4000000 in
set_option maxRecDepth 100000 in
theorem r_endsCase (l : Launch) (D : va_G) (cs : Nat → ClassId) (rd : Nat) (rw : Nat) (rc : Nat) (c1 : Nat) (rP : Nat) (rA : Nat) (rD : Int32) (rV : Int32) (hc1 : c1 ≤ 4) (hrP : rP ≤ 4) (hrA : rA ≤ 4) (sz : Nat) : Met l yX7_endsCase (Cond.code yX7_endsCase cX7_endsCase 1 (some .boolean) :: gw_tbl) ({ frames := 1, cells := 0, slots := 0, locals := 20 }) (pc_M D cs [(rd, .inr (7, [.ref rw, .ref rc, .int (nI (c1 + 1)), .int (nI rP), .int (nI rA), .int rD, .int rV]))] sz [.ref rd]) (va_Qi (fun (r : Int32) (u : Unit) => r = 0 ∨ r = 1) (fun u t => ∃ (c2 : Nat), ∃ (rP2 : Nat), ∃ (rA2 : Nat), ∃ (rD2 : Int32), ∃ (rV2 : Int32), (c2 ≤ 4) ∧ (rP2 ≤ 4) ∧ (rA2 ≤ 4) ∧ va_P D vwCl [(rd, .inr (7, [.ref rw, .ref rc, .int (nI (c2 + 1)), .int (nI rP2), .int (nI rA2), .int rD2, .int rV2]))] t.heap ∧ va_D (va_A [(rd, .inr (7, [.ref rw, .ref rc, .int (nI (c1 + 1)), .int (nI rP), .int (nI rA), .int rD, .int rV]))] sz) [(rd, .inr (7, [.ref rw, .ref rc, .int (nI (c2 + 1)), .int (nI rP2), .int (nI rA2), .int rD2, .int rV2]))]) (va_A [(rd, .inr (7, [.ref rw, .ref rc, .int (nI (c1 + 1)), .int (nI rP), .int (nI rA), .int rD, .int rV]))] sz)) 0 0 (va_A [(rd, .inr (7, [.ref rw, .ref rc, .int (nI (c1 + 1)), .int (nI rP), .int (nI rA), .int rD, .int rV]))] sz) := by
  refine Met.ofW (cc := cX7_endsCase) (maxL := 1) (ret := (some .boolean)) (by decide) rfl ?_
  intro p e s m args below meth c s₁ B hml hv
  obtain ⟨hargs, hsz, hP, hK, hD0⟩ := hv
  have hx := B.exec
  have hb := B.bytes
  have hr := B.returns
  have hts := atoms_spec (ws := Cond.code yX7_endsCase cX7_endsCase 1 (some .boolean) :: gw_tbl) B.pre
  have hg := fun (w : Cond) (h : w ∈ gw_tbl) => hts w (List.mem_cons_of_mem _ h)
  have hown : s.vm.findClass RX7 = some m.cls := findClass_of_methodNamed B.named
  have hlocks := B.notSynchronized
  subst hsz
  have hD := hD0.self (sz := s.heap.size)
  generalize hAe : va_A [(rd, .inr (7, [.ref rw, .ref rc, .int (nI (c1 + 1)), .int (nI rP), .int (nI rA), .int rD, .int rV]))] s.heap.size = A at hD ⊢
  have hA : ∀ q : Nat, s.heap.size ≤ q → A q := fun q h => by rw [← hAe]; exact Or.inr h
  have hS : va_S A s.heap s.heap [] := va_S.rf
  have hP : va_P D vwCl [(rd, .inr (7, [.ref rw, .ref rc, .int (nI (c1 + 1)), .int (nI rP), .int (nI rA), .int rD, .int rV]))] s.heap := hP
  have hl := lv_entry ([.ref rd]) (n := 1) (Nat.le_of_ble_eq_true rfl)
  rw [show entryFrame m args 1 = F0 m 0 (lg_sl ([.ref rd]) ++ List.replicate (1 - (lg_sl ([.ref rd])).length) Slot.unset).toArray [] from by rw [hargs]; exact lg_entry_eq ..]
  generalize (lg_sl ([.ref rd]) ++ List.replicate (1 - (lg_sl ([.ref rd])).length) Slot.unset).toArray = ls at hl ⊢
  have hl : lv_has ls 1 [(0, .ref rd)] := hl
  refine W_genQ (fun Q hQ => ?_)
  refine lv_aload_n hx hb dX7_endsCase_0 rfl (lv_at hl 0 rfl) ?_
  refine va_get (D := D) (ci := 7) (v := .int (nI rP)) (C := RX7) (T := TX7) (N := 7) hx hb hg gwX7 hown hK hP 0 rfl rfl 3 (by decide) (hg _ kw_58) (fun _ h9 => h9) rfl dX7_endsCase_1 ?_
  refine lv_if_eq (tgt := 22) hx hb dX7_endsCase_4 (by decide) (fun c_4 => ?_) (fun c_4 => ?_)
  · have n_4 : rP = 0 := b_eq_t (by omega) (by omega) c_4
    refine lv_iconst (v := 0) hx hb dX7_endsCase_22 (by decide) ?_
    refine W_sQ hQ ?_
    refine W.widen (k := 0) (n := 0) (Nat.le_of_ble_eq_true rfl) (Nat.le_of_ble_eq_true rfl) ?_
    have hP9 := hP.sub (ws' := [(rd, .inr (7, [.ref rw, .ref rc, .int (nI (c1 + 1)), .int (nI rP), .int (nI rA), .int rD, .int rV]))]) [0] rfl
    have hD9 := hD.sub (ws' := [(rd, .inr (7, [.ref rw, .ref rc, .int (nI (c1 + 1)), .int (nI rP), .int (nI rA), .int rD, .int rV]))]) [0] (by decide) rfl
    exact W.zret (v := 0) hx hb hr (by decide) (fun t ht hW => ⟨⟨0, (), rfl, (Or.inl rfl), ⟨c1, rP, rA, rD, rV, (by omega), (by omega), (by omega), by rw [ht]; exact hP9, hD9⟩⟩, hS.F ht⟩) hS.2.2 dX7_endsCase_23
  · have n_4 : ¬ rP = 0 := b_eq_f (by omega) (by omega) c_4
    refine lv_aload_n hx hb dX7_endsCase_7 rfl (lv_at hl 0 rfl) ?_
    refine va_get (D := D) (ci := 7) (v := .int (nI (c1 + 1))) (C := RX7) (T := TX7) (N := 7) hx hb hg gwX7 hown hK hP 0 rfl rfl 2 (by decide) (hg _ kw_56) (fun _ h9 => h9) rfl dX7_endsCase_8 ?_
    refine lv_iconst (v := 5) hx hb dX7_endsCase_11 (by decide) ?_
    refine lv_icmp_ge (tgt := 22) hx hb dX7_endsCase_12 (by decide) (fun c_12 => ?_) (fun c_12 => ?_)
    · have n_12 : 5 ≤ c1 + 1 := b_le_t (by omega) (by omega) c_12
      refine lv_iconst (v := 0) hx hb dX7_endsCase_22 (by decide) ?_
      refine W_sQ hQ ?_
      refine W.widen (k := 0) (n := 0) (Nat.le_of_ble_eq_true rfl) (Nat.le_of_ble_eq_true rfl) ?_
      have hP9 := hP.sub (ws' := [(rd, .inr (7, [.ref rw, .ref rc, .int (nI (c1 + 1)), .int (nI rP), .int (nI rA), .int rD, .int rV]))]) [0] rfl
      have hD9 := hD.sub (ws' := [(rd, .inr (7, [.ref rw, .ref rc, .int (nI (c1 + 1)), .int (nI rP), .int (nI rA), .int rD, .int rV]))]) [0] (by decide) rfl
      exact W.zret (v := 0) hx hb hr (by decide) (fun t ht hW => ⟨⟨0, (), rfl, (Or.inl rfl), ⟨c1, rP, rA, rD, rV, (by omega), (by omega), (by omega), by rw [ht]; exact hP9, hD9⟩⟩, hS.F ht⟩) hS.2.2 dX7_endsCase_23
    · have n_12 : c1 + 1 < 5 := b_le_f (by omega) (by omega) c_12
      refine lv_aload_n hx hb dX7_endsCase_15 rfl (lv_at hl 0 rfl) ?_
      have hPc := hP.sub (ws' := [(rd, .inr (7, [.ref rw, .ref rc, .int (nI (c1 + 1)), .int (nI rP), .int (nI rA), .int rD, .int rV]))]) [0] rfl
      refine vp_callSi (W.runV (As := []) (rest := []) ⟨hx, hb, hml, hown, hg⟩ (r_mayEndCase l D cs rd rw rc (c1 + 1) rP rA rD rV (by omega) (by omega) (by omega)) (cwV 0 hg (gw_V kw_65 kw_66 kw_67 kw_54 kw_64) rfl rfl rfl (by decide +kernel) ⟨(Nat.le_of_ble_eq_true rfl), (Nat.le_of_ble_eq_true rfl)⟩) (pr_SV (q := (RX7, TX7, 7)) 7 0 hK hPc rfl rfl) rfl rfl hl.1 rfl (lv_room (Nat.le_of_ble_eq_true rfl)) dX7_endsCase_16 ⟨(Nat.le_of_ble_eq_true rfl), (Nat.le_of_ble_eq_true rfl)⟩) (fun r_16 h_16 => ?_)
      rcases h_16 with rfl | rfl
      · refine lv_if_ne (tgt := 24) hx hb dX7_endsCase_19 (by decide) (fun c_19 => absurd c_19 (by decide)) (fun c_19 => ?_)
        refine lv_iconst (v := 0) hx hb dX7_endsCase_22 (by decide) ?_
        refine W_sQ hQ ?_
        refine W.widen (k := 0) (n := 0) (Nat.le_of_ble_eq_true rfl) (Nat.le_of_ble_eq_true rfl) ?_
        have hP9 := hP.sub (ws' := [(rd, .inr (7, [.ref rw, .ref rc, .int (nI (c1 + 1)), .int (nI rP), .int (nI rA), .int rD, .int rV]))]) [0] rfl
        have hD9 := hD.sub (ws' := [(rd, .inr (7, [.ref rw, .ref rc, .int (nI (c1 + 1)), .int (nI rP), .int (nI rA), .int rD, .int rV]))]) [0] (by decide) rfl
        exact W.zret (v := 0) hx hb hr (by decide) (fun t ht hW => ⟨⟨0, (), rfl, (Or.inl rfl), ⟨c1, rP, rA, rD, rV, (by omega), (by omega), (by omega), by rw [ht]; exact hP9, hD9⟩⟩, hS.F ht⟩) hS.2.2 dX7_endsCase_23
      · refine lv_if_ne (tgt := 24) hx hb dX7_endsCase_19 (by decide) (fun c_19 => ?_) (fun c_19 => absurd c_19 (by decide))
        refine lv_aload_n hx hb dX7_endsCase_24 rfl (lv_at hl 0 rfl) ?_
        refine lv_aload_n hx hb dX7_endsCase_25 rfl (lv_at hl 0 rfl) ?_
        refine va_get (D := D) (ci := 7) (v := .int (nI rP)) (C := RX7) (T := TX7) (N := 7) hx hb hg gwX7 hown hK hP 0 rfl rfl 3 (by decide) (hg _ kw_58) (fun _ h9 => h9) rfl dX7_endsCase_26 ?_
        refine va_put (D := D) (ci := 7) (v := .int (nI rP)) (ty := .int) (C := RX7) (T := TX7) (N := 7) hx hb hg gwX7 tyX7 tyX7_ok nmX7 hown hK hP hD hS 0 rfl rfl 4 (by decide) (hg _ kw_59) (fun _ h9 => h9) rfl (by decide +kernel) rfl rfl (Nat.le_of_ble_eq_true rfl) dX7_endsCase_29 (fun H locs hP hD hS => ?_)
        have hP : va_P D vwCl [(rd, .inr (7, [.ref rw, .ref rc, .int (nI (c1 + 1)), .int (nI rP), .int (nI rP), .int rD, .int rV]))] H := hP
        have hD : va_D A [(rd, .inr (7, [.ref rw, .ref rc, .int (nI (c1 + 1)), .int (nI rP), .int (nI rP), .int rD, .int rV]))] := hD
        refine lv_aload_n hx hb dX7_endsCase_32 rfl (lv_at hl 0 rfl) ?_
        have hPc := hP.sub (ws' := [(rd, .inr (7, [.ref rw, .ref rc, .int (nI (c1 + 1)), .int (nI rP), .int (nI rP), .int rD, .int rV]))]) [0] rfl
        have hDc := hD.sub (ws' := [(rd, .inr (7, [.ref rw, .ref rc, .int (nI (c1 + 1)), .int (nI rP), .int (nI rP), .int rD, .int rV]))]) [0] (by decide) rfl
        have hFc := va_free (wc := [(rd, .inr (7, [.ref rw, .ref rc, .int (nI (c1 + 1)), .int (nI rP), .int (nI rP), .int rD, .int rV]))]) hD hS hA [0] rfl
        refine va_callv (va_runV (As := []) (rest := []) ⟨hx, hb, hml, hown, hg⟩ (r_beginCase l D cs rd rw rc (c1 + 1) (.int (nI rP)) (.int (nI rP)) (.int rD) (.int rV) _) (cwV 0 hg (gw_V kw_69 kw_70 kw_71 kw_54 kw_68) rfl rfl rfl (by decide +kernel) ⟨(Nat.le_of_ble_eq_true rfl), (Nat.le_of_ble_eq_true rfl)⟩) (pr_MV (q := (RX7, TX7, 7)) 7 0 hK hPc hDc rfl rfl) rfl rfl hl.1 rfl (lv_room (Nat.le_of_ble_eq_true rfl)) dX7_endsCase_33 ⟨(Nat.le_of_ble_eq_true rfl), (Nat.le_of_ble_eq_true rfl)⟩) hS (fun q _ h => hFc q h) hFc (fun u t H1 locs ht hvm h_33 hB hz1 hk1 hS => ?_)
        obtain ⟨hP1, hD1⟩ := hB
        rw [ht] at hP1
        obtain ⟨hP, hD⟩ := va_join (wr := []) (w1 := [(rd, .inr (7, [.ref rw, .ref rc, .int (nI ((c1 + 1) + 1)), .int 0, .int (nI rP), .int 0, .int 0]))]) hP hD [0] [] rfl rfl (by decide) (by decide) hk1 hFc hP1 hD1
        generalize H1 = H at hP hS ⊢
        have hP : va_P D vwCl [(rd, .inr (7, [.ref rw, .ref rc, .int (nI ((c1 + 1) + 1)), .int 0, .int (nI rP), .int 0, .int 0]))] H := hP
        have hD : va_D A [(rd, .inr (7, [.ref rw, .ref rc, .int (nI ((c1 + 1) + 1)), .int 0, .int (nI rP), .int 0, .int 0]))] := hD
        refine W.cs (cells' := 0) (slots' := 0) rfl rfl ?_
        refine lv_iconst (v := 1) hx hb dX7_endsCase_36 (by decide) ?_
        refine W_sQ hQ ?_
        refine W.widen (k := 0) (n := 0) (Nat.le_of_ble_eq_true rfl) (Nat.le_of_ble_eq_true rfl) ?_
        have hP9 := hP.sub (ws' := [(rd, .inr (7, [.ref rw, .ref rc, .int (nI ((c1 + 1) + 1)), .int 0, .int (nI rP), .int 0, .int 0]))]) [0] rfl
        have hD9 := hD.sub (ws' := [(rd, .inr (7, [.ref rw, .ref rc, .int (nI ((c1 + 1) + 1)), .int 0, .int (nI rP), .int 0, .int 0]))]) [0] (by decide) rfl
        exact W.zret (v := 1) hx hb hr (by decide) (fun t ht hW => ⟨⟨1, (), rfl, (Or.inr rfl), ⟨(c1 + 1), 0, rP, 0, 0, (by omega), (by omega), (by omega), by rw [ht]; exact hP9, hD9⟩⟩, hS.F ht⟩) hS.2.2 dX7_endsCase_37

theorem dX7_isWhole_0 : decode cX7_isWhole 0 = .ok (.aload_n 0, 1) := by decide +kernel
theorem dX7_isWhole_1 : decode cX7_isWhole 1 = .ok (.getfield 42, 3) := by decide +kernel
theorem dX7_isWhole_4 : decode cX7_isWhole 4 = .ok (.ifCond .le 21, 3) := by decide +kernel
theorem dX7_isWhole_7 : decode cX7_isWhole 7 = .ok (.aload_n 0, 1) := by decide +kernel
theorem dX7_isWhole_8 : decode cX7_isWhole 8 = .ok (.getfield 45, 3) := by decide +kernel
theorem dX7_isWhole_11 : decode cX7_isWhole 11 = .ok (.ifCond .le 14, 3) := by decide +kernel
theorem dX7_isWhole_14 : decode cX7_isWhole 14 = .ok (.aload_n 0, 1) := by decide +kernel
theorem dX7_isWhole_15 : decode cX7_isWhole 15 = .ok (.invokevirtual 48, 3) := by decide +kernel
theorem dX7_isWhole_18 : decode cX7_isWhole 18 = .ok (.ifCond .eq 7, 3) := by decide +kernel
theorem dX7_isWhole_21 : decode cX7_isWhole 21 = .ok (.iconst 1, 1) := by decide +kernel
theorem dX7_isWhole_22 : decode cX7_isWhole 22 = .ok (.goto 4, 3) := by decide +kernel
theorem dX7_isWhole_25 : decode cX7_isWhole 25 = .ok (.iconst 0, 1) := by decide +kernel
theorem dX7_isWhole_26 : decode cX7_isWhole 26 = .ok (.ireturn, 1) := by decide +kernel

set_option maxHeartbeats 4000000 in
set_option maxRecDepth 100000 in
theorem r_isWhole (l : Launch) (D : va_G) (cs : Nat → ClassId) (rd : Nat) (rw : Nat) (rc : Nat) (rC : Nat) (rP : Nat) (rA : Nat) (rD : Int32) (rV : Int32) (hrC : rC ≤ 5) (hrP : rP ≤ 4) (hrA : rA ≤ 4) : Met l yX7_isWhole (Cond.code yX7_isWhole cX7_isWhole 1 (some .boolean) :: gw_tbl) ({ frames := 1, cells := 0, slots := 0, locals := 20 }) (pc_S D cs [(rd, .inr (7, [.ref rw, .ref rc, .int (nI rC), .int (nI rP), .int (nI rA), .int rD, .int rV]))] [.ref rd]) (vp_Si (fun r => r = 0 ∨ r = 1)) 0 0 (fun _ => False) := by
  refine Met.ofW (cc := cX7_isWhole) (maxL := 1) (ret := (some .boolean)) (by decide) rfl ?_
  intro p e s m args below meth c s₁ B hml hv
  obtain ⟨hargs, hP, hK⟩ := hv
  have hx := B.exec
  have hb := B.bytes
  have hr := B.returns
  have hts := atoms_spec (ws := Cond.code yX7_isWhole cX7_isWhole 1 (some .boolean) :: gw_tbl) B.pre
  have hg := fun (w : Cond) (h : w ∈ gw_tbl) => hts w (List.mem_cons_of_mem _ h)
  have hown : s.vm.findClass RX7 = some m.cls := findClass_of_methodNamed B.named
  have hlocks := B.notSynchronized
  have hl := lv_entry ([.ref rd]) (n := 1) (Nat.le_of_ble_eq_true rfl)
  rw [show entryFrame m args 1 = F0 m 0 (lg_sl ([.ref rd]) ++ List.replicate (1 - (lg_sl ([.ref rd])).length) Slot.unset).toArray [] from by rw [hargs]; exact lg_entry_eq ..]
  generalize (lg_sl ([.ref rd]) ++ List.replicate (1 - (lg_sl ([.ref rd])).length) Slot.unset).toArray = ls at hl ⊢
  have hl : lv_has ls 1 [(0, .ref rd)] := hl
  refine W_genQ (fun Q hQ => ?_)
  refine lv_aload_n hx hb dX7_isWhole_0 rfl (lv_at hl 0 rfl) ?_
  refine va_get (D := D) (ci := 7) (v := .int (nI rP)) (C := RX7) (T := TX7) (N := 7) hx hb hg gwX7 hown hK hP 0 rfl rfl 3 (by decide) (hg _ kw_58) (fun _ h9 => h9) rfl dX7_isWhole_1 ?_
  refine lv_if_le (tgt := 25) hx hb dX7_isWhole_4 (by decide) (fun c_4 => ?_) (fun c_4 => ?_)
  · have n_4 : rP ≤ 0 := b_le_t (by omega) (by omega) c_4
    refine lv_iconst (v := 0) hx hb dX7_isWhole_25 (by decide) ?_
    refine W_sQ hQ ?_
    exact W.zret (v := 0) hx hb hr (by decide) (fun t ht hW => ⟨0, rfl, (Or.inl rfl), ht⟩) (fun _ h => absurd h List.not_mem_nil) dX7_isWhole_26
  · have n_4 : 0 < rP := b_le_f (by omega) (by omega) c_4
    refine lv_aload_n hx hb dX7_isWhole_7 rfl (lv_at hl 0 rfl) ?_
    refine va_get (D := D) (ci := 7) (v := .int rD) (C := RX7) (T := TX7) (N := 7) hx hb hg gwX7 hown hK hP 0 rfl rfl 5 (by decide) (hg _ kw_49) (fun _ h9 => h9) rfl dX7_isWhole_8 ?_
    refine lv_if_le (tgt := 25) hx hb dX7_isWhole_11 (by decide) (fun c_11 => ?_) (fun c_11 => ?_)
    · refine lv_iconst (v := 0) hx hb dX7_isWhole_25 (by decide) ?_
      refine W_sQ hQ ?_
      exact W.zret (v := 0) hx hb hr (by decide) (fun t ht hW => ⟨0, rfl, (Or.inl rfl), ht⟩) (fun _ h => absurd h List.not_mem_nil) dX7_isWhole_26
    · refine lv_aload_n hx hb dX7_isWhole_14 rfl (lv_at hl 0 rfl) ?_
      have hPc := hP.sub (ws' := [(rd, .inr (7, [.ref rw, .ref rc, .int (nI rC), .int (nI rP), .int (nI rA), .int rD, .int rV]))]) [0] rfl
      refine vp_callSi (W.runV (As := []) (rest := []) ⟨hx, hb, hml, hown, hg⟩ (r_mayEndCase l D cs rd rw rc rC rP rA rD rV (by omega) (by omega) (by omega)) (cwV 0 hg (gw_V kw_65 kw_66 kw_67 kw_54 kw_64) rfl rfl rfl (by decide +kernel) ⟨(Nat.le_of_ble_eq_true rfl), (Nat.le_of_ble_eq_true rfl)⟩) (pr_SV (q := (RX7, TX7, 7)) 7 0 hK hPc rfl rfl) rfl rfl hl.1 rfl (lv_room (Nat.le_of_ble_eq_true rfl)) dX7_isWhole_15 ⟨(Nat.le_of_ble_eq_true rfl), (Nat.le_of_ble_eq_true rfl)⟩) (fun r_15 h_15 => ?_)
      rcases h_15 with rfl | rfl
      · refine lv_if_eq (tgt := 25) hx hb dX7_isWhole_18 (by decide) (fun c_18 => ?_) (fun c_18 => absurd c_18 (by decide))
        refine lv_iconst (v := 0) hx hb dX7_isWhole_25 (by decide) ?_
        refine W_sQ hQ ?_
        exact W.zret (v := 0) hx hb hr (by decide) (fun t ht hW => ⟨0, rfl, (Or.inl rfl), ht⟩) (fun _ h => absurd h List.not_mem_nil) dX7_isWhole_26
      · refine lv_if_eq (tgt := 25) hx hb dX7_isWhole_18 (by decide) (fun c_18 => absurd c_18 (by decide)) (fun c_18 => ?_)
        refine lv_iconst (v := 1) hx hb dX7_isWhole_21 (by decide) ?_
        refine lv_goto (tgt := 26) hx hb dX7_isWhole_22 (by decide) ?_
        refine W_sQ hQ ?_
        exact W.zret (v := 1) hx hb hr (by decide) (fun t ht hW => ⟨1, rfl, (Or.inr rfl), ht⟩) (fun _ h => absurd h List.not_mem_nil) dX7_isWhole_26

theorem dX7_takes_0 : decode cX7_takes 0 = .ok (.iload_n 1, 1) := by decide +kernel
theorem dX7_takes_1 : decode cX7_takes 1 = .ok (.bipush 48, 2) := by decide +kernel
theorem dX7_takes_3 : decode cX7_takes 3 = .ok (.if_icmp .lt 36, 3) := by decide +kernel
theorem dX7_takes_6 : decode cX7_takes 6 = .ok (.iload_n 1, 1) := by decide +kernel
theorem dX7_takes_7 : decode cX7_takes 7 = .ok (.bipush 57, 2) := by decide +kernel
theorem dX7_takes_9 : decode cX7_takes 9 = .ok (.if_icmp .gt 30, 3) := by decide +kernel
theorem dX7_takes_12 : decode cX7_takes 12 = .ok (.aload_n 0, 1) := by decide +kernel
theorem dX7_takes_13 : decode cX7_takes 13 = .ok (.getfield 42, 3) := by decide +kernel
theorem dX7_takes_16 : decode cX7_takes 16 = .ok (.ifCond .ne 14, 3) := by decide +kernel
theorem dX7_takes_19 : decode cX7_takes 19 = .ok (.aload_n 0, 1) := by decide +kernel
theorem dX7_takes_20 : decode cX7_takes 20 = .ok (.iload_n 1, 1) := by decide +kernel
theorem dX7_takes_21 : decode cX7_takes 21 = .ok (.bipush 48, 2) := by decide +kernel
theorem dX7_takes_23 : decode cX7_takes 23 = .ok (.isub, 1) := by decide +kernel
theorem dX7_takes_24 : decode cX7_takes 24 = .ok (.invokevirtual 52, 3) := by decide +kernel
theorem dX7_takes_27 : decode cX7_takes 27 = .ok (.goto 11, 3) := by decide +kernel
theorem dX7_takes_30 : decode cX7_takes 30 = .ok (.aload_n 0, 1) := by decide +kernel
theorem dX7_takes_31 : decode cX7_takes 31 = .ok (.iload_n 1, 1) := by decide +kernel
theorem dX7_takes_32 : decode cX7_takes 32 = .ok (.bipush 48, 2) := by decide +kernel
theorem dX7_takes_34 : decode cX7_takes 34 = .ok (.isub, 1) := by decide +kernel
theorem dX7_takes_35 : decode cX7_takes 35 = .ok (.invokevirtual 55, 3) := by decide +kernel
theorem dX7_takes_38 : decode cX7_takes 38 = .ok (.ireturn, 1) := by decide +kernel
theorem dX7_takes_39 : decode cX7_takes 39 = .ok (.aload_n 0, 1) := by decide +kernel
theorem dX7_takes_40 : decode cX7_takes 40 = .ok (.getfield 45, 3) := by decide +kernel
theorem dX7_takes_43 : decode cX7_takes 43 = .ok (.ifCond .ne 5, 3) := by decide +kernel
theorem dX7_takes_46 : decode cX7_takes 46 = .ok (.iconst 0, 1) := by decide +kernel
theorem dX7_takes_47 : decode cX7_takes 47 = .ok (.ireturn, 1) := by decide +kernel
theorem dX7_takes_48 : decode cX7_takes 48 = .ok (.iload_n 1, 1) := by decide +kernel
theorem dX7_takes_49 : decode cX7_takes 49 = .ok (.lookupswitch 50 #[(44, 40), (58, 35), (59, 45)], 35) := by decide +kernel
theorem dX7_takes_84 : decode cX7_takes 84 = .ok (.aload_n 0, 1) := by decide +kernel
theorem dX7_takes_85 : decode cX7_takes 85 = .ok (.invokevirtual 58, 3) := by decide +kernel
theorem dX7_takes_88 : decode cX7_takes 88 = .ok (.ireturn, 1) := by decide +kernel
theorem dX7_takes_89 : decode cX7_takes 89 = .ok (.aload_n 0, 1) := by decide +kernel
theorem dX7_takes_90 : decode cX7_takes 90 = .ok (.invokevirtual 61, 3) := by decide +kernel
theorem dX7_takes_93 : decode cX7_takes 93 = .ok (.ireturn, 1) := by decide +kernel
theorem dX7_takes_94 : decode cX7_takes 94 = .ok (.aload_n 0, 1) := by decide +kernel
theorem dX7_takes_95 : decode cX7_takes 95 = .ok (.invokevirtual 64, 3) := by decide +kernel
theorem dX7_takes_98 : decode cX7_takes 98 = .ok (.ireturn, 1) := by decide +kernel
theorem dX7_takes_99 : decode cX7_takes 99 = .ok (.iconst 0, 1) := by decide +kernel
theorem dX7_takes_100 : decode cX7_takes 100 = .ok (.ireturn, 1) := by decide +kernel
theorem kw_72 : (.code yX7_endsChance cX7_endsChance 2 (some .boolean) : Cond) ∈ gw_tbl := gw_in (by decide +kernel) (by decide +kernel)
theorem kw_73 : (.methodLink RX7 61 yX7_endsChance : Cond) ∈ gw_tbl := gw_in (by decide +kernel) (by decide +kernel)
theorem kw_74 : (.instanceMethod yX7_endsChance : Cond) ∈ gw_tbl := gw_in (by decide +kernel) (by decide +kernel)
theorem kw_75 : (.selects RX7 yX7_endsChance yX7_endsChance : Cond) ∈ gw_tbl := gw_in (by decide +kernel) (by decide +kernel)
theorem kw_76 : (.code yX7_endsWeight cX7_endsWeight 1 (some .boolean) : Cond) ∈ gw_tbl := gw_in (by decide +kernel) (by decide +kernel)
theorem kw_77 : (.methodLink RX7 58 yX7_endsWeight : Cond) ∈ gw_tbl := gw_in (by decide +kernel) (by decide +kernel)
theorem kw_78 : (.instanceMethod yX7_endsWeight : Cond) ∈ gw_tbl := gw_in (by decide +kernel) (by decide +kernel)
theorem kw_79 : (.selects RX7 yX7_endsWeight yX7_endsWeight : Cond) ∈ gw_tbl := gw_in (by decide +kernel) (by decide +kernel)
theorem kw_80 : (.code yX7_endsCase cX7_endsCase 1 (some .boolean) : Cond) ∈ gw_tbl := gw_in (by decide +kernel) (by decide +kernel)
theorem kw_81 : (.methodLink RX7 64 yX7_endsCase : Cond) ∈ gw_tbl := gw_in (by decide +kernel) (by decide +kernel)
theorem kw_82 : (.instanceMethod yX7_endsCase : Cond) ∈ gw_tbl := gw_in (by decide +kernel) (by decide +kernel)
theorem kw_83 : (.selects RX7 yX7_endsCase yX7_endsCase : Cond) ∈ gw_tbl := gw_in (by decide +kernel) (by decide +kernel)
theorem kw_84 : (.code yX7_takesOfChance cX7_takesOfChance 3 (some .boolean) : Cond) ∈ gw_tbl := gw_in (by decide +kernel) (by decide +kernel)
theorem kw_85 : (.methodLink RX7 55 yX7_takesOfChance : Cond) ∈ gw_tbl := gw_in (by decide +kernel) (by decide +kernel)
theorem kw_86 : (.instanceMethod yX7_takesOfChance : Cond) ∈ gw_tbl := gw_in (by decide +kernel) (by decide +kernel)
theorem kw_87 : (.selects RX7 yX7_takesOfChance yX7_takesOfChance : Cond) ∈ gw_tbl := gw_in (by decide +kernel) (by decide +kernel)
theorem kw_88 : (.code yX7_takesOfWeight cX7_takesOfWeight 3 (some .boolean) : Cond) ∈ gw_tbl := gw_in (by decide +kernel) (by decide +kernel)
theorem kw_89 : (.methodLink RX7 52 yX7_takesOfWeight : Cond) ∈ gw_tbl := gw_in (by decide +kernel) (by decide +kernel)
theorem kw_90 : (.instanceMethod yX7_takesOfWeight : Cond) ∈ gw_tbl := gw_in (by decide +kernel) (by decide +kernel)
theorem kw_91 : (.selects RX7 yX7_takesOfWeight yX7_takesOfWeight : Cond) ∈ gw_tbl := gw_in (by decide +kernel) (by decide +kernel)

set_option maxHeartbeats 4000000 in
set_option maxRecDepth 100000 in
theorem r_takes (l : Launch) (D : va_G) (cs : Nat → ClassId) (rd : Nat) (rw : Nat) (rc : Nat) (c1 : Nat) (rP : Nat) (rA : Nat) (rD : Int32) (rV : Int32) (hc1 : c1 ≤ 4) (hrP : rP ≤ 4) (hrA : rA ≤ 4) (rr : Nat → Nat) (frr : Nat → Nat → Int32) (frw : Nat → Int32) (cd_ : Int32) (sz : Nat) : Met l yX7_takes (Cond.code yX7_takes cX7_takes 2 (some .boolean) :: gw_tbl) ({ frames := 2, cells := 0, slots := 0, locals := 43 }) (pc_M D cs [(rd, .inr (7, [.ref rw, .ref rc, .int (nI (c1 + 1)), .int (nI rP), .int (nI rA), .int rD, .int rV])), (rw, .inl (cs 0, 5, .inl frw)), (rc, .inl (cs 4, 5, .inr (.inr (.inr (.inr (rowsF 5 rr)))))), ((rr 0), .inl (cs 0, 4, .inl (frr 0))), ((rr 1), .inl (cs 0, 4, .inl (frr 1))), ((rr 2), .inl (cs 0, 4, .inl (frr 2))), ((rr 3), .inl (cs 0, 4, .inl (frr 3))), ((rr 4), .inl (cs 0, 4, .inl (frr 4)))] sz [.ref rd, .int cd_]) (va_Qi (fun (r : Int32) (u : Unit) => r = 0 ∨ r = 1) (fun u t => ∃ (c2 : Nat), ∃ (rP2 : Nat), ∃ (rA2 : Nat), ∃ (rD2 : Int32), ∃ (rV2 : Int32), ∃ (frw2 : Nat → Int32), ∃ (frr2 : Nat → Nat → Int32), (c2 ≤ 4) ∧ (rP2 ≤ 4) ∧ (rA2 ≤ 4) ∧ va_P D vwCl [(rd, .inr (7, [.ref rw, .ref rc, .int (nI (c2 + 1)), .int (nI rP2), .int (nI rA2), .int rD2, .int rV2])), (rw, .inl (cs 0, 5, .inl frw2)), (rc, .inl (cs 4, 5, .inr (.inr (.inr (.inr (rowsF 5 rr)))))), ((rr 0), .inl (cs 0, 4, .inl (frr2 0))), ((rr 1), .inl (cs 0, 4, .inl (frr2 1))), ((rr 2), .inl (cs 0, 4, .inl (frr2 2))), ((rr 3), .inl (cs 0, 4, .inl (frr2 3))), ((rr 4), .inl (cs 0, 4, .inl (frr2 4)))] t.heap ∧ va_D (va_A [(rd, .inr (7, [.ref rw, .ref rc, .int (nI (c1 + 1)), .int (nI rP), .int (nI rA), .int rD, .int rV])), (rw, .inl (cs 0, 5, .inl frw)), (rc, .inl (cs 4, 5, .inr (.inr (.inr (.inr (rowsF 5 rr)))))), ((rr 0), .inl (cs 0, 4, .inl (frr 0))), ((rr 1), .inl (cs 0, 4, .inl (frr 1))), ((rr 2), .inl (cs 0, 4, .inl (frr 2))), ((rr 3), .inl (cs 0, 4, .inl (frr 3))), ((rr 4), .inl (cs 0, 4, .inl (frr 4)))] sz) [(rd, .inr (7, [.ref rw, .ref rc, .int (nI (c2 + 1)), .int (nI rP2), .int (nI rA2), .int rD2, .int rV2])), (rw, .inl (cs 0, 5, .inl frw2)), (rc, .inl (cs 4, 5, .inr (.inr (.inr (.inr (rowsF 5 rr)))))), ((rr 0), .inl (cs 0, 4, .inl (frr2 0))), ((rr 1), .inl (cs 0, 4, .inl (frr2 1))), ((rr 2), .inl (cs 0, 4, .inl (frr2 2))), ((rr 3), .inl (cs 0, 4, .inl (frr2 3))), ((rr 4), .inl (cs 0, 4, .inl (frr2 4)))]) (va_A [(rd, .inr (7, [.ref rw, .ref rc, .int (nI (c1 + 1)), .int (nI rP), .int (nI rA), .int rD, .int rV])), (rw, .inl (cs 0, 5, .inl frw)), (rc, .inl (cs 4, 5, .inr (.inr (.inr (.inr (rowsF 5 rr)))))), ((rr 0), .inl (cs 0, 4, .inl (frr 0))), ((rr 1), .inl (cs 0, 4, .inl (frr 1))), ((rr 2), .inl (cs 0, 4, .inl (frr 2))), ((rr 3), .inl (cs 0, 4, .inl (frr 3))), ((rr 4), .inl (cs 0, 4, .inl (frr 4)))] sz)) 0 0 (va_A [(rd, .inr (7, [.ref rw, .ref rc, .int (nI (c1 + 1)), .int (nI rP), .int (nI rA), .int rD, .int rV])), (rw, .inl (cs 0, 5, .inl frw)), (rc, .inl (cs 4, 5, .inr (.inr (.inr (.inr (rowsF 5 rr)))))), ((rr 0), .inl (cs 0, 4, .inl (frr 0))), ((rr 1), .inl (cs 0, 4, .inl (frr 1))), ((rr 2), .inl (cs 0, 4, .inl (frr 2))), ((rr 3), .inl (cs 0, 4, .inl (frr 3))), ((rr 4), .inl (cs 0, 4, .inl (frr 4)))] sz) := by
  refine Met.ofW (cc := cX7_takes) (maxL := 2) (ret := (some .boolean)) (by decide) rfl ?_
  intro p e s m args below meth c s₁ B hml hv
  obtain ⟨hargs, hsz, hP, hK, hD0⟩ := hv
  have hx := B.exec
  have hb := B.bytes
  have hr := B.returns
  have hts := atoms_spec (ws := Cond.code yX7_takes cX7_takes 2 (some .boolean) :: gw_tbl) B.pre
  have hg := fun (w : Cond) (h : w ∈ gw_tbl) => hts w (List.mem_cons_of_mem _ h)
  have hown : s.vm.findClass RX7 = some m.cls := findClass_of_methodNamed B.named
  have hlocks := B.notSynchronized
  subst hsz
  have hD := hD0.self (sz := s.heap.size)
  generalize hAe : va_A [(rd, .inr (7, [.ref rw, .ref rc, .int (nI (c1 + 1)), .int (nI rP), .int (nI rA), .int rD, .int rV])), (rw, .inl (cs 0, 5, .inl frw)), (rc, .inl (cs 4, 5, .inr (.inr (.inr (.inr (rowsF 5 rr)))))), ((rr 0), .inl (cs 0, 4, .inl (frr 0))), ((rr 1), .inl (cs 0, 4, .inl (frr 1))), ((rr 2), .inl (cs 0, 4, .inl (frr 2))), ((rr 3), .inl (cs 0, 4, .inl (frr 3))), ((rr 4), .inl (cs 0, 4, .inl (frr 4)))] s.heap.size = A at hD ⊢
  have hA : ∀ q : Nat, s.heap.size ≤ q → A q := fun q h => by rw [← hAe]; exact Or.inr h
  have hS : va_S A s.heap s.heap [] := va_S.rf
  have hP : va_P D vwCl [(rd, .inr (7, [.ref rw, .ref rc, .int (nI (c1 + 1)), .int (nI rP), .int (nI rA), .int rD, .int rV])), (rw, .inl (cs 0, 5, .inl frw)), (rc, .inl (cs 4, 5, .inr (.inr (.inr (.inr (rowsF 5 rr)))))), ((rr 0), .inl (cs 0, 4, .inl (frr 0))), ((rr 1), .inl (cs 0, 4, .inl (frr 1))), ((rr 2), .inl (cs 0, 4, .inl (frr 2))), ((rr 3), .inl (cs 0, 4, .inl (frr 3))), ((rr 4), .inl (cs 0, 4, .inl (frr 4)))] s.heap := hP
  have hl := lv_entry ([.ref rd, .int cd_]) (n := 2) (Nat.le_of_ble_eq_true rfl)
  rw [show entryFrame m args 2 = F0 m 0 (lg_sl ([.ref rd, .int cd_]) ++ List.replicate (2 - (lg_sl ([.ref rd, .int cd_])).length) Slot.unset).toArray [] from by rw [hargs]; exact lg_entry_eq ..]
  generalize (lg_sl ([.ref rd, .int cd_]) ++ List.replicate (2 - (lg_sl ([.ref rd, .int cd_])).length) Slot.unset).toArray = ls at hl ⊢
  have hl : lv_has ls 2 [(0, .ref rd), (1, .int cd_)] := hl
  refine W_genQ (fun Q hQ => ?_)
  refine lv_iload_n hx hb dX7_takes_0 rfl (lv_at hl 1 rfl) ?_
  refine lv_bipush (v := 48) hx hb dX7_takes_1 (by decide) ?_
  refine lv_icmp_lt (tgt := 39) hx hb dX7_takes_3 (by decide) (fun c_3 => ?_) (fun c_3 => ?_)
  · refine lv_aload_n hx hb dX7_takes_39 rfl (lv_at hl 0 rfl) ?_
    refine va_get (D := D) (ci := 7) (v := .int rD) (C := RX7) (T := TX7) (N := 7) hx hb hg gwX7 hown hK hP 0 rfl rfl 5 (by decide) (hg _ kw_49) (fun _ h9 => h9) rfl dX7_takes_40 ?_
    refine lv_if_ne (tgt := 48) hx hb dX7_takes_43 (by decide) (fun c_43 => ?_) (fun c_43 => ?_)
    · refine lv_iload_n hx hb dX7_takes_48 rfl (lv_at hl 1 rfl) ?_
      by_cases k44_49 : cd_ = 44
      · subst k44_49
        refine lv_lookup (off := 40) (tgt := 89) hx hb dX7_takes_49 (by decide) (by decide) (by decide) ?_
        refine lv_aload_n hx hb dX7_takes_89 rfl (lv_at hl 0 rfl) ?_
        have hPc := hP.sub (ws' := [(rd, .inr (7, [.ref rw, .ref rc, .int (nI (c1 + 1)), .int (nI rP), .int (nI rA), .int rD, .int rV]))]) [0] rfl
        have hDc := hD.sub (ws' := [(rd, .inr (7, [.ref rw, .ref rc, .int (nI (c1 + 1)), .int (nI rP), .int (nI rA), .int rD, .int rV]))]) [0] (by decide) rfl
        have hFc := va_free (wc := [(rd, .inr (7, [.ref rw, .ref rc, .int (nI (c1 + 1)), .int (nI rP), .int (nI rA), .int rD, .int rV]))]) hD hS hA [0] rfl
        refine va_calli (va_runV (As := []) (rest := []) ⟨hx, hb, hml, hown, hg⟩ (r_endsChance l D cs rd rw rc c1 rP rA rD rV (by omega) (by omega) (by omega) _) (cwV 0 hg (gw_V kw_73 kw_74 kw_75 kw_54 kw_72) rfl rfl rfl (by decide +kernel) ⟨(Nat.le_of_ble_eq_true rfl), (Nat.le_of_ble_eq_true rfl)⟩) (pr_MV (q := (RX7, TX7, 7)) 7 0 hK hPc hDc rfl rfl) rfl rfl hl.1 rfl (lv_room (Nat.le_of_ble_eq_true rfl)) dX7_takes_90 ⟨(Nat.le_of_ble_eq_true rfl), (Nat.le_of_ble_eq_true rfl)⟩) hS (fun q _ h => hFc q h) hFc (fun r_90 u t H1 locs ht hvm h_90 hB hz1 hk1 hS => ?_)
        obtain ⟨c2_90, rP2_90, rA2_90, rD2_90, rV2_90, hc2_90, hrP2_90, hrA2_90, hP1, hD1⟩ := hB
        rw [ht] at hP1
        obtain ⟨hP, hD⟩ := va_join (wr := [(rw, .inl (cs 0, 5, .inl frw)), (rc, .inl (cs 4, 5, .inr (.inr (.inr (.inr (rowsF 5 rr)))))), ((rr 0), .inl (cs 0, 4, .inl (frr 0))), ((rr 1), .inl (cs 0, 4, .inl (frr 1))), ((rr 2), .inl (cs 0, 4, .inl (frr 2))), ((rr 3), .inl (cs 0, 4, .inl (frr 3))), ((rr 4), .inl (cs 0, 4, .inl (frr 4)))]) (w1 := [(rd, .inr (7, [.ref rw, .ref rc, .int (nI (c2_90 + 1)), .int (nI rP2_90), .int (nI rA2_90), .int rD2_90, .int rV2_90]))]) hP hD [0] [1, 2, 3, 4, 5, 6, 7] rfl rfl (by decide) (by decide) hk1 hFc hP1 hD1
        generalize H1 = H at hP hS ⊢
        have hP : va_P D vwCl [(rw, .inl (cs 0, 5, .inl frw)), (rc, .inl (cs 4, 5, .inr (.inr (.inr (.inr (rowsF 5 rr)))))), ((rr 0), .inl (cs 0, 4, .inl (frr 0))), ((rr 1), .inl (cs 0, 4, .inl (frr 1))), ((rr 2), .inl (cs 0, 4, .inl (frr 2))), ((rr 3), .inl (cs 0, 4, .inl (frr 3))), ((rr 4), .inl (cs 0, 4, .inl (frr 4))), (rd, .inr (7, [.ref rw, .ref rc, .int (nI (c2_90 + 1)), .int (nI rP2_90), .int (nI rA2_90), .int rD2_90, .int rV2_90]))] H := hP
        have hD : va_D A [(rw, .inl (cs 0, 5, .inl frw)), (rc, .inl (cs 4, 5, .inr (.inr (.inr (.inr (rowsF 5 rr)))))), ((rr 0), .inl (cs 0, 4, .inl (frr 0))), ((rr 1), .inl (cs 0, 4, .inl (frr 1))), ((rr 2), .inl (cs 0, 4, .inl (frr 2))), ((rr 3), .inl (cs 0, 4, .inl (frr 3))), ((rr 4), .inl (cs 0, 4, .inl (frr 4))), (rd, .inr (7, [.ref rw, .ref rc, .int (nI (c2_90 + 1)), .int (nI rP2_90), .int (nI rA2_90), .int rD2_90, .int rV2_90]))] := hD
        refine W.cs (cells' := 0) (slots' := 0) rfl rfl ?_
        rcases h_90 with rfl | rfl
        · refine W_sQ hQ ?_
          refine W.widen (k := 0) (n := 0) (Nat.le_of_ble_eq_true rfl) (Nat.le_of_ble_eq_true rfl) ?_
          have hP9 := hP.sub (ws' := [(rd, .inr (7, [.ref rw, .ref rc, .int (nI (c2_90 + 1)), .int (nI rP2_90), .int (nI rA2_90), .int rD2_90, .int rV2_90])), (rw, .inl (cs 0, 5, .inl frw)), (rc, .inl (cs 4, 5, .inr (.inr (.inr (.inr (rowsF 5 rr)))))), ((rr 0), .inl (cs 0, 4, .inl (frr 0))), ((rr 1), .inl (cs 0, 4, .inl (frr 1))), ((rr 2), .inl (cs 0, 4, .inl (frr 2))), ((rr 3), .inl (cs 0, 4, .inl (frr 3))), ((rr 4), .inl (cs 0, 4, .inl (frr 4)))]) [7, 0, 1, 2, 3, 4, 5, 6] rfl
          have hD9 := hD.sub (ws' := [(rd, .inr (7, [.ref rw, .ref rc, .int (nI (c2_90 + 1)), .int (nI rP2_90), .int (nI rA2_90), .int rD2_90, .int rV2_90])), (rw, .inl (cs 0, 5, .inl frw)), (rc, .inl (cs 4, 5, .inr (.inr (.inr (.inr (rowsF 5 rr)))))), ((rr 0), .inl (cs 0, 4, .inl (frr 0))), ((rr 1), .inl (cs 0, 4, .inl (frr 1))), ((rr 2), .inl (cs 0, 4, .inl (frr 2))), ((rr 3), .inl (cs 0, 4, .inl (frr 3))), ((rr 4), .inl (cs 0, 4, .inl (frr 4)))]) [7, 0, 1, 2, 3, 4, 5, 6] (by decide) rfl
          exact W.zret (v := 0) hx hb hr (by decide) (fun t ht hW => ⟨⟨0, (), rfl, (Or.inl rfl), ⟨c2_90, rP2_90, rA2_90, rD2_90, rV2_90, frw, frr, (by omega), (by omega), (by omega), by rw [ht]; exact hP9, hD9⟩⟩, hS.F ht⟩) hS.2.2 dX7_takes_93
        · refine W_sQ hQ ?_
          refine W.widen (k := 0) (n := 0) (Nat.le_of_ble_eq_true rfl) (Nat.le_of_ble_eq_true rfl) ?_
          have hP9 := hP.sub (ws' := [(rd, .inr (7, [.ref rw, .ref rc, .int (nI (c2_90 + 1)), .int (nI rP2_90), .int (nI rA2_90), .int rD2_90, .int rV2_90])), (rw, .inl (cs 0, 5, .inl frw)), (rc, .inl (cs 4, 5, .inr (.inr (.inr (.inr (rowsF 5 rr)))))), ((rr 0), .inl (cs 0, 4, .inl (frr 0))), ((rr 1), .inl (cs 0, 4, .inl (frr 1))), ((rr 2), .inl (cs 0, 4, .inl (frr 2))), ((rr 3), .inl (cs 0, 4, .inl (frr 3))), ((rr 4), .inl (cs 0, 4, .inl (frr 4)))]) [7, 0, 1, 2, 3, 4, 5, 6] rfl
          have hD9 := hD.sub (ws' := [(rd, .inr (7, [.ref rw, .ref rc, .int (nI (c2_90 + 1)), .int (nI rP2_90), .int (nI rA2_90), .int rD2_90, .int rV2_90])), (rw, .inl (cs 0, 5, .inl frw)), (rc, .inl (cs 4, 5, .inr (.inr (.inr (.inr (rowsF 5 rr)))))), ((rr 0), .inl (cs 0, 4, .inl (frr 0))), ((rr 1), .inl (cs 0, 4, .inl (frr 1))), ((rr 2), .inl (cs 0, 4, .inl (frr 2))), ((rr 3), .inl (cs 0, 4, .inl (frr 3))), ((rr 4), .inl (cs 0, 4, .inl (frr 4)))]) [7, 0, 1, 2, 3, 4, 5, 6] (by decide) rfl
          exact W.zret (v := 1) hx hb hr (by decide) (fun t ht hW => ⟨⟨1, (), rfl, (Or.inr rfl), ⟨c2_90, rP2_90, rA2_90, rD2_90, rV2_90, frw, frr, (by omega), (by omega), (by omega), by rw [ht]; exact hP9, hD9⟩⟩, hS.F ht⟩) hS.2.2 dX7_takes_93
      by_cases k58_49 : cd_ = 58
      · subst k58_49
        refine lv_lookup (off := 35) (tgt := 84) hx hb dX7_takes_49 (by decide) (by decide) (by decide) ?_
        refine lv_aload_n hx hb dX7_takes_84 rfl (lv_at hl 0 rfl) ?_
        have hPc := hP.sub (ws' := [(rd, .inr (7, [.ref rw, .ref rc, .int (nI (c1 + 1)), .int (nI rP), .int (nI rA), .int rD, .int rV]))]) [0] rfl
        have hDc := hD.sub (ws' := [(rd, .inr (7, [.ref rw, .ref rc, .int (nI (c1 + 1)), .int (nI rP), .int (nI rA), .int rD, .int rV]))]) [0] (by decide) rfl
        have hFc := va_free (wc := [(rd, .inr (7, [.ref rw, .ref rc, .int (nI (c1 + 1)), .int (nI rP), .int (nI rA), .int rD, .int rV]))]) hD hS hA [0] rfl
        refine va_calli (va_runV (As := []) (rest := []) ⟨hx, hb, hml, hown, hg⟩ (r_endsWeight l D cs rd rw rc c1 rP rA rD rV (by omega) (by omega) (by omega) _) (cwV 0 hg (gw_V kw_77 kw_78 kw_79 kw_54 kw_76) rfl rfl rfl (by decide +kernel) ⟨(Nat.le_of_ble_eq_true rfl), (Nat.le_of_ble_eq_true rfl)⟩) (pr_MV (q := (RX7, TX7, 7)) 7 0 hK hPc hDc rfl rfl) rfl rfl hl.1 rfl (lv_room (Nat.le_of_ble_eq_true rfl)) dX7_takes_85 ⟨(Nat.le_of_ble_eq_true rfl), (Nat.le_of_ble_eq_true rfl)⟩) hS (fun q _ h => hFc q h) hFc (fun r_85 u t H1 locs ht hvm h_85 hB hz1 hk1 hS => ?_)
        obtain ⟨c2_85, rP2_85, rA2_85, rD2_85, rV2_85, hc2_85, hrP2_85, hrA2_85, hP1, hD1⟩ := hB
        rw [ht] at hP1
        obtain ⟨hP, hD⟩ := va_join (wr := [(rw, .inl (cs 0, 5, .inl frw)), (rc, .inl (cs 4, 5, .inr (.inr (.inr (.inr (rowsF 5 rr)))))), ((rr 0), .inl (cs 0, 4, .inl (frr 0))), ((rr 1), .inl (cs 0, 4, .inl (frr 1))), ((rr 2), .inl (cs 0, 4, .inl (frr 2))), ((rr 3), .inl (cs 0, 4, .inl (frr 3))), ((rr 4), .inl (cs 0, 4, .inl (frr 4)))]) (w1 := [(rd, .inr (7, [.ref rw, .ref rc, .int (nI (c2_85 + 1)), .int (nI rP2_85), .int (nI rA2_85), .int rD2_85, .int rV2_85]))]) hP hD [0] [1, 2, 3, 4, 5, 6, 7] rfl rfl (by decide) (by decide) hk1 hFc hP1 hD1
        generalize H1 = H at hP hS ⊢
        have hP : va_P D vwCl [(rw, .inl (cs 0, 5, .inl frw)), (rc, .inl (cs 4, 5, .inr (.inr (.inr (.inr (rowsF 5 rr)))))), ((rr 0), .inl (cs 0, 4, .inl (frr 0))), ((rr 1), .inl (cs 0, 4, .inl (frr 1))), ((rr 2), .inl (cs 0, 4, .inl (frr 2))), ((rr 3), .inl (cs 0, 4, .inl (frr 3))), ((rr 4), .inl (cs 0, 4, .inl (frr 4))), (rd, .inr (7, [.ref rw, .ref rc, .int (nI (c2_85 + 1)), .int (nI rP2_85), .int (nI rA2_85), .int rD2_85, .int rV2_85]))] H := hP
        have hD : va_D A [(rw, .inl (cs 0, 5, .inl frw)), (rc, .inl (cs 4, 5, .inr (.inr (.inr (.inr (rowsF 5 rr)))))), ((rr 0), .inl (cs 0, 4, .inl (frr 0))), ((rr 1), .inl (cs 0, 4, .inl (frr 1))), ((rr 2), .inl (cs 0, 4, .inl (frr 2))), ((rr 3), .inl (cs 0, 4, .inl (frr 3))), ((rr 4), .inl (cs 0, 4, .inl (frr 4))), (rd, .inr (7, [.ref rw, .ref rc, .int (nI (c2_85 + 1)), .int (nI rP2_85), .int (nI rA2_85), .int rD2_85, .int rV2_85]))] := hD
        refine W.cs (cells' := 0) (slots' := 0) rfl rfl ?_
        rcases h_85 with rfl | rfl
        · refine W_sQ hQ ?_
          refine W.widen (k := 0) (n := 0) (Nat.le_of_ble_eq_true rfl) (Nat.le_of_ble_eq_true rfl) ?_
          have hP9 := hP.sub (ws' := [(rd, .inr (7, [.ref rw, .ref rc, .int (nI (c2_85 + 1)), .int (nI rP2_85), .int (nI rA2_85), .int rD2_85, .int rV2_85])), (rw, .inl (cs 0, 5, .inl frw)), (rc, .inl (cs 4, 5, .inr (.inr (.inr (.inr (rowsF 5 rr)))))), ((rr 0), .inl (cs 0, 4, .inl (frr 0))), ((rr 1), .inl (cs 0, 4, .inl (frr 1))), ((rr 2), .inl (cs 0, 4, .inl (frr 2))), ((rr 3), .inl (cs 0, 4, .inl (frr 3))), ((rr 4), .inl (cs 0, 4, .inl (frr 4)))]) [7, 0, 1, 2, 3, 4, 5, 6] rfl
          have hD9 := hD.sub (ws' := [(rd, .inr (7, [.ref rw, .ref rc, .int (nI (c2_85 + 1)), .int (nI rP2_85), .int (nI rA2_85), .int rD2_85, .int rV2_85])), (rw, .inl (cs 0, 5, .inl frw)), (rc, .inl (cs 4, 5, .inr (.inr (.inr (.inr (rowsF 5 rr)))))), ((rr 0), .inl (cs 0, 4, .inl (frr 0))), ((rr 1), .inl (cs 0, 4, .inl (frr 1))), ((rr 2), .inl (cs 0, 4, .inl (frr 2))), ((rr 3), .inl (cs 0, 4, .inl (frr 3))), ((rr 4), .inl (cs 0, 4, .inl (frr 4)))]) [7, 0, 1, 2, 3, 4, 5, 6] (by decide) rfl
          exact W.zret (v := 0) hx hb hr (by decide) (fun t ht hW => ⟨⟨0, (), rfl, (Or.inl rfl), ⟨c2_85, rP2_85, rA2_85, rD2_85, rV2_85, frw, frr, (by omega), (by omega), (by omega), by rw [ht]; exact hP9, hD9⟩⟩, hS.F ht⟩) hS.2.2 dX7_takes_88
        · refine W_sQ hQ ?_
          refine W.widen (k := 0) (n := 0) (Nat.le_of_ble_eq_true rfl) (Nat.le_of_ble_eq_true rfl) ?_
          have hP9 := hP.sub (ws' := [(rd, .inr (7, [.ref rw, .ref rc, .int (nI (c2_85 + 1)), .int (nI rP2_85), .int (nI rA2_85), .int rD2_85, .int rV2_85])), (rw, .inl (cs 0, 5, .inl frw)), (rc, .inl (cs 4, 5, .inr (.inr (.inr (.inr (rowsF 5 rr)))))), ((rr 0), .inl (cs 0, 4, .inl (frr 0))), ((rr 1), .inl (cs 0, 4, .inl (frr 1))), ((rr 2), .inl (cs 0, 4, .inl (frr 2))), ((rr 3), .inl (cs 0, 4, .inl (frr 3))), ((rr 4), .inl (cs 0, 4, .inl (frr 4)))]) [7, 0, 1, 2, 3, 4, 5, 6] rfl
          have hD9 := hD.sub (ws' := [(rd, .inr (7, [.ref rw, .ref rc, .int (nI (c2_85 + 1)), .int (nI rP2_85), .int (nI rA2_85), .int rD2_85, .int rV2_85])), (rw, .inl (cs 0, 5, .inl frw)), (rc, .inl (cs 4, 5, .inr (.inr (.inr (.inr (rowsF 5 rr)))))), ((rr 0), .inl (cs 0, 4, .inl (frr 0))), ((rr 1), .inl (cs 0, 4, .inl (frr 1))), ((rr 2), .inl (cs 0, 4, .inl (frr 2))), ((rr 3), .inl (cs 0, 4, .inl (frr 3))), ((rr 4), .inl (cs 0, 4, .inl (frr 4)))]) [7, 0, 1, 2, 3, 4, 5, 6] (by decide) rfl
          exact W.zret (v := 1) hx hb hr (by decide) (fun t ht hW => ⟨⟨1, (), rfl, (Or.inr rfl), ⟨c2_85, rP2_85, rA2_85, rD2_85, rV2_85, frw, frr, (by omega), (by omega), (by omega), by rw [ht]; exact hP9, hD9⟩⟩, hS.F ht⟩) hS.2.2 dX7_takes_88
      by_cases k59_49 : cd_ = 59
      · subst k59_49
        refine lv_lookup (off := 45) (tgt := 94) hx hb dX7_takes_49 (by decide) (by decide) (by decide) ?_
        refine lv_aload_n hx hb dX7_takes_94 rfl (lv_at hl 0 rfl) ?_
        have hPc := hP.sub (ws' := [(rd, .inr (7, [.ref rw, .ref rc, .int (nI (c1 + 1)), .int (nI rP), .int (nI rA), .int rD, .int rV]))]) [0] rfl
        have hDc := hD.sub (ws' := [(rd, .inr (7, [.ref rw, .ref rc, .int (nI (c1 + 1)), .int (nI rP), .int (nI rA), .int rD, .int rV]))]) [0] (by decide) rfl
        have hFc := va_free (wc := [(rd, .inr (7, [.ref rw, .ref rc, .int (nI (c1 + 1)), .int (nI rP), .int (nI rA), .int rD, .int rV]))]) hD hS hA [0] rfl
        refine va_calli (va_runV (As := []) (rest := []) ⟨hx, hb, hml, hown, hg⟩ (r_endsCase l D cs rd rw rc c1 rP rA rD rV (by omega) (by omega) (by omega) _) (cwV 0 hg (gw_V kw_81 kw_82 kw_83 kw_54 kw_80) rfl rfl rfl (by decide +kernel) ⟨(Nat.le_of_ble_eq_true rfl), (Nat.le_of_ble_eq_true rfl)⟩) (pr_MV (q := (RX7, TX7, 7)) 7 0 hK hPc hDc rfl rfl) rfl rfl hl.1 rfl (lv_room (Nat.le_of_ble_eq_true rfl)) dX7_takes_95 ⟨(Nat.le_of_ble_eq_true rfl), (Nat.le_of_ble_eq_true rfl)⟩) hS (fun q _ h => hFc q h) hFc (fun r_95 u t H1 locs ht hvm h_95 hB hz1 hk1 hS => ?_)
        obtain ⟨c2_95, rP2_95, rA2_95, rD2_95, rV2_95, hc2_95, hrP2_95, hrA2_95, hP1, hD1⟩ := hB
        rw [ht] at hP1
        obtain ⟨hP, hD⟩ := va_join (wr := [(rw, .inl (cs 0, 5, .inl frw)), (rc, .inl (cs 4, 5, .inr (.inr (.inr (.inr (rowsF 5 rr)))))), ((rr 0), .inl (cs 0, 4, .inl (frr 0))), ((rr 1), .inl (cs 0, 4, .inl (frr 1))), ((rr 2), .inl (cs 0, 4, .inl (frr 2))), ((rr 3), .inl (cs 0, 4, .inl (frr 3))), ((rr 4), .inl (cs 0, 4, .inl (frr 4)))]) (w1 := [(rd, .inr (7, [.ref rw, .ref rc, .int (nI (c2_95 + 1)), .int (nI rP2_95), .int (nI rA2_95), .int rD2_95, .int rV2_95]))]) hP hD [0] [1, 2, 3, 4, 5, 6, 7] rfl rfl (by decide) (by decide) hk1 hFc hP1 hD1
        generalize H1 = H at hP hS ⊢
        have hP : va_P D vwCl [(rw, .inl (cs 0, 5, .inl frw)), (rc, .inl (cs 4, 5, .inr (.inr (.inr (.inr (rowsF 5 rr)))))), ((rr 0), .inl (cs 0, 4, .inl (frr 0))), ((rr 1), .inl (cs 0, 4, .inl (frr 1))), ((rr 2), .inl (cs 0, 4, .inl (frr 2))), ((rr 3), .inl (cs 0, 4, .inl (frr 3))), ((rr 4), .inl (cs 0, 4, .inl (frr 4))), (rd, .inr (7, [.ref rw, .ref rc, .int (nI (c2_95 + 1)), .int (nI rP2_95), .int (nI rA2_95), .int rD2_95, .int rV2_95]))] H := hP
        have hD : va_D A [(rw, .inl (cs 0, 5, .inl frw)), (rc, .inl (cs 4, 5, .inr (.inr (.inr (.inr (rowsF 5 rr)))))), ((rr 0), .inl (cs 0, 4, .inl (frr 0))), ((rr 1), .inl (cs 0, 4, .inl (frr 1))), ((rr 2), .inl (cs 0, 4, .inl (frr 2))), ((rr 3), .inl (cs 0, 4, .inl (frr 3))), ((rr 4), .inl (cs 0, 4, .inl (frr 4))), (rd, .inr (7, [.ref rw, .ref rc, .int (nI (c2_95 + 1)), .int (nI rP2_95), .int (nI rA2_95), .int rD2_95, .int rV2_95]))] := hD
        refine W.cs (cells' := 0) (slots' := 0) rfl rfl ?_
        rcases h_95 with rfl | rfl
        · refine W_sQ hQ ?_
          refine W.widen (k := 0) (n := 0) (Nat.le_of_ble_eq_true rfl) (Nat.le_of_ble_eq_true rfl) ?_
          have hP9 := hP.sub (ws' := [(rd, .inr (7, [.ref rw, .ref rc, .int (nI (c2_95 + 1)), .int (nI rP2_95), .int (nI rA2_95), .int rD2_95, .int rV2_95])), (rw, .inl (cs 0, 5, .inl frw)), (rc, .inl (cs 4, 5, .inr (.inr (.inr (.inr (rowsF 5 rr)))))), ((rr 0), .inl (cs 0, 4, .inl (frr 0))), ((rr 1), .inl (cs 0, 4, .inl (frr 1))), ((rr 2), .inl (cs 0, 4, .inl (frr 2))), ((rr 3), .inl (cs 0, 4, .inl (frr 3))), ((rr 4), .inl (cs 0, 4, .inl (frr 4)))]) [7, 0, 1, 2, 3, 4, 5, 6] rfl
          have hD9 := hD.sub (ws' := [(rd, .inr (7, [.ref rw, .ref rc, .int (nI (c2_95 + 1)), .int (nI rP2_95), .int (nI rA2_95), .int rD2_95, .int rV2_95])), (rw, .inl (cs 0, 5, .inl frw)), (rc, .inl (cs 4, 5, .inr (.inr (.inr (.inr (rowsF 5 rr)))))), ((rr 0), .inl (cs 0, 4, .inl (frr 0))), ((rr 1), .inl (cs 0, 4, .inl (frr 1))), ((rr 2), .inl (cs 0, 4, .inl (frr 2))), ((rr 3), .inl (cs 0, 4, .inl (frr 3))), ((rr 4), .inl (cs 0, 4, .inl (frr 4)))]) [7, 0, 1, 2, 3, 4, 5, 6] (by decide) rfl
          exact W.zret (v := 0) hx hb hr (by decide) (fun t ht hW => ⟨⟨0, (), rfl, (Or.inl rfl), ⟨c2_95, rP2_95, rA2_95, rD2_95, rV2_95, frw, frr, (by omega), (by omega), (by omega), by rw [ht]; exact hP9, hD9⟩⟩, hS.F ht⟩) hS.2.2 dX7_takes_98
        · refine W_sQ hQ ?_
          refine W.widen (k := 0) (n := 0) (Nat.le_of_ble_eq_true rfl) (Nat.le_of_ble_eq_true rfl) ?_
          have hP9 := hP.sub (ws' := [(rd, .inr (7, [.ref rw, .ref rc, .int (nI (c2_95 + 1)), .int (nI rP2_95), .int (nI rA2_95), .int rD2_95, .int rV2_95])), (rw, .inl (cs 0, 5, .inl frw)), (rc, .inl (cs 4, 5, .inr (.inr (.inr (.inr (rowsF 5 rr)))))), ((rr 0), .inl (cs 0, 4, .inl (frr 0))), ((rr 1), .inl (cs 0, 4, .inl (frr 1))), ((rr 2), .inl (cs 0, 4, .inl (frr 2))), ((rr 3), .inl (cs 0, 4, .inl (frr 3))), ((rr 4), .inl (cs 0, 4, .inl (frr 4)))]) [7, 0, 1, 2, 3, 4, 5, 6] rfl
          have hD9 := hD.sub (ws' := [(rd, .inr (7, [.ref rw, .ref rc, .int (nI (c2_95 + 1)), .int (nI rP2_95), .int (nI rA2_95), .int rD2_95, .int rV2_95])), (rw, .inl (cs 0, 5, .inl frw)), (rc, .inl (cs 4, 5, .inr (.inr (.inr (.inr (rowsF 5 rr)))))), ((rr 0), .inl (cs 0, 4, .inl (frr 0))), ((rr 1), .inl (cs 0, 4, .inl (frr 1))), ((rr 2), .inl (cs 0, 4, .inl (frr 2))), ((rr 3), .inl (cs 0, 4, .inl (frr 3))), ((rr 4), .inl (cs 0, 4, .inl (frr 4)))]) [7, 0, 1, 2, 3, 4, 5, 6] (by decide) rfl
          exact W.zret (v := 1) hx hb hr (by decide) (fun t ht hW => ⟨⟨1, (), rfl, (Or.inr rfl), ⟨c2_95, rP2_95, rA2_95, rD2_95, rV2_95, frw, frr, (by omega), (by omega), (by omega), by rw [ht]; exact hP9, hD9⟩⟩, hS.F ht⟩) hS.2.2 dX7_takes_98
      refine lv_lookup (off := 50) (tgt := 99) hx hb dX7_takes_49 (by decide) (lk_3 k44_49 k58_49 k59_49) (by decide) ?_
      refine lv_iconst (v := 0) hx hb dX7_takes_99 (by decide) ?_
      refine W_sQ hQ ?_
      refine W.widen (k := 0) (n := 0) (Nat.le_of_ble_eq_true rfl) (Nat.le_of_ble_eq_true rfl) ?_
      have hP9 := hP.sub (ws' := [(rd, .inr (7, [.ref rw, .ref rc, .int (nI (c1 + 1)), .int (nI rP), .int (nI rA), .int rD, .int rV])), (rw, .inl (cs 0, 5, .inl frw)), (rc, .inl (cs 4, 5, .inr (.inr (.inr (.inr (rowsF 5 rr)))))), ((rr 0), .inl (cs 0, 4, .inl (frr 0))), ((rr 1), .inl (cs 0, 4, .inl (frr 1))), ((rr 2), .inl (cs 0, 4, .inl (frr 2))), ((rr 3), .inl (cs 0, 4, .inl (frr 3))), ((rr 4), .inl (cs 0, 4, .inl (frr 4)))]) [0, 1, 2, 3, 4, 5, 6, 7] rfl
      have hD9 := hD.sub (ws' := [(rd, .inr (7, [.ref rw, .ref rc, .int (nI (c1 + 1)), .int (nI rP), .int (nI rA), .int rD, .int rV])), (rw, .inl (cs 0, 5, .inl frw)), (rc, .inl (cs 4, 5, .inr (.inr (.inr (.inr (rowsF 5 rr)))))), ((rr 0), .inl (cs 0, 4, .inl (frr 0))), ((rr 1), .inl (cs 0, 4, .inl (frr 1))), ((rr 2), .inl (cs 0, 4, .inl (frr 2))), ((rr 3), .inl (cs 0, 4, .inl (frr 3))), ((rr 4), .inl (cs 0, 4, .inl (frr 4)))]) [0, 1, 2, 3, 4, 5, 6, 7] (by decide) rfl
      exact W.zret (v := 0) hx hb hr (by decide) (fun t ht hW => ⟨⟨0, (), rfl, (Or.inl rfl), ⟨c1, rP, rA, rD, rV, frw, frr, (by omega), (by omega), (by omega), by rw [ht]; exact hP9, hD9⟩⟩, hS.F ht⟩) hS.2.2 dX7_takes_100
    · refine lv_iconst (v := 0) hx hb dX7_takes_46 (by decide) ?_
      refine W_sQ hQ ?_
      refine W.widen (k := 0) (n := 0) (Nat.le_of_ble_eq_true rfl) (Nat.le_of_ble_eq_true rfl) ?_
      have hP9 := hP.sub (ws' := [(rd, .inr (7, [.ref rw, .ref rc, .int (nI (c1 + 1)), .int (nI rP), .int (nI rA), .int rD, .int rV])), (rw, .inl (cs 0, 5, .inl frw)), (rc, .inl (cs 4, 5, .inr (.inr (.inr (.inr (rowsF 5 rr)))))), ((rr 0), .inl (cs 0, 4, .inl (frr 0))), ((rr 1), .inl (cs 0, 4, .inl (frr 1))), ((rr 2), .inl (cs 0, 4, .inl (frr 2))), ((rr 3), .inl (cs 0, 4, .inl (frr 3))), ((rr 4), .inl (cs 0, 4, .inl (frr 4)))]) [0, 1, 2, 3, 4, 5, 6, 7] rfl
      have hD9 := hD.sub (ws' := [(rd, .inr (7, [.ref rw, .ref rc, .int (nI (c1 + 1)), .int (nI rP), .int (nI rA), .int rD, .int rV])), (rw, .inl (cs 0, 5, .inl frw)), (rc, .inl (cs 4, 5, .inr (.inr (.inr (.inr (rowsF 5 rr)))))), ((rr 0), .inl (cs 0, 4, .inl (frr 0))), ((rr 1), .inl (cs 0, 4, .inl (frr 1))), ((rr 2), .inl (cs 0, 4, .inl (frr 2))), ((rr 3), .inl (cs 0, 4, .inl (frr 3))), ((rr 4), .inl (cs 0, 4, .inl (frr 4)))]) [0, 1, 2, 3, 4, 5, 6, 7] (by decide) rfl
      exact W.zret (v := 0) hx hb hr (by decide) (fun t ht hW => ⟨⟨0, (), rfl, (Or.inl rfl), ⟨c1, rP, rA, rD, rV, frw, frr, (by omega), (by omega), (by omega), by rw [ht]; exact hP9, hD9⟩⟩, hS.F ht⟩) hS.2.2 dX7_takes_47
  · refine lv_iload_n hx hb dX7_takes_6 rfl (lv_at hl 1 rfl) ?_
    refine lv_bipush (v := 57) hx hb dX7_takes_7 (by decide) ?_
    refine lv_icmp_gt (tgt := 39) hx hb dX7_takes_9 (by decide) (fun c_9 => ?_) (fun c_9 => ?_)
    · refine lv_aload_n hx hb dX7_takes_39 rfl (lv_at hl 0 rfl) ?_
      refine va_get (D := D) (ci := 7) (v := .int rD) (C := RX7) (T := TX7) (N := 7) hx hb hg gwX7 hown hK hP 0 rfl rfl 5 (by decide) (hg _ kw_49) (fun _ h9 => h9) rfl dX7_takes_40 ?_
      refine lv_if_ne (tgt := 48) hx hb dX7_takes_43 (by decide) (fun c_43 => ?_) (fun c_43 => ?_)
      · refine lv_iload_n hx hb dX7_takes_48 rfl (lv_at hl 1 rfl) ?_
        by_cases k44_49 : cd_ = 44
        · subst k44_49
          refine lv_lookup (off := 40) (tgt := 89) hx hb dX7_takes_49 (by decide) (by decide) (by decide) ?_
          refine lv_aload_n hx hb dX7_takes_89 rfl (lv_at hl 0 rfl) ?_
          have hPc := hP.sub (ws' := [(rd, .inr (7, [.ref rw, .ref rc, .int (nI (c1 + 1)), .int (nI rP), .int (nI rA), .int rD, .int rV]))]) [0] rfl
          have hDc := hD.sub (ws' := [(rd, .inr (7, [.ref rw, .ref rc, .int (nI (c1 + 1)), .int (nI rP), .int (nI rA), .int rD, .int rV]))]) [0] (by decide) rfl
          have hFc := va_free (wc := [(rd, .inr (7, [.ref rw, .ref rc, .int (nI (c1 + 1)), .int (nI rP), .int (nI rA), .int rD, .int rV]))]) hD hS hA [0] rfl
          refine va_calli (va_runV (As := []) (rest := []) ⟨hx, hb, hml, hown, hg⟩ (r_endsChance l D cs rd rw rc c1 rP rA rD rV (by omega) (by omega) (by omega) _) (cwV 0 hg (gw_V kw_73 kw_74 kw_75 kw_54 kw_72) rfl rfl rfl (by decide +kernel) ⟨(Nat.le_of_ble_eq_true rfl), (Nat.le_of_ble_eq_true rfl)⟩) (pr_MV (q := (RX7, TX7, 7)) 7 0 hK hPc hDc rfl rfl) rfl rfl hl.1 rfl (lv_room (Nat.le_of_ble_eq_true rfl)) dX7_takes_90 ⟨(Nat.le_of_ble_eq_true rfl), (Nat.le_of_ble_eq_true rfl)⟩) hS (fun q _ h => hFc q h) hFc (fun r_90 u t H1 locs ht hvm h_90 hB hz1 hk1 hS => ?_)
          obtain ⟨c2_90, rP2_90, rA2_90, rD2_90, rV2_90, hc2_90, hrP2_90, hrA2_90, hP1, hD1⟩ := hB
          rw [ht] at hP1
          obtain ⟨hP, hD⟩ := va_join (wr := [(rw, .inl (cs 0, 5, .inl frw)), (rc, .inl (cs 4, 5, .inr (.inr (.inr (.inr (rowsF 5 rr)))))), ((rr 0), .inl (cs 0, 4, .inl (frr 0))), ((rr 1), .inl (cs 0, 4, .inl (frr 1))), ((rr 2), .inl (cs 0, 4, .inl (frr 2))), ((rr 3), .inl (cs 0, 4, .inl (frr 3))), ((rr 4), .inl (cs 0, 4, .inl (frr 4)))]) (w1 := [(rd, .inr (7, [.ref rw, .ref rc, .int (nI (c2_90 + 1)), .int (nI rP2_90), .int (nI rA2_90), .int rD2_90, .int rV2_90]))]) hP hD [0] [1, 2, 3, 4, 5, 6, 7] rfl rfl (by decide) (by decide) hk1 hFc hP1 hD1
          generalize H1 = H at hP hS ⊢
          have hP : va_P D vwCl [(rw, .inl (cs 0, 5, .inl frw)), (rc, .inl (cs 4, 5, .inr (.inr (.inr (.inr (rowsF 5 rr)))))), ((rr 0), .inl (cs 0, 4, .inl (frr 0))), ((rr 1), .inl (cs 0, 4, .inl (frr 1))), ((rr 2), .inl (cs 0, 4, .inl (frr 2))), ((rr 3), .inl (cs 0, 4, .inl (frr 3))), ((rr 4), .inl (cs 0, 4, .inl (frr 4))), (rd, .inr (7, [.ref rw, .ref rc, .int (nI (c2_90 + 1)), .int (nI rP2_90), .int (nI rA2_90), .int rD2_90, .int rV2_90]))] H := hP
          have hD : va_D A [(rw, .inl (cs 0, 5, .inl frw)), (rc, .inl (cs 4, 5, .inr (.inr (.inr (.inr (rowsF 5 rr)))))), ((rr 0), .inl (cs 0, 4, .inl (frr 0))), ((rr 1), .inl (cs 0, 4, .inl (frr 1))), ((rr 2), .inl (cs 0, 4, .inl (frr 2))), ((rr 3), .inl (cs 0, 4, .inl (frr 3))), ((rr 4), .inl (cs 0, 4, .inl (frr 4))), (rd, .inr (7, [.ref rw, .ref rc, .int (nI (c2_90 + 1)), .int (nI rP2_90), .int (nI rA2_90), .int rD2_90, .int rV2_90]))] := hD
          refine W.cs (cells' := 0) (slots' := 0) rfl rfl ?_
          rcases h_90 with rfl | rfl
          · refine W_sQ hQ ?_
            refine W.widen (k := 0) (n := 0) (Nat.le_of_ble_eq_true rfl) (Nat.le_of_ble_eq_true rfl) ?_
            have hP9 := hP.sub (ws' := [(rd, .inr (7, [.ref rw, .ref rc, .int (nI (c2_90 + 1)), .int (nI rP2_90), .int (nI rA2_90), .int rD2_90, .int rV2_90])), (rw, .inl (cs 0, 5, .inl frw)), (rc, .inl (cs 4, 5, .inr (.inr (.inr (.inr (rowsF 5 rr)))))), ((rr 0), .inl (cs 0, 4, .inl (frr 0))), ((rr 1), .inl (cs 0, 4, .inl (frr 1))), ((rr 2), .inl (cs 0, 4, .inl (frr 2))), ((rr 3), .inl (cs 0, 4, .inl (frr 3))), ((rr 4), .inl (cs 0, 4, .inl (frr 4)))]) [7, 0, 1, 2, 3, 4, 5, 6] rfl
            have hD9 := hD.sub (ws' := [(rd, .inr (7, [.ref rw, .ref rc, .int (nI (c2_90 + 1)), .int (nI rP2_90), .int (nI rA2_90), .int rD2_90, .int rV2_90])), (rw, .inl (cs 0, 5, .inl frw)), (rc, .inl (cs 4, 5, .inr (.inr (.inr (.inr (rowsF 5 rr)))))), ((rr 0), .inl (cs 0, 4, .inl (frr 0))), ((rr 1), .inl (cs 0, 4, .inl (frr 1))), ((rr 2), .inl (cs 0, 4, .inl (frr 2))), ((rr 3), .inl (cs 0, 4, .inl (frr 3))), ((rr 4), .inl (cs 0, 4, .inl (frr 4)))]) [7, 0, 1, 2, 3, 4, 5, 6] (by decide) rfl
            exact W.zret (v := 0) hx hb hr (by decide) (fun t ht hW => ⟨⟨0, (), rfl, (Or.inl rfl), ⟨c2_90, rP2_90, rA2_90, rD2_90, rV2_90, frw, frr, (by omega), (by omega), (by omega), by rw [ht]; exact hP9, hD9⟩⟩, hS.F ht⟩) hS.2.2 dX7_takes_93
          · refine W_sQ hQ ?_
            refine W.widen (k := 0) (n := 0) (Nat.le_of_ble_eq_true rfl) (Nat.le_of_ble_eq_true rfl) ?_
            have hP9 := hP.sub (ws' := [(rd, .inr (7, [.ref rw, .ref rc, .int (nI (c2_90 + 1)), .int (nI rP2_90), .int (nI rA2_90), .int rD2_90, .int rV2_90])), (rw, .inl (cs 0, 5, .inl frw)), (rc, .inl (cs 4, 5, .inr (.inr (.inr (.inr (rowsF 5 rr)))))), ((rr 0), .inl (cs 0, 4, .inl (frr 0))), ((rr 1), .inl (cs 0, 4, .inl (frr 1))), ((rr 2), .inl (cs 0, 4, .inl (frr 2))), ((rr 3), .inl (cs 0, 4, .inl (frr 3))), ((rr 4), .inl (cs 0, 4, .inl (frr 4)))]) [7, 0, 1, 2, 3, 4, 5, 6] rfl
            have hD9 := hD.sub (ws' := [(rd, .inr (7, [.ref rw, .ref rc, .int (nI (c2_90 + 1)), .int (nI rP2_90), .int (nI rA2_90), .int rD2_90, .int rV2_90])), (rw, .inl (cs 0, 5, .inl frw)), (rc, .inl (cs 4, 5, .inr (.inr (.inr (.inr (rowsF 5 rr)))))), ((rr 0), .inl (cs 0, 4, .inl (frr 0))), ((rr 1), .inl (cs 0, 4, .inl (frr 1))), ((rr 2), .inl (cs 0, 4, .inl (frr 2))), ((rr 3), .inl (cs 0, 4, .inl (frr 3))), ((rr 4), .inl (cs 0, 4, .inl (frr 4)))]) [7, 0, 1, 2, 3, 4, 5, 6] (by decide) rfl
            exact W.zret (v := 1) hx hb hr (by decide) (fun t ht hW => ⟨⟨1, (), rfl, (Or.inr rfl), ⟨c2_90, rP2_90, rA2_90, rD2_90, rV2_90, frw, frr, (by omega), (by omega), (by omega), by rw [ht]; exact hP9, hD9⟩⟩, hS.F ht⟩) hS.2.2 dX7_takes_93
        by_cases k58_49 : cd_ = 58
        · subst k58_49
          refine lv_lookup (off := 35) (tgt := 84) hx hb dX7_takes_49 (by decide) (by decide) (by decide) ?_
          refine lv_aload_n hx hb dX7_takes_84 rfl (lv_at hl 0 rfl) ?_
          have hPc := hP.sub (ws' := [(rd, .inr (7, [.ref rw, .ref rc, .int (nI (c1 + 1)), .int (nI rP), .int (nI rA), .int rD, .int rV]))]) [0] rfl
          have hDc := hD.sub (ws' := [(rd, .inr (7, [.ref rw, .ref rc, .int (nI (c1 + 1)), .int (nI rP), .int (nI rA), .int rD, .int rV]))]) [0] (by decide) rfl
          have hFc := va_free (wc := [(rd, .inr (7, [.ref rw, .ref rc, .int (nI (c1 + 1)), .int (nI rP), .int (nI rA), .int rD, .int rV]))]) hD hS hA [0] rfl
          refine va_calli (va_runV (As := []) (rest := []) ⟨hx, hb, hml, hown, hg⟩ (r_endsWeight l D cs rd rw rc c1 rP rA rD rV (by omega) (by omega) (by omega) _) (cwV 0 hg (gw_V kw_77 kw_78 kw_79 kw_54 kw_76) rfl rfl rfl (by decide +kernel) ⟨(Nat.le_of_ble_eq_true rfl), (Nat.le_of_ble_eq_true rfl)⟩) (pr_MV (q := (RX7, TX7, 7)) 7 0 hK hPc hDc rfl rfl) rfl rfl hl.1 rfl (lv_room (Nat.le_of_ble_eq_true rfl)) dX7_takes_85 ⟨(Nat.le_of_ble_eq_true rfl), (Nat.le_of_ble_eq_true rfl)⟩) hS (fun q _ h => hFc q h) hFc (fun r_85 u t H1 locs ht hvm h_85 hB hz1 hk1 hS => ?_)
          obtain ⟨c2_85, rP2_85, rA2_85, rD2_85, rV2_85, hc2_85, hrP2_85, hrA2_85, hP1, hD1⟩ := hB
          rw [ht] at hP1
          obtain ⟨hP, hD⟩ := va_join (wr := [(rw, .inl (cs 0, 5, .inl frw)), (rc, .inl (cs 4, 5, .inr (.inr (.inr (.inr (rowsF 5 rr)))))), ((rr 0), .inl (cs 0, 4, .inl (frr 0))), ((rr 1), .inl (cs 0, 4, .inl (frr 1))), ((rr 2), .inl (cs 0, 4, .inl (frr 2))), ((rr 3), .inl (cs 0, 4, .inl (frr 3))), ((rr 4), .inl (cs 0, 4, .inl (frr 4)))]) (w1 := [(rd, .inr (7, [.ref rw, .ref rc, .int (nI (c2_85 + 1)), .int (nI rP2_85), .int (nI rA2_85), .int rD2_85, .int rV2_85]))]) hP hD [0] [1, 2, 3, 4, 5, 6, 7] rfl rfl (by decide) (by decide) hk1 hFc hP1 hD1
          generalize H1 = H at hP hS ⊢
          have hP : va_P D vwCl [(rw, .inl (cs 0, 5, .inl frw)), (rc, .inl (cs 4, 5, .inr (.inr (.inr (.inr (rowsF 5 rr)))))), ((rr 0), .inl (cs 0, 4, .inl (frr 0))), ((rr 1), .inl (cs 0, 4, .inl (frr 1))), ((rr 2), .inl (cs 0, 4, .inl (frr 2))), ((rr 3), .inl (cs 0, 4, .inl (frr 3))), ((rr 4), .inl (cs 0, 4, .inl (frr 4))), (rd, .inr (7, [.ref rw, .ref rc, .int (nI (c2_85 + 1)), .int (nI rP2_85), .int (nI rA2_85), .int rD2_85, .int rV2_85]))] H := hP
          have hD : va_D A [(rw, .inl (cs 0, 5, .inl frw)), (rc, .inl (cs 4, 5, .inr (.inr (.inr (.inr (rowsF 5 rr)))))), ((rr 0), .inl (cs 0, 4, .inl (frr 0))), ((rr 1), .inl (cs 0, 4, .inl (frr 1))), ((rr 2), .inl (cs 0, 4, .inl (frr 2))), ((rr 3), .inl (cs 0, 4, .inl (frr 3))), ((rr 4), .inl (cs 0, 4, .inl (frr 4))), (rd, .inr (7, [.ref rw, .ref rc, .int (nI (c2_85 + 1)), .int (nI rP2_85), .int (nI rA2_85), .int rD2_85, .int rV2_85]))] := hD
          refine W.cs (cells' := 0) (slots' := 0) rfl rfl ?_
          rcases h_85 with rfl | rfl
          · refine W_sQ hQ ?_
            refine W.widen (k := 0) (n := 0) (Nat.le_of_ble_eq_true rfl) (Nat.le_of_ble_eq_true rfl) ?_
            have hP9 := hP.sub (ws' := [(rd, .inr (7, [.ref rw, .ref rc, .int (nI (c2_85 + 1)), .int (nI rP2_85), .int (nI rA2_85), .int rD2_85, .int rV2_85])), (rw, .inl (cs 0, 5, .inl frw)), (rc, .inl (cs 4, 5, .inr (.inr (.inr (.inr (rowsF 5 rr)))))), ((rr 0), .inl (cs 0, 4, .inl (frr 0))), ((rr 1), .inl (cs 0, 4, .inl (frr 1))), ((rr 2), .inl (cs 0, 4, .inl (frr 2))), ((rr 3), .inl (cs 0, 4, .inl (frr 3))), ((rr 4), .inl (cs 0, 4, .inl (frr 4)))]) [7, 0, 1, 2, 3, 4, 5, 6] rfl
            have hD9 := hD.sub (ws' := [(rd, .inr (7, [.ref rw, .ref rc, .int (nI (c2_85 + 1)), .int (nI rP2_85), .int (nI rA2_85), .int rD2_85, .int rV2_85])), (rw, .inl (cs 0, 5, .inl frw)), (rc, .inl (cs 4, 5, .inr (.inr (.inr (.inr (rowsF 5 rr)))))), ((rr 0), .inl (cs 0, 4, .inl (frr 0))), ((rr 1), .inl (cs 0, 4, .inl (frr 1))), ((rr 2), .inl (cs 0, 4, .inl (frr 2))), ((rr 3), .inl (cs 0, 4, .inl (frr 3))), ((rr 4), .inl (cs 0, 4, .inl (frr 4)))]) [7, 0, 1, 2, 3, 4, 5, 6] (by decide) rfl
            exact W.zret (v := 0) hx hb hr (by decide) (fun t ht hW => ⟨⟨0, (), rfl, (Or.inl rfl), ⟨c2_85, rP2_85, rA2_85, rD2_85, rV2_85, frw, frr, (by omega), (by omega), (by omega), by rw [ht]; exact hP9, hD9⟩⟩, hS.F ht⟩) hS.2.2 dX7_takes_88
          · refine W_sQ hQ ?_
            refine W.widen (k := 0) (n := 0) (Nat.le_of_ble_eq_true rfl) (Nat.le_of_ble_eq_true rfl) ?_
            have hP9 := hP.sub (ws' := [(rd, .inr (7, [.ref rw, .ref rc, .int (nI (c2_85 + 1)), .int (nI rP2_85), .int (nI rA2_85), .int rD2_85, .int rV2_85])), (rw, .inl (cs 0, 5, .inl frw)), (rc, .inl (cs 4, 5, .inr (.inr (.inr (.inr (rowsF 5 rr)))))), ((rr 0), .inl (cs 0, 4, .inl (frr 0))), ((rr 1), .inl (cs 0, 4, .inl (frr 1))), ((rr 2), .inl (cs 0, 4, .inl (frr 2))), ((rr 3), .inl (cs 0, 4, .inl (frr 3))), ((rr 4), .inl (cs 0, 4, .inl (frr 4)))]) [7, 0, 1, 2, 3, 4, 5, 6] rfl
            have hD9 := hD.sub (ws' := [(rd, .inr (7, [.ref rw, .ref rc, .int (nI (c2_85 + 1)), .int (nI rP2_85), .int (nI rA2_85), .int rD2_85, .int rV2_85])), (rw, .inl (cs 0, 5, .inl frw)), (rc, .inl (cs 4, 5, .inr (.inr (.inr (.inr (rowsF 5 rr)))))), ((rr 0), .inl (cs 0, 4, .inl (frr 0))), ((rr 1), .inl (cs 0, 4, .inl (frr 1))), ((rr 2), .inl (cs 0, 4, .inl (frr 2))), ((rr 3), .inl (cs 0, 4, .inl (frr 3))), ((rr 4), .inl (cs 0, 4, .inl (frr 4)))]) [7, 0, 1, 2, 3, 4, 5, 6] (by decide) rfl
            exact W.zret (v := 1) hx hb hr (by decide) (fun t ht hW => ⟨⟨1, (), rfl, (Or.inr rfl), ⟨c2_85, rP2_85, rA2_85, rD2_85, rV2_85, frw, frr, (by omega), (by omega), (by omega), by rw [ht]; exact hP9, hD9⟩⟩, hS.F ht⟩) hS.2.2 dX7_takes_88
        by_cases k59_49 : cd_ = 59
        · subst k59_49
          refine lv_lookup (off := 45) (tgt := 94) hx hb dX7_takes_49 (by decide) (by decide) (by decide) ?_
          refine lv_aload_n hx hb dX7_takes_94 rfl (lv_at hl 0 rfl) ?_
          have hPc := hP.sub (ws' := [(rd, .inr (7, [.ref rw, .ref rc, .int (nI (c1 + 1)), .int (nI rP), .int (nI rA), .int rD, .int rV]))]) [0] rfl
          have hDc := hD.sub (ws' := [(rd, .inr (7, [.ref rw, .ref rc, .int (nI (c1 + 1)), .int (nI rP), .int (nI rA), .int rD, .int rV]))]) [0] (by decide) rfl
          have hFc := va_free (wc := [(rd, .inr (7, [.ref rw, .ref rc, .int (nI (c1 + 1)), .int (nI rP), .int (nI rA), .int rD, .int rV]))]) hD hS hA [0] rfl
          refine va_calli (va_runV (As := []) (rest := []) ⟨hx, hb, hml, hown, hg⟩ (r_endsCase l D cs rd rw rc c1 rP rA rD rV (by omega) (by omega) (by omega) _) (cwV 0 hg (gw_V kw_81 kw_82 kw_83 kw_54 kw_80) rfl rfl rfl (by decide +kernel) ⟨(Nat.le_of_ble_eq_true rfl), (Nat.le_of_ble_eq_true rfl)⟩) (pr_MV (q := (RX7, TX7, 7)) 7 0 hK hPc hDc rfl rfl) rfl rfl hl.1 rfl (lv_room (Nat.le_of_ble_eq_true rfl)) dX7_takes_95 ⟨(Nat.le_of_ble_eq_true rfl), (Nat.le_of_ble_eq_true rfl)⟩) hS (fun q _ h => hFc q h) hFc (fun r_95 u t H1 locs ht hvm h_95 hB hz1 hk1 hS => ?_)
          obtain ⟨c2_95, rP2_95, rA2_95, rD2_95, rV2_95, hc2_95, hrP2_95, hrA2_95, hP1, hD1⟩ := hB
          rw [ht] at hP1
          obtain ⟨hP, hD⟩ := va_join (wr := [(rw, .inl (cs 0, 5, .inl frw)), (rc, .inl (cs 4, 5, .inr (.inr (.inr (.inr (rowsF 5 rr)))))), ((rr 0), .inl (cs 0, 4, .inl (frr 0))), ((rr 1), .inl (cs 0, 4, .inl (frr 1))), ((rr 2), .inl (cs 0, 4, .inl (frr 2))), ((rr 3), .inl (cs 0, 4, .inl (frr 3))), ((rr 4), .inl (cs 0, 4, .inl (frr 4)))]) (w1 := [(rd, .inr (7, [.ref rw, .ref rc, .int (nI (c2_95 + 1)), .int (nI rP2_95), .int (nI rA2_95), .int rD2_95, .int rV2_95]))]) hP hD [0] [1, 2, 3, 4, 5, 6, 7] rfl rfl (by decide) (by decide) hk1 hFc hP1 hD1
          generalize H1 = H at hP hS ⊢
          have hP : va_P D vwCl [(rw, .inl (cs 0, 5, .inl frw)), (rc, .inl (cs 4, 5, .inr (.inr (.inr (.inr (rowsF 5 rr)))))), ((rr 0), .inl (cs 0, 4, .inl (frr 0))), ((rr 1), .inl (cs 0, 4, .inl (frr 1))), ((rr 2), .inl (cs 0, 4, .inl (frr 2))), ((rr 3), .inl (cs 0, 4, .inl (frr 3))), ((rr 4), .inl (cs 0, 4, .inl (frr 4))), (rd, .inr (7, [.ref rw, .ref rc, .int (nI (c2_95 + 1)), .int (nI rP2_95), .int (nI rA2_95), .int rD2_95, .int rV2_95]))] H := hP
          have hD : va_D A [(rw, .inl (cs 0, 5, .inl frw)), (rc, .inl (cs 4, 5, .inr (.inr (.inr (.inr (rowsF 5 rr)))))), ((rr 0), .inl (cs 0, 4, .inl (frr 0))), ((rr 1), .inl (cs 0, 4, .inl (frr 1))), ((rr 2), .inl (cs 0, 4, .inl (frr 2))), ((rr 3), .inl (cs 0, 4, .inl (frr 3))), ((rr 4), .inl (cs 0, 4, .inl (frr 4))), (rd, .inr (7, [.ref rw, .ref rc, .int (nI (c2_95 + 1)), .int (nI rP2_95), .int (nI rA2_95), .int rD2_95, .int rV2_95]))] := hD
          refine W.cs (cells' := 0) (slots' := 0) rfl rfl ?_
          rcases h_95 with rfl | rfl
          · refine W_sQ hQ ?_
            refine W.widen (k := 0) (n := 0) (Nat.le_of_ble_eq_true rfl) (Nat.le_of_ble_eq_true rfl) ?_
            have hP9 := hP.sub (ws' := [(rd, .inr (7, [.ref rw, .ref rc, .int (nI (c2_95 + 1)), .int (nI rP2_95), .int (nI rA2_95), .int rD2_95, .int rV2_95])), (rw, .inl (cs 0, 5, .inl frw)), (rc, .inl (cs 4, 5, .inr (.inr (.inr (.inr (rowsF 5 rr)))))), ((rr 0), .inl (cs 0, 4, .inl (frr 0))), ((rr 1), .inl (cs 0, 4, .inl (frr 1))), ((rr 2), .inl (cs 0, 4, .inl (frr 2))), ((rr 3), .inl (cs 0, 4, .inl (frr 3))), ((rr 4), .inl (cs 0, 4, .inl (frr 4)))]) [7, 0, 1, 2, 3, 4, 5, 6] rfl
            have hD9 := hD.sub (ws' := [(rd, .inr (7, [.ref rw, .ref rc, .int (nI (c2_95 + 1)), .int (nI rP2_95), .int (nI rA2_95), .int rD2_95, .int rV2_95])), (rw, .inl (cs 0, 5, .inl frw)), (rc, .inl (cs 4, 5, .inr (.inr (.inr (.inr (rowsF 5 rr)))))), ((rr 0), .inl (cs 0, 4, .inl (frr 0))), ((rr 1), .inl (cs 0, 4, .inl (frr 1))), ((rr 2), .inl (cs 0, 4, .inl (frr 2))), ((rr 3), .inl (cs 0, 4, .inl (frr 3))), ((rr 4), .inl (cs 0, 4, .inl (frr 4)))]) [7, 0, 1, 2, 3, 4, 5, 6] (by decide) rfl
            exact W.zret (v := 0) hx hb hr (by decide) (fun t ht hW => ⟨⟨0, (), rfl, (Or.inl rfl), ⟨c2_95, rP2_95, rA2_95, rD2_95, rV2_95, frw, frr, (by omega), (by omega), (by omega), by rw [ht]; exact hP9, hD9⟩⟩, hS.F ht⟩) hS.2.2 dX7_takes_98
          · refine W_sQ hQ ?_
            refine W.widen (k := 0) (n := 0) (Nat.le_of_ble_eq_true rfl) (Nat.le_of_ble_eq_true rfl) ?_
            have hP9 := hP.sub (ws' := [(rd, .inr (7, [.ref rw, .ref rc, .int (nI (c2_95 + 1)), .int (nI rP2_95), .int (nI rA2_95), .int rD2_95, .int rV2_95])), (rw, .inl (cs 0, 5, .inl frw)), (rc, .inl (cs 4, 5, .inr (.inr (.inr (.inr (rowsF 5 rr)))))), ((rr 0), .inl (cs 0, 4, .inl (frr 0))), ((rr 1), .inl (cs 0, 4, .inl (frr 1))), ((rr 2), .inl (cs 0, 4, .inl (frr 2))), ((rr 3), .inl (cs 0, 4, .inl (frr 3))), ((rr 4), .inl (cs 0, 4, .inl (frr 4)))]) [7, 0, 1, 2, 3, 4, 5, 6] rfl
            have hD9 := hD.sub (ws' := [(rd, .inr (7, [.ref rw, .ref rc, .int (nI (c2_95 + 1)), .int (nI rP2_95), .int (nI rA2_95), .int rD2_95, .int rV2_95])), (rw, .inl (cs 0, 5, .inl frw)), (rc, .inl (cs 4, 5, .inr (.inr (.inr (.inr (rowsF 5 rr)))))), ((rr 0), .inl (cs 0, 4, .inl (frr 0))), ((rr 1), .inl (cs 0, 4, .inl (frr 1))), ((rr 2), .inl (cs 0, 4, .inl (frr 2))), ((rr 3), .inl (cs 0, 4, .inl (frr 3))), ((rr 4), .inl (cs 0, 4, .inl (frr 4)))]) [7, 0, 1, 2, 3, 4, 5, 6] (by decide) rfl
            exact W.zret (v := 1) hx hb hr (by decide) (fun t ht hW => ⟨⟨1, (), rfl, (Or.inr rfl), ⟨c2_95, rP2_95, rA2_95, rD2_95, rV2_95, frw, frr, (by omega), (by omega), (by omega), by rw [ht]; exact hP9, hD9⟩⟩, hS.F ht⟩) hS.2.2 dX7_takes_98
        refine lv_lookup (off := 50) (tgt := 99) hx hb dX7_takes_49 (by decide) (lk_3 k44_49 k58_49 k59_49) (by decide) ?_
        refine lv_iconst (v := 0) hx hb dX7_takes_99 (by decide) ?_
        refine W_sQ hQ ?_
        refine W.widen (k := 0) (n := 0) (Nat.le_of_ble_eq_true rfl) (Nat.le_of_ble_eq_true rfl) ?_
        have hP9 := hP.sub (ws' := [(rd, .inr (7, [.ref rw, .ref rc, .int (nI (c1 + 1)), .int (nI rP), .int (nI rA), .int rD, .int rV])), (rw, .inl (cs 0, 5, .inl frw)), (rc, .inl (cs 4, 5, .inr (.inr (.inr (.inr (rowsF 5 rr)))))), ((rr 0), .inl (cs 0, 4, .inl (frr 0))), ((rr 1), .inl (cs 0, 4, .inl (frr 1))), ((rr 2), .inl (cs 0, 4, .inl (frr 2))), ((rr 3), .inl (cs 0, 4, .inl (frr 3))), ((rr 4), .inl (cs 0, 4, .inl (frr 4)))]) [0, 1, 2, 3, 4, 5, 6, 7] rfl
        have hD9 := hD.sub (ws' := [(rd, .inr (7, [.ref rw, .ref rc, .int (nI (c1 + 1)), .int (nI rP), .int (nI rA), .int rD, .int rV])), (rw, .inl (cs 0, 5, .inl frw)), (rc, .inl (cs 4, 5, .inr (.inr (.inr (.inr (rowsF 5 rr)))))), ((rr 0), .inl (cs 0, 4, .inl (frr 0))), ((rr 1), .inl (cs 0, 4, .inl (frr 1))), ((rr 2), .inl (cs 0, 4, .inl (frr 2))), ((rr 3), .inl (cs 0, 4, .inl (frr 3))), ((rr 4), .inl (cs 0, 4, .inl (frr 4)))]) [0, 1, 2, 3, 4, 5, 6, 7] (by decide) rfl
        exact W.zret (v := 0) hx hb hr (by decide) (fun t ht hW => ⟨⟨0, (), rfl, (Or.inl rfl), ⟨c1, rP, rA, rD, rV, frw, frr, (by omega), (by omega), (by omega), by rw [ht]; exact hP9, hD9⟩⟩, hS.F ht⟩) hS.2.2 dX7_takes_100
      · refine lv_iconst (v := 0) hx hb dX7_takes_46 (by decide) ?_
        refine W_sQ hQ ?_
        refine W.widen (k := 0) (n := 0) (Nat.le_of_ble_eq_true rfl) (Nat.le_of_ble_eq_true rfl) ?_
        have hP9 := hP.sub (ws' := [(rd, .inr (7, [.ref rw, .ref rc, .int (nI (c1 + 1)), .int (nI rP), .int (nI rA), .int rD, .int rV])), (rw, .inl (cs 0, 5, .inl frw)), (rc, .inl (cs 4, 5, .inr (.inr (.inr (.inr (rowsF 5 rr)))))), ((rr 0), .inl (cs 0, 4, .inl (frr 0))), ((rr 1), .inl (cs 0, 4, .inl (frr 1))), ((rr 2), .inl (cs 0, 4, .inl (frr 2))), ((rr 3), .inl (cs 0, 4, .inl (frr 3))), ((rr 4), .inl (cs 0, 4, .inl (frr 4)))]) [0, 1, 2, 3, 4, 5, 6, 7] rfl
        have hD9 := hD.sub (ws' := [(rd, .inr (7, [.ref rw, .ref rc, .int (nI (c1 + 1)), .int (nI rP), .int (nI rA), .int rD, .int rV])), (rw, .inl (cs 0, 5, .inl frw)), (rc, .inl (cs 4, 5, .inr (.inr (.inr (.inr (rowsF 5 rr)))))), ((rr 0), .inl (cs 0, 4, .inl (frr 0))), ((rr 1), .inl (cs 0, 4, .inl (frr 1))), ((rr 2), .inl (cs 0, 4, .inl (frr 2))), ((rr 3), .inl (cs 0, 4, .inl (frr 3))), ((rr 4), .inl (cs 0, 4, .inl (frr 4)))]) [0, 1, 2, 3, 4, 5, 6, 7] (by decide) rfl
        exact W.zret (v := 0) hx hb hr (by decide) (fun t ht hW => ⟨⟨0, (), rfl, (Or.inl rfl), ⟨c1, rP, rA, rD, rV, frw, frr, (by omega), (by omega), (by omega), by rw [ht]; exact hP9, hD9⟩⟩, hS.F ht⟩) hS.2.2 dX7_takes_47
    · refine lv_aload_n hx hb dX7_takes_12 rfl (lv_at hl 0 rfl) ?_
      refine va_get (D := D) (ci := 7) (v := .int (nI rP)) (C := RX7) (T := TX7) (N := 7) hx hb hg gwX7 hown hK hP 0 rfl rfl 3 (by decide) (hg _ kw_58) (fun _ h9 => h9) rfl dX7_takes_13 ?_
      refine lv_if_ne (tgt := 30) hx hb dX7_takes_16 (by decide) (fun c_16 => ?_) (fun c_16 => ?_)
      · have n_16 : ¬ rP = 0 := b_eq_f (by omega) (by omega) c_16
        obtain ⟨p1, rfl⟩ : ∃ p1, rP = p1 + 1 := ⟨rP - 1, by omega⟩
        refine lv_aload_n hx hb dX7_takes_30 rfl (lv_at hl 0 rfl) ?_
        refine lv_iload_n hx hb dX7_takes_31 rfl (lv_at hl 1 rfl) ?_
        refine lv_bipush (v := 48) hx hb dX7_takes_32 (by decide) ?_
        refine lv_isub hx hb dX7_takes_34 ?_
        refine lv_topi (fun z_34 e_34 => ?_)
        have hPc := hP.sub (ws' := [(rd, .inr (7, [.ref rw, .ref rc, .int (nI (c1 + 1)), .int (nI (p1 + 1)), .int (nI rA), .int rD, .int rV])), (rc, .inl (cs 4, 5, .inr (.inr (.inr (.inr (rowsF 5 rr)))))), ((rr 0), .inl (cs 0, 4, .inl (frr 0))), ((rr 1), .inl (cs 0, 4, .inl (frr 1))), ((rr 2), .inl (cs 0, 4, .inl (frr 2))), ((rr 3), .inl (cs 0, 4, .inl (frr 3))), ((rr 4), .inl (cs 0, 4, .inl (frr 4)))]) [0, 2, 3, 4, 5, 6, 7] rfl
        have hDc := hD.sub (ws' := [(rd, .inr (7, [.ref rw, .ref rc, .int (nI (c1 + 1)), .int (nI (p1 + 1)), .int (nI rA), .int rD, .int rV])), (rc, .inl (cs 4, 5, .inr (.inr (.inr (.inr (rowsF 5 rr)))))), ((rr 0), .inl (cs 0, 4, .inl (frr 0))), ((rr 1), .inl (cs 0, 4, .inl (frr 1))), ((rr 2), .inl (cs 0, 4, .inl (frr 2))), ((rr 3), .inl (cs 0, 4, .inl (frr 3))), ((rr 4), .inl (cs 0, 4, .inl (frr 4)))]) [0, 2, 3, 4, 5, 6, 7] (by decide) rfl
        have hFc := va_free (wc := [(rd, .inr (7, [.ref rw, .ref rc, .int (nI (c1 + 1)), .int (nI (p1 + 1)), .int (nI rA), .int rD, .int rV])), (rc, .inl (cs 4, 5, .inr (.inr (.inr (.inr (rowsF 5 rr)))))), ((rr 0), .inl (cs 0, 4, .inl (frr 0))), ((rr 1), .inl (cs 0, 4, .inl (frr 1))), ((rr 2), .inl (cs 0, 4, .inl (frr 2))), ((rr 3), .inl (cs 0, 4, .inl (frr 3))), ((rr 4), .inl (cs 0, 4, .inl (frr 4)))]) hD hS hA [0, 2, 3, 4, 5, 6, 7] rfl
        refine va_calli (va_runV (As := [.int z_34]) (rest := []) ⟨hx, hb, hml, hown, hg⟩ (r_takesOfChance l D cs rd rw rc c1 p1 rA rD rV (by omega) (by omega) (by omega) rr frr z_34 _) (cwV 1 hg (gw_V kw_85 kw_86 kw_87 kw_54 kw_84) rfl rfl rfl (by decide +kernel) ⟨(Nat.le_of_ble_eq_true rfl), (Nat.le_of_ble_eq_true rfl)⟩) (pr_MV (q := (RX7, TX7, 7)) 7 0 hK hPc hDc rfl rfl) rfl rfl hl.1 rfl (lv_room (Nat.le_of_ble_eq_true rfl)) dX7_takes_35 ⟨(Nat.le_of_ble_eq_true rfl), (Nat.le_of_ble_eq_true rfl)⟩) hS (fun q _ h => hFc q h) hFc (fun r_35 u t H1 locs ht hvm h_35 hB hz1 hk1 hS => ?_)
        obtain ⟨rD2_35, rV2_35, frr2_35, hP1, hD1⟩ := hB
        rw [ht] at hP1
        obtain ⟨hP, hD⟩ := va_join (wr := [(rw, .inl (cs 0, 5, .inl frw))]) (w1 := [(rd, .inr (7, [.ref rw, .ref rc, .int (nI (c1 + 1)), .int (nI (p1 + 1)), .int (nI rA), .int rD2_35, .int rV2_35])), (rc, .inl (cs 4, 5, .inr (.inr (.inr (.inr (rowsF 5 rr)))))), ((rr 0), .inl (cs 0, 4, .inl (frr2_35 0))), ((rr 1), .inl (cs 0, 4, .inl (frr2_35 1))), ((rr 2), .inl (cs 0, 4, .inl (frr2_35 2))), ((rr 3), .inl (cs 0, 4, .inl (frr2_35 3))), ((rr 4), .inl (cs 0, 4, .inl (frr2_35 4)))]) hP hD [0, 2, 3, 4, 5, 6, 7] [1] rfl rfl (by decide) (by decide) hk1 hFc hP1 hD1
        generalize H1 = H at hP hS ⊢
        have hP : va_P D vwCl [(rw, .inl (cs 0, 5, .inl frw)), (rd, .inr (7, [.ref rw, .ref rc, .int (nI (c1 + 1)), .int (nI (p1 + 1)), .int (nI rA), .int rD2_35, .int rV2_35])), (rc, .inl (cs 4, 5, .inr (.inr (.inr (.inr (rowsF 5 rr)))))), ((rr 0), .inl (cs 0, 4, .inl (frr2_35 0))), ((rr 1), .inl (cs 0, 4, .inl (frr2_35 1))), ((rr 2), .inl (cs 0, 4, .inl (frr2_35 2))), ((rr 3), .inl (cs 0, 4, .inl (frr2_35 3))), ((rr 4), .inl (cs 0, 4, .inl (frr2_35 4)))] H := hP
        have hD : va_D A [(rw, .inl (cs 0, 5, .inl frw)), (rd, .inr (7, [.ref rw, .ref rc, .int (nI (c1 + 1)), .int (nI (p1 + 1)), .int (nI rA), .int rD2_35, .int rV2_35])), (rc, .inl (cs 4, 5, .inr (.inr (.inr (.inr (rowsF 5 rr)))))), ((rr 0), .inl (cs 0, 4, .inl (frr2_35 0))), ((rr 1), .inl (cs 0, 4, .inl (frr2_35 1))), ((rr 2), .inl (cs 0, 4, .inl (frr2_35 2))), ((rr 3), .inl (cs 0, 4, .inl (frr2_35 3))), ((rr 4), .inl (cs 0, 4, .inl (frr2_35 4)))] := hD
        refine W.cs (cells' := 0) (slots' := 0) rfl rfl ?_
        rcases h_35 with rfl | rfl
        · refine W_sQ hQ ?_
          refine W.widen (k := 0) (n := 0) (Nat.le_of_ble_eq_true rfl) (Nat.le_of_ble_eq_true rfl) ?_
          have hP9 := hP.sub (ws' := [(rd, .inr (7, [.ref rw, .ref rc, .int (nI (c1 + 1)), .int (nI (p1 + 1)), .int (nI rA), .int rD2_35, .int rV2_35])), (rw, .inl (cs 0, 5, .inl frw)), (rc, .inl (cs 4, 5, .inr (.inr (.inr (.inr (rowsF 5 rr)))))), ((rr 0), .inl (cs 0, 4, .inl (frr2_35 0))), ((rr 1), .inl (cs 0, 4, .inl (frr2_35 1))), ((rr 2), .inl (cs 0, 4, .inl (frr2_35 2))), ((rr 3), .inl (cs 0, 4, .inl (frr2_35 3))), ((rr 4), .inl (cs 0, 4, .inl (frr2_35 4)))]) [1, 0, 2, 3, 4, 5, 6, 7] rfl
          have hD9 := hD.sub (ws' := [(rd, .inr (7, [.ref rw, .ref rc, .int (nI (c1 + 1)), .int (nI (p1 + 1)), .int (nI rA), .int rD2_35, .int rV2_35])), (rw, .inl (cs 0, 5, .inl frw)), (rc, .inl (cs 4, 5, .inr (.inr (.inr (.inr (rowsF 5 rr)))))), ((rr 0), .inl (cs 0, 4, .inl (frr2_35 0))), ((rr 1), .inl (cs 0, 4, .inl (frr2_35 1))), ((rr 2), .inl (cs 0, 4, .inl (frr2_35 2))), ((rr 3), .inl (cs 0, 4, .inl (frr2_35 3))), ((rr 4), .inl (cs 0, 4, .inl (frr2_35 4)))]) [1, 0, 2, 3, 4, 5, 6, 7] (by decide) rfl
          exact W.zret (v := 0) hx hb hr (by decide) (fun t ht hW => ⟨⟨0, (), rfl, (Or.inl rfl), ⟨c1, p1 + 1, rA, rD2_35, rV2_35, frw, frr2_35, (by omega), (by omega), (by omega), by rw [ht]; exact hP9, hD9⟩⟩, hS.F ht⟩) hS.2.2 dX7_takes_38
        · refine W_sQ hQ ?_
          refine W.widen (k := 0) (n := 0) (Nat.le_of_ble_eq_true rfl) (Nat.le_of_ble_eq_true rfl) ?_
          have hP9 := hP.sub (ws' := [(rd, .inr (7, [.ref rw, .ref rc, .int (nI (c1 + 1)), .int (nI (p1 + 1)), .int (nI rA), .int rD2_35, .int rV2_35])), (rw, .inl (cs 0, 5, .inl frw)), (rc, .inl (cs 4, 5, .inr (.inr (.inr (.inr (rowsF 5 rr)))))), ((rr 0), .inl (cs 0, 4, .inl (frr2_35 0))), ((rr 1), .inl (cs 0, 4, .inl (frr2_35 1))), ((rr 2), .inl (cs 0, 4, .inl (frr2_35 2))), ((rr 3), .inl (cs 0, 4, .inl (frr2_35 3))), ((rr 4), .inl (cs 0, 4, .inl (frr2_35 4)))]) [1, 0, 2, 3, 4, 5, 6, 7] rfl
          have hD9 := hD.sub (ws' := [(rd, .inr (7, [.ref rw, .ref rc, .int (nI (c1 + 1)), .int (nI (p1 + 1)), .int (nI rA), .int rD2_35, .int rV2_35])), (rw, .inl (cs 0, 5, .inl frw)), (rc, .inl (cs 4, 5, .inr (.inr (.inr (.inr (rowsF 5 rr)))))), ((rr 0), .inl (cs 0, 4, .inl (frr2_35 0))), ((rr 1), .inl (cs 0, 4, .inl (frr2_35 1))), ((rr 2), .inl (cs 0, 4, .inl (frr2_35 2))), ((rr 3), .inl (cs 0, 4, .inl (frr2_35 3))), ((rr 4), .inl (cs 0, 4, .inl (frr2_35 4)))]) [1, 0, 2, 3, 4, 5, 6, 7] (by decide) rfl
          exact W.zret (v := 1) hx hb hr (by decide) (fun t ht hW => ⟨⟨1, (), rfl, (Or.inr rfl), ⟨c1, p1 + 1, rA, rD2_35, rV2_35, frw, frr2_35, (by omega), (by omega), (by omega), by rw [ht]; exact hP9, hD9⟩⟩, hS.F ht⟩) hS.2.2 dX7_takes_38
      · have n_16 : rP = 0 := b_eq_t (by omega) (by omega) c_16
        refine lv_aload_n hx hb dX7_takes_19 rfl (lv_at hl 0 rfl) ?_
        refine lv_iload_n hx hb dX7_takes_20 rfl (lv_at hl 1 rfl) ?_
        refine lv_bipush (v := 48) hx hb dX7_takes_21 (by decide) ?_
        refine lv_isub hx hb dX7_takes_23 ?_
        refine lv_topi (fun z_23 e_23 => ?_)
        have hPc := hP.sub (ws' := [(rd, .inr (7, [.ref rw, .ref rc, .int (nI (c1 + 1)), .int (nI rP), .int (nI rA), .int rD, .int rV])), (rw, .inl (cs 0, 5, .inl frw))]) [0, 1] rfl
        have hDc := hD.sub (ws' := [(rd, .inr (7, [.ref rw, .ref rc, .int (nI (c1 + 1)), .int (nI rP), .int (nI rA), .int rD, .int rV])), (rw, .inl (cs 0, 5, .inl frw))]) [0, 1] (by decide) rfl
        have hFc := va_free (wc := [(rd, .inr (7, [.ref rw, .ref rc, .int (nI (c1 + 1)), .int (nI rP), .int (nI rA), .int rD, .int rV])), (rw, .inl (cs 0, 5, .inl frw))]) hD hS hA [0, 1] rfl
        refine va_calli (va_runV (As := [.int z_23]) (rest := []) ⟨hx, hb, hml, hown, hg⟩ (r_takesOfWeight l D cs rd rw rc c1 rP rA rD rV (by omega) (by omega) (by omega) frw z_23 _) (cwV 1 hg (gw_V kw_89 kw_90 kw_91 kw_54 kw_88) rfl rfl rfl (by decide +kernel) ⟨(Nat.le_of_ble_eq_true rfl), (Nat.le_of_ble_eq_true rfl)⟩) (pr_MV (q := (RX7, TX7, 7)) 7 0 hK hPc hDc rfl rfl) rfl rfl hl.1 rfl (lv_room (Nat.le_of_ble_eq_true rfl)) dX7_takes_24 ⟨(Nat.le_of_ble_eq_true rfl), (Nat.le_of_ble_eq_true rfl)⟩) hS (fun q _ h => hFc q h) hFc (fun r_24 u t H1 locs ht hvm h_24 hB hz1 hk1 hS => ?_)
        obtain ⟨rD2_24, rV2_24, frw2_24, hP1, hD1⟩ := hB
        rw [ht] at hP1
        obtain ⟨hP, hD⟩ := va_join (wr := [(rc, .inl (cs 4, 5, .inr (.inr (.inr (.inr (rowsF 5 rr)))))), ((rr 0), .inl (cs 0, 4, .inl (frr 0))), ((rr 1), .inl (cs 0, 4, .inl (frr 1))), ((rr 2), .inl (cs 0, 4, .inl (frr 2))), ((rr 3), .inl (cs 0, 4, .inl (frr 3))), ((rr 4), .inl (cs 0, 4, .inl (frr 4)))]) (w1 := [(rd, .inr (7, [.ref rw, .ref rc, .int (nI (c1 + 1)), .int (nI rP), .int (nI rA), .int rD2_24, .int rV2_24])), (rw, .inl (cs 0, 5, .inl frw2_24))]) hP hD [0, 1] [2, 3, 4, 5, 6, 7] rfl rfl (by decide) (by decide) hk1 hFc hP1 hD1
        generalize H1 = H at hP hS ⊢
        have hP : va_P D vwCl [(rc, .inl (cs 4, 5, .inr (.inr (.inr (.inr (rowsF 5 rr)))))), ((rr 0), .inl (cs 0, 4, .inl (frr 0))), ((rr 1), .inl (cs 0, 4, .inl (frr 1))), ((rr 2), .inl (cs 0, 4, .inl (frr 2))), ((rr 3), .inl (cs 0, 4, .inl (frr 3))), ((rr 4), .inl (cs 0, 4, .inl (frr 4))), (rd, .inr (7, [.ref rw, .ref rc, .int (nI (c1 + 1)), .int (nI rP), .int (nI rA), .int rD2_24, .int rV2_24])), (rw, .inl (cs 0, 5, .inl frw2_24))] H := hP
        have hD : va_D A [(rc, .inl (cs 4, 5, .inr (.inr (.inr (.inr (rowsF 5 rr)))))), ((rr 0), .inl (cs 0, 4, .inl (frr 0))), ((rr 1), .inl (cs 0, 4, .inl (frr 1))), ((rr 2), .inl (cs 0, 4, .inl (frr 2))), ((rr 3), .inl (cs 0, 4, .inl (frr 3))), ((rr 4), .inl (cs 0, 4, .inl (frr 4))), (rd, .inr (7, [.ref rw, .ref rc, .int (nI (c1 + 1)), .int (nI rP), .int (nI rA), .int rD2_24, .int rV2_24])), (rw, .inl (cs 0, 5, .inl frw2_24))] := hD
        refine W.cs (cells' := 0) (slots' := 0) rfl rfl ?_
        rcases h_24 with rfl | rfl
        · refine lv_goto (tgt := 38) hx hb dX7_takes_27 (by decide) ?_
          refine W_sQ hQ ?_
          refine W.widen (k := 0) (n := 0) (Nat.le_of_ble_eq_true rfl) (Nat.le_of_ble_eq_true rfl) ?_
          have hP9 := hP.sub (ws' := [(rd, .inr (7, [.ref rw, .ref rc, .int (nI (c1 + 1)), .int (nI rP), .int (nI rA), .int rD2_24, .int rV2_24])), (rw, .inl (cs 0, 5, .inl frw2_24)), (rc, .inl (cs 4, 5, .inr (.inr (.inr (.inr (rowsF 5 rr)))))), ((rr 0), .inl (cs 0, 4, .inl (frr 0))), ((rr 1), .inl (cs 0, 4, .inl (frr 1))), ((rr 2), .inl (cs 0, 4, .inl (frr 2))), ((rr 3), .inl (cs 0, 4, .inl (frr 3))), ((rr 4), .inl (cs 0, 4, .inl (frr 4)))]) [6, 7, 0, 1, 2, 3, 4, 5] rfl
          have hD9 := hD.sub (ws' := [(rd, .inr (7, [.ref rw, .ref rc, .int (nI (c1 + 1)), .int (nI rP), .int (nI rA), .int rD2_24, .int rV2_24])), (rw, .inl (cs 0, 5, .inl frw2_24)), (rc, .inl (cs 4, 5, .inr (.inr (.inr (.inr (rowsF 5 rr)))))), ((rr 0), .inl (cs 0, 4, .inl (frr 0))), ((rr 1), .inl (cs 0, 4, .inl (frr 1))), ((rr 2), .inl (cs 0, 4, .inl (frr 2))), ((rr 3), .inl (cs 0, 4, .inl (frr 3))), ((rr 4), .inl (cs 0, 4, .inl (frr 4)))]) [6, 7, 0, 1, 2, 3, 4, 5] (by decide) rfl
          exact W.zret (v := 0) hx hb hr (by decide) (fun t ht hW => ⟨⟨0, (), rfl, (Or.inl rfl), ⟨c1, rP, rA, rD2_24, rV2_24, frw2_24, frr, (by omega), (by omega), (by omega), by rw [ht]; exact hP9, hD9⟩⟩, hS.F ht⟩) hS.2.2 dX7_takes_38
        · refine lv_goto (tgt := 38) hx hb dX7_takes_27 (by decide) ?_
          refine W_sQ hQ ?_
          refine W.widen (k := 0) (n := 0) (Nat.le_of_ble_eq_true rfl) (Nat.le_of_ble_eq_true rfl) ?_
          have hP9 := hP.sub (ws' := [(rd, .inr (7, [.ref rw, .ref rc, .int (nI (c1 + 1)), .int (nI rP), .int (nI rA), .int rD2_24, .int rV2_24])), (rw, .inl (cs 0, 5, .inl frw2_24)), (rc, .inl (cs 4, 5, .inr (.inr (.inr (.inr (rowsF 5 rr)))))), ((rr 0), .inl (cs 0, 4, .inl (frr 0))), ((rr 1), .inl (cs 0, 4, .inl (frr 1))), ((rr 2), .inl (cs 0, 4, .inl (frr 2))), ((rr 3), .inl (cs 0, 4, .inl (frr 3))), ((rr 4), .inl (cs 0, 4, .inl (frr 4)))]) [6, 7, 0, 1, 2, 3, 4, 5] rfl
          have hD9 := hD.sub (ws' := [(rd, .inr (7, [.ref rw, .ref rc, .int (nI (c1 + 1)), .int (nI rP), .int (nI rA), .int rD2_24, .int rV2_24])), (rw, .inl (cs 0, 5, .inl frw2_24)), (rc, .inl (cs 4, 5, .inr (.inr (.inr (.inr (rowsF 5 rr)))))), ((rr 0), .inl (cs 0, 4, .inl (frr 0))), ((rr 1), .inl (cs 0, 4, .inl (frr 1))), ((rr 2), .inl (cs 0, 4, .inl (frr 2))), ((rr 3), .inl (cs 0, 4, .inl (frr 3))), ((rr 4), .inl (cs 0, 4, .inl (frr 4)))]) [6, 7, 0, 1, 2, 3, 4, 5] (by decide) rfl
          exact W.zret (v := 1) hx hb hr (by decide) (fun t ht hW => ⟨⟨1, (), rfl, (Or.inr rfl), ⟨c1, rP, rA, rD2_24, rV2_24, frw2_24, frr, (by omega), (by omega), (by omega), by rw [ht]; exact hP9, hD9⟩⟩, hS.F ht⟩) hS.2.2 dX7_takes_38

theorem dX7_readUntilFault_0 : decode cX7_readUntilFault 0 = .ok (.aload_n 0, 1) := by decide +kernel
theorem dX7_readUntilFault_1 : decode cX7_readUntilFault 1 = .ok (.iconst 0, 1) := by decide +kernel
theorem dX7_readUntilFault_2 : decode cX7_readUntilFault 2 = .ok (.putfield 20, 3) := by decide +kernel
theorem dX7_readUntilFault_5 : decode cX7_readUntilFault 5 = .ok (.aload_n 0, 1) := by decide +kernel
theorem dX7_readUntilFault_6 : decode cX7_readUntilFault 6 = .ok (.iconst 0, 1) := by decide +kernel
theorem dX7_readUntilFault_7 : decode cX7_readUntilFault 7 = .ok (.putfield 24, 3) := by decide +kernel
theorem dX7_readUntilFault_10 : decode cX7_readUntilFault 10 = .ok (.aload_n 0, 1) := by decide +kernel
theorem dX7_readUntilFault_11 : decode cX7_readUntilFault 11 = .ok (.invokevirtual 27, 3) := by decide +kernel
theorem dX7_readUntilFault_14 : decode cX7_readUntilFault 14 = .ok (.iconst 0, 1) := by decide +kernel
theorem dX7_readUntilFault_15 : decode cX7_readUntilFault 15 = .ok (.istore_n 2, 1) := by decide +kernel
theorem dX7_readUntilFault_16 : decode cX7_readUntilFault 16 = .ok (.iload_n 2, 1) := by decide +kernel
theorem dX7_readUntilFault_17 : decode cX7_readUntilFault 17 = .ok (.aload_n 1, 1) := by decide +kernel
theorem dX7_readUntilFault_18 : decode cX7_readUntilFault 18 = .ok (.getfield 30, 3) := by decide +kernel
theorem dX7_readUntilFault_21 : decode cX7_readUntilFault 21 = .ok (.if_icmp .ge 24, 3) := by decide +kernel
theorem dX7_readUntilFault_24 : decode cX7_readUntilFault 24 = .ok (.aload_n 0, 1) := by decide +kernel
theorem dX7_readUntilFault_25 : decode cX7_readUntilFault 25 = .ok (.aload_n 1, 1) := by decide +kernel
theorem dX7_readUntilFault_26 : decode cX7_readUntilFault 26 = .ok (.getfield 35, 3) := by decide +kernel
theorem dX7_readUntilFault_29 : decode cX7_readUntilFault 29 = .ok (.iload_n 2, 1) := by decide +kernel
theorem dX7_readUntilFault_30 : decode cX7_readUntilFault 30 = .ok (.iaload, 1) := by decide +kernel
theorem dX7_readUntilFault_31 : decode cX7_readUntilFault 31 = .ok (.invokevirtual 38, 3) := by decide +kernel
theorem dX7_readUntilFault_34 : decode cX7_readUntilFault 34 = .ok (.ifCond .ne 5, 3) := by decide +kernel
theorem dX7_readUntilFault_37 : decode cX7_readUntilFault 37 = .ok (.iload_n 2, 1) := by decide +kernel
theorem dX7_readUntilFault_38 : decode cX7_readUntilFault 38 = .ok (.ireturn, 1) := by decide +kernel
theorem dX7_readUntilFault_39 : decode cX7_readUntilFault 39 = .ok (.iinc 2 1, 3) := by decide +kernel
theorem dX7_readUntilFault_42 : decode cX7_readUntilFault 42 = .ok (.goto (-26), 3) := by decide +kernel
theorem dX7_readUntilFault_45 : decode cX7_readUntilFault 45 = .ok (.aload_n 1, 1) := by decide +kernel
theorem dX7_readUntilFault_46 : decode cX7_readUntilFault 46 = .ok (.getfield 30, 3) := by decide +kernel
theorem dX7_readUntilFault_49 : decode cX7_readUntilFault 49 = .ok (.ireturn, 1) := by decide +kernel
theorem kw_92 : (.fieldLink RX7 30 "NobodyChecks$Page" "size" "I" : Cond) ∈ gw_tbl := gw_in (by decide +kernel) (by decide +kernel)
theorem kw_93 : (.fieldLink RX7 35 "NobodyChecks$Page" "codes" "[I" : Cond) ∈ gw_tbl := gw_in (by decide +kernel) (by decide +kernel)
theorem kw_94 : (.code yX7_takes cX7_takes 2 (some .boolean) : Cond) ∈ gw_tbl := gw_in (by decide +kernel) (by decide +kernel)
theorem kw_95 : (.methodLink RX7 38 yX7_takes : Cond) ∈ gw_tbl := gw_in (by decide +kernel) (by decide +kernel)
theorem kw_96 : (.instanceMethod yX7_takes : Cond) ∈ gw_tbl := gw_in (by decide +kernel) (by decide +kernel)
theorem kw_97 : (.selects RX7 yX7_takes yX7_takes : Cond) ∈ gw_tbl := gw_in (by decide +kernel) (by decide +kernel)

set_option maxHeartbeats 4000000 in
set_option maxRecDepth 100000 in
theorem r_readUntilFault (l : Launch) (D : va_G) (cs : Nat → ClassId) (rd : Nat) (rw : Nat) (rc : Nat) (aC : Int32) (aP : Int32) (aA : Int32) (rD : Int32) (rV : Int32) (rr : Nat → Nat) (frr : Nat → Nat → Int32) (frw : Nat → Int32) (pg : Nat) (cd : Nat) (ps : Nat) (hps : ps ≤ 90) (fcd : Nat → Int32) (sz : Nat) : Met l yX7_readUntilFault (Cond.code yX7_readUntilFault cX7_readUntilFault 3 (some .int) :: gw_tbl) ({ frames := 3, cells := 0, slots := 0, locals := 64 }) (pc_M D cs [(rd, .inr (7, [.ref rw, .ref rc, .int aC, .int aP, .int aA, .int rD, .int rV])), (rw, .inl (cs 0, 5, .inl frw)), (rc, .inl (cs 4, 5, .inr (.inr (.inr (.inr (rowsF 5 rr)))))), ((rr 0), .inl (cs 0, 4, .inl (frr 0))), ((rr 1), .inl (cs 0, 4, .inl (frr 1))), ((rr 2), .inl (cs 0, 4, .inl (frr 2))), ((rr 3), .inl (cs 0, 4, .inl (frr 3))), ((rr 4), .inl (cs 0, 4, .inl (frr 4))), (pg, .inr (2, [.ref cd, .int (nI ps)])), (cd, .inl (cs 0, 90, .inl fcd))] sz [.ref rd, .ref pg]) (va_Qi (fun (r : Int32) (u : Unit) => True) (fun u t => ∃ (c2 : Nat), ∃ (rP2 : Nat), ∃ (rA2 : Nat), ∃ (rD2 : Int32), ∃ (rV2 : Int32), ∃ (frw2 : Nat → Int32), ∃ (frr2 : Nat → Nat → Int32), (c2 ≤ 4) ∧ (rP2 ≤ 4) ∧ (rA2 ≤ 4) ∧ va_P D vwCl [(rd, .inr (7, [.ref rw, .ref rc, .int (nI (c2 + 1)), .int (nI rP2), .int (nI rA2), .int rD2, .int rV2])), (rw, .inl (cs 0, 5, .inl frw2)), (rc, .inl (cs 4, 5, .inr (.inr (.inr (.inr (rowsF 5 rr)))))), ((rr 0), .inl (cs 0, 4, .inl (frr2 0))), ((rr 1), .inl (cs 0, 4, .inl (frr2 1))), ((rr 2), .inl (cs 0, 4, .inl (frr2 2))), ((rr 3), .inl (cs 0, 4, .inl (frr2 3))), ((rr 4), .inl (cs 0, 4, .inl (frr2 4))), (pg, .inr (2, [.ref cd, .int (nI ps)])), (cd, .inl (cs 0, 90, .inl fcd))] t.heap ∧ va_D (va_A [(rd, .inr (7, [.ref rw, .ref rc, .int aC, .int aP, .int aA, .int rD, .int rV])), (rw, .inl (cs 0, 5, .inl frw)), (rc, .inl (cs 4, 5, .inr (.inr (.inr (.inr (rowsF 5 rr)))))), ((rr 0), .inl (cs 0, 4, .inl (frr 0))), ((rr 1), .inl (cs 0, 4, .inl (frr 1))), ((rr 2), .inl (cs 0, 4, .inl (frr 2))), ((rr 3), .inl (cs 0, 4, .inl (frr 3))), ((rr 4), .inl (cs 0, 4, .inl (frr 4))), (pg, .inr (2, [.ref cd, .int (nI ps)])), (cd, .inl (cs 0, 90, .inl fcd))] sz) [(rd, .inr (7, [.ref rw, .ref rc, .int (nI (c2 + 1)), .int (nI rP2), .int (nI rA2), .int rD2, .int rV2])), (rw, .inl (cs 0, 5, .inl frw2)), (rc, .inl (cs 4, 5, .inr (.inr (.inr (.inr (rowsF 5 rr)))))), ((rr 0), .inl (cs 0, 4, .inl (frr2 0))), ((rr 1), .inl (cs 0, 4, .inl (frr2 1))), ((rr 2), .inl (cs 0, 4, .inl (frr2 2))), ((rr 3), .inl (cs 0, 4, .inl (frr2 3))), ((rr 4), .inl (cs 0, 4, .inl (frr2 4))), (pg, .inr (2, [.ref cd, .int (nI ps)])), (cd, .inl (cs 0, 90, .inl fcd))]) (va_A [(rd, .inr (7, [.ref rw, .ref rc, .int aC, .int aP, .int aA, .int rD, .int rV])), (rw, .inl (cs 0, 5, .inl frw)), (rc, .inl (cs 4, 5, .inr (.inr (.inr (.inr (rowsF 5 rr)))))), ((rr 0), .inl (cs 0, 4, .inl (frr 0))), ((rr 1), .inl (cs 0, 4, .inl (frr 1))), ((rr 2), .inl (cs 0, 4, .inl (frr 2))), ((rr 3), .inl (cs 0, 4, .inl (frr 3))), ((rr 4), .inl (cs 0, 4, .inl (frr 4))), (pg, .inr (2, [.ref cd, .int (nI ps)])), (cd, .inl (cs 0, 90, .inl fcd))] sz)) 0 0 (va_A [(rd, .inr (7, [.ref rw, .ref rc, .int aC, .int aP, .int aA, .int rD, .int rV])), (rw, .inl (cs 0, 5, .inl frw)), (rc, .inl (cs 4, 5, .inr (.inr (.inr (.inr (rowsF 5 rr)))))), ((rr 0), .inl (cs 0, 4, .inl (frr 0))), ((rr 1), .inl (cs 0, 4, .inl (frr 1))), ((rr 2), .inl (cs 0, 4, .inl (frr 2))), ((rr 3), .inl (cs 0, 4, .inl (frr 3))), ((rr 4), .inl (cs 0, 4, .inl (frr 4))), (pg, .inr (2, [.ref cd, .int (nI ps)])), (cd, .inl (cs 0, 90, .inl fcd))] sz) := by
  refine Met.ofW (cc := cX7_readUntilFault) (maxL := 3) (ret := (some .int)) (by decide) rfl ?_
  intro p e s m args below meth c s₁ B hml hv
  obtain ⟨hargs, hsz, hP, hK, hD0⟩ := hv
  have hx := B.exec
  have hb := B.bytes
  have hr := B.returns
  have hts := atoms_spec (ws := Cond.code yX7_readUntilFault cX7_readUntilFault 3 (some .int) :: gw_tbl) B.pre
  have hg := fun (w : Cond) (h : w ∈ gw_tbl) => hts w (List.mem_cons_of_mem _ h)
  have hown : s.vm.findClass RX7 = some m.cls := findClass_of_methodNamed B.named
  have hlocks := B.notSynchronized
  subst hsz
  have hD := hD0.self (sz := s.heap.size)
  generalize hAe : va_A [(rd, .inr (7, [.ref rw, .ref rc, .int aC, .int aP, .int aA, .int rD, .int rV])), (rw, .inl (cs 0, 5, .inl frw)), (rc, .inl (cs 4, 5, .inr (.inr (.inr (.inr (rowsF 5 rr)))))), ((rr 0), .inl (cs 0, 4, .inl (frr 0))), ((rr 1), .inl (cs 0, 4, .inl (frr 1))), ((rr 2), .inl (cs 0, 4, .inl (frr 2))), ((rr 3), .inl (cs 0, 4, .inl (frr 3))), ((rr 4), .inl (cs 0, 4, .inl (frr 4))), (pg, .inr (2, [.ref cd, .int (nI ps)])), (cd, .inl (cs 0, 90, .inl fcd))] s.heap.size = A at hD ⊢
  have hA : ∀ q : Nat, s.heap.size ≤ q → A q := fun q h => by rw [← hAe]; exact Or.inr h
  have hS : va_S A s.heap s.heap [] := va_S.rf
  have hP : va_P D vwCl [(rd, .inr (7, [.ref rw, .ref rc, .int aC, .int aP, .int aA, .int rD, .int rV])), (rw, .inl (cs 0, 5, .inl frw)), (rc, .inl (cs 4, 5, .inr (.inr (.inr (.inr (rowsF 5 rr)))))), ((rr 0), .inl (cs 0, 4, .inl (frr 0))), ((rr 1), .inl (cs 0, 4, .inl (frr 1))), ((rr 2), .inl (cs 0, 4, .inl (frr 2))), ((rr 3), .inl (cs 0, 4, .inl (frr 3))), ((rr 4), .inl (cs 0, 4, .inl (frr 4))), (pg, .inr (2, [.ref cd, .int (nI ps)])), (cd, .inl (cs 0, 90, .inl fcd))] s.heap := hP
  have hl := lv_entry ([.ref rd, .ref pg]) (n := 3) (Nat.le_of_ble_eq_true rfl)
  rw [show entryFrame m args 3 = F0 m 0 (lg_sl ([.ref rd, .ref pg]) ++ List.replicate (3 - (lg_sl ([.ref rd, .ref pg])).length) Slot.unset).toArray [] from by rw [hargs]; exact lg_entry_eq ..]
  generalize (lg_sl ([.ref rd, .ref pg]) ++ List.replicate (3 - (lg_sl ([.ref rd, .ref pg])).length) Slot.unset).toArray = ls at hl ⊢
  have hl : lv_has ls 3 [(0, .ref rd), (1, .ref pg)] := hl
  refine W_genQ (fun Q hQ => ?_)
  refine lv_aload_n hx hb dX7_readUntilFault_0 rfl (lv_at hl 0 rfl) ?_
  refine lv_iconst (v := 0) hx hb dX7_readUntilFault_1 (by decide) ?_
  refine va_put (D := D) (ci := 7) (v := .int 0) (ty := .int) (C := RX7) (T := TX7) (N := 7) hx hb hg gwX7 tyX7 tyX7_ok nmX7 hown hK hP hD hS 0 rfl rfl 4 (by decide) (hg _ kw_59) (fun _ h9 => h9) rfl (by decide +kernel) rfl rfl (Nat.le_of_ble_eq_true rfl) dX7_readUntilFault_2 (fun H locs hP hD hS => ?_)
  have hP : va_P D vwCl [(rd, .inr (7, [.ref rw, .ref rc, .int aC, .int aP, .int 0, .int rD, .int rV])), (rw, .inl (cs 0, 5, .inl frw)), (rc, .inl (cs 4, 5, .inr (.inr (.inr (.inr (rowsF 5 rr)))))), ((rr 0), .inl (cs 0, 4, .inl (frr 0))), ((rr 1), .inl (cs 0, 4, .inl (frr 1))), ((rr 2), .inl (cs 0, 4, .inl (frr 2))), ((rr 3), .inl (cs 0, 4, .inl (frr 3))), ((rr 4), .inl (cs 0, 4, .inl (frr 4))), (pg, .inr (2, [.ref cd, .int (nI ps)])), (cd, .inl (cs 0, 90, .inl fcd))] H := hP
  have hD : va_D A [(rd, .inr (7, [.ref rw, .ref rc, .int aC, .int aP, .int 0, .int rD, .int rV])), (rw, .inl (cs 0, 5, .inl frw)), (rc, .inl (cs 4, 5, .inr (.inr (.inr (.inr (rowsF 5 rr)))))), ((rr 0), .inl (cs 0, 4, .inl (frr 0))), ((rr 1), .inl (cs 0, 4, .inl (frr 1))), ((rr 2), .inl (cs 0, 4, .inl (frr 2))), ((rr 3), .inl (cs 0, 4, .inl (frr 3))), ((rr 4), .inl (cs 0, 4, .inl (frr 4))), (pg, .inr (2, [.ref cd, .int (nI ps)])), (cd, .inl (cs 0, 90, .inl fcd))] := hD
  refine lv_aload_n hx hb dX7_readUntilFault_5 rfl (lv_at hl 0 rfl) ?_
  refine lv_iconst (v := 0) hx hb dX7_readUntilFault_6 (by decide) ?_
  refine va_put (D := D) (ci := 7) (v := .int 0) (ty := .int) (C := RX7) (T := TX7) (N := 7) hx hb hg gwX7 tyX7 tyX7_ok nmX7 hown hK hP hD hS 0 rfl rfl 2 (by decide) (hg _ kw_56) (fun _ h9 => h9) rfl (by decide +kernel) rfl rfl (Nat.le_of_ble_eq_true rfl) dX7_readUntilFault_7 (fun H locs hP hD hS => ?_)
  have hP : va_P D vwCl [(rd, .inr (7, [.ref rw, .ref rc, .int 0, .int aP, .int 0, .int rD, .int rV])), (rw, .inl (cs 0, 5, .inl frw)), (rc, .inl (cs 4, 5, .inr (.inr (.inr (.inr (rowsF 5 rr)))))), ((rr 0), .inl (cs 0, 4, .inl (frr 0))), ((rr 1), .inl (cs 0, 4, .inl (frr 1))), ((rr 2), .inl (cs 0, 4, .inl (frr 2))), ((rr 3), .inl (cs 0, 4, .inl (frr 3))), ((rr 4), .inl (cs 0, 4, .inl (frr 4))), (pg, .inr (2, [.ref cd, .int (nI ps)])), (cd, .inl (cs 0, 90, .inl fcd))] H := hP
  have hD : va_D A [(rd, .inr (7, [.ref rw, .ref rc, .int 0, .int aP, .int 0, .int rD, .int rV])), (rw, .inl (cs 0, 5, .inl frw)), (rc, .inl (cs 4, 5, .inr (.inr (.inr (.inr (rowsF 5 rr)))))), ((rr 0), .inl (cs 0, 4, .inl (frr 0))), ((rr 1), .inl (cs 0, 4, .inl (frr 1))), ((rr 2), .inl (cs 0, 4, .inl (frr 2))), ((rr 3), .inl (cs 0, 4, .inl (frr 3))), ((rr 4), .inl (cs 0, 4, .inl (frr 4))), (pg, .inr (2, [.ref cd, .int (nI ps)])), (cd, .inl (cs 0, 90, .inl fcd))] := hD
  refine lv_aload_n hx hb dX7_readUntilFault_10 rfl (lv_at hl 0 rfl) ?_
  have hPc := hP.sub (ws' := [(rd, .inr (7, [.ref rw, .ref rc, .int 0, .int aP, .int 0, .int rD, .int rV]))]) [0] rfl
  have hDc := hD.sub (ws' := [(rd, .inr (7, [.ref rw, .ref rc, .int 0, .int aP, .int 0, .int rD, .int rV]))]) [0] (by decide) rfl
  have hFc := va_free (wc := [(rd, .inr (7, [.ref rw, .ref rc, .int 0, .int aP, .int 0, .int rD, .int rV]))]) hD hS hA [0] rfl
  refine va_callv (va_runV (As := []) (rest := []) ⟨hx, hb, hml, hown, hg⟩ (r_beginCase l D cs rd rw rc 0 (.int aP) (.int 0) (.int rD) (.int rV) _) (cwV 0 hg (gw_V kw_69 kw_70 kw_71 kw_54 kw_68) rfl rfl rfl (by decide +kernel) ⟨(Nat.le_of_ble_eq_true rfl), (Nat.le_of_ble_eq_true rfl)⟩) (pr_MV (q := (RX7, TX7, 7)) 7 0 hK hPc hDc rfl rfl) rfl rfl hl.1 rfl (lv_room (Nat.le_of_ble_eq_true rfl)) dX7_readUntilFault_11 ⟨(Nat.le_of_ble_eq_true rfl), (Nat.le_of_ble_eq_true rfl)⟩) hS (fun q _ h => hFc q h) hFc (fun u t H1 locs ht hvm h_11 hB hz1 hk1 hS => ?_)
  obtain ⟨hP1, hD1⟩ := hB
  rw [ht] at hP1
  obtain ⟨hP, hD⟩ := va_join (wr := [(rw, .inl (cs 0, 5, .inl frw)), (rc, .inl (cs 4, 5, .inr (.inr (.inr (.inr (rowsF 5 rr)))))), ((rr 0), .inl (cs 0, 4, .inl (frr 0))), ((rr 1), .inl (cs 0, 4, .inl (frr 1))), ((rr 2), .inl (cs 0, 4, .inl (frr 2))), ((rr 3), .inl (cs 0, 4, .inl (frr 3))), ((rr 4), .inl (cs 0, 4, .inl (frr 4))), (pg, .inr (2, [.ref cd, .int (nI ps)])), (cd, .inl (cs 0, 90, .inl fcd))]) (w1 := [(rd, .inr (7, [.ref rw, .ref rc, .int (nI (0 + 1)), .int 0, .int 0, .int 0, .int 0]))]) hP hD [0] [1, 2, 3, 4, 5, 6, 7, 8, 9] rfl rfl (by decide) (by decide) hk1 hFc hP1 hD1
  generalize H1 = H at hP hS ⊢
  have hP : va_P D vwCl [(rw, .inl (cs 0, 5, .inl frw)), (rc, .inl (cs 4, 5, .inr (.inr (.inr (.inr (rowsF 5 rr)))))), ((rr 0), .inl (cs 0, 4, .inl (frr 0))), ((rr 1), .inl (cs 0, 4, .inl (frr 1))), ((rr 2), .inl (cs 0, 4, .inl (frr 2))), ((rr 3), .inl (cs 0, 4, .inl (frr 3))), ((rr 4), .inl (cs 0, 4, .inl (frr 4))), (pg, .inr (2, [.ref cd, .int (nI ps)])), (cd, .inl (cs 0, 90, .inl fcd)), (rd, .inr (7, [.ref rw, .ref rc, .int (nI (0 + 1)), .int 0, .int 0, .int 0, .int 0]))] H := hP
  have hD : va_D A [(rw, .inl (cs 0, 5, .inl frw)), (rc, .inl (cs 4, 5, .inr (.inr (.inr (.inr (rowsF 5 rr)))))), ((rr 0), .inl (cs 0, 4, .inl (frr 0))), ((rr 1), .inl (cs 0, 4, .inl (frr 1))), ((rr 2), .inl (cs 0, 4, .inl (frr 2))), ((rr 3), .inl (cs 0, 4, .inl (frr 3))), ((rr 4), .inl (cs 0, 4, .inl (frr 4))), (pg, .inr (2, [.ref cd, .int (nI ps)])), (cd, .inl (cs 0, 90, .inl fcd)), (rd, .inr (7, [.ref rw, .ref rc, .int (nI (0 + 1)), .int 0, .int 0, .int 0, .int 0]))] := hD
  refine W.cs (cells' := 0) (slots' := 0) rfl rfl ?_
  refine lv_iconst (v := 0) hx hb dX7_readUntilFault_14 (by decide) ?_
  refine lv_istore_n (lv' := [(2, .int 0), (0, .ref rd), (1, .ref pg)]) hx hb dX7_readUntilFault_15 rfl hl (by decide) rfl (fun ls hl => ?_)
  have LOOP16 : ∀ (n16 : Nat) (k : Nat) (c1 : Nat) (rP : Nat) (rA : Nat) (wrd5_16 : Int32) (wrd6_16 : Int32) (frw_16 : Nat → Int32) (frr_16 : Nat → Nat → Int32), k ≤ ps → c1 ≤ 4 → rP ≤ 4 → rA ≤ 4 → ps - k < n16 → ∀ (H : Heap) (locs : List Loc) (ls : Array Slot), va_P D vwCl [(rw, .inl (cs 0, 5, .inl frw_16)), (rc, .inl (cs 4, 5, .inr (.inr (.inr (.inr (rowsF 5 rr)))))), ((rr 0), .inl (cs 0, 4, .inl (frr_16 0))), ((rr 1), .inl (cs 0, 4, .inl (frr_16 1))), ((rr 2), .inl (cs 0, 4, .inl (frr_16 2))), ((rr 3), .inl (cs 0, 4, .inl (frr_16 3))), ((rr 4), .inl (cs 0, 4, .inl (frr_16 4))), (pg, .inr (2, [.ref cd, .int (nI ps)])), (cd, .inl (cs 0, 90, .inl fcd)), (rd, .inr (7, [.ref rw, .ref rc, .int (nI (c1 + 1)), .int (nI rP), .int (nI rA), .int wrd5_16, .int wrd6_16]))] H → va_D A [(rw, .inl (cs 0, 5, .inl frw_16)), (rc, .inl (cs 4, 5, .inr (.inr (.inr (.inr (rowsF 5 rr)))))), ((rr 0), .inl (cs 0, 4, .inl (frr_16 0))), ((rr 1), .inl (cs 0, 4, .inl (frr_16 1))), ((rr 2), .inl (cs 0, 4, .inl (frr_16 2))), ((rr 3), .inl (cs 0, 4, .inl (frr_16 3))), ((rr 4), .inl (cs 0, 4, .inl (frr_16 4))), (pg, .inr (2, [.ref cd, .int (nI ps)])), (cd, .inl (cs 0, 90, .inl fcd)), (rd, .inr (7, [.ref rw, .ref rc, .int (nI (c1 + 1)), .int (nI rP), .int (nI rA), .int wrd5_16, .int wrd6_16]))] → va_S A s.heap H locs → lv_has ls 3 [(0, .ref rd), (1, .ref pg), (2, .int (nI k))] → W p l e ({ frames := 3, cells := 0, slots := 0, locals := 64 } : Room) s m args below meth c H locs 0 0 Q (F0 m 16 ls []) := by
    intro n16
    induction n16 with
    | zero =>
      intro k c1 rP rA wrd5_16 wrd6_16 frw_16 frr_16 hk hc1 hrP hrA hn16 H locs ls hP hD hS hl
      exact absurd hn16 (Nat.not_lt_zero _)
    | succ n16 ih16 =>
      intro k c1 rP rA wrd5_16 wrd6_16 frw_16 frr_16 hk hc1 hrP hrA hn16 H locs ls hP hD hS hl
      refine lv_iload_n hx hb dX7_readUntilFault_16 rfl (lv_at hl 2 rfl) ?_
      refine lv_aload_n hx hb dX7_readUntilFault_17 rfl (lv_at hl 1 rfl) ?_
      refine va_get (D := D) (ci := 2) (v := .int (nI ps)) (C := RX2) (T := TX2) (N := 2) hx hb hg gwX2 hown hK hP 7 rfl rfl 1 (by decide) (hg _ kw_92) (fun _ h9 => h9) rfl dX7_readUntilFault_18 ?_
      refine lv_icmp_ge (tgt := 45) hx hb dX7_readUntilFault_21 (by decide) (fun c_21 => ?_) (fun c_21 => ?_)
      · have n_21 : ps ≤ k := b_le_t (by omega) (by omega) c_21
        refine lv_aload_n hx hb dX7_readUntilFault_45 rfl (lv_at hl 1 rfl) ?_
        refine va_get (D := D) (ci := 2) (v := .int (nI ps)) (C := RX2) (T := TX2) (N := 2) hx hb hg gwX2 hown hK hP 7 rfl rfl 1 (by decide) (hg _ kw_92) (fun _ h9 => h9) rfl dX7_readUntilFault_46 ?_
        refine W_sQ hQ ?_
        refine W.widen (k := 0) (n := 0) (Nat.le_of_ble_eq_true rfl) (Nat.le_of_ble_eq_true rfl) ?_
        have hP9 := hP.sub (ws' := [(rd, .inr (7, [.ref rw, .ref rc, .int (nI (c1 + 1)), .int (nI rP), .int (nI rA), .int wrd5_16, .int wrd6_16])), (rw, .inl (cs 0, 5, .inl frw_16)), (rc, .inl (cs 4, 5, .inr (.inr (.inr (.inr (rowsF 5 rr)))))), ((rr 0), .inl (cs 0, 4, .inl (frr_16 0))), ((rr 1), .inl (cs 0, 4, .inl (frr_16 1))), ((rr 2), .inl (cs 0, 4, .inl (frr_16 2))), ((rr 3), .inl (cs 0, 4, .inl (frr_16 3))), ((rr 4), .inl (cs 0, 4, .inl (frr_16 4))), (pg, .inr (2, [.ref cd, .int (nI ps)])), (cd, .inl (cs 0, 90, .inl fcd))]) [9, 0, 1, 2, 3, 4, 5, 6, 7, 8] rfl
        have hD9 := hD.sub (ws' := [(rd, .inr (7, [.ref rw, .ref rc, .int (nI (c1 + 1)), .int (nI rP), .int (nI rA), .int wrd5_16, .int wrd6_16])), (rw, .inl (cs 0, 5, .inl frw_16)), (rc, .inl (cs 4, 5, .inr (.inr (.inr (.inr (rowsF 5 rr)))))), ((rr 0), .inl (cs 0, 4, .inl (frr_16 0))), ((rr 1), .inl (cs 0, 4, .inl (frr_16 1))), ((rr 2), .inl (cs 0, 4, .inl (frr_16 2))), ((rr 3), .inl (cs 0, 4, .inl (frr_16 3))), ((rr 4), .inl (cs 0, 4, .inl (frr_16 4))), (pg, .inr (2, [.ref cd, .int (nI ps)])), (cd, .inl (cs 0, 90, .inl fcd))]) [9, 0, 1, 2, 3, 4, 5, 6, 7, 8] (by decide) rfl
        exact W.iret (v := (nI ps)) hx hb hr (fun t ht hW => ⟨⟨(nI ps), (), rfl, trivial, ⟨c1, rP, rA, wrd5_16, wrd6_16, frw_16, frr_16, (by omega), (by omega), (by omega), by rw [ht]; exact hP9, hD9⟩⟩, hS.F ht⟩) hS.2.2 dX7_readUntilFault_49
      · have n_21 : k < ps := b_le_f (by omega) (by omega) c_21
        refine lv_aload_n hx hb dX7_readUntilFault_24 rfl (lv_at hl 0 rfl) ?_
        refine lv_aload_n hx hb dX7_readUntilFault_25 rfl (lv_at hl 1 rfl) ?_
        refine va_get (D := D) (ci := 2) (v := .ref cd) (C := RX2) (T := TX2) (N := 2) hx hb hg gwX2 hown hK hP 7 rfl rfl 0 (by decide) (hg _ kw_93) (fun _ h9 => h9) rfl dX7_readUntilFault_26 ?_
        refine lv_iload_n hx hb dX7_readUntilFault_29 rfl (lv_at hl 2 rfl) ?_
        refine va_iald hx hb hK hP 8 0 rfl rfl (vp_in_nI (show k < 90 by omega) (by decide)) dX7_readUntilFault_30 ?_
        refine lv_topi (fun z_30 e_30 => ?_)
        have hPc := hP.sub (ws' := [(rd, .inr (7, [.ref rw, .ref rc, .int (nI (c1 + 1)), .int (nI rP), .int (nI rA), .int wrd5_16, .int wrd6_16])), (rw, .inl (cs 0, 5, .inl frw_16)), (rc, .inl (cs 4, 5, .inr (.inr (.inr (.inr (rowsF 5 rr)))))), ((rr 0), .inl (cs 0, 4, .inl (frr_16 0))), ((rr 1), .inl (cs 0, 4, .inl (frr_16 1))), ((rr 2), .inl (cs 0, 4, .inl (frr_16 2))), ((rr 3), .inl (cs 0, 4, .inl (frr_16 3))), ((rr 4), .inl (cs 0, 4, .inl (frr_16 4)))]) [9, 0, 1, 2, 3, 4, 5, 6] rfl
        have hDc := hD.sub (ws' := [(rd, .inr (7, [.ref rw, .ref rc, .int (nI (c1 + 1)), .int (nI rP), .int (nI rA), .int wrd5_16, .int wrd6_16])), (rw, .inl (cs 0, 5, .inl frw_16)), (rc, .inl (cs 4, 5, .inr (.inr (.inr (.inr (rowsF 5 rr)))))), ((rr 0), .inl (cs 0, 4, .inl (frr_16 0))), ((rr 1), .inl (cs 0, 4, .inl (frr_16 1))), ((rr 2), .inl (cs 0, 4, .inl (frr_16 2))), ((rr 3), .inl (cs 0, 4, .inl (frr_16 3))), ((rr 4), .inl (cs 0, 4, .inl (frr_16 4)))]) [9, 0, 1, 2, 3, 4, 5, 6] (by decide) rfl
        have hFc := va_free (wc := [(rd, .inr (7, [.ref rw, .ref rc, .int (nI (c1 + 1)), .int (nI rP), .int (nI rA), .int wrd5_16, .int wrd6_16])), (rw, .inl (cs 0, 5, .inl frw_16)), (rc, .inl (cs 4, 5, .inr (.inr (.inr (.inr (rowsF 5 rr)))))), ((rr 0), .inl (cs 0, 4, .inl (frr_16 0))), ((rr 1), .inl (cs 0, 4, .inl (frr_16 1))), ((rr 2), .inl (cs 0, 4, .inl (frr_16 2))), ((rr 3), .inl (cs 0, 4, .inl (frr_16 3))), ((rr 4), .inl (cs 0, 4, .inl (frr_16 4)))]) hD hS hA [9, 0, 1, 2, 3, 4, 5, 6] rfl
        refine va_calli (va_runV (As := [.int z_30]) (rest := []) ⟨hx, hb, hml, hown, hg⟩ (r_takes l D cs rd rw rc c1 rP rA wrd5_16 wrd6_16 (by omega) (by omega) (by omega) rr frr_16 frw_16 z_30 _) (cwV 1 hg (gw_V kw_95 kw_96 kw_97 kw_54 kw_94) rfl rfl rfl (by decide +kernel) ⟨(Nat.le_of_ble_eq_true rfl), (Nat.le_of_ble_eq_true rfl)⟩) (pr_MV (q := (RX7, TX7, 7)) 7 0 hK hPc hDc rfl rfl) rfl rfl hl.1 rfl (lv_room (Nat.le_of_ble_eq_true rfl)) dX7_readUntilFault_31 ⟨(Nat.le_of_ble_eq_true rfl), (Nat.le_of_ble_eq_true rfl)⟩) hS (fun q _ h => hFc q h) hFc (fun r_31 u t H1 locs ht hvm h_31 hB hz1 hk1 hS => ?_)
        obtain ⟨c2_31, rP2_31, rA2_31, rD2_31, rV2_31, frw2_31, frr2_31, hc2_31, hrP2_31, hrA2_31, hP1, hD1⟩ := hB
        rw [ht] at hP1
        obtain ⟨hP, hD⟩ := va_join (wr := [(pg, .inr (2, [.ref cd, .int (nI ps)])), (cd, .inl (cs 0, 90, .inl fcd))]) (w1 := [(rd, .inr (7, [.ref rw, .ref rc, .int (nI (c2_31 + 1)), .int (nI rP2_31), .int (nI rA2_31), .int rD2_31, .int rV2_31])), (rw, .inl (cs 0, 5, .inl frw2_31)), (rc, .inl (cs 4, 5, .inr (.inr (.inr (.inr (rowsF 5 rr)))))), ((rr 0), .inl (cs 0, 4, .inl (frr2_31 0))), ((rr 1), .inl (cs 0, 4, .inl (frr2_31 1))), ((rr 2), .inl (cs 0, 4, .inl (frr2_31 2))), ((rr 3), .inl (cs 0, 4, .inl (frr2_31 3))), ((rr 4), .inl (cs 0, 4, .inl (frr2_31 4)))]) hP hD [9, 0, 1, 2, 3, 4, 5, 6] [7, 8] rfl rfl (by decide) (by decide) hk1 hFc hP1 hD1
        generalize H1 = H at hP hS ⊢
        have hP : va_P D vwCl [(pg, .inr (2, [.ref cd, .int (nI ps)])), (cd, .inl (cs 0, 90, .inl fcd)), (rd, .inr (7, [.ref rw, .ref rc, .int (nI (c2_31 + 1)), .int (nI rP2_31), .int (nI rA2_31), .int rD2_31, .int rV2_31])), (rw, .inl (cs 0, 5, .inl frw2_31)), (rc, .inl (cs 4, 5, .inr (.inr (.inr (.inr (rowsF 5 rr)))))), ((rr 0), .inl (cs 0, 4, .inl (frr2_31 0))), ((rr 1), .inl (cs 0, 4, .inl (frr2_31 1))), ((rr 2), .inl (cs 0, 4, .inl (frr2_31 2))), ((rr 3), .inl (cs 0, 4, .inl (frr2_31 3))), ((rr 4), .inl (cs 0, 4, .inl (frr2_31 4)))] H := hP
        have hD : va_D A [(pg, .inr (2, [.ref cd, .int (nI ps)])), (cd, .inl (cs 0, 90, .inl fcd)), (rd, .inr (7, [.ref rw, .ref rc, .int (nI (c2_31 + 1)), .int (nI rP2_31), .int (nI rA2_31), .int rD2_31, .int rV2_31])), (rw, .inl (cs 0, 5, .inl frw2_31)), (rc, .inl (cs 4, 5, .inr (.inr (.inr (.inr (rowsF 5 rr)))))), ((rr 0), .inl (cs 0, 4, .inl (frr2_31 0))), ((rr 1), .inl (cs 0, 4, .inl (frr2_31 1))), ((rr 2), .inl (cs 0, 4, .inl (frr2_31 2))), ((rr 3), .inl (cs 0, 4, .inl (frr2_31 3))), ((rr 4), .inl (cs 0, 4, .inl (frr2_31 4)))] := hD
        refine W.cs (cells' := 0) (slots' := 0) rfl rfl ?_
        rcases h_31 with rfl | rfl
        · refine lv_if_ne (tgt := 39) hx hb dX7_readUntilFault_34 (by decide) (fun c_34 => absurd c_34 (by decide)) (fun c_34 => ?_)
          refine lv_iload_n hx hb dX7_readUntilFault_37 rfl (lv_at hl 2 rfl) ?_
          refine W_sQ hQ ?_
          refine W.widen (k := 0) (n := 0) (Nat.le_of_ble_eq_true rfl) (Nat.le_of_ble_eq_true rfl) ?_
          have hP9 := hP.sub (ws' := [(rd, .inr (7, [.ref rw, .ref rc, .int (nI (c2_31 + 1)), .int (nI rP2_31), .int (nI rA2_31), .int rD2_31, .int rV2_31])), (rw, .inl (cs 0, 5, .inl frw2_31)), (rc, .inl (cs 4, 5, .inr (.inr (.inr (.inr (rowsF 5 rr)))))), ((rr 0), .inl (cs 0, 4, .inl (frr2_31 0))), ((rr 1), .inl (cs 0, 4, .inl (frr2_31 1))), ((rr 2), .inl (cs 0, 4, .inl (frr2_31 2))), ((rr 3), .inl (cs 0, 4, .inl (frr2_31 3))), ((rr 4), .inl (cs 0, 4, .inl (frr2_31 4))), (pg, .inr (2, [.ref cd, .int (nI ps)])), (cd, .inl (cs 0, 90, .inl fcd))]) [2, 3, 4, 5, 6, 7, 8, 9, 0, 1] rfl
          have hD9 := hD.sub (ws' := [(rd, .inr (7, [.ref rw, .ref rc, .int (nI (c2_31 + 1)), .int (nI rP2_31), .int (nI rA2_31), .int rD2_31, .int rV2_31])), (rw, .inl (cs 0, 5, .inl frw2_31)), (rc, .inl (cs 4, 5, .inr (.inr (.inr (.inr (rowsF 5 rr)))))), ((rr 0), .inl (cs 0, 4, .inl (frr2_31 0))), ((rr 1), .inl (cs 0, 4, .inl (frr2_31 1))), ((rr 2), .inl (cs 0, 4, .inl (frr2_31 2))), ((rr 3), .inl (cs 0, 4, .inl (frr2_31 3))), ((rr 4), .inl (cs 0, 4, .inl (frr2_31 4))), (pg, .inr (2, [.ref cd, .int (nI ps)])), (cd, .inl (cs 0, 90, .inl fcd))]) [2, 3, 4, 5, 6, 7, 8, 9, 0, 1] (by decide) rfl
          exact W.iret (v := (nI k)) hx hb hr (fun t ht hW => ⟨⟨(nI k), (), rfl, trivial, ⟨c2_31, rP2_31, rA2_31, rD2_31, rV2_31, frw2_31, frr2_31, (by omega), (by omega), (by omega), by rw [ht]; exact hP9, hD9⟩⟩, hS.F ht⟩) hS.2.2 dX7_readUntilFault_38
        · refine lv_if_ne (tgt := 39) hx hb dX7_readUntilFault_34 (by decide) (fun c_34 => ?_) (fun c_34 => absurd c_34 (by decide))
          refine lv_iinc (v := (nI (k + 1))) (lv' := [(2, .int (nI (k + 1))), (0, .ref rd), (1, .ref pg)]) hx hb dX7_readUntilFault_39 hl (k := 2) rfl (nI_add k 1) (by decide) rfl (fun ls hl => ?_)
          refine lv_goto (tgt := 16) hx hb dX7_readUntilFault_42 (by decide) ?_
          exact ih16 (k + 1) c2_31 rP2_31 rA2_31 rD2_31 rV2_31 frw2_31 frr2_31 (by omega) (by omega) (by omega) (by omega) (by omega) _ _ ls (hP.sub [3, 4, 5, 6, 7, 8, 9, 0, 1, 2] rfl) (hD.sub [3, 4, 5, 6, 7, 8, 9, 0, 1, 2] (by decide) rfl) hS (lv_sub hl [1, 2, 0] rfl)
  exact LOOP16 (ps - 0 + 1) 0 0 0 0 0 0 frw frr (by omega) (by omega) (by omega) (by omega) (Nat.lt_succ_self _) _ _ ls hP hD hS (lv_sub hl [1, 2, 0] rfl)
