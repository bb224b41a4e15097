theorem dX0_fillLeads_0 : decode cX0_fillLeads 0 = .ok (.iconst 0, 1) := by decide +kernel
theorem dX0_fillLeads_1 : decode cX0_fillLeads 1 = .ok (.istore 4, 2) := by decide +kernel
theorem dX0_fillLeads_3 : decode cX0_fillLeads 3 = .ok (.iload 4, 2) := by decide +kernel
theorem dX0_fillLeads_5 : decode cX0_fillLeads 5 = .ok (.aload_n 0, 1) := by decide +kernel
theorem dX0_fillLeads_6 : decode cX0_fillLeads 6 = .ok (.getfield 54, 3) := by decide +kernel
theorem dX0_fillLeads_9 : decode cX0_fillLeads 9 = .ok (.getfield 108, 3) := by decide +kernel
theorem dX0_fillLeads_12 : decode cX0_fillLeads 12 = .ok (.if_icmp .ge 74, 3) := by decide +kernel
theorem dX0_fillLeads_15 : decode cX0_fillLeads 15 = .ok (.aload_n 1, 1) := by decide +kernel
theorem dX0_fillLeads_16 : decode cX0_fillLeads 16 = .ok (.aload_n 0, 1) := by decide +kernel
theorem dX0_fillLeads_17 : decode cX0_fillLeads 17 = .ok (.getfield 54, 3) := by decide +kernel
theorem dX0_fillLeads_20 : decode cX0_fillLeads 20 = .ok (.aload_n 2, 1) := by decide +kernel
theorem dX0_fillLeads_21 : decode cX0_fillLeads 21 = .ok (.iconst 0, 1) := by decide +kernel
theorem dX0_fillLeads_22 : decode cX0_fillLeads 22 = .ok (.iload 4, 2) := by decide +kernel
theorem dX0_fillLeads_24 : decode cX0_fillLeads 24 = .ok (.invokestatic 132, 3) := by decide +kernel
theorem dX0_fillLeads_27 : decode cX0_fillLeads 27 = .ok (.lstore 5, 2) := by decide +kernel
theorem dX0_fillLeads_29 : decode cX0_fillLeads 29 = .ok (.iconst 1, 1) := by decide +kernel
theorem dX0_fillLeads_30 : decode cX0_fillLeads 30 = .ok (.istore 7, 2) := by decide +kernel
theorem dX0_fillLeads_32 : decode cX0_fillLeads 32 = .ok (.iload 7, 2) := by decide +kernel
theorem dX0_fillLeads_34 : decode cX0_fillLeads 34 = .ok (.iconst 4, 1) := by decide +kernel
theorem dX0_fillLeads_35 : decode cX0_fillLeads 35 = .ok (.if_icmp .ge 45, 3) := by decide +kernel
theorem dX0_fillLeads_38 : decode cX0_fillLeads 38 = .ok (.aload_n 1, 1) := by decide +kernel
theorem dX0_fillLeads_39 : decode cX0_fillLeads 39 = .ok (.aload_n 0, 1) := by decide +kernel
theorem dX0_fillLeads_40 : decode cX0_fillLeads 40 = .ok (.getfield 54, 3) := by decide +kernel
theorem dX0_fillLeads_43 : decode cX0_fillLeads 43 = .ok (.aload_n 2, 1) := by decide +kernel
theorem dX0_fillLeads_44 : decode cX0_fillLeads 44 = .ok (.iload 7, 2) := by decide +kernel
theorem dX0_fillLeads_46 : decode cX0_fillLeads 46 = .ok (.iconst 2, 1) := by decide +kernel
theorem dX0_fillLeads_47 : decode cX0_fillLeads 47 = .ok (.iload 4, 2) := by decide +kernel
theorem dX0_fillLeads_49 : decode cX0_fillLeads 49 = .ok (.imul, 1) := by decide +kernel
theorem dX0_fillLeads_50 : decode cX0_fillLeads 50 = .ok (.ishl, 1) := by decide +kernel
theorem dX0_fillLeads_51 : decode cX0_fillLeads 51 = .ok (.iload 4, 2) := by decide +kernel
theorem dX0_fillLeads_53 : decode cX0_fillLeads 53 = .ok (.invokestatic 132, 3) := by decide +kernel
theorem dX0_fillLeads_56 : decode cX0_fillLeads 56 = .ok (.lstore 8, 2) := by decide +kernel
theorem dX0_fillLeads_58 : decode cX0_fillLeads 58 = .ok (.aload_n 3, 1) := by decide +kernel
theorem dX0_fillLeads_59 : decode cX0_fillLeads 59 = .ok (.iload 4, 2) := by decide +kernel
theorem dX0_fillLeads_61 : decode cX0_fillLeads 61 = .ok (.iconst 3, 1) := by decide +kernel
theorem dX0_fillLeads_62 : decode cX0_fillLeads 62 = .ok (.imul, 1) := by decide +kernel
theorem dX0_fillLeads_63 : decode cX0_fillLeads 63 = .ok (.iload 7, 2) := by decide +kernel
theorem dX0_fillLeads_65 : decode cX0_fillLeads 65 = .ok (.iadd, 1) := by decide +kernel
theorem dX0_fillLeads_66 : decode cX0_fillLeads 66 = .ok (.iconst 1, 1) := by decide +kernel
theorem dX0_fillLeads_67 : decode cX0_fillLeads 67 = .ok (.isub, 1) := by decide +kernel
theorem dX0_fillLeads_68 : decode cX0_fillLeads 68 = .ok (.lload 5, 2) := by decide +kernel
theorem dX0_fillLeads_70 : decode cX0_fillLeads 70 = .ok (.lload 8, 2) := by decide +kernel
theorem dX0_fillLeads_72 : decode cX0_fillLeads 72 = .ok (.lsub, 1) := by decide +kernel
theorem dX0_fillLeads_73 : decode cX0_fillLeads 73 = .ok (.lastore, 1) := by decide +kernel
theorem dX0_fillLeads_74 : decode cX0_fillLeads 74 = .ok (.iinc 7 1, 3) := by decide +kernel
theorem dX0_fillLeads_77 : decode cX0_fillLeads 77 = .ok (.goto (-45), 3) := by decide +kernel
theorem dX0_fillLeads_80 : decode cX0_fillLeads 80 = .ok (.iinc 4 1, 3) := by decide +kernel
theorem dX0_fillLeads_83 : decode cX0_fillLeads 83 = .ok (.goto (-80), 3) := by decide +kernel
theorem dX0_fillLeads_86 : decode cX0_fillLeads 86 = .ok (.return_, 1) := by decide +kernel
theorem kw_244 : (.fieldLink RX0 54 "NobodyChecks$Cheapest" "asked" "LNobodyChecks$Question;" : Cond) ∈ gw_tbl := gw_in (by decide +kernel) (by decide +kernel)
theorem kw_245 : (.fieldLink RX0 108 "NobodyChecks$Question" "persons" "I" : Cond) ∈ gw_tbl := gw_in (by decide +kernel) (by decide +kernel)
theorem kw_246 : (.methodLink RX0 132 yX4_average : Cond) ∈ gw_tbl := gw_in (by decide +kernel) (by decide +kernel)

set_option maxHeartbeats 4000000 in
set_option maxRecDepth 100000 in
theorem h_fillLeads (l : Launch) (D : va_G) (cs : Nat → ClassId) (ch : Nat) (sm : Nat) (tb : Nat) (ck : Nat) (cm : Nat) (le : Nat) (ne : Nat) (pr : Nat) (tr : Nat) (ln : Nat) (trs : Int32) (lpr : Int64) (h0 : Nat) (nq : Nat) (av : Value) (rk : Int32) (ci : Nat) (hci : isPy ci) (fq : Nat → Int32) (aq : Nat) (aw : Nat) (ac : Nat) (ao : Nat) (am : Nat) (C : Nat) (hC5 : C ≤ 5) (P : Nat) (hP4 : P ≤ 4) (tot : Int64) (ma : Nat) (fd : Nat) (fma : Nat → Int64) (ffd : Nat → Int64) (sz : Nat) : Met l yX0_fillLeads (Cond.code yX0_fillLeads cX0_fillLeads 10 none :: gw_tbl) ({ frames := 3, cells := 0, slots := 0, locals := 86 }) (pc_M D cs [(ch, .inr (0, [.ref aq, .ref sm, .ref tb, .ref ck, .ref cm, .ref le, .ref ne, .ref pr, .ref tr, .ref ln, .int trs, .long lpr])), (h0, .inr (ci, [.ref nq, av, .int rk])), (nq, .inl (cs 0, 4, .inl fq)), (aq, .inr (5, [.ref aw, .ref ac, .ref ao, .ref am, .int (nI C), .int (nI P), .long tot])), (ma, .inl (cs 1, 16, .inr (.inl fma))), (fd, .inl (cs 1, 12, .inr (.inl ffd)))] sz [.ref ch, .ref h0, .ref ma, .ref fd]) (va_Qv (fun (u : Unit) => True) (fun u t => ∃ (ffd2 : Nat → Int64), va_P D vwCl [(ch, .inr (0, [.ref aq, .ref sm, .ref tb, .ref ck, .ref cm, .ref le, .ref ne, .ref pr, .ref tr, .ref ln, .int trs, .long lpr])), (h0, .inr (ci, [.ref nq, av, .int rk])), (nq, .inl (cs 0, 4, .inl fq)), (aq, .inr (5, [.ref aw, .ref ac, .ref ao, .ref am, .int (nI C), .int (nI P), .long tot])), (ma, .inl (cs 1, 16, .inr (.inl fma))), (fd, .inl (cs 1, 12, .inr (.inl ffd2)))] t.heap ∧ va_D (va_A [(ch, .inr (0, [.ref aq, .ref sm, .ref tb, .ref ck, .ref cm, .ref le, .ref ne, .ref pr, .ref tr, .ref ln, .int trs, .long lpr])), (h0, .inr (ci, [.ref nq, av, .int rk])), (nq, .inl (cs 0, 4, .inl fq)), (aq, .inr (5, [.ref aw, .ref ac, .ref ao, .ref am, .int (nI C), .int (nI P), .long tot])), (ma, .inl (cs 1, 16, .inr (.inl fma))), (fd, .inl (cs 1, 12, .inr (.inl ffd)))] sz) [(ch, .inr (0, [.ref aq, .ref sm, .ref tb, .ref ck, .ref cm, .ref le, .ref ne, .ref pr, .ref tr, .ref ln, .int trs, .long lpr])), (h0, .inr (ci, [.ref nq, av, .int rk])), (nq, .inl (cs 0, 4, .inl fq)), (aq, .inr (5, [.ref aw, .ref ac, .ref ao, .ref am, .int (nI C), .int (nI P), .long tot])), (ma, .inl (cs 1, 16, .inr (.inl fma))), (fd, .inl (cs 1, 12, .inr (.inl ffd2)))]) (va_A [(ch, .inr (0, [.ref aq, .ref sm, .ref tb, .ref ck, .ref cm, .ref le, .ref ne, .ref pr, .ref tr, .ref ln, .int trs, .long lpr])), (h0, .inr (ci, [.ref nq, av, .int rk])), (nq, .inl (cs 0, 4, .inl fq)), (aq, .inr (5, [.ref aw, .ref ac, .ref ao, .ref am, .int (nI C), .int (nI P), .long tot])), (ma, .inl (cs 1, 16, .inr (.inl fma))), (fd, .inl (cs 1, 12, .inr (.inl ffd)))] sz)) 0 0 (va_A [(ch, .inr (0, [.ref aq, .ref sm, .ref tb, .ref ck, .ref cm, .ref le, .ref ne, .ref pr, .ref tr, .ref ln, .int trs, .long lpr])), (h0, .inr (ci, [.ref nq, av, .int rk])), (nq, .inl (cs 0, 4, .inl fq)), (aq, .inr (5, [.ref aw, .ref ac, .ref ao, .ref am, .int (nI C), .int (nI P), .long tot])), (ma, .inl (cs 1, 16, .inr (.inl fma))), (fd, .inl (cs 1, 12, .inr (.inl ffd)))] sz) := by
  refine Met.ofW (cc := cX0_fillLeads) (maxL := 10) (ret := none) (by decide) rfl ?_
  intro p e s m args below meth c s₁ B hml hv
  obtain ⟨hargs, hsz, hP, hK, hD0⟩ := hv
  have hx := B.exec
  have hb := B.bytes
  have hr := B.returns
  have hts := atoms_spec (ws := Cond.code yX0_fillLeads cX0_fillLeads 10 none :: gw_tbl) B.pre
  have hg := fun (w : Cond) (h : w ∈ gw_tbl) => hts w (List.mem_cons_of_mem _ h)
  have hown : s.vm.findClass RX0 = some m.cls := findClass_of_methodNamed B.named
  have hlocks := B.notSynchronized
  subst hsz
  have hD := hD0.self (sz := s.heap.size)
  generalize hAe : va_A [(ch, .inr (0, [.ref aq, .ref sm, .ref tb, .ref ck, .ref cm, .ref le, .ref ne, .ref pr, .ref tr, .ref ln, .int trs, .long lpr])), (h0, .inr (ci, [.ref nq, av, .int rk])), (nq, .inl (cs 0, 4, .inl fq)), (aq, .inr (5, [.ref aw, .ref ac, .ref ao, .ref am, .int (nI C), .int (nI P), .long tot])), (ma, .inl (cs 1, 16, .inr (.inl fma))), (fd, .inl (cs 1, 12, .inr (.inl ffd)))] s.heap.size = A at hD ⊢
  have hA : ∀ q : Nat, s.heap.size ≤ q → A q := fun q h => by rw [← hAe]; exact Or.inr h
  have hS : va_S A s.heap s.heap [] := va_S.rf
  have hP : va_P D vwCl [(ch, .inr (0, [.ref aq, .ref sm, .ref tb, .ref ck, .ref cm, .ref le, .ref ne, .ref pr, .ref tr, .ref ln, .int trs, .long lpr])), (h0, .inr (ci, [.ref nq, av, .int rk])), (nq, .inl (cs 0, 4, .inl fq)), (aq, .inr (5, [.ref aw, .ref ac, .ref ao, .ref am, .int (nI C), .int (nI P), .long tot])), (ma, .inl (cs 1, 16, .inr (.inl fma))), (fd, .inl (cs 1, 12, .inr (.inl ffd)))] s.heap := hP
  have hl := lv_entry ([.ref ch, .ref h0, .ref ma, .ref fd]) (n := 10) (Nat.le_of_ble_eq_true rfl)
  rw [show entryFrame m args 10 = F0 m 0 (lg_sl ([.ref ch, .ref h0, .ref ma, .ref fd]) ++ List.replicate (10 - (lg_sl ([.ref ch, .ref h0, .ref ma, .ref fd])).length) Slot.unset).toArray [] from by rw [hargs]; exact lg_entry_eq ..]
  generalize (lg_sl ([.ref ch, .ref h0, .ref ma, .ref fd]) ++ List.replicate (10 - (lg_sl ([.ref ch, .ref h0, .ref ma, .ref fd])).length) Slot.unset).toArray = ls at hl ⊢
  have hl : lv_has ls 10 [(0, .ref ch), (1, .ref h0), (2, .ref ma), (3, .ref fd)] := hl
  refine W_genQ (fun Q hQ => ?_)
  have hlm := lim_le hP4
  have hlq := lim_pos P
  have hsg := sgn_le hP4
  refine lv_iconst (v := 0) hx hb dX0_fillLeads_0 (by decide) ?_
  refine lv_istore (lv' := [(4, .int 0), (0, .ref ch), (1, .ref h0), (2, .ref ma), (3, .ref fd)]) hx hb dX0_fillLeads_1 hl (by decide) rfl (fun ls hl => ?_)
  have LOOP3 : ∀ (n3 : Nat) (pe : Nat) (ffd_3 : Nat → Int64), pe ≤ P → P - pe < n3 → ∀ (H : Heap) (locs : List Loc) (ls : Array Slot), va_P D vwCl [(ch, .inr (0, [.ref aq, .ref sm, .ref tb, .ref ck, .ref cm, .ref le, .ref ne, .ref pr, .ref tr, .ref ln, .int trs, .long lpr])), (h0, .inr (ci, [.ref nq, av, .int rk])), (nq, .inl (cs 0, 4, .inl fq)), (aq, .inr (5, [.ref aw, .ref ac, .ref ao, .ref am, .int (nI C), .int (nI P), .long tot])), (ma, .inl (cs 1, 16, .inr (.inl fma))), (fd, .inl (cs 1, 12, .inr (.inl ffd_3)))] H → va_D A [(ch, .inr (0, [.ref aq, .ref sm, .ref tb, .ref ck, .ref cm, .ref le, .ref ne, .ref pr, .ref tr, .ref ln, .int trs, .long lpr])), (h0, .inr (ci, [.ref nq, av, .int rk])), (nq, .inl (cs 0, 4, .inl fq)), (aq, .inr (5, [.ref aw, .ref ac, .ref ao, .ref am, .int (nI C), .int (nI P), .long tot])), (ma, .inl (cs 1, 16, .inr (.inl fma))), (fd, .inl (cs 1, 12, .inr (.inl ffd_3)))] → va_S A s.heap H locs → lv_has ls 10 [(0, .ref ch), (1, .ref h0), (2, .ref ma), (3, .ref fd), (4, .int (nI pe))] → W p l e ({ frames := 3, cells := 0, slots := 0, locals := 86 } : Room) s m args below meth c H locs 0 0 Q (F0 m 3 ls []) := by
    intro n3
    induction n3 with
    | zero =>
      intro pe ffd_3 hpe hn3 H locs ls hP hD hS hl
      exact absurd hn3 (Nat.not_lt_zero _)
    | succ n3 ih3 =>
      intro pe ffd_3 hpe hn3 H locs ls hP hD hS hl
      refine lv_iload hx hb dX0_fillLeads_3 (lv_at hl 4 rfl) ?_
      refine lv_aload_n hx hb dX0_fillLeads_5 rfl (lv_at hl 0 rfl) ?_
      refine va_get (D := D) (ci := 0) (v := .ref aq) (C := RX0) (T := TX0) (N := 12) hx hb hg gwX0 hown hK hP 0 rfl rfl 0 (by decide) (hg _ kw_244) (fun _ h9 => h9) rfl dX0_fillLeads_6 ?_
      refine va_get (D := D) (ci := 5) (v := .int (nI P)) (C := RX5) (T := TX5) (N := 7) hx hb hg gwX5 hown hK hP 3 rfl rfl 5 (by decide) (hg _ kw_245) (fun _ h9 => h9) rfl dX0_fillLeads_9 ?_
      refine lv_icmp_ge (tgt := 86) hx hb dX0_fillLeads_12 (by decide) (fun c_12 => ?_) (fun c_12 => ?_)
      · have n_12 : P ≤ pe := b_le_t (by omega) (by omega) c_12
        refine W_sQ hQ ?_
        refine W.widen (k := 0) (n := 0) (Nat.le_of_ble_eq_true rfl) (Nat.le_of_ble_eq_true rfl) ?_
        have hP9 := hP.sub (ws' := [(ch, .inr (0, [.ref aq, .ref sm, .ref tb, .ref ck, .ref cm, .ref le, .ref ne, .ref pr, .ref tr, .ref ln, .int trs, .long lpr])), (h0, .inr (ci, [.ref nq, av, .int rk])), (nq, .inl (cs 0, 4, .inl fq)), (aq, .inr (5, [.ref aw, .ref ac, .ref ao, .ref am, .int (nI C), .int (nI P), .long tot])), (ma, .inl (cs 1, 16, .inr (.inl fma))), (fd, .inl (cs 1, 12, .inr (.inl ffd_3)))]) [0, 1, 2, 3, 4, 5] rfl
        have hD9 := hD.sub (ws' := [(ch, .inr (0, [.ref aq, .ref sm, .ref tb, .ref ck, .ref cm, .ref le, .ref ne, .ref pr, .ref tr, .ref ln, .int trs, .long lpr])), (h0, .inr (ci, [.ref nq, av, .int rk])), (nq, .inl (cs 0, 4, .inl fq)), (aq, .inr (5, [.ref aw, .ref ac, .ref ao, .ref am, .int (nI C), .int (nI P), .long tot])), (ma, .inl (cs 1, 16, .inr (.inl fma))), (fd, .inl (cs 1, 12, .inr (.inl ffd_3)))]) [0, 1, 2, 3, 4, 5] (by decide) rfl
        exact W.vret hx hb hr (fun t ht hW => ⟨⟨(), rfl, trivial, ⟨ffd_3, by rw [ht]; exact hP9, hD9⟩⟩, hS.F ht⟩) hS.2.2 dX0_fillLeads_86
      · have n_12 : pe < P := b_le_f (by omega) (by omega) c_12
        refine lv_aload_n hx hb dX0_fillLeads_15 rfl (lv_at hl 1 rfl) ?_
        refine lv_aload_n hx hb dX0_fillLeads_16 rfl (lv_at hl 0 rfl) ?_
        refine va_get (D := D) (ci := 0) (v := .ref aq) (C := RX0) (T := TX0) (N := 12) hx hb hg gwX0 hown hK hP 0 rfl rfl 0 (by decide) (hg _ kw_244) (fun _ h9 => h9) rfl dX0_fillLeads_17 ?_
        refine lv_aload_n hx hb dX0_fillLeads_20 rfl (lv_at hl 2 rfl) ?_
        refine lv_iconst (v := 0) hx hb dX0_fillLeads_21 (by decide) ?_
        refine lv_iload hx hb dX0_fillLeads_22 (lv_at hl 4 rfl) ?_
        have hPc := hP.sub (ws' := [(h0, .inr (ci, [.ref nq, av, .int rk])), (nq, .inl (cs 0, 4, .inl fq)), (aq, .inr (5, [.ref aw, .ref ac, .ref ao, .ref am, .int (nI C), .int (nI P), .long tot])), (ma, .inl (cs 1, 16, .inr (.inl fma)))]) [1, 2, 3, 4] rfl
        refine vp_callSl (W.runS (As := [.ref h0, .ref aq, .ref ma, .int 0, .int (nI pe)]) (rest := []) ⟨hx, hb, hml, hown, hg⟩ (y_average l D cs h0 nq av rk ci hci fq aq aw ac ao am C (by omega) P (by omega) tot ma fma 0 (nI pe)) (va_cwS 5 hg (gw_S kw_246 kw_200 kw_196 kw_198) rfl rfl rfl (by decide +kernel) ⟨(Nat.le_of_ble_eq_true rfl), (Nat.le_of_ble_eq_true rfl)⟩) (pr_SS hK hPc) rfl rfl hl.1 rfl (lv_room (Nat.le_of_ble_eq_true rfl)) dX0_fillLeads_24 ⟨(Nat.le_of_ble_eq_true rfl), (Nat.le_of_ble_eq_true rfl)⟩) (fun r_24 h_24 => ?_)
        clear h_24
        refine lv_lstore (lv' := [(5, .long r_24), (0, .ref ch), (1, .ref h0), (2, .ref ma), (3, .ref fd), (4, .int (nI pe))]) hx hb dX0_fillLeads_27 hl (by decide) rfl (fun ls hl => ?_)
        refine lv_iconst (v := 1) hx hb dX0_fillLeads_29 (by decide) ?_
        refine lv_istore (lv' := [(7, .int 1), (5, .long r_24), (0, .ref ch), (1, .ref h0), (2, .ref ma), (3, .ref fd), (4, .int (nI pe))]) hx hb dX0_fillLeads_30 hl (by decide) rfl (fun ls hl => ?_)
        have LOOP32 : ∀ (n32 : Nat) (wy : Nat) (ffd_32 : Nat → Int64), wy ≤ 4 → 1 ≤ wy → 4 - wy < n32 → ∀ (H : Heap) (locs : List Loc) (ls : Array Slot), va_P D vwCl [(ch, .inr (0, [.ref aq, .ref sm, .ref tb, .ref ck, .ref cm, .ref le, .ref ne, .ref pr, .ref tr, .ref ln, .int trs, .long lpr])), (h0, .inr (ci, [.ref nq, av, .int rk])), (nq, .inl (cs 0, 4, .inl fq)), (aq, .inr (5, [.ref aw, .ref ac, .ref ao, .ref am, .int (nI C), .int (nI P), .long tot])), (ma, .inl (cs 1, 16, .inr (.inl fma))), (fd, .inl (cs 1, 12, .inr (.inl ffd_32)))] H → va_D A [(ch, .inr (0, [.ref aq, .ref sm, .ref tb, .ref ck, .ref cm, .ref le, .ref ne, .ref pr, .ref tr, .ref ln, .int trs, .long lpr])), (h0, .inr (ci, [.ref nq, av, .int rk])), (nq, .inl (cs 0, 4, .inl fq)), (aq, .inr (5, [.ref aw, .ref ac, .ref ao, .ref am, .int (nI C), .int (nI P), .long tot])), (ma, .inl (cs 1, 16, .inr (.inl fma))), (fd, .inl (cs 1, 12, .inr (.inl ffd_32)))] → va_S A s.heap H locs → lv_has ls 10 [(0, .ref ch), (1, .ref h0), (2, .ref ma), (3, .ref fd), (4, .int (nI pe)), (5, .long r_24), (7, .int (nI wy))] → W p l e ({ frames := 3, cells := 0, slots := 0, locals := 86 } : Room) s m args below meth c H locs 0 0 Q (F0 m 32 ls []) := by
          intro n32
          induction n32 with
          | zero =>
            intro wy ffd_32 hwy hw1 hn32 H locs ls hP hD hS hl
            exact absurd hn32 (Nat.not_lt_zero _)
          | succ n32 ih32 =>
            intro wy ffd_32 hwy hw1 hn32 H locs ls hP hD hS hl
            refine lv_iload hx hb dX0_fillLeads_32 (lv_at hl 6 rfl) ?_
            refine lv_iconst (v := 4) hx hb dX0_fillLeads_34 (by decide) ?_
            refine lv_icmp_ge (tgt := 80) hx hb dX0_fillLeads_35 (by decide) (fun c_35 => ?_) (fun c_35 => ?_)
            · have n_35 : 4 ≤ wy := b_le_t (by omega) (by omega) c_35
              refine lv_iinc (v := (nI (pe + 1))) (lv' := [(4, .int (nI (pe + 1))), (0, .ref ch), (1, .ref h0), (2, .ref ma), (3, .ref fd), (5, .long r_24), (7, .int (nI wy))]) hx hb dX0_fillLeads_80 hl (k := 4) rfl (nI_add pe 1) (by decide) rfl (fun ls hl => ?_)
              refine lv_goto (tgt := 3) hx hb dX0_fillLeads_83 (by decide) ?_
              exact ih3 (pe + 1) ffd_32 (by omega) (by omega) _ _ ls hP hD hS (lv_sub hl [1, 2, 3, 4, 0] rfl)
            · have n_35 : wy < 4 := b_le_f (by omega) (by omega) c_35
              refine lv_aload_n hx hb dX0_fillLeads_38 rfl (lv_at hl 1 rfl) ?_
              refine lv_aload_n hx hb dX0_fillLeads_39 rfl (lv_at hl 0 rfl) ?_
              refine va_get (D := D) (ci := 0) (v := .ref aq) (C := RX0) (T := TX0) (N := 12) hx hb hg gwX0 hown hK hP 0 rfl rfl 0 (by decide) (hg _ kw_244) (fun _ h9 => h9) rfl dX0_fillLeads_40 ?_
              refine lv_aload_n hx hb dX0_fillLeads_43 rfl (lv_at hl 2 rfl) ?_
              refine lv_iload hx hb dX0_fillLeads_44 (lv_at hl 6 rfl) ?_
              refine lv_iconst (v := 2) hx hb dX0_fillLeads_46 (by decide) ?_
              refine lv_iload hx hb dX0_fillLeads_47 (lv_at hl 4 rfl) ?_
              refine lv_imul hx hb dX0_fillLeads_49 ?_
              refine lv_topi (fun z_49 e_49 => ?_)
              obtain rfl : z_49 = nI (2 * pe) := e_49.trans (pk_mul _ _)
              refine lv_ishl hx hb dX0_fillLeads_50 ?_
              refine lv_topi (fun z_50 e_50 => ?_)
              refine lv_iload hx hb dX0_fillLeads_51 (lv_at hl 4 rfl) ?_
              have hPc := hP.sub (ws' := [(h0, .inr (ci, [.ref nq, av, .int rk])), (nq, .inl (cs 0, 4, .inl fq)), (aq, .inr (5, [.ref aw, .ref ac, .ref ao, .ref am, .int (nI C), .int (nI P), .long tot])), (ma, .inl (cs 1, 16, .inr (.inl fma)))]) [1, 2, 3, 4] rfl
              refine vp_callSl (W.runS (As := [.ref h0, .ref aq, .ref ma, .int z_50, .int (nI pe)]) (rest := []) ⟨hx, hb, hml, hown, hg⟩ (y_average l D cs h0 nq av rk ci hci fq aq aw ac ao am C (by omega) P (by omega) tot ma fma z_50 (nI pe)) (va_cwS 5 hg (gw_S kw_246 kw_200 kw_196 kw_198) rfl rfl rfl (by decide +kernel) ⟨(Nat.le_of_ble_eq_true rfl), (Nat.le_of_ble_eq_true rfl)⟩) (pr_SS hK hPc) rfl rfl hl.1 rfl (lv_room (Nat.le_of_ble_eq_true rfl)) dX0_fillLeads_53 ⟨(Nat.le_of_ble_eq_true rfl), (Nat.le_of_ble_eq_true rfl)⟩) (fun r_53 h_53 => ?_)
              clear h_53
              refine lv_lstore (lv' := [(8, .long r_53), (0, .ref ch), (1, .ref h0), (2, .ref ma), (3, .ref fd), (4, .int (nI pe)), (5, .long r_24), (7, .int (nI wy))]) hx hb dX0_fillLeads_56 hl (by decide) rfl (fun ls hl => ?_)
              refine lv_aload_n hx hb dX0_fillLeads_58 rfl (lv_at hl 4 rfl) ?_
              refine lv_iload hx hb dX0_fillLeads_59 (lv_at hl 5 rfl) ?_
              refine lv_iconst (v := 3) hx hb dX0_fillLeads_61 (by decide) ?_
              refine lv_imul hx hb dX0_fillLeads_62 ?_
              refine lv_topi (fun z_62 e_62 => ?_)
              obtain rfl : z_62 = nI (pe * 3) := e_62.trans (pk_mul _ _)
              refine lv_iload hx hb dX0_fillLeads_63 (lv_at hl 7 rfl) ?_
              refine lv_iadd hx hb dX0_fillLeads_65 ?_
              refine lv_topi (fun z_65 e_65 => ?_)
              obtain rfl : z_65 = nI (pe * 3 + wy) := e_65.trans (nI_add _ _)
              refine lv_iconst (v := 1) hx hb dX0_fillLeads_66 (by decide) ?_
              refine lv_isub hx hb dX0_fillLeads_67 ?_
              refine lv_topi (fun z_67 e_67 => ?_)
              obtain rfl : z_67 = nI (pe * 3 + wy - 1) := e_67.trans (pk_sub (b := 1) (by omega))
              refine lv_lload hx hb dX0_fillLeads_68 (lv_at hl 6 rfl) ?_
              refine lv_lload hx hb dX0_fillLeads_70 (lv_at hl 0 rfl) ?_
              refine lv_lsub hx hb dX0_fillLeads_72 ?_
              refine lv_topl (fun z_72 e_72 => ?_)
              refine va_last hx hb hK hP hD hS 5 1 rfl rfl (vp_in_nI (show pe * 3 + wy - 1 < 12 by omega) (by decide)) dX0_fillLeads_73 (fun H locs hP hD hS => ?_)
              obtain ⟨f_73, hf_73⟩ : ∃ f9, f9 = (vp_updL ffd_32 (nI (pe * 3 + wy - 1)).toNatClampNeg z_72) := ⟨_, rfl⟩
              rw [← hf_73] at hP hD
              have hP : va_P D vwCl [(ch, .inr (0, [.ref aq, .ref sm, .ref tb, .ref ck, .ref cm, .ref le, .ref ne, .ref pr, .ref tr, .ref ln, .int trs, .long lpr])), (h0, .inr (ci, [.ref nq, av, .int rk])), (nq, .inl (cs 0, 4, .inl fq)), (aq, .inr (5, [.ref aw, .ref ac, .ref ao, .ref am, .int (nI C), .int (nI P), .long tot])), (ma, .inl (cs 1, 16, .inr (.inl fma))), (fd, .inl (cs 1, 12, .inr (.inl f_73)))] H := hP
              have hD : va_D A [(ch, .inr (0, [.ref aq, .ref sm, .ref tb, .ref ck, .ref cm, .ref le, .ref ne, .ref pr, .ref tr, .ref ln, .int trs, .long lpr])), (h0, .inr (ci, [.ref nq, av, .int rk])), (nq, .inl (cs 0, 4, .inl fq)), (aq, .inr (5, [.ref aw, .ref ac, .ref ao, .ref am, .int (nI C), .int (nI P), .long tot])), (ma, .inl (cs 1, 16, .inr (.inl fma))), (fd, .inl (cs 1, 12, .inr (.inl f_73)))] := hD
              refine lv_iinc (v := (nI (wy + 1))) (lv' := [(7, .int (nI (wy + 1))), (8, .long r_53), (0, .ref ch), (1, .ref h0), (2, .ref ma), (3, .ref fd), (4, .int (nI pe)), (5, .long r_24)]) hx hb dX0_fillLeads_74 hl (k := 7) rfl (nI_add wy 1) (by decide) rfl (fun ls hl => ?_)
              refine lv_goto (tgt := 32) hx hb dX0_fillLeads_77 (by decide) ?_
              exact ih32 (wy + 1) f_73 (by omega) (by omega) (by omega) _ _ ls hP hD hS (lv_sub hl [2, 3, 4, 5, 6, 7, 0] rfl)
        exact LOOP32 (4 - 1 + 1) 1 ffd_3 (by omega) (by omega) (Nat.lt_succ_self _) _ _ ls hP hD hS (lv_sub hl [2, 3, 4, 5, 6, 1, 0] rfl)
  exact LOOP3 (P - 0 + 1) 0 ffd (by omega) (Nat.lt_succ_self _) _ _ ls hP hD hS (lv_sub hl [1, 2, 3, 4, 0] rfl)

theorem dX0_fillNeeds_0 : decode cX0_fillNeeds 0 = .ok (.aload_n 1, 1) := by decide +kernel
theorem dX0_fillNeeds_1 : decode cX0_fillNeeds 1 = .ok (.invokevirtual 138, 3) := by decide +kernel
theorem dX0_fillNeeds_4 : decode cX0_fillNeeds 4 = .ok (.i2l, 1) := by decide +kernel
theorem dX0_fillNeeds_5 : decode cX0_fillNeeds 5 = .ok (.aload_n 0, 1) := by decide +kernel
theorem dX0_fillNeeds_6 : decode cX0_fillNeeds 6 = .ok (.getfield 54, 3) := by decide +kernel
theorem dX0_fillNeeds_9 : decode cX0_fillNeeds 9 = .ok (.getfield 142, 3) := by decide +kernel
theorem dX0_fillNeeds_12 : decode cX0_fillNeeds 12 = .ok (.lmul, 1) := by decide +kernel
theorem dX0_fillNeeds_13 : decode cX0_fillNeeds 13 = .ok (.lstore_n 2, 1) := by decide +kernel
theorem dX0_fillNeeds_14 : decode cX0_fillNeeds 14 = .ok (.iconst 0, 1) := by decide +kernel
theorem dX0_fillNeeds_15 : decode cX0_fillNeeds 15 = .ok (.istore 4, 2) := by decide +kernel
theorem dX0_fillNeeds_17 : decode cX0_fillNeeds 17 = .ok (.iload 4, 2) := by decide +kernel
theorem dX0_fillNeeds_19 : decode cX0_fillNeeds 19 = .ok (.aload_n 0, 1) := by decide +kernel
theorem dX0_fillNeeds_20 : decode cX0_fillNeeds 20 = .ok (.getfield 54, 3) := by decide +kernel
theorem dX0_fillNeeds_23 : decode cX0_fillNeeds 23 = .ok (.getfield 108, 3) := by decide +kernel
theorem dX0_fillNeeds_26 : decode cX0_fillNeeds 26 = .ok (.if_icmp .ge 61, 3) := by decide +kernel
theorem dX0_fillNeeds_29 : decode cX0_fillNeeds 29 = .ok (.iconst 1, 1) := by decide +kernel
theorem dX0_fillNeeds_30 : decode cX0_fillNeeds 30 = .ok (.istore 5, 2) := by decide +kernel
theorem dX0_fillNeeds_32 : decode cX0_fillNeeds 32 = .ok (.iload 5, 2) := by decide +kernel
theorem dX0_fillNeeds_34 : decode cX0_fillNeeds 34 = .ok (.iconst 4, 1) := by decide +kernel
theorem dX0_fillNeeds_35 : decode cX0_fillNeeds 35 = .ok (.if_icmp .ge 46, 3) := by decide +kernel
theorem dX0_fillNeeds_38 : decode cX0_fillNeeds 38 = .ok (.aload_n 0, 1) := by decide +kernel
theorem dX0_fillNeeds_39 : decode cX0_fillNeeds 39 = .ok (.getfield 41, 3) := by decide +kernel
theorem dX0_fillNeeds_42 : decode cX0_fillNeeds 42 = .ok (.iload 4, 2) := by decide +kernel
theorem dX0_fillNeeds_44 : decode cX0_fillNeeds 44 = .ok (.iconst 3, 1) := by decide +kernel
theorem dX0_fillNeeds_45 : decode cX0_fillNeeds 45 = .ok (.imul, 1) := by decide +kernel
theorem dX0_fillNeeds_46 : decode cX0_fillNeeds 46 = .ok (.iload 5, 2) := by decide +kernel
theorem dX0_fillNeeds_48 : decode cX0_fillNeeds 48 = .ok (.iadd, 1) := by decide +kernel
theorem dX0_fillNeeds_49 : decode cX0_fillNeeds 49 = .ok (.iconst 1, 1) := by decide +kernel
theorem dX0_fillNeeds_50 : decode cX0_fillNeeds 50 = .ok (.isub, 1) := by decide +kernel
theorem dX0_fillNeeds_51 : decode cX0_fillNeeds 51 = .ok (.iload 5, 2) := by decide +kernel
theorem dX0_fillNeeds_53 : decode cX0_fillNeeds 53 = .ok (.iconst 1, 1) := by decide +kernel
theorem dX0_fillNeeds_54 : decode cX0_fillNeeds 54 = .ok (.if_icmp .ne 7, 3) := by decide +kernel
theorem dX0_fillNeeds_57 : decode cX0_fillNeeds 57 = .ok (.lconst 0, 1) := by decide +kernel
theorem dX0_fillNeeds_58 : decode cX0_fillNeeds 58 = .ok (.goto 16, 3) := by decide +kernel
theorem dX0_fillNeeds_61 : decode cX0_fillNeeds 61 = .ok (.aload_n 0, 1) := by decide +kernel
theorem dX0_fillNeeds_62 : decode cX0_fillNeeds 62 = .ok (.getfield 54, 3) := by decide +kernel
theorem dX0_fillNeeds_65 : decode cX0_fillNeeds 65 = .ok (.getfield 146, 3) := by decide +kernel
theorem dX0_fillNeeds_68 : decode cX0_fillNeeds 68 = .ok (.iload 4, 2) := by decide +kernel
theorem dX0_fillNeeds_70 : decode cX0_fillNeeds 70 = .ok (.iaload, 1) := by decide +kernel
theorem dX0_fillNeeds_71 : decode cX0_fillNeeds 71 = .ok (.i2l, 1) := by decide +kernel
theorem dX0_fillNeeds_72 : decode cX0_fillNeeds 72 = .ok (.lload_n 2, 1) := by decide +kernel
theorem dX0_fillNeeds_73 : decode cX0_fillNeeds 73 = .ok (.lmul, 1) := by decide +kernel
theorem dX0_fillNeeds_74 : decode cX0_fillNeeds 74 = .ok (.lastore, 1) := by decide +kernel
theorem dX0_fillNeeds_75 : decode cX0_fillNeeds 75 = .ok (.iinc 5 1, 3) := by decide +kernel
theorem dX0_fillNeeds_78 : decode cX0_fillNeeds 78 = .ok (.goto (-46), 3) := by decide +kernel
theorem dX0_fillNeeds_81 : decode cX0_fillNeeds 81 = .ok (.iinc 4 1, 3) := by decide +kernel
theorem dX0_fillNeeds_84 : decode cX0_fillNeeds 84 = .ok (.goto (-67), 3) := by decide +kernel
theorem dX0_fillNeeds_87 : decode cX0_fillNeeds 87 = .ok (.return_, 1) := by decide +kernel
theorem kw_247 : (.methodLink RX0 138 yX3_unit : Cond) ∈ gw_tbl := gw_in (by decide +kernel) (by decide +kernel)
theorem kw_248 : (.fieldLink RX0 142 "NobodyChecks$Question" "total" "J" : Cond) ∈ gw_tbl := gw_in (by decide +kernel) (by decide +kernel)
theorem kw_249 : (.fieldLink RX0 41 "NobodyChecks$Cheapest" "needs" "[J" : Cond) ∈ gw_tbl := gw_in (by decide +kernel) (by decide +kernel)
theorem kw_250 : (.fieldLink RX0 146 "NobodyChecks$Question" "costs" "[I" : Cond) ∈ gw_tbl := gw_in (by decide +kernel) (by decide +kernel)

set_option maxHeartbeats 4000000 in
set_option maxRecDepth 100000 in
theorem h_fillNeeds (l : Launch) (D : va_G) (cs : Nat → ClassId) (ch : Nat) (sm : Nat) (tb : Nat) (ck : Nat) (cm : Nat) (le : Nat) (ne : Nat) (pr : Nat) (tr : Nat) (ln : Nat) (trs : Int32) (lpr : Int64) (h0 : Nat) (nq : Nat) (av : Value) (rk : Int32) (ci : Nat) (hci : isPy ci) (aq : Nat) (aw : Nat) (ac : Nat) (ao : Nat) (am : Nat) (C : Nat) (hC5 : C ≤ 5) (P : Nat) (hP4 : P ≤ 4) (tot : Int64) (fao : Nat → Int32) (fne : Nat → Int64) (sz : Nat) : Met l yX0_fillNeeds (Cond.code yX0_fillNeeds cX0_fillNeeds 6 none :: gw_tbl) ({ frames := 1, cells := 0, slots := 0, locals := 20 }) (pc_M D cs [(ch, .inr (0, [.ref aq, .ref sm, .ref tb, .ref ck, .ref cm, .ref le, .ref ne, .ref pr, .ref tr, .ref ln, .int trs, .long lpr])), (h0, .inr (ci, [.ref nq, av, .int rk])), (aq, .inr (5, [.ref aw, .ref ac, .ref ao, .ref am, .int (nI C), .int (nI P), .long tot])), (ao, .inl (cs 0, 4, .inl fao)), (ne, .inl (cs 1, 12, .inr (.inl fne)))] sz [.ref ch, .ref h0]) (va_Qv (fun (u : Unit) => True) (fun u t => ∃ (fne2 : Nat → Int64), va_P D vwCl [(ch, .inr (0, [.ref aq, .ref sm, .ref tb, .ref ck, .ref cm, .ref le, .ref ne, .ref pr, .ref tr, .ref ln, .int trs, .long lpr])), (h0, .inr (ci, [.ref nq, av, .int rk])), (aq, .inr (5, [.ref aw, .ref ac, .ref ao, .ref am, .int (nI C), .int (nI P), .long tot])), (ao, .inl (cs 0, 4, .inl fao)), (ne, .inl (cs 1, 12, .inr (.inl fne2)))] t.heap ∧ va_D (va_A [(ch, .inr (0, [.ref aq, .ref sm, .ref tb, .ref ck, .ref cm, .ref le, .ref ne, .ref pr, .ref tr, .ref ln, .int trs, .long lpr])), (h0, .inr (ci, [.ref nq, av, .int rk])), (aq, .inr (5, [.ref aw, .ref ac, .ref ao, .ref am, .int (nI C), .int (nI P), .long tot])), (ao, .inl (cs 0, 4, .inl fao)), (ne, .inl (cs 1, 12, .inr (.inl fne)))] sz) [(ch, .inr (0, [.ref aq, .ref sm, .ref tb, .ref ck, .ref cm, .ref le, .ref ne, .ref pr, .ref tr, .ref ln, .int trs, .long lpr])), (h0, .inr (ci, [.ref nq, av, .int rk])), (aq, .inr (5, [.ref aw, .ref ac, .ref ao, .ref am, .int (nI C), .int (nI P), .long tot])), (ao, .inl (cs 0, 4, .inl fao)), (ne, .inl (cs 1, 12, .inr (.inl fne2)))]) (va_A [(ch, .inr (0, [.ref aq, .ref sm, .ref tb, .ref ck, .ref cm, .ref le, .ref ne, .ref pr, .ref tr, .ref ln, .int trs, .long lpr])), (h0, .inr (ci, [.ref nq, av, .int rk])), (aq, .inr (5, [.ref aw, .ref ac, .ref ao, .ref am, .int (nI C), .int (nI P), .long tot])), (ao, .inl (cs 0, 4, .inl fao)), (ne, .inl (cs 1, 12, .inr (.inl fne)))] sz)) 0 0 (va_A [(ch, .inr (0, [.ref aq, .ref sm, .ref tb, .ref ck, .ref cm, .ref le, .ref ne, .ref pr, .ref tr, .ref ln, .int trs, .long lpr])), (h0, .inr (ci, [.ref nq, av, .int rk])), (aq, .inr (5, [.ref aw, .ref ac, .ref ao, .ref am, .int (nI C), .int (nI P), .long tot])), (ao, .inl (cs 0, 4, .inl fao)), (ne, .inl (cs 1, 12, .inr (.inl fne)))] sz) := by
  refine Met.ofW (cc := cX0_fillNeeds) (maxL := 6) (ret := none) (by decide) rfl ?_
  intro p e s m args below meth c s₁ B hml hv
  obtain ⟨hargs, hsz, hP, hK, hD0⟩ := hv
  have hx := B.exec
  have hb := B.bytes
  have hr := B.returns
  have hts := atoms_spec (ws := Cond.code yX0_fillNeeds cX0_fillNeeds 6 none :: gw_tbl) B.pre
  have hg := fun (w : Cond) (h : w ∈ gw_tbl) => hts w (List.mem_cons_of_mem _ h)
  have hown : s.vm.findClass RX0 = some m.cls := findClass_of_methodNamed B.named
  have hlocks := B.notSynchronized
  subst hsz
  have hD := hD0.self (sz := s.heap.size)
  generalize hAe : va_A [(ch, .inr (0, [.ref aq, .ref sm, .ref tb, .ref ck, .ref cm, .ref le, .ref ne, .ref pr, .ref tr, .ref ln, .int trs, .long lpr])), (h0, .inr (ci, [.ref nq, av, .int rk])), (aq, .inr (5, [.ref aw, .ref ac, .ref ao, .ref am, .int (nI C), .int (nI P), .long tot])), (ao, .inl (cs 0, 4, .inl fao)), (ne, .inl (cs 1, 12, .inr (.inl fne)))] s.heap.size = A at hD ⊢
  have hA : ∀ q : Nat, s.heap.size ≤ q → A q := fun q h => by rw [← hAe]; exact Or.inr h
  have hS : va_S A s.heap s.heap [] := va_S.rf
  have hP : va_P D vwCl [(ch, .inr (0, [.ref aq, .ref sm, .ref tb, .ref ck, .ref cm, .ref le, .ref ne, .ref pr, .ref tr, .ref ln, .int trs, .long lpr])), (h0, .inr (ci, [.ref nq, av, .int rk])), (aq, .inr (5, [.ref aw, .ref ac, .ref ao, .ref am, .int (nI C), .int (nI P), .long tot])), (ao, .inl (cs 0, 4, .inl fao)), (ne, .inl (cs 1, 12, .inr (.inl fne)))] s.heap := hP
  have hl := lv_entry ([.ref ch, .ref h0]) (n := 6) (Nat.le_of_ble_eq_true rfl)
  rw [show entryFrame m args 6 = F0 m 0 (lg_sl ([.ref ch, .ref h0]) ++ List.replicate (6 - (lg_sl ([.ref ch, .ref h0])).length) Slot.unset).toArray [] from by rw [hargs]; exact lg_entry_eq ..]
  generalize (lg_sl ([.ref ch, .ref h0]) ++ List.replicate (6 - (lg_sl ([.ref ch, .ref h0])).length) Slot.unset).toArray = ls at hl ⊢
  have hl : lv_has ls 6 [(0, .ref ch), (1, .ref h0)] := hl
  refine W_genQ (fun Q hQ => ?_)
  have hlm := lim_le hP4
  have hlq := lim_pos P
  have hsg := sgn_le hP4
  refine lv_aload_n hx hb dX0_fillNeeds_0 rfl (lv_at hl 1 rfl) ?_
  have R0_1 : CallRun p l e ({ frames := 1, cells := 0, slots := 0, locals := 20 } : Room) s m args below meth c s.heap [] 0 0 0 0 (F0 m 1 ls [.ref h0]) [] (vp_Si (fun r => True) (Value.ref h0 :: []).toArray) (fun _ => False) := by
    rcases hci with rfl | rfl | rfl | rfl | rfl
    · exact va_Run.run (va_runU (As := []) (rest := []) ⟨hx, hb, hml, hown, hg⟩ (p_unit_X1_1 l D cs h0 nq av rk) (va_cwO (owner := "NobodyChecks$Pay") (x := yX3_unit) 0 hg (gw_O kw_247 kw_144 kw_148 kw_145 kw_146 kw_147 kw_142) rfl rfl rfl kw_149 (by decide +kernel) ⟨(Nat.le_of_ble_eq_true rfl), (Nat.le_of_ble_eq_true rfl)⟩) (pr_SV (q := (RX1, TX1, 3)) 1 0 hK (hP.sub (ws' := [(h0, .inr (1, [.ref nq, av, .int rk]))]) [1] rfl) rfl rfl) rfl rfl hl.1 rfl (lv_room (Nat.le_of_ble_eq_true rfl)) dX0_fillNeeds_1 ⟨(Nat.le_of_ble_eq_true rfl), (Nat.le_of_ble_eq_true rfl)⟩)
    · exact W.runV (As := []) (rest := []) ⟨hx, hb, hml, hown, hg⟩ (p_unit_X3_3 l D cs h0 nq av rk) (cwV 0 hg (gw_V kw_247 kw_148 kw_150 kw_151 kw_149) rfl rfl rfl (by decide +kernel) ⟨(Nat.le_of_ble_eq_true rfl), (Nat.le_of_ble_eq_true rfl)⟩) (pr_SV (q := (RX3, TX3, 3)) 3 0 hK (hP.sub (ws' := [(h0, .inr (3, [.ref nq, av, .int rk]))]) [1] rfl) rfl rfl) rfl rfl hl.1 rfl (lv_room (Nat.le_of_ble_eq_true rfl)) dX0_fillNeeds_1 ⟨(Nat.le_of_ble_eq_true rfl), (Nat.le_of_ble_eq_true rfl)⟩
    · exact va_Run.run (va_runU (As := []) (rest := []) ⟨hx, hb, hml, hown, hg⟩ (p_unit_X3_6 l D cs h0 nq av rk) (va_cwU (owner := "NobodyChecks$Pay") (x := yX3_unit) 0 hg (gw_U kw_247 kw_144 kw_152 kw_148 kw_151 kw_149) rfl rfl rfl rfl (by decide +kernel) ⟨(Nat.le_of_ble_eq_true rfl), (Nat.le_of_ble_eq_true rfl)⟩) (pr_SV (q := (RX6, TX6, 3)) 6 0 hK (hP.sub (ws' := [(h0, .inr (6, [.ref nq, av, .int rk]))]) [1] rfl) rfl rfl) rfl rfl hl.1 rfl (lv_room (Nat.le_of_ble_eq_true rfl)) dX0_fillNeeds_1 ⟨(Nat.le_of_ble_eq_true rfl), (Nat.le_of_ble_eq_true rfl)⟩)
    · exact va_Run.run (va_runU (As := []) (rest := []) ⟨hx, hb, hml, hown, hg⟩ (p_unit_X3_9 l D cs h0 nq av rk) (va_cwU (owner := "NobodyChecks$Pay") (x := yX3_unit) 0 hg (gw_U kw_247 kw_144 kw_153 kw_148 kw_151 kw_149) rfl rfl rfl rfl (by decide +kernel) ⟨(Nat.le_of_ble_eq_true rfl), (Nat.le_of_ble_eq_true rfl)⟩) (pr_SV (q := (RX9, TX9, 3)) 9 0 hK (hP.sub (ws' := [(h0, .inr (9, [.ref nq, av, .int rk]))]) [1] rfl) rfl rfl) rfl rfl hl.1 rfl (lv_room (Nat.le_of_ble_eq_true rfl)) dX0_fillNeeds_1 ⟨(Nat.le_of_ble_eq_true rfl), (Nat.le_of_ble_eq_true rfl)⟩)
    · exact va_Run.run (va_runU (As := []) (rest := []) ⟨hx, hb, hml, hown, hg⟩ (p_unit_X3_10 l D cs h0 nq av rk) (va_cwU (owner := "NobodyChecks$Pay") (x := yX3_unit) 0 hg (gw_U kw_247 kw_144 kw_154 kw_148 kw_151 kw_149) rfl rfl rfl rfl (by decide +kernel) ⟨(Nat.le_of_ble_eq_true rfl), (Nat.le_of_ble_eq_true rfl)⟩) (pr_SV (q := (RX10, TX10, 3)) 10 0 hK (hP.sub (ws' := [(h0, .inr (10, [.ref nq, av, .int rk]))]) [1] rfl) rfl rfl) rfl rfl hl.1 rfl (lv_room (Nat.le_of_ble_eq_true rfl)) dX0_fillNeeds_1 ⟨(Nat.le_of_ble_eq_true rfl), (Nat.le_of_ble_eq_true rfl)⟩)
  refine vp_callSi R0_1 (fun r_1 h_1 => ?_)
  clear h_1
  refine lv_i2l hx hb dX0_fillNeeds_4 rfl ?_
  refine lv_topl (fun z_4 e_4 => ?_)
  refine lv_aload_n hx hb dX0_fillNeeds_5 rfl (lv_at hl 0 rfl) ?_
  refine va_get (D := D) (ci := 0) (v := .ref aq) (C := RX0) (T := TX0) (N := 12) hx hb hg gwX0 hown hK hP 0 rfl rfl 0 (by decide) (hg _ kw_244) (fun _ h9 => h9) rfl dX0_fillNeeds_6 ?_
  refine va_get (D := D) (ci := 5) (v := .long tot) (C := RX5) (T := TX5) (N := 7) hx hb hg gwX5 hown hK hP 2 rfl rfl 6 (by decide) (hg _ kw_248) (fun _ h9 => h9) rfl dX0_fillNeeds_9 ?_
  refine lv_lmul hx hb dX0_fillNeeds_12 ?_
  refine lv_topl (fun z_12 e_12 => ?_)
  refine lv_lstore_n (lv' := [(2, .long z_12), (0, .ref ch), (1, .ref h0)]) hx hb dX0_fillNeeds_13 rfl hl (by decide) rfl (fun ls hl => ?_)
  refine lv_iconst (v := 0) hx hb dX0_fillNeeds_14 (by decide) ?_
  refine lv_istore (lv' := [(4, .int 0), (2, .long z_12), (0, .ref ch), (1, .ref h0)]) hx hb dX0_fillNeeds_15 hl (by decide) rfl (fun ls hl => ?_)
  have LOOP17 : ∀ (n17 : Nat) (pe : Nat) (fne_17 : Nat → Int64), pe ≤ P → P - pe < n17 → ∀ (H : Heap) (locs : List Loc) (ls : Array Slot), va_P D vwCl [(ch, .inr (0, [.ref aq, .ref sm, .ref tb, .ref ck, .ref cm, .ref le, .ref ne, .ref pr, .ref tr, .ref ln, .int trs, .long lpr])), (h0, .inr (ci, [.ref nq, av, .int rk])), (aq, .inr (5, [.ref aw, .ref ac, .ref ao, .ref am, .int (nI C), .int (nI P), .long tot])), (ao, .inl (cs 0, 4, .inl fao)), (ne, .inl (cs 1, 12, .inr (.inl fne_17)))] H → va_D A [(ch, .inr (0, [.ref aq, .ref sm, .ref tb, .ref ck, .ref cm, .ref le, .ref ne, .ref pr, .ref tr, .ref ln, .int trs, .long lpr])), (h0, .inr (ci, [.ref nq, av, .int rk])), (aq, .inr (5, [.ref aw, .ref ac, .ref ao, .ref am, .int (nI C), .int (nI P), .long tot])), (ao, .inl (cs 0, 4, .inl fao)), (ne, .inl (cs 1, 12, .inr (.inl fne_17)))] → va_S A s.heap H locs → lv_has ls 6 [(0, .ref ch), (1, .ref h0), (2, .long z_12), (4, .int (nI pe))] → W p l e ({ frames := 1, cells := 0, slots := 0, locals := 20 } : Room) s m args below meth c H locs 0 0 Q (F0 m 17 ls []) := by
    intro n17
    induction n17 with
    | zero =>
      intro pe fne_17 hpe hn17 H locs ls hP hD hS hl
      exact absurd hn17 (Nat.not_lt_zero _)
    | succ n17 ih17 =>
      intro pe fne_17 hpe hn17 H locs ls hP hD hS hl
      refine lv_iload hx hb dX0_fillNeeds_17 (lv_at hl 3 rfl) ?_
      refine lv_aload_n hx hb dX0_fillNeeds_19 rfl (lv_at hl 0 rfl) ?_
      refine va_get (D := D) (ci := 0) (v := .ref aq) (C := RX0) (T := TX0) (N := 12) hx hb hg gwX0 hown hK hP 0 rfl rfl 0 (by decide) (hg _ kw_244) (fun _ h9 => h9) rfl dX0_fillNeeds_20 ?_
      refine va_get (D := D) (ci := 5) (v := .int (nI P)) (C := RX5) (T := TX5) (N := 7) hx hb hg gwX5 hown hK hP 2 rfl rfl 5 (by decide) (hg _ kw_245) (fun _ h9 => h9) rfl dX0_fillNeeds_23 ?_
      refine lv_icmp_ge (tgt := 87) hx hb dX0_fillNeeds_26 (by decide) (fun c_26 => ?_) (fun c_26 => ?_)
      · have n_26 : P ≤ pe := b_le_t (by omega) (by omega) c_26
        refine W_sQ hQ ?_
        refine W.widen (k := 0) (n := 0) (Nat.le_of_ble_eq_true rfl) (Nat.le_of_ble_eq_true rfl) ?_
        have hP9 := hP.sub (ws' := [(ch, .inr (0, [.ref aq, .ref sm, .ref tb, .ref ck, .ref cm, .ref le, .ref ne, .ref pr, .ref tr, .ref ln, .int trs, .long lpr])), (h0, .inr (ci, [.ref nq, av, .int rk])), (aq, .inr (5, [.ref aw, .ref ac, .ref ao, .ref am, .int (nI C), .int (nI P), .long tot])), (ao, .inl (cs 0, 4, .inl fao)), (ne, .inl (cs 1, 12, .inr (.inl fne_17)))]) [0, 1, 2, 3, 4] rfl
        have hD9 := hD.sub (ws' := [(ch, .inr (0, [.ref aq, .ref sm, .ref tb, .ref ck, .ref cm, .ref le, .ref ne, .ref pr, .ref tr, .ref ln, .int trs, .long lpr])), (h0, .inr (ci, [.ref nq, av, .int rk])), (aq, .inr (5, [.ref aw, .ref ac, .ref ao, .ref am, .int (nI C), .int (nI P), .long tot])), (ao, .inl (cs 0, 4, .inl fao)), (ne, .inl (cs 1, 12, .inr (.inl fne_17)))]) [0, 1, 2, 3, 4] (by decide) rfl
        exact W.vret hx hb hr (fun t ht hW => ⟨⟨(), rfl, trivial, ⟨fne_17, by rw [ht]; exact hP9, hD9⟩⟩, hS.F ht⟩) hS.2.2 dX0_fillNeeds_87
      · have n_26 : pe < P := b_le_f (by omega) (by omega) c_26
        refine lv_iconst (v := 1) hx hb dX0_fillNeeds_29 (by decide) ?_
        refine lv_istore (lv' := [(5, .int 1), (0, .ref ch), (1, .ref h0), (2, .long z_12), (4, .int (nI pe))]) hx hb dX0_fillNeeds_30 hl (by decide) rfl (fun ls hl => ?_)
        have LOOP32 : ∀ (n32 : Nat) (wy : Nat) (fne_32 : Nat → Int64), wy ≤ 4 → 1 ≤ wy → 4 - wy < n32 → ∀ (H : Heap) (locs : List Loc) (ls : Array Slot), va_P D vwCl [(ch, .inr (0, [.ref aq, .ref sm, .ref tb, .ref ck, .ref cm, .ref le, .ref ne, .ref pr, .ref tr, .ref ln, .int trs, .long lpr])), (h0, .inr (ci, [.ref nq, av, .int rk])), (aq, .inr (5, [.ref aw, .ref ac, .ref ao, .ref am, .int (nI C), .int (nI P), .long tot])), (ao, .inl (cs 0, 4, .inl fao)), (ne, .inl (cs 1, 12, .inr (.inl fne_32)))] H → va_D A [(ch, .inr (0, [.ref aq, .ref sm, .ref tb, .ref ck, .ref cm, .ref le, .ref ne, .ref pr, .ref tr, .ref ln, .int trs, .long lpr])), (h0, .inr (ci, [.ref nq, av, .int rk])), (aq, .inr (5, [.ref aw, .ref ac, .ref ao, .ref am, .int (nI C), .int (nI P), .long tot])), (ao, .inl (cs 0, 4, .inl fao)), (ne, .inl (cs 1, 12, .inr (.inl fne_32)))] → va_S A s.heap H locs → lv_has ls 6 [(0, .ref ch), (1, .ref h0), (2, .long z_12), (4, .int (nI pe)), (5, .int (nI wy))] → W p l e ({ frames := 1, cells := 0, slots := 0, locals := 20 } : Room) s m args below meth c H locs 0 0 Q (F0 m 32 ls []) := by
          intro n32
          induction n32 with
          | zero =>
            intro wy fne_32 hwy hw1 hn32 H locs ls hP hD hS hl
            exact absurd hn32 (Nat.not_lt_zero _)
          | succ n32 ih32 =>
            intro wy fne_32 hwy hw1 hn32 H locs ls hP hD hS hl
            refine lv_iload hx hb dX0_fillNeeds_32 (lv_at hl 4 rfl) ?_
            refine lv_iconst (v := 4) hx hb dX0_fillNeeds_34 (by decide) ?_
            refine lv_icmp_ge (tgt := 81) hx hb dX0_fillNeeds_35 (by decide) (fun c_35 => ?_) (fun c_35 => ?_)
            · have n_35 : 4 ≤ wy := b_le_t (by omega) (by omega) c_35
              refine lv_iinc (v := (nI (pe + 1))) (lv' := [(4, .int (nI (pe + 1))), (0, .ref ch), (1, .ref h0), (2, .long z_12), (5, .int (nI wy))]) hx hb dX0_fillNeeds_81 hl (k := 3) rfl (nI_add pe 1) (by decide) rfl (fun ls hl => ?_)
              refine lv_goto (tgt := 17) hx hb dX0_fillNeeds_84 (by decide) ?_
              exact ih17 (pe + 1) fne_32 (by omega) (by omega) _ _ ls hP hD hS (lv_sub hl [1, 2, 3, 0] rfl)
            · have n_35 : wy < 4 := b_le_f (by omega) (by omega) c_35
              refine lv_aload_n hx hb dX0_fillNeeds_38 rfl (lv_at hl 0 rfl) ?_
              refine va_get (D := D) (ci := 0) (v := .ref ne) (C := RX0) (T := TX0) (N := 12) hx hb hg gwX0 hown hK hP 0 rfl rfl 6 (by decide) (hg _ kw_249) (fun _ h9 => h9) rfl dX0_fillNeeds_39 ?_
              refine lv_iload hx hb dX0_fillNeeds_42 (lv_at hl 3 rfl) ?_
              refine lv_iconst (v := 3) hx hb dX0_fillNeeds_44 (by decide) ?_
              refine lv_imul hx hb dX0_fillNeeds_45 ?_
              refine lv_topi (fun z_45 e_45 => ?_)
              obtain rfl : z_45 = nI (pe * 3) := e_45.trans (pk_mul _ _)
              refine lv_iload hx hb dX0_fillNeeds_46 (lv_at hl 4 rfl) ?_
              refine lv_iadd hx hb dX0_fillNeeds_48 ?_
              refine lv_topi (fun z_48 e_48 => ?_)
              obtain rfl : z_48 = nI (pe * 3 + wy) := e_48.trans (nI_add _ _)
              refine lv_iconst (v := 1) hx hb dX0_fillNeeds_49 (by decide) ?_
              refine lv_isub hx hb dX0_fillNeeds_50 ?_
              refine lv_topi (fun z_50 e_50 => ?_)
              obtain rfl : z_50 = nI (pe * 3 + wy - 1) := e_50.trans (pk_sub (b := 1) (by omega))
              refine lv_iload hx hb dX0_fillNeeds_51 (lv_at hl 4 rfl) ?_
              refine lv_iconst (v := 1) hx hb dX0_fillNeeds_53 (by decide) ?_
              refine lv_icmp_ne (tgt := 61) hx hb dX0_fillNeeds_54 (by decide) (fun c_54 => ?_) (fun c_54 => ?_)
              · have n_54 : ¬ wy = 1 := b_eq_f (by omega) (by omega) c_54
                refine lv_aload_n hx hb dX0_fillNeeds_61 rfl (lv_at hl 0 rfl) ?_
                refine va_get (D := D) (ci := 0) (v := .ref aq) (C := RX0) (T := TX0) (N := 12) hx hb hg gwX0 hown hK hP 0 rfl rfl 0 (by decide) (hg _ kw_244) (fun _ h9 => h9) rfl dX0_fillNeeds_62 ?_
                refine va_get (D := D) (ci := 5) (v := .ref ao) (C := RX5) (T := TX5) (N := 7) hx hb hg gwX5 hown hK hP 2 rfl rfl 2 (by decide) (hg _ kw_250) (fun _ h9 => h9) rfl dX0_fillNeeds_65 ?_
                refine lv_iload hx hb dX0_fillNeeds_68 (lv_at hl 3 rfl) ?_
                refine va_iald hx hb hK hP 3 0 rfl rfl (vp_in_nI (show pe < 4 by omega) (by decide)) dX0_fillNeeds_70 ?_
                refine lv_topi (fun z_70 e_70 => ?_)
                refine lv_i2l hx hb dX0_fillNeeds_71 rfl ?_
                refine lv_topl (fun z_71 e_71 => ?_)
                refine lv_lload_n hx hb dX0_fillNeeds_72 rfl (lv_at hl 2 rfl) ?_
                refine lv_lmul hx hb dX0_fillNeeds_73 ?_
                refine lv_topl (fun z_73 e_73 => ?_)
                refine va_last hx hb hK hP hD hS 4 1 rfl rfl (vp_in_nI (show pe * 3 + wy - 1 < 12 by omega) (by decide)) dX0_fillNeeds_74 (fun H locs hP hD hS => ?_)
                obtain ⟨f_74, hf_74⟩ : ∃ f9, f9 = (vp_updL fne_32 (nI (pe * 3 + wy - 1)).toNatClampNeg z_73) := ⟨_, rfl⟩
                rw [← hf_74] at hP hD
                have hP : va_P D vwCl [(ch, .inr (0, [.ref aq, .ref sm, .ref tb, .ref ck, .ref cm, .ref le, .ref ne, .ref pr, .ref tr, .ref ln, .int trs, .long lpr])), (h0, .inr (ci, [.ref nq, av, .int rk])), (aq, .inr (5, [.ref aw, .ref ac, .ref ao, .ref am, .int (nI C), .int (nI P), .long tot])), (ao, .inl (cs 0, 4, .inl fao)), (ne, .inl (cs 1, 12, .inr (.inl f_74)))] H := hP
                have hD : va_D A [(ch, .inr (0, [.ref aq, .ref sm, .ref tb, .ref ck, .ref cm, .ref le, .ref ne, .ref pr, .ref tr, .ref ln, .int trs, .long lpr])), (h0, .inr (ci, [.ref nq, av, .int rk])), (aq, .inr (5, [.ref aw, .ref ac, .ref ao, .ref am, .int (nI C), .int (nI P), .long tot])), (ao, .inl (cs 0, 4, .inl fao)), (ne, .inl (cs 1, 12, .inr (.inl f_74)))] := hD
                refine lv_iinc (v := (nI (wy + 1))) (lv' := [(5, .int (nI (wy + 1))), (0, .ref ch), (1, .ref h0), (2, .long z_12), (4, .int (nI pe))]) hx hb dX0_fillNeeds_75 hl (k := 4) rfl (nI_add wy 1) (by decide) rfl (fun ls hl => ?_)
                refine lv_goto (tgt := 32) hx hb dX0_fillNeeds_78 (by decide) ?_
                exact ih32 (wy + 1) f_74 (by omega) (by omega) (by omega) _ _ ls hP hD hS (lv_sub hl [1, 2, 3, 4, 0] rfl)
              · have n_54 : wy = 1 := b_eq_t (by omega) (by omega) c_54
                refine lv_lconst (v := 0) hx hb dX0_fillNeeds_57 (by decide) ?_
                refine lv_goto (tgt := 74) hx hb dX0_fillNeeds_58 (by decide) ?_
                refine va_last hx hb hK hP hD hS 4 1 rfl rfl (vp_in_nI (show pe * 3 + wy - 1 < 12 by omega) (by decide)) dX0_fillNeeds_74 (fun H locs hP hD hS => ?_)
                obtain ⟨f_74, hf_74⟩ : ∃ f9, f9 = (vp_updL fne_32 (nI (pe * 3 + wy - 1)).toNatClampNeg 0) := ⟨_, rfl⟩
                rw [← hf_74] at hP hD
                have hP : va_P D vwCl [(ch, .inr (0, [.ref aq, .ref sm, .ref tb, .ref ck, .ref cm, .ref le, .ref ne, .ref pr, .ref tr, .ref ln, .int trs, .long lpr])), (h0, .inr (ci, [.ref nq, av, .int rk])), (aq, .inr (5, [.ref aw, .ref ac, .ref ao, .ref am, .int (nI C), .int (nI P), .long tot])), (ao, .inl (cs 0, 4, .inl fao)), (ne, .inl (cs 1, 12, .inr (.inl f_74)))] H := hP
                have hD : va_D A [(ch, .inr (0, [.ref aq, .ref sm, .ref tb, .ref ck, .ref cm, .ref le, .ref ne, .ref pr, .ref tr, .ref ln, .int trs, .long lpr])), (h0, .inr (ci, [.ref nq, av, .int rk])), (aq, .inr (5, [.ref aw, .ref ac, .ref ao, .ref am, .int (nI C), .int (nI P), .long tot])), (ao, .inl (cs 0, 4, .inl fao)), (ne, .inl (cs 1, 12, .inr (.inl f_74)))] := hD
                refine lv_iinc (v := (nI (wy + 1))) (lv' := [(5, .int (nI (wy + 1))), (0, .ref ch), (1, .ref h0), (2, .long z_12), (4, .int (nI pe))]) hx hb dX0_fillNeeds_75 hl (k := 4) rfl (nI_add wy 1) (by decide) rfl (fun ls hl => ?_)
                refine lv_goto (tgt := 32) hx hb dX0_fillNeeds_78 (by decide) ?_
                exact ih32 (wy + 1) f_74 (by omega) (by omega) (by omega) _ _ ls hP hD hS (lv_sub hl [1, 2, 3, 4, 0] rfl)
        exact LOOP32 (4 - 1 + 1) 1 fne_17 (by omega) (by omega) (Nat.lt_succ_self _) _ _ ls hP hD hS (lv_sub hl [1, 2, 3, 4, 0] rfl)
  exact LOOP17 (P - 0 + 1) 0 fne (by omega) (Nat.lt_succ_self _) _ _ ls hP hD hS (lv_sub hl [2, 3, 1, 0] rfl)

theorem dX0_triedRests_0 : decode cX0_triedRests 0 = .ok (.aload_n 0, 1) := by decide +kernel
theorem dX0_triedRests_1 : decode cX0_triedRests 1 = .ok (.getfield 54, 3) := by decide +kernel
theorem dX0_triedRests_4 : decode cX0_triedRests 4 = .ok (.getfield 108, 3) := by decide +kernel
theorem dX0_triedRests_7 : decode cX0_triedRests 7 = .ok (.iconst 3, 1) := by decide +kernel
theorem dX0_triedRests_8 : decode cX0_triedRests 8 = .ok (.imul, 1) := by decide +kernel
theorem dX0_triedRests_9 : decode cX0_triedRests 9 = .ok (.istore_n 2, 1) := by decide +kernel
theorem dX0_triedRests_10 : decode cX0_triedRests 10 = .ok (.iconst 0, 1) := by decide +kernel
theorem dX0_triedRests_11 : decode cX0_triedRests 11 = .ok (.istore_n 3, 1) := by decide +kernel
theorem dX0_triedRests_12 : decode cX0_triedRests 12 = .ok (.iload_n 3, 1) := by decide +kernel
theorem dX0_triedRests_13 : decode cX0_triedRests 13 = .ok (.iload_n 2, 1) := by decide +kernel
theorem dX0_triedRests_14 : decode cX0_triedRests 14 = .ok (.if_icmp .ge 64, 3) := by decide +kernel
theorem dX0_triedRests_17 : decode cX0_triedRests 17 = .ok (.lconst 0, 1) := by decide +kernel
theorem dX0_triedRests_18 : decode cX0_triedRests 18 = .ok (.lstore 4, 2) := by decide +kernel
theorem dX0_triedRests_20 : decode cX0_triedRests 20 = .ok (.iconst 0, 1) := by decide +kernel
theorem dX0_triedRests_21 : decode cX0_triedRests 21 = .ok (.istore 6, 2) := by decide +kernel
theorem dX0_triedRests_23 : decode cX0_triedRests 23 = .ok (.iload 6, 2) := by decide +kernel
theorem dX0_triedRests_25 : decode cX0_triedRests 25 = .ok (.iload_n 1, 1) := by decide +kernel
theorem dX0_triedRests_26 : decode cX0_triedRests 26 = .ok (.if_icmp .ge 32, 3) := by decide +kernel
theorem dX0_triedRests_29 : decode cX0_triedRests 29 = .ok (.lload 4, 2) := by decide +kernel
theorem dX0_triedRests_31 : decode cX0_triedRests 31 = .ok (.aload_n 0, 1) := by decide +kernel
theorem dX0_triedRests_32 : decode cX0_triedRests 32 = .ok (.getfield 47, 3) := by decide +kernel
theorem dX0_triedRests_35 : decode cX0_triedRests 35 = .ok (.iload 6, 2) := by decide +kernel
theorem dX0_triedRests_37 : decode cX0_triedRests 37 = .ok (.iaload, 1) := by decide +kernel
theorem dX0_triedRests_38 : decode cX0_triedRests 38 = .ok (.i2l, 1) := by decide +kernel
theorem dX0_triedRests_39 : decode cX0_triedRests 39 = .ok (.aload_n 0, 1) := by decide +kernel
theorem dX0_triedRests_40 : decode cX0_triedRests 40 = .ok (.getfield 38, 3) := by decide +kernel
theorem dX0_triedRests_43 : decode cX0_triedRests 43 = .ok (.iload 6, 2) := by decide +kernel
theorem dX0_triedRests_45 : decode cX0_triedRests 45 = .ok (.aaload, 1) := by decide +kernel
theorem dX0_triedRests_46 : decode cX0_triedRests 46 = .ok (.iload_n 3, 1) := by decide +kernel
theorem dX0_triedRests_47 : decode cX0_triedRests 47 = .ok (.laload, 1) := by decide +kernel
theorem dX0_triedRests_48 : decode cX0_triedRests 48 = .ok (.lmul, 1) := by decide +kernel
theorem dX0_triedRests_49 : decode cX0_triedRests 49 = .ok (.ladd, 1) := by decide +kernel
theorem dX0_triedRests_50 : decode cX0_triedRests 50 = .ok (.lstore 4, 2) := by decide +kernel
theorem dX0_triedRests_52 : decode cX0_triedRests 52 = .ok (.iinc 6 1, 3) := by decide +kernel
theorem dX0_triedRests_55 : decode cX0_triedRests 55 = .ok (.goto (-32), 3) := by decide +kernel
theorem dX0_triedRests_58 : decode cX0_triedRests 58 = .ok (.lload 4, 2) := by decide +kernel
theorem dX0_triedRests_60 : decode cX0_triedRests 60 = .ok (.aload_n 0, 1) := by decide +kernel
theorem dX0_triedRests_61 : decode cX0_triedRests 61 = .ok (.getfield 41, 3) := by decide +kernel
theorem dX0_triedRests_64 : decode cX0_triedRests 64 = .ok (.iload_n 3, 1) := by decide +kernel
theorem dX0_triedRests_65 : decode cX0_triedRests 65 = .ok (.laload, 1) := by decide +kernel
theorem dX0_triedRests_66 : decode cX0_triedRests 66 = .ok (.lcmp, 1) := by decide +kernel
theorem dX0_triedRests_67 : decode cX0_triedRests 67 = .ok (.ifCond .ge 5, 3) := by decide +kernel
theorem dX0_triedRests_70 : decode cX0_triedRests 70 = .ok (.iconst 0, 1) := by decide +kernel
theorem dX0_triedRests_71 : decode cX0_triedRests 71 = .ok (.ireturn, 1) := by decide +kernel
theorem dX0_triedRests_72 : decode cX0_triedRests 72 = .ok (.iinc 3 1, 3) := by decide +kernel
theorem dX0_triedRests_75 : decode cX0_triedRests 75 = .ok (.goto (-63), 3) := by decide +kernel
theorem dX0_triedRests_78 : decode cX0_triedRests 78 = .ok (.iconst 1, 1) := by decide +kernel
theorem dX0_triedRests_79 : decode cX0_triedRests 79 = .ok (.ireturn, 1) := by decide +kernel
theorem kw_251 : (.fieldLink RX0 47 "NobodyChecks$Cheapest" "tried" "[I" : Cond) ∈ gw_tbl := gw_in (by decide +kernel) (by decide +kernel)
theorem kw_252 : (.fieldLink RX0 38 "NobodyChecks$Cheapest" "leads" "[[J" : Cond) ∈ gw_tbl := gw_in (by decide +kernel) (by decide +kernel)

set_option maxHeartbeats 4000000 in
set_option maxRecDepth 100000 in
theorem h_triedRests_1 (l : Launch) (D : va_G) (cs : Nat → ClassId) (ch : Nat) (sm : Nat) (tb : Nat) (ck : Nat) (cm : Nat) (le : Nat) (ne : Nat) (pr : Nat) (tr : Nat) (ln : Nat) (trs : Int32) (lpr : Int64) (aq : Nat) (aw : Nat) (ac : Nat) (ao : Nat) (am : Nat) (C : Nat) (hC5 : C ≤ 5) (P : Nat) (hP4 : P ≤ 4) (tot : Int64) (lr : Nat → Nat) (flr : Nat → Nat → Int64) (fne : Nat → Int64) (ftr : Nat → Int32) : Met l yX0_triedRests (Cond.code yX0_triedRests cX0_triedRests 7 (some .boolean) :: gw_tbl) ({ frames := 0, cells := 0, slots := 0, locals := 0 }) (pc_S D cs [(ch, .inr (0, [.ref aq, .ref sm, .ref tb, .ref ck, .ref cm, .ref le, .ref ne, .ref pr, .ref tr, .ref ln, .int trs, .long lpr])), (aq, .inr (5, [.ref aw, .ref ac, .ref ao, .ref am, .int (nI C), .int (nI P), .long tot])), (le, .inl (cs 5, 4, .inr (.inr (.inr (.inr (rowsF 4 lr)))))), ((lr 0), .inl (cs 1, 12, .inr (.inl (flr 0)))), ((lr 1), .inl (cs 1, 12, .inr (.inl (flr 1)))), ((lr 2), .inl (cs 1, 12, .inr (.inl (flr 2)))), ((lr 3), .inl (cs 1, 12, .inr (.inl (flr 3)))), (ne, .inl (cs 1, 12, .inr (.inl fne))), (tr, .inl (cs 0, 4, .inl ftr))] [.ref ch, .int 1]) (vp_Si (fun r => r = 0 ∨ r = 1)) 0 0 (fun _ => False) := by
  refine Met.ofW (cc := cX0_triedRests) (maxL := 7) (ret := (some .boolean)) (by decide) rfl ?_
  intro p e s m args below meth c s₁ B hml hv
  obtain ⟨hargs, hP, hK⟩ := hv
  have hx := B.exec
  have hb := B.bytes
  have hr := B.returns
  have hts := atoms_spec (ws := Cond.code yX0_triedRests cX0_triedRests 7 (some .boolean) :: gw_tbl) B.pre
  have hg := fun (w : Cond) (h : w ∈ gw_tbl) => hts w (List.mem_cons_of_mem _ h)
  have hown : s.vm.findClass RX0 = some m.cls := findClass_of_methodNamed B.named
  have hlocks := B.notSynchronized
  have hl := lv_entry ([.ref ch, .int 1]) (n := 7) (Nat.le_of_ble_eq_true rfl)
  rw [show entryFrame m args 7 = F0 m 0 (lg_sl ([.ref ch, .int 1]) ++ List.replicate (7 - (lg_sl ([.ref ch, .int 1])).length) Slot.unset).toArray [] from by rw [hargs]; exact lg_entry_eq ..]
  generalize (lg_sl ([.ref ch, .int 1]) ++ List.replicate (7 - (lg_sl ([.ref ch, .int 1])).length) Slot.unset).toArray = ls at hl ⊢
  have hl : lv_has ls 7 [(0, .ref ch), (1, .int 1)] := hl
  refine W_genQ (fun Q hQ => ?_)
  have hlm := lim_le hP4
  have hlq := lim_pos P
  have hsg := sgn_le hP4
  refine lv_aload_n hx hb dX0_triedRests_0 rfl (lv_at hl 0 rfl) ?_
  refine va_get (D := D) (ci := 0) (v := .ref aq) (C := RX0) (T := TX0) (N := 12) hx hb hg gwX0 hown hK hP 0 rfl rfl 0 (by decide) (hg _ kw_244) (fun _ h9 => h9) rfl dX0_triedRests_1 ?_
  refine va_get (D := D) (ci := 5) (v := .int (nI P)) (C := RX5) (T := TX5) (N := 7) hx hb hg gwX5 hown hK hP 1 rfl rfl 5 (by decide) (hg _ kw_245) (fun _ h9 => h9) rfl dX0_triedRests_4 ?_
  refine lv_iconst (v := 3) hx hb dX0_triedRests_7 (by decide) ?_
  refine lv_imul hx hb dX0_triedRests_8 ?_
  refine lv_topi (fun z_8 e_8 => ?_)
  obtain rfl : z_8 = nI (P * 3) := e_8.trans (pk_mul _ _)
  refine lv_istore_n (lv' := [(2, .int (nI (P * 3))), (0, .ref ch), (1, .int 1)]) hx hb dX0_triedRests_9 rfl hl (by decide) rfl (fun ls hl => ?_)
  refine lv_iconst (v := 0) hx hb dX0_triedRests_10 (by decide) ?_
  refine lv_istore_n (lv' := [(3, .int 0), (2, .int (nI (P * 3))), (0, .ref ch), (1, .int 1)]) hx hb dX0_triedRests_11 rfl hl (by decide) rfl (fun ls hl => ?_)
  have LOOP12 : ∀ (n12 : Nat) (k : Nat), k ≤ P * 3 → P * 3 - k < n12 → ∀ (ls : Array Slot), lv_has ls 7 [(0, .ref ch), (1, .int 1), (2, .int (nI (P * 3))), (3, .int (nI k))] → W p l e ({ frames := 0, cells := 0, slots := 0, locals := 0 } : Room) s m args below meth c s.heap [] 0 0 Q (F0 m 12 ls []) := by
    intro n12
    induction n12 with
    | zero =>
      intro k hk hn12 ls hl
      exact absurd hn12 (Nat.not_lt_zero _)
    | succ n12 ih12 =>
      intro k hk hn12 ls hl
      refine lv_iload_n hx hb dX0_triedRests_12 rfl (lv_at hl 3 rfl) ?_
      refine lv_iload_n hx hb dX0_triedRests_13 rfl (lv_at hl 2 rfl) ?_
      refine lv_icmp_ge (tgt := 78) hx hb dX0_triedRests_14 (by decide) (fun c_14 => ?_) (fun c_14 => ?_)
      · have n_14 : P * 3 ≤ k := b_le_t (by omega) (by omega) c_14
        refine lv_iconst (v := 1) hx hb dX0_triedRests_78 (by decide) ?_
        refine W_sQ hQ ?_
        exact W.zret (v := 1) hx hb hr (by decide) (fun t ht hW => ⟨1, rfl, (Or.inr rfl), ht⟩) (fun _ h => absurd h List.not_mem_nil) dX0_triedRests_79
      · have n_14 : k < P * 3 := b_le_f (by omega) (by omega) c_14
        refine lv_lconst (v := 0) hx hb dX0_triedRests_17 (by decide) ?_
        refine lv_lstore (lv' := [(4, .long 0), (0, .ref ch), (1, .int 1), (2, .int (nI (P * 3))), (3, .int (nI k))]) hx hb dX0_triedRests_18 hl (by decide) rfl (fun ls hl => ?_)
        refine lv_iconst (v := 0) hx hb dX0_triedRests_20 (by decide) ?_
        refine lv_istore (lv' := [(6, .int 0), (4, .long 0), (0, .ref ch), (1, .int 1), (2, .int (nI (P * 3))), (3, .int (nI k))]) hx hb dX0_triedRests_21 hl (by decide) rfl (fun ls hl => ?_)
        refine lv_iload hx hb dX0_triedRests_23 (lv_at hl 0 rfl) ?_
        refine lv_iload_n hx hb dX0_triedRests_25 rfl (lv_at hl 3 rfl) ?_
        refine lv_icmp_ge (tgt := 58) hx hb dX0_triedRests_26 (by decide) (fun c_26 => absurd c_26 (by decide)) (fun c_26 => ?_)
        refine lv_lload hx hb dX0_triedRests_29 (lv_at hl 1 rfl) ?_
        refine lv_aload_n hx hb dX0_triedRests_31 rfl (lv_at hl 2 rfl) ?_
        refine va_get (D := D) (ci := 0) (v := .ref tr) (C := RX0) (T := TX0) (N := 12) hx hb hg gwX0 hown hK hP 0 rfl rfl 8 (by decide) (hg _ kw_251) (fun _ h9 => h9) rfl dX0_triedRests_32 ?_
        refine lv_iload hx hb dX0_triedRests_35 (lv_at hl 0 rfl) ?_
        refine va_iald hx hb hK hP 8 0 rfl rfl (show ¬ ((0 : Int32) < 0 ∨ 4 ≤ (0 : Int32).toNatClampNeg) by decide) dX0_triedRests_37 ?_
        refine lv_topi (fun z_37 e_37 => ?_)
        refine lv_i2l hx hb dX0_triedRests_38 rfl ?_
        refine lv_topl (fun z_38 e_38 => ?_)
        refine lv_aload_n hx hb dX0_triedRests_39 rfl (lv_at hl 2 rfl) ?_
        refine va_get (D := D) (ci := 0) (v := .ref le) (C := RX0) (T := TX0) (N := 12) hx hb hg gwX0 hown hK hP 0 rfl rfl 5 (by decide) (hg _ kw_252) (fun _ h9 => h9) rfl dX0_triedRests_40 ?_
        refine lv_iload hx hb dX0_triedRests_43 (lv_at hl 0 rfl) ?_
        refine va_aldR (k := 0) hx hb hK hP 2 5 rfl rfl (show 0 < 4 by omega) (by decide) dX0_triedRests_45 ?_
        refine lv_iload_n hx hb dX0_triedRests_46 rfl (lv_at hl 5 rfl) ?_
        refine va_lald hx hb hK hP 3 1 rfl rfl (vp_in_nI (show k < 12 by omega) (by decide)) dX0_triedRests_47 ?_
        refine lv_topl (fun z_47 e_47 => ?_)
        refine lv_lmul hx hb dX0_triedRests_48 ?_
        refine lv_topl (fun z_48 e_48 => ?_)
        refine lv_ladd hx hb dX0_triedRests_49 ?_
        refine lv_topl (fun z_49 e_49 => ?_)
        refine lv_lstore (lv' := [(4, .long z_49), (6, .int 0), (0, .ref ch), (1, .int 1), (2, .int (nI (P * 3))), (3, .int (nI k))]) hx hb dX0_triedRests_50 hl (by decide) rfl (fun ls hl => ?_)
        refine lv_iinc (v := 1) (lv' := [(6, .int 1), (4, .long z_49), (0, .ref ch), (1, .int 1), (2, .int (nI (P * 3))), (3, .int (nI k))]) hx hb dX0_triedRests_52 hl (k := 1) rfl (by decide) (by decide) rfl (fun ls hl => ?_)
        refine lv_goto (tgt := 23) hx hb dX0_triedRests_55 (by decide) ?_
        refine lv_iload hx hb dX0_triedRests_23 (lv_at hl 0 rfl) ?_
        refine lv_iload_n hx hb dX0_triedRests_25 rfl (lv_at hl 3 rfl) ?_
        refine lv_icmp_ge (tgt := 58) hx hb dX0_triedRests_26 (by decide) (fun c_26 => ?_) (fun c_26 => absurd c_26 (by decide))
        refine lv_lload hx hb dX0_triedRests_58 (lv_at hl 1 rfl) ?_
        refine lv_aload_n hx hb dX0_triedRests_60 rfl (lv_at hl 2 rfl) ?_
        refine va_get (D := D) (ci := 0) (v := .ref ne) (C := RX0) (T := TX0) (N := 12) hx hb hg gwX0 hown hK hP 0 rfl rfl 6 (by decide) (hg _ kw_249) (fun _ h9 => h9) rfl dX0_triedRests_61 ?_
        refine lv_iload_n hx hb dX0_triedRests_64 rfl (lv_at hl 5 rfl) ?_
        refine va_lald hx hb hK hP 7 1 rfl rfl (vp_in_nI (show k < 12 by omega) (by decide)) dX0_triedRests_65 ?_
        refine lv_topl (fun z_65 e_65 => ?_)
        refine W.lcmp hx hb dX0_triedRests_66 ?_
        refine lv_topi (fun z_66 e_66 => ?_)
        refine lv_if_ge (tgt := 72) hx hb dX0_triedRests_67 (by decide) (fun c_67 => ?_) (fun c_67 => ?_)
        · refine lv_iinc (v := (nI (k + 1))) (lv' := [(3, .int (nI (k + 1))), (6, .int 1), (4, .long z_49), (0, .ref ch), (1, .int 1), (2, .int (nI (P * 3)))]) hx hb dX0_triedRests_72 hl (k := 5) rfl (nI_add k 1) (by decide) rfl (fun ls hl => ?_)
          refine lv_goto (tgt := 12) hx hb dX0_triedRests_75 (by decide) ?_
          exact ih12 (k + 1) (by omega) (by omega) ls (lv_sub hl [3, 4, 5, 0] rfl)
        · refine lv_iconst (v := 0) hx hb dX0_triedRests_70 (by decide) ?_
          refine W_sQ hQ ?_
          exact W.zret (v := 0) hx hb hr (by decide) (fun t ht hW => ⟨0, rfl, (Or.inl rfl), ht⟩) (fun _ h => absurd h List.not_mem_nil) dX0_triedRests_71
  exact LOOP12 (P * 3 - 0 + 1) 0 (by omega) (Nat.lt_succ_self _) ls (lv_sub hl [2, 3, 1, 0] rfl)

set_option maxHeartbeats 4000000 in
set_option maxRecDepth 100000 in
theorem h_triedRests_2 (l : Launch) (D : va_G) (cs : Nat → ClassId) (ch : Nat) (sm : Nat) (tb : Nat) (ck : Nat) (cm : Nat) (le : Nat) (ne : Nat) (pr : Nat) (tr : Nat) (ln : Nat) (trs : Int32) (lpr : Int64) (aq : Nat) (aw : Nat) (ac : Nat) (ao : Nat) (am : Nat) (C : Nat) (hC5 : C ≤ 5) (P : Nat) (hP4 : P ≤ 4) (tot : Int64) (lr : Nat → Nat) (flr : Nat → Nat → Int64) (fne : Nat → Int64) (ftr : Nat → Int32) : Met l yX0_triedRests (Cond.code yX0_triedRests cX0_triedRests 7 (some .boolean) :: gw_tbl) ({ frames := 0, cells := 0, slots := 0, locals := 0 }) (pc_S D cs [(ch, .inr (0, [.ref aq, .ref sm, .ref tb, .ref ck, .ref cm, .ref le, .ref ne, .ref pr, .ref tr, .ref ln, .int trs, .long lpr])), (aq, .inr (5, [.ref aw, .ref ac, .ref ao, .ref am, .int (nI C), .int (nI P), .long tot])), (le, .inl (cs 5, 4, .inr (.inr (.inr (.inr (rowsF 4 lr)))))), ((lr 0), .inl (cs 1, 12, .inr (.inl (flr 0)))), ((lr 1), .inl (cs 1, 12, .inr (.inl (flr 1)))), ((lr 2), .inl (cs 1, 12, .inr (.inl (flr 2)))), ((lr 3), .inl (cs 1, 12, .inr (.inl (flr 3)))), (ne, .inl (cs 1, 12, .inr (.inl fne))), (tr, .inl (cs 0, 4, .inl ftr))] [.ref ch, .int 2]) (vp_Si (fun r => r = 0 ∨ r = 1)) 0 0 (fun _ => False) := by
  refine Met.ofW (cc := cX0_triedRests) (maxL := 7) (ret := (some .boolean)) (by decide) rfl ?_
  intro p e s m args below meth c s₁ B hml hv
  obtain ⟨hargs, hP, hK⟩ := hv
  have hx := B.exec
  have hb := B.bytes
  have hr := B.returns
  have hts := atoms_spec (ws := Cond.code yX0_triedRests cX0_triedRests 7 (some .boolean) :: gw_tbl) B.pre
  have hg := fun (w : Cond) (h : w ∈ gw_tbl) => hts w (List.mem_cons_of_mem _ h)
  have hown : s.vm.findClass RX0 = some m.cls := findClass_of_methodNamed B.named
  have hlocks := B.notSynchronized
  have hl := lv_entry ([.ref ch, .int 2]) (n := 7) (Nat.le_of_ble_eq_true rfl)
  rw [show entryFrame m args 7 = F0 m 0 (lg_sl ([.ref ch, .int 2]) ++ List.replicate (7 - (lg_sl ([.ref ch, .int 2])).length) Slot.unset).toArray [] from by rw [hargs]; exact lg_entry_eq ..]
  generalize (lg_sl ([.ref ch, .int 2]) ++ List.replicate (7 - (lg_sl ([.ref ch, .int 2])).length) Slot.unset).toArray = ls at hl ⊢
  have hl : lv_has ls 7 [(0, .ref ch), (1, .int 2)] := hl
  refine W_genQ (fun Q hQ => ?_)
  have hlm := lim_le hP4
  have hlq := lim_pos P
  have hsg := sgn_le hP4
  refine lv_aload_n hx hb dX0_triedRests_0 rfl (lv_at hl 0 rfl) ?_
  refine va_get (D := D) (ci := 0) (v := .ref aq) (C := RX0) (T := TX0) (N := 12) hx hb hg gwX0 hown hK hP 0 rfl rfl 0 (by decide) (hg _ kw_244) (fun _ h9 => h9) rfl dX0_triedRests_1 ?_
  refine va_get (D := D) (ci := 5) (v := .int (nI P)) (C := RX5) (T := TX5) (N := 7) hx hb hg gwX5 hown hK hP 1 rfl rfl 5 (by decide) (hg _ kw_245) (fun _ h9 => h9) rfl dX0_triedRests_4 ?_
  refine lv_iconst (v := 3) hx hb dX0_triedRests_7 (by decide) ?_
  refine lv_imul hx hb dX0_triedRests_8 ?_
  refine lv_topi (fun z_8 e_8 => ?_)
  obtain rfl : z_8 = nI (P * 3) := e_8.trans (pk_mul _ _)
  refine lv_istore_n (lv' := [(2, .int (nI (P * 3))), (0, .ref ch), (1, .int 2)]) hx hb dX0_triedRests_9 rfl hl (by decide) rfl (fun ls hl => ?_)
  refine lv_iconst (v := 0) hx hb dX0_triedRests_10 (by decide) ?_
  refine lv_istore_n (lv' := [(3, .int 0), (2, .int (nI (P * 3))), (0, .ref ch), (1, .int 2)]) hx hb dX0_triedRests_11 rfl hl (by decide) rfl (fun ls hl => ?_)
  have LOOP12 : ∀ (n12 : Nat) (k : Nat), k ≤ P * 3 → P * 3 - k < n12 → ∀ (ls : Array Slot), lv_has ls 7 [(0, .ref ch), (1, .int 2), (2, .int (nI (P * 3))), (3, .int (nI k))] → W p l e ({ frames := 0, cells := 0, slots := 0, locals := 0 } : Room) s m args below meth c s.heap [] 0 0 Q (F0 m 12 ls []) := by
    intro n12
    induction n12 with
    | zero =>
      intro k hk hn12 ls hl
      exact absurd hn12 (Nat.not_lt_zero _)
    | succ n12 ih12 =>
      intro k hk hn12 ls hl
      refine lv_iload_n hx hb dX0_triedRests_12 rfl (lv_at hl 3 rfl) ?_
      refine lv_iload_n hx hb dX0_triedRests_13 rfl (lv_at hl 2 rfl) ?_
      refine lv_icmp_ge (tgt := 78) hx hb dX0_triedRests_14 (by decide) (fun c_14 => ?_) (fun c_14 => ?_)
      · have n_14 : P * 3 ≤ k := b_le_t (by omega) (by omega) c_14
        refine lv_iconst (v := 1) hx hb dX0_triedRests_78 (by decide) ?_
        refine W_sQ hQ ?_
        exact W.zret (v := 1) hx hb hr (by decide) (fun t ht hW => ⟨1, rfl, (Or.inr rfl), ht⟩) (fun _ h => absurd h List.not_mem_nil) dX0_triedRests_79
      · have n_14 : k < P * 3 := b_le_f (by omega) (by omega) c_14
        refine lv_lconst (v := 0) hx hb dX0_triedRests_17 (by decide) ?_
        refine lv_lstore (lv' := [(4, .long 0), (0, .ref ch), (1, .int 2), (2, .int (nI (P * 3))), (3, .int (nI k))]) hx hb dX0_triedRests_18 hl (by decide) rfl (fun ls hl => ?_)
        refine lv_iconst (v := 0) hx hb dX0_triedRests_20 (by decide) ?_
        refine lv_istore (lv' := [(6, .int 0), (4, .long 0), (0, .ref ch), (1, .int 2), (2, .int (nI (P * 3))), (3, .int (nI k))]) hx hb dX0_triedRests_21 hl (by decide) rfl (fun ls hl => ?_)
        refine lv_iload hx hb dX0_triedRests_23 (lv_at hl 0 rfl) ?_
        refine lv_iload_n hx hb dX0_triedRests_25 rfl (lv_at hl 3 rfl) ?_
        refine lv_icmp_ge (tgt := 58) hx hb dX0_triedRests_26 (by decide) (fun c_26 => absurd c_26 (by decide)) (fun c_26 => ?_)
        refine lv_lload hx hb dX0_triedRests_29 (lv_at hl 1 rfl) ?_
        refine lv_aload_n hx hb dX0_triedRests_31 rfl (lv_at hl 2 rfl) ?_
        refine va_get (D := D) (ci := 0) (v := .ref tr) (C := RX0) (T := TX0) (N := 12) hx hb hg gwX0 hown hK hP 0 rfl rfl 8 (by decide) (hg _ kw_251) (fun _ h9 => h9) rfl dX0_triedRests_32 ?_
        refine lv_iload hx hb dX0_triedRests_35 (lv_at hl 0 rfl) ?_
        refine va_iald hx hb hK hP 8 0 rfl rfl (show ¬ ((0 : Int32) < 0 ∨ 4 ≤ (0 : Int32).toNatClampNeg) by decide) dX0_triedRests_37 ?_
        refine lv_topi (fun z_37 e_37 => ?_)
        refine lv_i2l hx hb dX0_triedRests_38 rfl ?_
        refine lv_topl (fun z_38 e_38 => ?_)
        refine lv_aload_n hx hb dX0_triedRests_39 rfl (lv_at hl 2 rfl) ?_
        refine va_get (D := D) (ci := 0) (v := .ref le) (C := RX0) (T := TX0) (N := 12) hx hb hg gwX0 hown hK hP 0 rfl rfl 5 (by decide) (hg _ kw_252) (fun _ h9 => h9) rfl dX0_triedRests_40 ?_
        refine lv_iload hx hb dX0_triedRests_43 (lv_at hl 0 rfl) ?_
        refine va_aldR (k := 0) hx hb hK hP 2 5 rfl rfl (show 0 < 4 by omega) (by decide) dX0_triedRests_45 ?_
        refine lv_iload_n hx hb dX0_triedRests_46 rfl (lv_at hl 5 rfl) ?_
        refine va_lald hx hb hK hP 3 1 rfl rfl (vp_in_nI (show k < 12 by omega) (by decide)) dX0_triedRests_47 ?_
        refine lv_topl (fun z_47 e_47 => ?_)
        refine lv_lmul hx hb dX0_triedRests_48 ?_
        refine lv_topl (fun z_48 e_48 => ?_)
        refine lv_ladd hx hb dX0_triedRests_49 ?_
        refine lv_topl (fun z_49 e_49 => ?_)
        refine lv_lstore (lv' := [(4, .long z_49), (6, .int 0), (0, .ref ch), (1, .int 2), (2, .int (nI (P * 3))), (3, .int (nI k))]) hx hb dX0_triedRests_50 hl (by decide) rfl (fun ls hl => ?_)
        refine lv_iinc (v := 1) (lv' := [(6, .int 1), (4, .long z_49), (0, .ref ch), (1, .int 2), (2, .int (nI (P * 3))), (3, .int (nI k))]) hx hb dX0_triedRests_52 hl (k := 1) rfl (by decide) (by decide) rfl (fun ls hl => ?_)
        refine lv_goto (tgt := 23) hx hb dX0_triedRests_55 (by decide) ?_
        refine lv_iload hx hb dX0_triedRests_23 (lv_at hl 0 rfl) ?_
        refine lv_iload_n hx hb dX0_triedRests_25 rfl (lv_at hl 3 rfl) ?_
        refine lv_icmp_ge (tgt := 58) hx hb dX0_triedRests_26 (by decide) (fun c_26 => absurd c_26 (by decide)) (fun c_26 => ?_)
        refine lv_lload hx hb dX0_triedRests_29 (lv_at hl 1 rfl) ?_
        refine lv_aload_n hx hb dX0_triedRests_31 rfl (lv_at hl 2 rfl) ?_
        refine va_get (D := D) (ci := 0) (v := .ref tr) (C := RX0) (T := TX0) (N := 12) hx hb hg gwX0 hown hK hP 0 rfl rfl 8 (by decide) (hg _ kw_251) (fun _ h9 => h9) rfl dX0_triedRests_32 ?_
        refine lv_iload hx hb dX0_triedRests_35 (lv_at hl 0 rfl) ?_
        refine va_iald hx hb hK hP 8 0 rfl rfl (show ¬ ((1 : Int32) < 0 ∨ 4 ≤ (1 : Int32).toNatClampNeg) by decide) dX0_triedRests_37 ?_
        refine lv_topi (fun z_37 e_37 => ?_)
        refine lv_i2l hx hb dX0_triedRests_38 rfl ?_
        refine lv_topl (fun z_38 e_38 => ?_)
        refine lv_aload_n hx hb dX0_triedRests_39 rfl (lv_at hl 2 rfl) ?_
        refine va_get (D := D) (ci := 0) (v := .ref le) (C := RX0) (T := TX0) (N := 12) hx hb hg gwX0 hown hK hP 0 rfl rfl 5 (by decide) (hg _ kw_252) (fun _ h9 => h9) rfl dX0_triedRests_40 ?_
        refine lv_iload hx hb dX0_triedRests_43 (lv_at hl 0 rfl) ?_
        refine va_aldR (k := 1) hx hb hK hP 2 5 rfl rfl (show 1 < 4 by omega) (by decide) dX0_triedRests_45 ?_
        refine lv_iload_n hx hb dX0_triedRests_46 rfl (lv_at hl 5 rfl) ?_
        refine va_lald hx hb hK hP 4 1 rfl rfl (vp_in_nI (show k < 12 by omega) (by decide)) dX0_triedRests_47 ?_
        refine lv_topl (fun z_47 e_47 => ?_)
        refine lv_lmul hx hb dX0_triedRests_48 ?_
        refine lv_topl (fun z_48 e_48 => ?_)
        refine lv_ladd hx hb dX0_triedRests_49 ?_
        refine lv_topl (fun z_49 e_49 => ?_)
        refine lv_lstore (lv' := [(4, .long z_49), (6, .int 1), (0, .ref ch), (1, .int 2), (2, .int (nI (P * 3))), (3, .int (nI k))]) hx hb dX0_triedRests_50 hl (by decide) rfl (fun ls hl => ?_)
        refine lv_iinc (v := 2) (lv' := [(6, .int 2), (4, .long z_49), (0, .ref ch), (1, .int 2), (2, .int (nI (P * 3))), (3, .int (nI k))]) hx hb dX0_triedRests_52 hl (k := 1) rfl (by decide) (by decide) rfl (fun ls hl => ?_)
        refine lv_goto (tgt := 23) hx hb dX0_triedRests_55 (by decide) ?_
        refine lv_iload hx hb dX0_triedRests_23 (lv_at hl 0 rfl) ?_
        refine lv_iload_n hx hb dX0_triedRests_25 rfl (lv_at hl 3 rfl) ?_
        refine lv_icmp_ge (tgt := 58) hx hb dX0_triedRests_26 (by decide) (fun c_26 => ?_) (fun c_26 => absurd c_26 (by decide))
        refine lv_lload hx hb dX0_triedRests_58 (lv_at hl 1 rfl) ?_
        refine lv_aload_n hx hb dX0_triedRests_60 rfl (lv_at hl 2 rfl) ?_
        refine va_get (D := D) (ci := 0) (v := .ref ne) (C := RX0) (T := TX0) (N := 12) hx hb hg gwX0 hown hK hP 0 rfl rfl 6 (by decide) (hg _ kw_249) (fun _ h9 => h9) rfl dX0_triedRests_61 ?_
        refine lv_iload_n hx hb dX0_triedRests_64 rfl (lv_at hl 5 rfl) ?_
        refine va_lald hx hb hK hP 7 1 rfl rfl (vp_in_nI (show k < 12 by omega) (by decide)) dX0_triedRests_65 ?_
        refine lv_topl (fun z_65 e_65 => ?_)
        refine W.lcmp hx hb dX0_triedRests_66 ?_
        refine lv_topi (fun z_66 e_66 => ?_)
        refine lv_if_ge (tgt := 72) hx hb dX0_triedRests_67 (by decide) (fun c_67 => ?_) (fun c_67 => ?_)
        · refine lv_iinc (v := (nI (k + 1))) (lv' := [(3, .int (nI (k + 1))), (6, .int 2), (4, .long z_49), (0, .ref ch), (1, .int 2), (2, .int (nI (P * 3)))]) hx hb dX0_triedRests_72 hl (k := 5) rfl (nI_add k 1) (by decide) rfl (fun ls hl => ?_)
          refine lv_goto (tgt := 12) hx hb dX0_triedRests_75 (by decide) ?_
          exact ih12 (k + 1) (by omega) (by omega) ls (lv_sub hl [3, 4, 5, 0] rfl)
        · refine lv_iconst (v := 0) hx hb dX0_triedRests_70 (by decide) ?_
          refine W_sQ hQ ?_
          exact W.zret (v := 0) hx hb hr (by decide) (fun t ht hW => ⟨0, rfl, (Or.inl rfl), ht⟩) (fun _ h => absurd h List.not_mem_nil) dX0_triedRests_71
  exact LOOP12 (P * 3 - 0 + 1) 0 (by omega) (Nat.lt_succ_self _) ls (lv_sub hl [2, 3, 1, 0] rfl)

set_option maxHeartbeats 4000000 in
set_option maxRecDepth 100000 in
theorem h_triedRests_4 (l : Launch) (D : va_G) (cs : Nat → ClassId) (ch : Nat) (sm : Nat) (tb : Nat) (ck : Nat) (cm : Nat) (le : Nat) (ne : Nat) (pr : Nat) (tr : Nat) (ln : Nat) (trs : Int32) (lpr : Int64) (aq : Nat) (aw : Nat) (ac : Nat) (ao : Nat) (am : Nat) (C : Nat) (hC5 : C ≤ 5) (P : Nat) (hP4 : P ≤ 4) (tot : Int64) (lr : Nat → Nat) (flr : Nat → Nat → Int64) (fne : Nat → Int64) (ftr : Nat → Int32) : Met l yX0_triedRests (Cond.code yX0_triedRests cX0_triedRests 7 (some .boolean) :: gw_tbl) ({ frames := 0, cells := 0, slots := 0, locals := 0 }) (pc_S D cs [(ch, .inr (0, [.ref aq, .ref sm, .ref tb, .ref ck, .ref cm, .ref le, .ref ne, .ref pr, .ref tr, .ref ln, .int trs, .long lpr])), (aq, .inr (5, [.ref aw, .ref ac, .ref ao, .ref am, .int (nI C), .int (nI P), .long tot])), (le, .inl (cs 5, 4, .inr (.inr (.inr (.inr (rowsF 4 lr)))))), ((lr 0), .inl (cs 1, 12, .inr (.inl (flr 0)))), ((lr 1), .inl (cs 1, 12, .inr (.inl (flr 1)))), ((lr 2), .inl (cs 1, 12, .inr (.inl (flr 2)))), ((lr 3), .inl (cs 1, 12, .inr (.inl (flr 3)))), (ne, .inl (cs 1, 12, .inr (.inl fne))), (tr, .inl (cs 0, 4, .inl ftr))] [.ref ch, .int 4]) (vp_Si (fun r => r = 0 ∨ r = 1)) 0 0 (fun _ => False) := by
  refine Met.ofW (cc := cX0_triedRests) (maxL := 7) (ret := (some .boolean)) (by decide) rfl ?_
  intro p e s m args below meth c s₁ B hml hv
  obtain ⟨hargs, hP, hK⟩ := hv
  have hx := B.exec
  have hb := B.bytes
  have hr := B.returns
  have hts := atoms_spec (ws := Cond.code yX0_triedRests cX0_triedRests 7 (some .boolean) :: gw_tbl) B.pre
  have hg := fun (w : Cond) (h : w ∈ gw_tbl) => hts w (List.mem_cons_of_mem _ h)
  have hown : s.vm.findClass RX0 = some m.cls := findClass_of_methodNamed B.named
  have hlocks := B.notSynchronized
  have hl := lv_entry ([.ref ch, .int 4]) (n := 7) (Nat.le_of_ble_eq_true rfl)
  rw [show entryFrame m args 7 = F0 m 0 (lg_sl ([.ref ch, .int 4]) ++ List.replicate (7 - (lg_sl ([.ref ch, .int 4])).length) Slot.unset).toArray [] from by rw [hargs]; exact lg_entry_eq ..]
  generalize (lg_sl ([.ref ch, .int 4]) ++ List.replicate (7 - (lg_sl ([.ref ch, .int 4])).length) Slot.unset).toArray = ls at hl ⊢
  have hl : lv_has ls 7 [(0, .ref ch), (1, .int 4)] := hl
  refine W_genQ (fun Q hQ => ?_)
  have hlm := lim_le hP4
  have hlq := lim_pos P
  have hsg := sgn_le hP4
  refine lv_aload_n hx hb dX0_triedRests_0 rfl (lv_at hl 0 rfl) ?_
  refine va_get (D := D) (ci := 0) (v := .ref aq) (C := RX0) (T := TX0) (N := 12) hx hb hg gwX0 hown hK hP 0 rfl rfl 0 (by decide) (hg _ kw_244) (fun _ h9 => h9) rfl dX0_triedRests_1 ?_
  refine va_get (D := D) (ci := 5) (v := .int (nI P)) (C := RX5) (T := TX5) (N := 7) hx hb hg gwX5 hown hK hP 1 rfl rfl 5 (by decide) (hg _ kw_245) (fun _ h9 => h9) rfl dX0_triedRests_4 ?_
  refine lv_iconst (v := 3) hx hb dX0_triedRests_7 (by decide) ?_
  refine lv_imul hx hb dX0_triedRests_8 ?_
  refine lv_topi (fun z_8 e_8 => ?_)
  obtain rfl : z_8 = nI (P * 3) := e_8.trans (pk_mul _ _)
  refine lv_istore_n (lv' := [(2, .int (nI (P * 3))), (0, .ref ch), (1, .int 4)]) hx hb dX0_triedRests_9 rfl hl (by decide) rfl (fun ls hl => ?_)
  refine lv_iconst (v := 0) hx hb dX0_triedRests_10 (by decide) ?_
  refine lv_istore_n (lv' := [(3, .int 0), (2, .int (nI (P * 3))), (0, .ref ch), (1, .int 4)]) hx hb dX0_triedRests_11 rfl hl (by decide) rfl (fun ls hl => ?_)
  have LOOP12 : ∀ (n12 : Nat) (k : Nat), k ≤ P * 3 → P * 3 - k < n12 → ∀ (ls : Array Slot), lv_has ls 7 [(0, .ref ch), (1, .int 4), (2, .int (nI (P * 3))), (3, .int (nI k))] → W p l e ({ frames := 0, cells := 0, slots := 0, locals := 0 } : Room) s m args below meth c s.heap [] 0 0 Q (F0 m 12 ls []) := by
    intro n12
    induction n12 with
    | zero =>
      intro k hk hn12 ls hl
      exact absurd hn12 (Nat.not_lt_zero _)
    | succ n12 ih12 =>
      intro k hk hn12 ls hl
      refine lv_iload_n hx hb dX0_triedRests_12 rfl (lv_at hl 3 rfl) ?_
      refine lv_iload_n hx hb dX0_triedRests_13 rfl (lv_at hl 2 rfl) ?_
      refine lv_icmp_ge (tgt := 78) hx hb dX0_triedRests_14 (by decide) (fun c_14 => ?_) (fun c_14 => ?_)
      · have n_14 : P * 3 ≤ k := b_le_t (by omega) (by omega) c_14
        refine lv_iconst (v := 1) hx hb dX0_triedRests_78 (by decide) ?_
        refine W_sQ hQ ?_
        exact W.zret (v := 1) hx hb hr (by decide) (fun t ht hW => ⟨1, rfl, (Or.inr rfl), ht⟩) (fun _ h => absurd h List.not_mem_nil) dX0_triedRests_79
      · have n_14 : k < P * 3 := b_le_f (by omega) (by omega) c_14
        refine lv_lconst (v := 0) hx hb dX0_triedRests_17 (by decide) ?_
        refine lv_lstore (lv' := [(4, .long 0), (0, .ref ch), (1, .int 4), (2, .int (nI (P * 3))), (3, .int (nI k))]) hx hb dX0_triedRests_18 hl (by decide) rfl (fun ls hl => ?_)
        refine lv_iconst (v := 0) hx hb dX0_triedRests_20 (by decide) ?_
        refine lv_istore (lv' := [(6, .int 0), (4, .long 0), (0, .ref ch), (1, .int 4), (2, .int (nI (P * 3))), (3, .int (nI k))]) hx hb dX0_triedRests_21 hl (by decide) rfl (fun ls hl => ?_)
        refine lv_iload hx hb dX0_triedRests_23 (lv_at hl 0 rfl) ?_
        refine lv_iload_n hx hb dX0_triedRests_25 rfl (lv_at hl 3 rfl) ?_
        refine lv_icmp_ge (tgt := 58) hx hb dX0_triedRests_26 (by decide) (fun c_26 => absurd c_26 (by decide)) (fun c_26 => ?_)
        refine lv_lload hx hb dX0_triedRests_29 (lv_at hl 1 rfl) ?_
        refine lv_aload_n hx hb dX0_triedRests_31 rfl (lv_at hl 2 rfl) ?_
        refine va_get (D := D) (ci := 0) (v := .ref tr) (C := RX0) (T := TX0) (N := 12) hx hb hg gwX0 hown hK hP 0 rfl rfl 8 (by decide) (hg _ kw_251) (fun _ h9 => h9) rfl dX0_triedRests_32 ?_
        refine lv_iload hx hb dX0_triedRests_35 (lv_at hl 0 rfl) ?_
        refine va_iald hx hb hK hP 8 0 rfl rfl (show ¬ ((0 : Int32) < 0 ∨ 4 ≤ (0 : Int32).toNatClampNeg) by decide) dX0_triedRests_37 ?_
        refine lv_topi (fun z_37 e_37 => ?_)
        refine lv_i2l hx hb dX0_triedRests_38 rfl ?_
        refine lv_topl (fun z_38 e_38 => ?_)
        refine lv_aload_n hx hb dX0_triedRests_39 rfl (lv_at hl 2 rfl) ?_
        refine va_get (D := D) (ci := 0) (v := .ref le) (C := RX0) (T := TX0) (N := 12) hx hb hg gwX0 hown hK hP 0 rfl rfl 5 (by decide) (hg _ kw_252) (fun _ h9 => h9) rfl dX0_triedRests_40 ?_
        refine lv_iload hx hb dX0_triedRests_43 (lv_at hl 0 rfl) ?_
        refine va_aldR (k := 0) hx hb hK hP 2 5 rfl rfl (show 0 < 4 by omega) (by decide) dX0_triedRests_45 ?_
        refine lv_iload_n hx hb dX0_triedRests_46 rfl (lv_at hl 5 rfl) ?_
        refine va_lald hx hb hK hP 3 1 rfl rfl (vp_in_nI (show k < 12 by omega) (by decide)) dX0_triedRests_47 ?_
        refine lv_topl (fun z_47 e_47 => ?_)
        refine lv_lmul hx hb dX0_triedRests_48 ?_
        refine lv_topl (fun z_48 e_48 => ?_)
        refine lv_ladd hx hb dX0_triedRests_49 ?_
        refine lv_topl (fun z_49 e_49 => ?_)
        refine lv_lstore (lv' := [(4, .long z_49), (6, .int 0), (0, .ref ch), (1, .int 4), (2, .int (nI (P * 3))), (3, .int (nI k))]) hx hb dX0_triedRests_50 hl (by decide) rfl (fun ls hl => ?_)
        refine lv_iinc (v := 1) (lv' := [(6, .int 1), (4, .long z_49), (0, .ref ch), (1, .int 4), (2, .int (nI (P * 3))), (3, .int (nI k))]) hx hb dX0_triedRests_52 hl (k := 1) rfl (by decide) (by decide) rfl (fun ls hl => ?_)
        refine lv_goto (tgt := 23) hx hb dX0_triedRests_55 (by decide) ?_
        refine lv_iload hx hb dX0_triedRests_23 (lv_at hl 0 rfl) ?_
        refine lv_iload_n hx hb dX0_triedRests_25 rfl (lv_at hl 3 rfl) ?_
        refine lv_icmp_ge (tgt := 58) hx hb dX0_triedRests_26 (by decide) (fun c_26 => absurd c_26 (by decide)) (fun c_26 => ?_)
        refine lv_lload hx hb dX0_triedRests_29 (lv_at hl 1 rfl) ?_
        refine lv_aload_n hx hb dX0_triedRests_31 rfl (lv_at hl 2 rfl) ?_
        refine va_get (D := D) (ci := 0) (v := .ref tr) (C := RX0) (T := TX0) (N := 12) hx hb hg gwX0 hown hK hP 0 rfl rfl 8 (by decide) (hg _ kw_251) (fun _ h9 => h9) rfl dX0_triedRests_32 ?_
        refine lv_iload hx hb dX0_triedRests_35 (lv_at hl 0 rfl) ?_
        refine va_iald hx hb hK hP 8 0 rfl rfl (show ¬ ((1 : Int32) < 0 ∨ 4 ≤ (1 : Int32).toNatClampNeg) by decide) dX0_triedRests_37 ?_
        refine lv_topi (fun z_37 e_37 => ?_)
        refine lv_i2l hx hb dX0_triedRests_38 rfl ?_
        refine lv_topl (fun z_38 e_38 => ?_)
        refine lv_aload_n hx hb dX0_triedRests_39 rfl (lv_at hl 2 rfl) ?_
        refine va_get (D := D) (ci := 0) (v := .ref le) (C := RX0) (T := TX0) (N := 12) hx hb hg gwX0 hown hK hP 0 rfl rfl 5 (by decide) (hg _ kw_252) (fun _ h9 => h9) rfl dX0_triedRests_40 ?_
        refine lv_iload hx hb dX0_triedRests_43 (lv_at hl 0 rfl) ?_
        refine va_aldR (k := 1) hx hb hK hP 2 5 rfl rfl (show 1 < 4 by omega) (by decide) dX0_triedRests_45 ?_
        refine lv_iload_n hx hb dX0_triedRests_46 rfl (lv_at hl 5 rfl) ?_
        refine va_lald hx hb hK hP 4 1 rfl rfl (vp_in_nI (show k < 12 by omega) (by decide)) dX0_triedRests_47 ?_
        refine lv_topl (fun z_47 e_47 => ?_)
        refine lv_lmul hx hb dX0_triedRests_48 ?_
        refine lv_topl (fun z_48 e_48 => ?_)
        refine lv_ladd hx hb dX0_triedRests_49 ?_
        refine lv_topl (fun z_49 e_49 => ?_)
        refine lv_lstore (lv' := [(4, .long z_49), (6, .int 1), (0, .ref ch), (1, .int 4), (2, .int (nI (P * 3))), (3, .int (nI k))]) hx hb dX0_triedRests_50 hl (by decide) rfl (fun ls hl => ?_)
        refine lv_iinc (v := 2) (lv' := [(6, .int 2), (4, .long z_49), (0, .ref ch), (1, .int 4), (2, .int (nI (P * 3))), (3, .int (nI k))]) hx hb dX0_triedRests_52 hl (k := 1) rfl (by decide) (by decide) rfl (fun ls hl => ?_)
        refine lv_goto (tgt := 23) hx hb dX0_triedRests_55 (by decide) ?_
        refine lv_iload hx hb dX0_triedRests_23 (lv_at hl 0 rfl) ?_
        refine lv_iload_n hx hb dX0_triedRests_25 rfl (lv_at hl 3 rfl) ?_
        refine lv_icmp_ge (tgt := 58) hx hb dX0_triedRests_26 (by decide) (fun c_26 => absurd c_26 (by decide)) (fun c_26 => ?_)
        refine lv_lload hx hb dX0_triedRests_29 (lv_at hl 1 rfl) ?_
        refine lv_aload_n hx hb dX0_triedRests_31 rfl (lv_at hl 2 rfl) ?_
        refine va_get (D := D) (ci := 0) (v := .ref tr) (C := RX0) (T := TX0) (N := 12) hx hb hg gwX0 hown hK hP 0 rfl rfl 8 (by decide) (hg _ kw_251) (fun _ h9 => h9) rfl dX0_triedRests_32 ?_
        refine lv_iload hx hb dX0_triedRests_35 (lv_at hl 0 rfl) ?_
        refine va_iald hx hb hK hP 8 0 rfl rfl (show ¬ ((2 : Int32) < 0 ∨ 4 ≤ (2 : Int32).toNatClampNeg) by decide) dX0_triedRests_37 ?_
        refine lv_topi (fun z_37 e_37 => ?_)
        refine lv_i2l hx hb dX0_triedRests_38 rfl ?_
        refine lv_topl (fun z_38 e_38 => ?_)
        refine lv_aload_n hx hb dX0_triedRests_39 rfl (lv_at hl 2 rfl) ?_
        refine va_get (D := D) (ci := 0) (v := .ref le) (C := RX0) (T := TX0) (N := 12) hx hb hg gwX0 hown hK hP 0 rfl rfl 5 (by decide) (hg _ kw_252) (fun _ h9 => h9) rfl dX0_triedRests_40 ?_
        refine lv_iload hx hb dX0_triedRests_43 (lv_at hl 0 rfl) ?_
        refine va_aldR (k := 2) hx hb hK hP 2 5 rfl rfl (show 2 < 4 by omega) (by decide) dX0_triedRests_45 ?_
        refine lv_iload_n hx hb dX0_triedRests_46 rfl (lv_at hl 5 rfl) ?_
        refine va_lald hx hb hK hP 5 1 rfl rfl (vp_in_nI (show k < 12 by omega) (by decide)) dX0_triedRests_47 ?_
        refine lv_topl (fun z_47 e_47 => ?_)
        refine lv_lmul hx hb dX0_triedRests_48 ?_
        refine lv_topl (fun z_48 e_48 => ?_)
        refine lv_ladd hx hb dX0_triedRests_49 ?_
        refine lv_topl (fun z_49 e_49 => ?_)
        refine lv_lstore (lv' := [(4, .long z_49), (6, .int 2), (0, .ref ch), (1, .int 4), (2, .int (nI (P * 3))), (3, .int (nI k))]) hx hb dX0_triedRests_50 hl (by decide) rfl (fun ls hl => ?_)
        refine lv_iinc (v := 3) (lv' := [(6, .int 3), (4, .long z_49), (0, .ref ch), (1, .int 4), (2, .int (nI (P * 3))), (3, .int (nI k))]) hx hb dX0_triedRests_52 hl (k := 1) rfl (by decide) (by decide) rfl (fun ls hl => ?_)
        refine lv_goto (tgt := 23) hx hb dX0_triedRests_55 (by decide) ?_
        refine lv_iload hx hb dX0_triedRests_23 (lv_at hl 0 rfl) ?_
        refine lv_iload_n hx hb dX0_triedRests_25 rfl (lv_at hl 3 rfl) ?_
        refine lv_icmp_ge (tgt := 58) hx hb dX0_triedRests_26 (by decide) (fun c_26 => absurd c_26 (by decide)) (fun c_26 => ?_)
        refine lv_lload hx hb dX0_triedRests_29 (lv_at hl 1 rfl) ?_
        refine lv_aload_n hx hb dX0_triedRests_31 rfl (lv_at hl 2 rfl) ?_
        refine va_get (D := D) (ci := 0) (v := .ref tr) (C := RX0) (T := TX0) (N := 12) hx hb hg gwX0 hown hK hP 0 rfl rfl 8 (by decide) (hg _ kw_251) (fun _ h9 => h9) rfl dX0_triedRests_32 ?_
        refine lv_iload hx hb dX0_triedRests_35 (lv_at hl 0 rfl) ?_
        refine va_iald hx hb hK hP 8 0 rfl rfl (show ¬ ((3 : Int32) < 0 ∨ 4 ≤ (3 : Int32).toNatClampNeg) by decide) dX0_triedRests_37 ?_
        refine lv_topi (fun z_37 e_37 => ?_)
        refine lv_i2l hx hb dX0_triedRests_38 rfl ?_
        refine lv_topl (fun z_38 e_38 => ?_)
        refine lv_aload_n hx hb dX0_triedRests_39 rfl (lv_at hl 2 rfl) ?_
        refine va_get (D := D) (ci := 0) (v := .ref le) (C := RX0) (T := TX0) (N := 12) hx hb hg gwX0 hown hK hP 0 rfl rfl 5 (by decide) (hg _ kw_252) (fun _ h9 => h9) rfl dX0_triedRests_40 ?_
        refine lv_iload hx hb dX0_triedRests_43 (lv_at hl 0 rfl) ?_
        refine va_aldR (k := 3) hx hb hK hP 2 5 rfl rfl (show 3 < 4 by omega) (by decide) dX0_triedRests_45 ?_
        refine lv_iload_n hx hb dX0_triedRests_46 rfl (lv_at hl 5 rfl) ?_
        refine va_lald hx hb hK hP 6 1 rfl rfl (vp_in_nI (show k < 12 by omega) (by decide)) dX0_triedRests_47 ?_
        refine lv_topl (fun z_47 e_47 => ?_)
        refine lv_lmul hx hb dX0_triedRests_48 ?_
        refine lv_topl (fun z_48 e_48 => ?_)
        refine lv_ladd hx hb dX0_triedRests_49 ?_
        refine lv_topl (fun z_49 e_49 => ?_)
        refine lv_lstore (lv' := [(4, .long z_49), (6, .int 3), (0, .ref ch), (1, .int 4), (2, .int (nI (P * 3))), (3, .int (nI k))]) hx hb dX0_triedRests_50 hl (by decide) rfl (fun ls hl => ?_)
        refine lv_iinc (v := 4) (lv' := [(6, .int 4), (4, .long z_49), (0, .ref ch), (1, .int 4), (2, .int (nI (P * 3))), (3, .int (nI k))]) hx hb dX0_triedRests_52 hl (k := 1) rfl (by decide) (by decide) rfl (fun ls hl => ?_)
        refine lv_goto (tgt := 23) hx hb dX0_triedRests_55 (by decide) ?_
        refine lv_iload hx hb dX0_triedRests_23 (lv_at hl 0 rfl) ?_
        refine lv_iload_n hx hb dX0_triedRests_25 rfl (lv_at hl 3 rfl) ?_
        refine lv_icmp_ge (tgt := 58) hx hb dX0_triedRests_26 (by decide) (fun c_26 => ?_) (fun c_26 => absurd c_26 (by decide))
        refine lv_lload hx hb dX0_triedRests_58 (lv_at hl 1 rfl) ?_
        refine lv_aload_n hx hb dX0_triedRests_60 rfl (lv_at hl 2 rfl) ?_
        refine va_get (D := D) (ci := 0) (v := .ref ne) (C := RX0) (T := TX0) (N := 12) hx hb hg gwX0 hown hK hP 0 rfl rfl 6 (by decide) (hg _ kw_249) (fun _ h9 => h9) rfl dX0_triedRests_61 ?_
        refine lv_iload_n hx hb dX0_triedRests_64 rfl (lv_at hl 5 rfl) ?_
        refine va_lald hx hb hK hP 7 1 rfl rfl (vp_in_nI (show k < 12 by omega) (by decide)) dX0_triedRests_65 ?_
        refine lv_topl (fun z_65 e_65 => ?_)
        refine W.lcmp hx hb dX0_triedRests_66 ?_
        refine lv_topi (fun z_66 e_66 => ?_)
        refine lv_if_ge (tgt := 72) hx hb dX0_triedRests_67 (by decide) (fun c_67 => ?_) (fun c_67 => ?_)
        · refine lv_iinc (v := (nI (k + 1))) (lv' := [(3, .int (nI (k + 1))), (6, .int 4), (4, .long z_49), (0, .ref ch), (1, .int 4), (2, .int (nI (P * 3)))]) hx hb dX0_triedRests_72 hl (k := 5) rfl (nI_add k 1) (by decide) rfl (fun ls hl => ?_)
          refine lv_goto (tgt := 12) hx hb dX0_triedRests_75 (by decide) ?_
          exact ih12 (k + 1) (by omega) (by omega) ls (lv_sub hl [3, 4, 5, 0] rfl)
        · refine lv_iconst (v := 0) hx hb dX0_triedRests_70 (by decide) ?_
          refine W_sQ hQ ?_
          exact W.zret (v := 0) hx hb hr (by decide) (fun t ht hW => ⟨0, rfl, (Or.inl rfl), ht⟩) (fun _ h => absurd h List.not_mem_nil) dX0_triedRests_71
  exact LOOP12 (P * 3 - 0 + 1) 0 (by omega) (Nat.lt_succ_self _) ls (lv_sub hl [2, 3, 1, 0] rfl)

theorem dX0_togetherByTruth_0 : decode cX0_togetherByTruth 0 = .ok (.lconst 0, 1) := by decide +kernel
theorem dX0_togetherByTruth_1 : decode cX0_togetherByTruth 1 = .ok (.lstore_n 2, 1) := by decide +kernel
theorem dX0_togetherByTruth_2 : decode cX0_togetherByTruth 2 = .ok (.iconst 0, 1) := by decide +kernel
theorem dX0_togetherByTruth_3 : decode cX0_togetherByTruth 3 = .ok (.istore 4, 2) := by decide +kernel
theorem dX0_togetherByTruth_5 : decode cX0_togetherByTruth 5 = .ok (.iload 4, 2) := by decide +kernel
theorem dX0_togetherByTruth_7 : decode cX0_togetherByTruth 7 = .ok (.aload_n 0, 1) := by decide +kernel
theorem dX0_togetherByTruth_8 : decode cX0_togetherByTruth 8 = .ok (.getfield 54, 3) := by decide +kernel
theorem dX0_togetherByTruth_11 : decode cX0_togetherByTruth 11 = .ok (.getfield 108, 3) := by decide +kernel
theorem dX0_togetherByTruth_14 : decode cX0_togetherByTruth 14 = .ok (.if_icmp .ge 30, 3) := by decide +kernel
theorem dX0_togetherByTruth_17 : decode cX0_togetherByTruth 17 = .ok (.lload_n 2, 1) := by decide +kernel
theorem dX0_togetherByTruth_18 : decode cX0_togetherByTruth 18 = .ok (.aload_n 1, 1) := by decide +kernel
theorem dX0_togetherByTruth_19 : decode cX0_togetherByTruth 19 = .ok (.aload_n 0, 1) := by decide +kernel
theorem dX0_togetherByTruth_20 : decode cX0_togetherByTruth 20 = .ok (.getfield 54, 3) := by decide +kernel
theorem dX0_togetherByTruth_23 : decode cX0_togetherByTruth 23 = .ok (.aload_n 0, 1) := by decide +kernel
theorem dX0_togetherByTruth_24 : decode cX0_togetherByTruth 24 = .ok (.getfield 54, 3) := by decide +kernel
theorem dX0_togetherByTruth_27 : decode cX0_togetherByTruth 27 = .ok (.getfield 62, 3) := by decide +kernel
theorem dX0_togetherByTruth_30 : decode cX0_togetherByTruth 30 = .ok (.iconst 0, 1) := by decide +kernel
theorem dX0_togetherByTruth_31 : decode cX0_togetherByTruth 31 = .ok (.iload 4, 2) := by decide +kernel
theorem dX0_togetherByTruth_33 : decode cX0_togetherByTruth 33 = .ok (.invokestatic 132, 3) := by decide +kernel
theorem dX0_togetherByTruth_36 : decode cX0_togetherByTruth 36 = .ok (.ladd, 1) := by decide +kernel
theorem dX0_togetherByTruth_37 : decode cX0_togetherByTruth 37 = .ok (.lstore_n 2, 1) := by decide +kernel
theorem dX0_togetherByTruth_38 : decode cX0_togetherByTruth 38 = .ok (.iinc 4 1, 3) := by decide +kernel
theorem dX0_togetherByTruth_41 : decode cX0_togetherByTruth 41 = .ok (.goto (-36), 3) := by decide +kernel
theorem dX0_togetherByTruth_44 : decode cX0_togetherByTruth 44 = .ok (.lload_n 2, 1) := by decide +kernel
theorem dX0_togetherByTruth_45 : decode cX0_togetherByTruth 45 = .ok (.lreturn, 1) := by decide +kernel
theorem kw_253 : (.fieldLink RX0 62 "NobodyChecks$Question" "mass" "[J" : Cond) ∈ gw_tbl := gw_in (by decide +kernel) (by decide +kernel)

set_option maxHeartbeats 4000000 in
set_option maxRecDepth 100000 in
theorem h_togetherByTruth (l : Launch) (D : va_G) (cs : Nat → ClassId) (ch : Nat) (sm : Nat) (tb : Nat) (ck : Nat) (cm : Nat) (le : Nat) (ne : Nat) (pr : Nat) (tr : Nat) (ln : Nat) (trs : Int32) (lpr : Int64) (h0 : Nat) (nq : Nat) (av : Value) (rk : Int32) (ci : Nat) (hci : isPy ci) (fq : Nat → Int32) (aq : Nat) (aw : Nat) (ac : Nat) (ao : Nat) (am : Nat) (C : Nat) (hC5 : C ≤ 5) (P : Nat) (hP4 : P ≤ 4) (tot : Int64) (fam : Nat → Int64) : Met l yX0_togetherByTruth (Cond.code yX0_togetherByTruth cX0_togetherByTruth 5 (some .long) :: gw_tbl) ({ frames := 3, cells := 0, slots := 0, locals := 86 }) (pc_S D cs [(ch, .inr (0, [.ref aq, .ref sm, .ref tb, .ref ck, .ref cm, .ref le, .ref ne, .ref pr, .ref tr, .ref ln, .int trs, .long lpr])), (h0, .inr (ci, [.ref nq, av, .int rk])), (nq, .inl (cs 0, 4, .inl fq)), (aq, .inr (5, [.ref aw, .ref ac, .ref ao, .ref am, .int (nI C), .int (nI P), .long tot])), (am, .inl (cs 1, 16, .inr (.inl fam)))] [.ref ch, .ref h0]) (vp_Sl (fun r => True)) 0 0 (fun _ => False) := by
  refine Met.ofW (cc := cX0_togetherByTruth) (maxL := 5) (ret := (some .long)) (by decide) rfl ?_
  intro p e s m args below meth c s₁ B hml hv
  obtain ⟨hargs, hP, hK⟩ := hv
  have hx := B.exec
  have hb := B.bytes
  have hr := B.returns
  have hts := atoms_spec (ws := Cond.code yX0_togetherByTruth cX0_togetherByTruth 5 (some .long) :: gw_tbl) B.pre
  have hg := fun (w : Cond) (h : w ∈ gw_tbl) => hts w (List.mem_cons_of_mem _ h)
  have hown : s.vm.findClass RX0 = some m.cls := findClass_of_methodNamed B.named
  have hlocks := B.notSynchronized
  have hl := lv_entry ([.ref ch, .ref h0]) (n := 5) (Nat.le_of_ble_eq_true rfl)
  rw [show entryFrame m args 5 = F0 m 0 (lg_sl ([.ref ch, .ref h0]) ++ List.replicate (5 - (lg_sl ([.ref ch, .ref h0])).length) Slot.unset).toArray [] from by rw [hargs]; exact lg_entry_eq ..]
  generalize (lg_sl ([.ref ch, .ref h0]) ++ List.replicate (5 - (lg_sl ([.ref ch, .ref h0])).length) Slot.unset).toArray = ls at hl ⊢
  have hl : lv_has ls 5 [(0, .ref ch), (1, .ref h0)] := hl
  refine W_genQ (fun Q hQ => ?_)
  have hlm := lim_le hP4
  have hlq := lim_pos P
  have hsg := sgn_le hP4
  refine lv_lconst (v := 0) hx hb dX0_togetherByTruth_0 (by decide) ?_
  refine lv_lstore_n (lv' := [(2, .long 0), (0, .ref ch), (1, .ref h0)]) hx hb dX0_togetherByTruth_1 rfl hl (by decide) rfl (fun ls hl => ?_)
  refine lv_iconst (v := 0) hx hb dX0_togetherByTruth_2 (by decide) ?_
  refine lv_istore (lv' := [(4, .int 0), (2, .long 0), (0, .ref ch), (1, .ref h0)]) hx hb dX0_togetherByTruth_3 hl (by decide) rfl (fun ls hl => ?_)
  have LOOP5 : ∀ (n5 : Nat) (u2_5 : Int64) (pe : Nat), pe ≤ P → P - pe < n5 → ∀ (ls : Array Slot), lv_has ls 5 [(0, .ref ch), (1, .ref h0), (2, .long u2_5), (4, .int (nI pe))] → W p l e ({ frames := 3, cells := 0, slots := 0, locals := 86 } : Room) s m args below meth c s.heap [] 0 0 Q (F0 m 5 ls []) := by
    intro n5
    induction n5 with
    | zero =>
      intro u2_5 pe hpe hn5 ls hl
      exact absurd hn5 (Nat.not_lt_zero _)
    | succ n5 ih5 =>
      intro u2_5 pe hpe hn5 ls hl
      refine lv_iload hx hb dX0_togetherByTruth_5 (lv_at hl 3 rfl) ?_
      refine lv_aload_n hx hb dX0_togetherByTruth_7 rfl (lv_at hl 0 rfl) ?_
      refine va_get (D := D) (ci := 0) (v := .ref aq) (C := RX0) (T := TX0) (N := 12) hx hb hg gwX0 hown hK hP 0 rfl rfl 0 (by decide) (hg _ kw_244) (fun _ h9 => h9) rfl dX0_togetherByTruth_8 ?_
      refine va_get (D := D) (ci := 5) (v := .int (nI P)) (C := RX5) (T := TX5) (N := 7) hx hb hg gwX5 hown hK hP 3 rfl rfl 5 (by decide) (hg _ kw_245) (fun _ h9 => h9) rfl dX0_togetherByTruth_11 ?_
      refine lv_icmp_ge (tgt := 44) hx hb dX0_togetherByTruth_14 (by decide) (fun c_14 => ?_) (fun c_14 => ?_)
      · have n_14 : P ≤ pe := b_le_t (by omega) (by omega) c_14
        refine lv_lload_n hx hb dX0_togetherByTruth_44 rfl (lv_at hl 2 rfl) ?_
        refine W_sQ hQ ?_
        exact W.lret (v := u2_5) hx hb hr (fun t ht hW => ⟨u2_5, rfl, trivial, ht⟩) (fun _ h => absurd h List.not_mem_nil) dX0_togetherByTruth_45
      · have n_14 : pe < P := b_le_f (by omega) (by omega) c_14
        refine lv_lload_n hx hb dX0_togetherByTruth_17 rfl (lv_at hl 2 rfl) ?_
        refine lv_aload_n hx hb dX0_togetherByTruth_18 rfl (lv_at hl 1 rfl) ?_
        refine lv_aload_n hx hb dX0_togetherByTruth_19 rfl (lv_at hl 0 rfl) ?_
        refine va_get (D := D) (ci := 0) (v := .ref aq) (C := RX0) (T := TX0) (N := 12) hx hb hg gwX0 hown hK hP 0 rfl rfl 0 (by decide) (hg _ kw_244) (fun _ h9 => h9) rfl dX0_togetherByTruth_20 ?_
        refine lv_aload_n hx hb dX0_togetherByTruth_23 rfl (lv_at hl 0 rfl) ?_
        refine va_get (D := D) (ci := 0) (v := .ref aq) (C := RX0) (T := TX0) (N := 12) hx hb hg gwX0 hown hK hP 0 rfl rfl 0 (by decide) (hg _ kw_244) (fun _ h9 => h9) rfl dX0_togetherByTruth_24 ?_
        refine va_get (D := D) (ci := 5) (v := .ref am) (C := RX5) (T := TX5) (N := 7) hx hb hg gwX5 hown hK hP 3 rfl rfl 3 (by decide) (hg _ kw_253) (fun _ h9 => h9) rfl dX0_togetherByTruth_27 ?_
        refine lv_iconst (v := 0) hx hb dX0_togetherByTruth_30 (by decide) ?_
        refine lv_iload hx hb dX0_togetherByTruth_31 (lv_at hl 3 rfl) ?_
        have hPc := hP.sub (ws' := [(h0, .inr (ci, [.ref nq, av, .int rk])), (nq, .inl (cs 0, 4, .inl fq)), (aq, .inr (5, [.ref aw, .ref ac, .ref ao, .ref am, .int (nI C), .int (nI P), .long tot])), (am, .inl (cs 1, 16, .inr (.inl fam)))]) [1, 2, 3, 4] rfl
        refine vp_callSl (W.runS (As := [.ref h0, .ref aq, .ref am, .int 0, .int (nI pe)]) (rest := [.long u2_5]) ⟨hx, hb, hml, hown, hg⟩ (y_average l D cs h0 nq av rk ci hci fq aq aw ac ao am C (by omega) P (by omega) tot am fam 0 (nI pe)) (va_cwS 5 hg (gw_S kw_246 kw_200 kw_196 kw_198) rfl rfl rfl (by decide +kernel) ⟨(Nat.le_of_ble_eq_true rfl), (Nat.le_of_ble_eq_true rfl)⟩) (pr_SS hK hPc) rfl rfl hl.1 rfl (lv_room (Nat.le_of_ble_eq_true rfl)) dX0_togetherByTruth_33 ⟨(Nat.le_of_ble_eq_true rfl), (Nat.le_of_ble_eq_true rfl)⟩) (fun r_33 h_33 => ?_)
        clear h_33
        refine lv_ladd hx hb dX0_togetherByTruth_36 ?_
        refine lv_topl (fun z_36 e_36 => ?_)
        refine lv_lstore_n (lv' := [(2, .long z_36), (0, .ref ch), (1, .ref h0), (4, .int (nI pe))]) hx hb dX0_togetherByTruth_37 rfl hl (by decide) rfl (fun ls hl => ?_)
        refine lv_iinc (v := (nI (pe + 1))) (lv' := [(4, .int (nI (pe + 1))), (2, .long z_36), (0, .ref ch), (1, .ref h0)]) hx hb dX0_togetherByTruth_38 hl (k := 3) rfl (nI_add pe 1) (by decide) rfl (fun ls hl => ?_)
        refine lv_goto (tgt := 5) hx hb dX0_togetherByTruth_41 (by decide) ?_
        exact ih5 z_36 (pe + 1) (by omega) (by omega) ls (lv_sub hl [2, 3, 1, 0] rfl)
  exact LOOP5 (P - 0 + 1) 0 0 (by omega) (Nat.lt_succ_self _) ls (lv_sub hl [2, 3, 1, 0] rfl)

theorem dX0_keepIfCheaper_0 : decode cX0_keepIfCheaper 0 = .ok (.lconst 0, 1) := by decide +kernel
theorem dX0_keepIfCheaper_1 : decode cX0_keepIfCheaper 1 = .ok (.lstore_n 1, 1) := by decide +kernel
theorem dX0_keepIfCheaper_2 : decode cX0_keepIfCheaper 2 = .ok (.iconst 0, 1) := by decide +kernel
theorem dX0_keepIfCheaper_3 : decode cX0_keepIfCheaper 3 = .ok (.istore_n 3, 1) := by decide +kernel
theorem dX0_keepIfCheaper_4 : decode cX0_keepIfCheaper 4 = .ok (.iload_n 3, 1) := by decide +kernel
theorem dX0_keepIfCheaper_5 : decode cX0_keepIfCheaper 5 = .ok (.iconst 4, 1) := by decide +kernel
theorem dX0_keepIfCheaper_6 : decode cX0_keepIfCheaper 6 = .ok (.if_icmp .ge 26, 3) := by decide +kernel
theorem dX0_keepIfCheaper_9 : decode cX0_keepIfCheaper 9 = .ok (.lload_n 1, 1) := by decide +kernel
theorem dX0_keepIfCheaper_10 : decode cX0_keepIfCheaper 10 = .ok (.aload_n 0, 1) := by decide +kernel
theorem dX0_keepIfCheaper_11 : decode cX0_keepIfCheaper 11 = .ok (.getfield 47, 3) := by decide +kernel
theorem dX0_keepIfCheaper_14 : decode cX0_keepIfCheaper 14 = .ok (.iload_n 3, 1) := by decide +kernel
theorem dX0_keepIfCheaper_15 : decode cX0_keepIfCheaper 15 = .ok (.iaload, 1) := by decide +kernel
theorem dX0_keepIfCheaper_16 : decode cX0_keepIfCheaper 16 = .ok (.i2l, 1) := by decide +kernel
theorem dX0_keepIfCheaper_17 : decode cX0_keepIfCheaper 17 = .ok (.aload_n 0, 1) := by decide +kernel
theorem dX0_keepIfCheaper_18 : decode cX0_keepIfCheaper 18 = .ok (.getfield 44, 3) := by decide +kernel
theorem dX0_keepIfCheaper_21 : decode cX0_keepIfCheaper 21 = .ok (.iload_n 3, 1) := by decide +kernel
theorem dX0_keepIfCheaper_22 : decode cX0_keepIfCheaper 22 = .ok (.laload, 1) := by decide +kernel
theorem dX0_keepIfCheaper_23 : decode cX0_keepIfCheaper 23 = .ok (.lmul, 1) := by decide +kernel
theorem dX0_keepIfCheaper_24 : decode cX0_keepIfCheaper 24 = .ok (.ladd, 1) := by decide +kernel
theorem dX0_keepIfCheaper_25 : decode cX0_keepIfCheaper 25 = .ok (.lstore_n 1, 1) := by decide +kernel
theorem dX0_keepIfCheaper_26 : decode cX0_keepIfCheaper 26 = .ok (.iinc 3 1, 3) := by decide +kernel
theorem dX0_keepIfCheaper_29 : decode cX0_keepIfCheaper 29 = .ok (.goto (-25), 3) := by decide +kernel
theorem dX0_keepIfCheaper_32 : decode cX0_keepIfCheaper 32 = .ok (.aload_n 0, 1) := by decide +kernel
theorem dX0_keepIfCheaper_33 : decode cX0_keepIfCheaper 33 = .ok (.getfield 91, 3) := by decide +kernel
theorem dX0_keepIfCheaper_36 : decode cX0_keepIfCheaper 36 = .ok (.ifCond .eq 12, 3) := by decide +kernel
theorem dX0_keepIfCheaper_39 : decode cX0_keepIfCheaper 39 = .ok (.lload_n 1, 1) := by decide +kernel
theorem dX0_keepIfCheaper_40 : decode cX0_keepIfCheaper 40 = .ok (.aload_n 0, 1) := by decide +kernel
theorem dX0_keepIfCheaper_41 : decode cX0_keepIfCheaper 41 = .ok (.getfield 149, 3) := by decide +kernel
theorem dX0_keepIfCheaper_44 : decode cX0_keepIfCheaper 44 = .ok (.lcmp, 1) := by decide +kernel
theorem dX0_keepIfCheaper_45 : decode cX0_keepIfCheaper 45 = .ok (.ifCond .ge 33, 3) := by decide +kernel
theorem dX0_keepIfCheaper_48 : decode cX0_keepIfCheaper 48 = .ok (.aload_n 0, 1) := by decide +kernel
theorem dX0_keepIfCheaper_49 : decode cX0_keepIfCheaper 49 = .ok (.lload_n 1, 1) := by decide +kernel
theorem dX0_keepIfCheaper_50 : decode cX0_keepIfCheaper 50 = .ok (.putfield 149, 3) := by decide +kernel
theorem dX0_keepIfCheaper_53 : decode cX0_keepIfCheaper 53 = .ok (.iconst 0, 1) := by decide +kernel
theorem dX0_keepIfCheaper_54 : decode cX0_keepIfCheaper 54 = .ok (.istore_n 3, 1) := by decide +kernel
theorem dX0_keepIfCheaper_55 : decode cX0_keepIfCheaper 55 = .ok (.iload_n 3, 1) := by decide +kernel
theorem dX0_keepIfCheaper_56 : decode cX0_keepIfCheaper 56 = .ok (.iconst 4, 1) := by decide +kernel
theorem dX0_keepIfCheaper_57 : decode cX0_keepIfCheaper 57 = .ok (.if_icmp .ge 21, 3) := by decide +kernel
theorem dX0_keepIfCheaper_60 : decode cX0_keepIfCheaper 60 = .ok (.aload_n 0, 1) := by decide +kernel
theorem dX0_keepIfCheaper_61 : decode cX0_keepIfCheaper 61 = .ok (.getfield 51, 3) := by decide +kernel
theorem dX0_keepIfCheaper_64 : decode cX0_keepIfCheaper 64 = .ok (.iload_n 3, 1) := by decide +kernel
theorem dX0_keepIfCheaper_65 : decode cX0_keepIfCheaper 65 = .ok (.aload_n 0, 1) := by decide +kernel
theorem dX0_keepIfCheaper_66 : decode cX0_keepIfCheaper 66 = .ok (.getfield 47, 3) := by decide +kernel
theorem dX0_keepIfCheaper_69 : decode cX0_keepIfCheaper 69 = .ok (.iload_n 3, 1) := by decide +kernel
theorem dX0_keepIfCheaper_70 : decode cX0_keepIfCheaper 70 = .ok (.iaload, 1) := by decide +kernel
theorem dX0_keepIfCheaper_71 : decode cX0_keepIfCheaper 71 = .ok (.iastore, 1) := by decide +kernel
theorem dX0_keepIfCheaper_72 : decode cX0_keepIfCheaper 72 = .ok (.iinc 3 1, 3) := by decide +kernel
theorem dX0_keepIfCheaper_75 : decode cX0_keepIfCheaper 75 = .ok (.goto (-20), 3) := by decide +kernel
theorem dX0_keepIfCheaper_78 : decode cX0_keepIfCheaper 78 = .ok (.aload_n 0, 1) := by decide +kernel
theorem dX0_keepIfCheaper_79 : decode cX0_keepIfCheaper 79 = .ok (.dup, 1) := by decide +kernel
theorem dX0_keepIfCheaper_80 : decode cX0_keepIfCheaper 80 = .ok (.getfield 91, 3) := by decide +kernel
theorem dX0_keepIfCheaper_83 : decode cX0_keepIfCheaper 83 = .ok (.iconst 1, 1) := by decide +kernel
theorem dX0_keepIfCheaper_84 : decode cX0_keepIfCheaper 84 = .ok (.iadd, 1) := by decide +kernel
theorem dX0_keepIfCheaper_85 : decode cX0_keepIfCheaper 85 = .ok (.putfield 91, 3) := by decide +kernel
theorem dX0_keepIfCheaper_88 : decode cX0_keepIfCheaper 88 = .ok (.return_, 1) := by decide +kernel
theorem kw_254 : (.fieldLink RX0 44 "NobodyChecks$Cheapest" "prices" "[J" : Cond) ∈ gw_tbl := gw_in (by decide +kernel) (by decide +kernel)
theorem kw_255 : (.fieldLink RX0 91 "NobodyChecks$Cheapest" "tablesResting" "I" : Cond) ∈ gw_tbl := gw_in (by decide +kernel) (by decide +kernel)
theorem kw_256 : (.fieldLink RX0 149 "NobodyChecks$Cheapest" "leastPrice" "J" : Cond) ∈ gw_tbl := gw_in (by decide +kernel) (by decide +kernel)
theorem kw_257 : (.fieldLink RX0 51 "NobodyChecks$Cheapest" "leastNumbers" "[I" : Cond) ∈ gw_tbl := gw_in (by decide +kernel) (by decide +kernel)

set_option maxHeartbeats 4000000 in
set_option maxRecDepth 100000 in
theorem h_keepIfCheaper (l : Launch) (D : va_G) (cs : Nat → ClassId) (ch : Nat) (sm : Nat) (tb : Nat) (ck : Nat) (cm : Nat) (le : Nat) (ne : Nat) (pr : Nat) (tr : Nat) (ln : Nat) (trs : Int32) (lpr : Int64) (aq : Nat) (fpr : Nat → Int64) (ftr : Nat → Int32) (fln : Nat → Int32) (sz : Nat) : Met l yX0_keepIfCheaper (Cond.code yX0_keepIfCheaper cX0_keepIfCheaper 4 none :: gw_tbl) ({ frames := 0, cells := 0, slots := 0, locals := 0 }) (pc_M D cs [(ch, .inr (0, [.ref aq, .ref sm, .ref tb, .ref ck, .ref cm, .ref le, .ref ne, .ref pr, .ref tr, .ref ln, .int trs, .long lpr])), (pr, .inl (cs 1, 4, .inr (.inl fpr))), (tr, .inl (cs 0, 4, .inl ftr)), (ln, .inl (cs 0, 4, .inl fln))] sz [.ref ch]) (va_Qv (fun (u : Unit) => True) (fun u t => ∃ (trs2 : Int32), ∃ (lpr2 : Int64), ∃ (fln2 : Nat → Int32), va_P D vwCl [(ch, .inr (0, [.ref aq, .ref sm, .ref tb, .ref ck, .ref cm, .ref le, .ref ne, .ref pr, .ref tr, .ref ln, .int trs2, .long lpr2])), (pr, .inl (cs 1, 4, .inr (.inl fpr))), (tr, .inl (cs 0, 4, .inl ftr)), (ln, .inl (cs 0, 4, .inl fln2))] t.heap ∧ va_D (va_A [(ch, .inr (0, [.ref aq, .ref sm, .ref tb, .ref ck, .ref cm, .ref le, .ref ne, .ref pr, .ref tr, .ref ln, .int trs, .long lpr])), (pr, .inl (cs 1, 4, .inr (.inl fpr))), (tr, .inl (cs 0, 4, .inl ftr)), (ln, .inl (cs 0, 4, .inl fln))] sz) [(ch, .inr (0, [.ref aq, .ref sm, .ref tb, .ref ck, .ref cm, .ref le, .ref ne, .ref pr, .ref tr, .ref ln, .int trs2, .long lpr2])), (pr, .inl (cs 1, 4, .inr (.inl fpr))), (tr, .inl (cs 0, 4, .inl ftr)), (ln, .inl (cs 0, 4, .inl fln2))]) (va_A [(ch, .inr (0, [.ref aq, .ref sm, .ref tb, .ref ck, .ref cm, .ref le, .ref ne, .ref pr, .ref tr, .ref ln, .int trs, .long lpr])), (pr, .inl (cs 1, 4, .inr (.inl fpr))), (tr, .inl (cs 0, 4, .inl ftr)), (ln, .inl (cs 0, 4, .inl fln))] sz)) 0 0 (va_A [(ch, .inr (0, [.ref aq, .ref sm, .ref tb, .ref ck, .ref cm, .ref le, .ref ne, .ref pr, .ref tr, .ref ln, .int trs, .long lpr])), (pr, .inl (cs 1, 4, .inr (.inl fpr))), (tr, .inl (cs 0, 4, .inl ftr)), (ln, .inl (cs 0, 4, .inl fln))] sz) := by
  refine Met.ofW (cc := cX0_keepIfCheaper) (maxL := 4) (ret := none) (by decide) rfl ?_
  intro p e s m args below meth c s₁ B hml hv
  obtain ⟨hargs, hsz, hP, hK, hD0⟩ := hv
  have hx := B.exec
  have hb := B.bytes
  have hr := B.returns
  have hts := atoms_spec (ws := Cond.code yX0_keepIfCheaper cX0_keepIfCheaper 4 none :: gw_tbl) B.pre
  have hg := fun (w : Cond) (h : w ∈ gw_tbl) => hts w (List.mem_cons_of_mem _ h)
  have hown : s.vm.findClass RX0 = some m.cls := findClass_of_methodNamed B.named
  have hlocks := B.notSynchronized
  subst hsz
  have hD := hD0.self (sz := s.heap.size)
  generalize hAe : va_A [(ch, .inr (0, [.ref aq, .ref sm, .ref tb, .ref ck, .ref cm, .ref le, .ref ne, .ref pr, .ref tr, .ref ln, .int trs, .long lpr])), (pr, .inl (cs 1, 4, .inr (.inl fpr))), (tr, .inl (cs 0, 4, .inl ftr)), (ln, .inl (cs 0, 4, .inl fln))] s.heap.size = A at hD ⊢
  have hA : ∀ q : Nat, s.heap.size ≤ q → A q := fun q h => by rw [← hAe]; exact Or.inr h
  have hS : va_S A s.heap s.heap [] := va_S.rf
  have hP : va_P D vwCl [(ch, .inr (0, [.ref aq, .ref sm, .ref tb, .ref ck, .ref cm, .ref le, .ref ne, .ref pr, .ref tr, .ref ln, .int trs, .long lpr])), (pr, .inl (cs 1, 4, .inr (.inl fpr))), (tr, .inl (cs 0, 4, .inl ftr)), (ln, .inl (cs 0, 4, .inl fln))] s.heap := hP
  have hl := lv_entry ([.ref ch]) (n := 4) (Nat.le_of_ble_eq_true rfl)
  rw [show entryFrame m args 4 = F0 m 0 (lg_sl ([.ref ch]) ++ List.replicate (4 - (lg_sl ([.ref ch])).length) Slot.unset).toArray [] from by rw [hargs]; exact lg_entry_eq ..]
  generalize (lg_sl ([.ref ch]) ++ List.replicate (4 - (lg_sl ([.ref ch])).length) Slot.unset).toArray = ls at hl ⊢
  have hl : lv_has ls 4 [(0, .ref ch)] := hl
  refine W_genQ (fun Q hQ => ?_)
  refine lv_lconst (v := 0) hx hb dX0_keepIfCheaper_0 (by decide) ?_
  refine lv_lstore_n (lv' := [(1, .long 0), (0, .ref ch)]) hx hb dX0_keepIfCheaper_1 rfl hl (by decide) rfl (fun ls hl => ?_)
  refine lv_iconst (v := 0) hx hb dX0_keepIfCheaper_2 (by decide) ?_
  refine lv_istore_n (lv' := [(3, .int 0), (1, .long 0), (0, .ref ch)]) hx hb dX0_keepIfCheaper_3 rfl hl (by decide) rfl (fun ls hl => ?_)
  refine lv_iload_n hx hb dX0_keepIfCheaper_4 rfl (lv_at hl 0 rfl) ?_
  refine lv_iconst (v := 4) hx hb dX0_keepIfCheaper_5 (by decide) ?_
  refine lv_icmp_ge (tgt := 32) hx hb dX0_keepIfCheaper_6 (by decide) (fun c_6 => absurd c_6 (by decide)) (fun c_6 => ?_)
  refine lv_lload_n hx hb dX0_keepIfCheaper_9 rfl (lv_at hl 1 rfl) ?_
  refine lv_aload_n hx hb dX0_keepIfCheaper_10 rfl (lv_at hl 2 rfl) ?_
  refine va_get (D := D) (ci := 0) (v := .ref tr) (C := RX0) (T := TX0) (N := 12) hx hb hg gwX0 hown hK hP 0 rfl rfl 8 (by decide) (hg _ kw_251) (fun _ h9 => h9) rfl dX0_keepIfCheaper_11 ?_
  refine lv_iload_n hx hb dX0_keepIfCheaper_14 rfl (lv_at hl 0 rfl) ?_
  refine va_iald hx hb hK hP 2 0 rfl rfl (show ¬ ((0 : Int32) < 0 ∨ 4 ≤ (0 : Int32).toNatClampNeg) by decide) dX0_keepIfCheaper_15 ?_
  refine lv_topi (fun z_15 e_15 => ?_)
  refine lv_i2l hx hb dX0_keepIfCheaper_16 rfl ?_
  refine lv_topl (fun z_16 e_16 => ?_)
  refine lv_aload_n hx hb dX0_keepIfCheaper_17 rfl (lv_at hl 2 rfl) ?_
  refine va_get (D := D) (ci := 0) (v := .ref pr) (C := RX0) (T := TX0) (N := 12) hx hb hg gwX0 hown hK hP 0 rfl rfl 7 (by decide) (hg _ kw_254) (fun _ h9 => h9) rfl dX0_keepIfCheaper_18 ?_
  refine lv_iload_n hx hb dX0_keepIfCheaper_21 rfl (lv_at hl 0 rfl) ?_
  refine va_lald hx hb hK hP 1 1 rfl rfl (show ¬ ((0 : Int32) < 0 ∨ 4 ≤ (0 : Int32).toNatClampNeg) by decide) dX0_keepIfCheaper_22 ?_
  refine lv_topl (fun z_22 e_22 => ?_)
  refine lv_lmul hx hb dX0_keepIfCheaper_23 ?_
  refine lv_topl (fun z_23 e_23 => ?_)
  refine lv_ladd hx hb dX0_keepIfCheaper_24 ?_
  refine lv_topl (fun z_24 e_24 => ?_)
  refine lv_lstore_n (lv' := [(1, .long z_24), (3, .int 0), (0, .ref ch)]) hx hb dX0_keepIfCheaper_25 rfl hl (by decide) rfl (fun ls hl => ?_)
  refine lv_iinc (v := 1) (lv' := [(3, .int 1), (1, .long z_24), (0, .ref ch)]) hx hb dX0_keepIfCheaper_26 hl (k := 1) rfl (by decide) (by decide) rfl (fun ls hl => ?_)
  refine lv_goto (tgt := 4) hx hb dX0_keepIfCheaper_29 (by decide) ?_
  refine lv_iload_n hx hb dX0_keepIfCheaper_4 rfl (lv_at hl 0 rfl) ?_
  refine lv_iconst (v := 4) hx hb dX0_keepIfCheaper_5 (by decide) ?_
  refine lv_icmp_ge (tgt := 32) hx hb dX0_keepIfCheaper_6 (by decide) (fun c_6 => absurd c_6 (by decide)) (fun c_6 => ?_)
  refine lv_lload_n hx hb dX0_keepIfCheaper_9 rfl (lv_at hl 1 rfl) ?_
  refine lv_aload_n hx hb dX0_keepIfCheaper_10 rfl (lv_at hl 2 rfl) ?_
  refine va_get (D := D) (ci := 0) (v := .ref tr) (C := RX0) (T := TX0) (N := 12) hx hb hg gwX0 hown hK hP 0 rfl rfl 8 (by decide) (hg _ kw_251) (fun _ h9 => h9) rfl dX0_keepIfCheaper_11 ?_
  refine lv_iload_n hx hb dX0_keepIfCheaper_14 rfl (lv_at hl 0 rfl) ?_
  refine va_iald hx hb hK hP 2 0 rfl rfl (show ¬ ((1 : Int32) < 0 ∨ 4 ≤ (1 : Int32).toNatClampNeg) by decide) dX0_keepIfCheaper_15 ?_
  refine lv_topi (fun z_15 e_15 => ?_)
  refine lv_i2l hx hb dX0_keepIfCheaper_16 rfl ?_
  refine lv_topl (fun z_16 e_16 => ?_)
  refine lv_aload_n hx hb dX0_keepIfCheaper_17 rfl (lv_at hl 2 rfl) ?_
  refine va_get (D := D) (ci := 0) (v := .ref pr) (C := RX0) (T := TX0) (N := 12) hx hb hg gwX0 hown hK hP 0 rfl rfl 7 (by decide) (hg _ kw_254) (fun _ h9 => h9) rfl dX0_keepIfCheaper_18 ?_
  refine lv_iload_n hx hb dX0_keepIfCheaper_21 rfl (lv_at hl 0 rfl) ?_
  refine va_lald hx hb hK hP 1 1 rfl rfl (show ¬ ((1 : Int32) < 0 ∨ 4 ≤ (1 : Int32).toNatClampNeg) by decide) dX0_keepIfCheaper_22 ?_
  refine lv_topl (fun z_22 e_22 => ?_)
  refine lv_lmul hx hb dX0_keepIfCheaper_23 ?_
  refine lv_topl (fun z_23 e_23 => ?_)
  refine lv_ladd hx hb dX0_keepIfCheaper_24 ?_
  refine lv_topl (fun z_24 e_24 => ?_)
  refine lv_lstore_n (lv' := [(1, .long z_24), (3, .int 1), (0, .ref ch)]) hx hb dX0_keepIfCheaper_25 rfl hl (by decide) rfl (fun ls hl => ?_)
  refine lv_iinc (v := 2) (lv' := [(3, .int 2), (1, .long z_24), (0, .ref ch)]) hx hb dX0_keepIfCheaper_26 hl (k := 1) rfl (by decide) (by decide) rfl (fun ls hl => ?_)
  refine lv_goto (tgt := 4) hx hb dX0_keepIfCheaper_29 (by decide) ?_
  refine lv_iload_n hx hb dX0_keepIfCheaper_4 rfl (lv_at hl 0 rfl) ?_
  refine lv_iconst (v := 4) hx hb dX0_keepIfCheaper_5 (by decide) ?_
  refine lv_icmp_ge (tgt := 32) hx hb dX0_keepIfCheaper_6 (by decide) (fun c_6 => absurd c_6 (by decide)) (fun c_6 => ?_)
  refine lv_lload_n hx hb dX0_keepIfCheaper_9 rfl (lv_at hl 1 rfl) ?_
  refine lv_aload_n hx hb dX0_keepIfCheaper_10 rfl (lv_at hl 2 rfl) ?_
  refine va_get (D := D) (ci := 0) (v := .ref tr) (C := RX0) (T := TX0) (N := 12) hx hb hg gwX0 hown hK hP 0 rfl rfl 8 (by decide) (hg _ kw_251) (fun _ h9 => h9) rfl dX0_keepIfCheaper_11 ?_
  refine lv_iload_n hx hb dX0_keepIfCheaper_14 rfl (lv_at hl 0 rfl) ?_
  refine va_iald hx hb hK hP 2 0 rfl rfl (show ¬ ((2 : Int32) < 0 ∨ 4 ≤ (2 : Int32).toNatClampNeg) by decide) dX0_keepIfCheaper_15 ?_
  refine lv_topi (fun z_15 e_15 => ?_)
  refine lv_i2l hx hb dX0_keepIfCheaper_16 rfl ?_
  refine lv_topl (fun z_16 e_16 => ?_)
  refine lv_aload_n hx hb dX0_keepIfCheaper_17 rfl (lv_at hl 2 rfl) ?_
  refine va_get (D := D) (ci := 0) (v := .ref pr) (C := RX0) (T := TX0) (N := 12) hx hb hg gwX0 hown hK hP 0 rfl rfl 7 (by decide) (hg _ kw_254) (fun _ h9 => h9) rfl dX0_keepIfCheaper_18 ?_
  refine lv_iload_n hx hb dX0_keepIfCheaper_21 rfl (lv_at hl 0 rfl) ?_
  refine va_lald hx hb hK hP 1 1 rfl rfl (show ¬ ((2 : Int32) < 0 ∨ 4 ≤ (2 : Int32).toNatClampNeg) by decide) dX0_keepIfCheaper_22 ?_
  refine lv_topl (fun z_22 e_22 => ?_)
  refine lv_lmul hx hb dX0_keepIfCheaper_23 ?_
  refine lv_topl (fun z_23 e_23 => ?_)
  refine lv_ladd hx hb dX0_keepIfCheaper_24 ?_
  refine lv_topl (fun z_24 e_24 => ?_)
  refine lv_lstore_n (lv' := [(1, .long z_24), (3, .int 2), (0, .ref ch)]) hx hb dX0_keepIfCheaper_25 rfl hl (by decide) rfl (fun ls hl => ?_)
  refine lv_iinc (v := 3) (lv' := [(3, .int 3), (1, .long z_24), (0, .ref ch)]) hx hb dX0_keepIfCheaper_26 hl (k := 1) rfl (by decide) (by decide) rfl (fun ls hl => ?_)
  refine lv_goto (tgt := 4) hx hb dX0_keepIfCheaper_29 (by decide) ?_
  refine lv_iload_n hx hb dX0_keepIfCheaper_4 rfl (lv_at hl 0 rfl) ?_
  refine lv_iconst (v := 4) hx hb dX0_keepIfCheaper_5 (by decide) ?_
  refine lv_icmp_ge (tgt := 32) hx hb dX0_keepIfCheaper_6 (by decide) (fun c_6 => absurd c_6 (by decide)) (fun c_6 => ?_)
  refine lv_lload_n hx hb dX0_keepIfCheaper_9 rfl (lv_at hl 1 rfl) ?_
  refine lv_aload_n hx hb dX0_keepIfCheaper_10 rfl (lv_at hl 2 rfl) ?_
  refine va_get (D := D) (ci := 0) (v := .ref tr) (C := RX0) (T := TX0) (N := 12) hx hb hg gwX0 hown hK hP 0 rfl rfl 8 (by decide) (hg _ kw_251) (fun _ h9 => h9) rfl dX0_keepIfCheaper_11 ?_
  refine lv_iload_n hx hb dX0_keepIfCheaper_14 rfl (lv_at hl 0 rfl) ?_
  refine va_iald hx hb hK hP 2 0 rfl rfl (show ¬ ((3 : Int32) < 0 ∨ 4 ≤ (3 : Int32).toNatClampNeg) by decide) dX0_keepIfCheaper_15 ?_
  refine lv_topi (fun z_15 e_15 => ?_)
  refine lv_i2l hx hb dX0_keepIfCheaper_16 rfl ?_
  refine lv_topl (fun z_16 e_16 => ?_)
  refine lv_aload_n hx hb dX0_keepIfCheaper_17 rfl (lv_at hl 2 rfl) ?_
  refine va_get (D := D) (ci := 0) (v := .ref pr) (C := RX0) (T := TX0) (N := 12) hx hb hg gwX0 hown hK hP 0 rfl rfl 7 (by decide) (hg _ kw_254) (fun _ h9 => h9) rfl dX0_keepIfCheaper_18 ?_
  refine lv_iload_n hx hb dX0_keepIfCheaper_21 rfl (lv_at hl 0 rfl) ?_
  refine va_lald hx hb hK hP 1 1 rfl rfl (show ¬ ((3 : Int32) < 0 ∨ 4 ≤ (3 : Int32).toNatClampNeg) by decide) dX0_keepIfCheaper_22 ?_
  refine lv_topl (fun z_22 e_22 => ?_)
  refine lv_lmul hx hb dX0_keepIfCheaper_23 ?_
  refine lv_topl (fun z_23 e_23 => ?_)
  refine lv_ladd hx hb dX0_keepIfCheaper_24 ?_
  refine lv_topl (fun z_24 e_24 => ?_)
  refine lv_lstore_n (lv' := [(1, .long z_24), (3, .int 3), (0, .ref ch)]) hx hb dX0_keepIfCheaper_25 rfl hl (by decide) rfl (fun ls hl => ?_)
  refine lv_iinc (v := 4) (lv' := [(3, .int 4), (1, .long z_24), (0, .ref ch)]) hx hb dX0_keepIfCheaper_26 hl (k := 1) rfl (by decide) (by decide) rfl (fun ls hl => ?_)
  refine lv_goto (tgt := 4) hx hb dX0_keepIfCheaper_29 (by decide) ?_
  refine lv_iload_n hx hb dX0_keepIfCheaper_4 rfl (lv_at hl 0 rfl) ?_
  refine lv_iconst (v := 4) hx hb dX0_keepIfCheaper_5 (by decide) ?_
  refine lv_icmp_ge (tgt := 32) hx hb dX0_keepIfCheaper_6 (by decide) (fun c_6 => ?_) (fun c_6 => absurd c_6 (by decide))
  refine lv_aload_n hx hb dX0_keepIfCheaper_32 rfl (lv_at hl 2 rfl) ?_
  refine va_get (D := D) (ci := 0) (v := .int trs) (C := RX0) (T := TX0) (N := 12) hx hb hg gwX0 hown hK hP 0 rfl rfl 10 (by decide) (hg _ kw_255) (fun _ h9 => h9) rfl dX0_keepIfCheaper_33 ?_
  refine lv_if_eq (tgt := 48) hx hb dX0_keepIfCheaper_36 (by decide) (fun c_36 => ?_) (fun c_36 => ?_)
  · refine lv_aload_n hx hb dX0_keepIfCheaper_48 rfl (lv_at hl 2 rfl) ?_
    refine lv_lload_n hx hb dX0_keepIfCheaper_49 rfl (lv_at hl 1 rfl) ?_
    refine va_put (D := D) (ci := 0) (v := .long z_24) (ty := .long) (C := RX0) (T := TX0) (N := 12) hx hb hg gwX0 tyX0 tyX0_ok nmX0 hown hK hP hD hS 0 rfl rfl 11 (by decide) (hg _ kw_256) (fun _ h9 => h9) rfl (by decide +kernel) rfl rfl (Nat.le_of_ble_eq_true rfl) dX0_keepIfCheaper_50 (fun H locs hP hD hS => ?_)
    have hP : va_P D vwCl [(ch, .inr (0, [.ref aq, .ref sm, .ref tb, .ref ck, .ref cm, .ref le, .ref ne, .ref pr, .ref tr, .ref ln, .int trs, .long z_24])), (pr, .inl (cs 1, 4, .inr (.inl fpr))), (tr, .inl (cs 0, 4, .inl ftr)), (ln, .inl (cs 0, 4, .inl fln))] H := hP
    have hD : va_D A [(ch, .inr (0, [.ref aq, .ref sm, .ref tb, .ref ck, .ref cm, .ref le, .ref ne, .ref pr, .ref tr, .ref ln, .int trs, .long z_24])), (pr, .inl (cs 1, 4, .inr (.inl fpr))), (tr, .inl (cs 0, 4, .inl ftr)), (ln, .inl (cs 0, 4, .inl fln))] := hD
    refine lv_iconst (v := 0) hx hb dX0_keepIfCheaper_53 (by decide) ?_
    refine lv_istore_n (lv' := [(3, .int 0), (1, .long z_24), (0, .ref ch)]) hx hb dX0_keepIfCheaper_54 rfl hl (by decide) rfl (fun ls hl => ?_)
    refine lv_iload_n hx hb dX0_keepIfCheaper_55 rfl (lv_at hl 0 rfl) ?_
    refine lv_iconst (v := 4) hx hb dX0_keepIfCheaper_56 (by decide) ?_
    refine lv_icmp_ge (tgt := 78) hx hb dX0_keepIfCheaper_57 (by decide) (fun c_57 => absurd c_57 (by decide)) (fun c_57 => ?_)
    refine lv_aload_n hx hb dX0_keepIfCheaper_60 rfl (lv_at hl 2 rfl) ?_
    refine va_get (D := D) (ci := 0) (v := .ref ln) (C := RX0) (T := TX0) (N := 12) hx hb hg gwX0 hown hK hP 0 rfl rfl 9 (by decide) (hg _ kw_257) (fun _ h9 => h9) rfl dX0_keepIfCheaper_61 ?_
    refine lv_iload_n hx hb dX0_keepIfCheaper_64 rfl (lv_at hl 0 rfl) ?_
    refine lv_aload_n hx hb dX0_keepIfCheaper_65 rfl (lv_at hl 2 rfl) ?_
    refine va_get (D := D) (ci := 0) (v := .ref tr) (C := RX0) (T := TX0) (N := 12) hx hb hg gwX0 hown hK hP 0 rfl rfl 8 (by decide) (hg _ kw_251) (fun _ h9 => h9) rfl dX0_keepIfCheaper_66 ?_
    refine lv_iload_n hx hb dX0_keepIfCheaper_69 rfl (lv_at hl 0 rfl) ?_
    refine va_iald hx hb hK hP 2 0 rfl rfl (show ¬ ((0 : Int32) < 0 ∨ 4 ≤ (0 : Int32).toNatClampNeg) by decide) dX0_keepIfCheaper_70 ?_
    refine lv_topi (fun z_70 e_70 => ?_)
    refine va_iast hx hb hK hP hD hS 3 0 rfl rfl (show ¬ ((0 : Int32) < 0 ∨ 4 ≤ (0 : Int32).toNatClampNeg) by decide) dX0_keepIfCheaper_71 (fun H locs hP hD hS => ?_)
    obtain ⟨f_71, hf_71⟩ : ∃ f9, f9 = (upd fln (0 : Int32).toNatClampNeg z_70) := ⟨_, rfl⟩
    rw [← hf_71] at hP hD
    have hP : va_P D vwCl [(ch, .inr (0, [.ref aq, .ref sm, .ref tb, .ref ck, .ref cm, .ref le, .ref ne, .ref pr, .ref tr, .ref ln, .int trs, .long z_24])), (pr, .inl (cs 1, 4, .inr (.inl fpr))), (tr, .inl (cs 0, 4, .inl ftr)), (ln, .inl (cs 0, 4, .inl f_71))] H := hP
    have hD : va_D A [(ch, .inr (0, [.ref aq, .ref sm, .ref tb, .ref ck, .ref cm, .ref le, .ref ne, .ref pr, .ref tr, .ref ln, .int trs, .long z_24])), (pr, .inl (cs 1, 4, .inr (.inl fpr))), (tr, .inl (cs 0, 4, .inl ftr)), (ln, .inl (cs 0, 4, .inl f_71))] := hD
    refine lv_iinc (v := 1) (lv' := [(3, .int 1), (1, .long z_24), (0, .ref ch)]) hx hb dX0_keepIfCheaper_72 hl (k := 0) rfl (by decide) (by decide) rfl (fun ls hl => ?_)
    refine lv_goto (tgt := 55) hx hb dX0_keepIfCheaper_75 (by decide) ?_
    refine lv_iload_n hx hb dX0_keepIfCheaper_55 rfl (lv_at hl 0 rfl) ?_
    refine lv_iconst (v := 4) hx hb dX0_keepIfCheaper_56 (by decide) ?_
    refine lv_icmp_ge (tgt := 78) hx hb dX0_keepIfCheaper_57 (by decide) (fun c_57 => absurd c_57 (by decide)) (fun c_57 => ?_)
    refine lv_aload_n hx hb dX0_keepIfCheaper_60 rfl (lv_at hl 2 rfl) ?_
    refine va_get (D := D) (ci := 0) (v := .ref ln) (C := RX0) (T := TX0) (N := 12) hx hb hg gwX0 hown hK hP 0 rfl rfl 9 (by decide) (hg _ kw_257) (fun _ h9 => h9) rfl dX0_keepIfCheaper_61 ?_
    refine lv_iload_n hx hb dX0_keepIfCheaper_64 rfl (lv_at hl 0 rfl) ?_
    refine lv_aload_n hx hb dX0_keepIfCheaper_65 rfl (lv_at hl 2 rfl) ?_
    refine va_get (D := D) (ci := 0) (v := .ref tr) (C := RX0) (T := TX0) (N := 12) hx hb hg gwX0 hown hK hP 0 rfl rfl 8 (by decide) (hg _ kw_251) (fun _ h9 => h9) rfl dX0_keepIfCheaper_66 ?_
    refine lv_iload_n hx hb dX0_keepIfCheaper_69 rfl (lv_at hl 0 rfl) ?_
    refine va_iald hx hb hK hP 2 0 rfl rfl (show ¬ ((1 : Int32) < 0 ∨ 4 ≤ (1 : Int32).toNatClampNeg) by decide) dX0_keepIfCheaper_70 ?_
    refine lv_topi (fun z_70 e_70 => ?_)
    refine va_iast hx hb hK hP hD hS 3 0 rfl rfl (show ¬ ((1 : Int32) < 0 ∨ 4 ≤ (1 : Int32).toNatClampNeg) by decide) dX0_keepIfCheaper_71 (fun H locs hP hD hS => ?_)
    obtain ⟨f_71, hf_71⟩ : ∃ f9, f9 = (upd f_71 (1 : Int32).toNatClampNeg z_70) := ⟨_, rfl⟩
    rw [← hf_71] at hP hD
    have hP : va_P D vwCl [(ch, .inr (0, [.ref aq, .ref sm, .ref tb, .ref ck, .ref cm, .ref le, .ref ne, .ref pr, .ref tr, .ref ln, .int trs, .long z_24])), (pr, .inl (cs 1, 4, .inr (.inl fpr))), (tr, .inl (cs 0, 4, .inl ftr)), (ln, .inl (cs 0, 4, .inl f_71))] H := hP
    have hD : va_D A [(ch, .inr (0, [.ref aq, .ref sm, .ref tb, .ref ck, .ref cm, .ref le, .ref ne, .ref pr, .ref tr, .ref ln, .int trs, .long z_24])), (pr, .inl (cs 1, 4, .inr (.inl fpr))), (tr, .inl (cs 0, 4, .inl ftr)), (ln, .inl (cs 0, 4, .inl f_71))] := hD
    refine lv_iinc (v := 2) (lv' := [(3, .int 2), (1, .long z_24), (0, .ref ch)]) hx hb dX0_keepIfCheaper_72 hl (k := 0) rfl (by decide) (by decide) rfl (fun ls hl => ?_)
    refine lv_goto (tgt := 55) hx hb dX0_keepIfCheaper_75 (by decide) ?_
    refine lv_iload_n hx hb dX0_keepIfCheaper_55 rfl (lv_at hl 0 rfl) ?_
    refine lv_iconst (v := 4) hx hb dX0_keepIfCheaper_56 (by decide) ?_
    refine lv_icmp_ge (tgt := 78) hx hb dX0_keepIfCheaper_57 (by decide) (fun c_57 => absurd c_57 (by decide)) (fun c_57 => ?_)
    refine lv_aload_n hx hb dX0_keepIfCheaper_60 rfl (lv_at hl 2 rfl) ?_
    refine va_get (D := D) (ci := 0) (v := .ref ln) (C := RX0) (T := TX0) (N := 12) hx hb hg gwX0 hown hK hP 0 rfl rfl 9 (by decide) (hg _ kw_257) (fun _ h9 => h9) rfl dX0_keepIfCheaper_61 ?_
    refine lv_iload_n hx hb dX0_keepIfCheaper_64 rfl (lv_at hl 0 rfl) ?_
    refine lv_aload_n hx hb dX0_keepIfCheaper_65 rfl (lv_at hl 2 rfl) ?_
    refine va_get (D := D) (ci := 0) (v := .ref tr) (C := RX0) (T := TX0) (N := 12) hx hb hg gwX0 hown hK hP 0 rfl rfl 8 (by decide) (hg _ kw_251) (fun _ h9 => h9) rfl dX0_keepIfCheaper_66 ?_
    refine lv_iload_n hx hb dX0_keepIfCheaper_69 rfl (lv_at hl 0 rfl) ?_
    refine va_iald hx hb hK hP 2 0 rfl rfl (show ¬ ((2 : Int32) < 0 ∨ 4 ≤ (2 : Int32).toNatClampNeg) by decide) dX0_keepIfCheaper_70 ?_
    refine lv_topi (fun z_70 e_70 => ?_)
    refine va_iast hx hb hK hP hD hS 3 0 rfl rfl (show ¬ ((2 : Int32) < 0 ∨ 4 ≤ (2 : Int32).toNatClampNeg) by decide) dX0_keepIfCheaper_71 (fun H locs hP hD hS => ?_)
    obtain ⟨f_71, hf_71⟩ : ∃ f9, f9 = (upd f_71 (2 : Int32).toNatClampNeg z_70) := ⟨_, rfl⟩
    rw [← hf_71] at hP hD
    have hP : va_P D vwCl [(ch, .inr (0, [.ref aq, .ref sm, .ref tb, .ref ck, .ref cm, .ref le, .ref ne, .ref pr, .ref tr, .ref ln, .int trs, .long z_24])), (pr, .inl (cs 1, 4, .inr (.inl fpr))), (tr, .inl (cs 0, 4, .inl ftr)), (ln, .inl (cs 0, 4, .inl f_71))] H := hP
    have hD : va_D A [(ch, .inr (0, [.ref aq, .ref sm, .ref tb, .ref ck, .ref cm, .ref le, .ref ne, .ref pr, .ref tr, .ref ln, .int trs, .long z_24])), (pr, .inl (cs 1, 4, .inr (.inl fpr))), (tr, .inl (cs 0, 4, .inl ftr)), (ln, .inl (cs 0, 4, .inl f_71))] := hD
    refine lv_iinc (v := 3) (lv' := [(3, .int 3), (1, .long z_24), (0, .ref ch)]) hx hb dX0_keepIfCheaper_72 hl (k := 0) rfl (by decide) (by decide) rfl (fun ls hl => ?_)
    refine lv_goto (tgt := 55) hx hb dX0_keepIfCheaper_75 (by decide) ?_
    refine lv_iload_n hx hb dX0_keepIfCheaper_55 rfl (lv_at hl 0 rfl) ?_
    refine lv_iconst (v := 4) hx hb dX0_keepIfCheaper_56 (by decide) ?_
    refine lv_icmp_ge (tgt := 78) hx hb dX0_keepIfCheaper_57 (by decide) (fun c_57 => absurd c_57 (by decide)) (fun c_57 => ?_)
    refine lv_aload_n hx hb dX0_keepIfCheaper_60 rfl (lv_at hl 2 rfl) ?_
    refine va_get (D := D) (ci := 0) (v := .ref ln) (C := RX0) (T := TX0) (N := 12) hx hb hg gwX0 hown hK hP 0 rfl rfl 9 (by decide) (hg _ kw_257) (fun _ h9 => h9) rfl dX0_keepIfCheaper_61 ?_
    refine lv_iload_n hx hb dX0_keepIfCheaper_64 rfl (lv_at hl 0 rfl) ?_
    refine lv_aload_n hx hb dX0_keepIfCheaper_65 rfl (lv_at hl 2 rfl) ?_
    refine va_get (D := D) (ci := 0) (v := .ref tr) (C := RX0) (T := TX0) (N := 12) hx hb hg gwX0 hown hK hP 0 rfl rfl 8 (by decide) (hg _ kw_251) (fun _ h9 => h9) rfl dX0_keepIfCheaper_66 ?_
    refine lv_iload_n hx hb dX0_keepIfCheaper_69 rfl (lv_at hl 0 rfl) ?_
    refine va_iald hx hb hK hP 2 0 rfl rfl (show ¬ ((3 : Int32) < 0 ∨ 4 ≤ (3 : Int32).toNatClampNeg) by decide) dX0_keepIfCheaper_70 ?_
    refine lv_topi (fun z_70 e_70 => ?_)
    refine va_iast hx hb hK hP hD hS 3 0 rfl rfl (show ¬ ((3 : Int32) < 0 ∨ 4 ≤ (3 : Int32).toNatClampNeg) by decide) dX0_keepIfCheaper_71 (fun H locs hP hD hS => ?_)
    obtain ⟨f_71, hf_71⟩ : ∃ f9, f9 = (upd f_71 (3 : Int32).toNatClampNeg z_70) := ⟨_, rfl⟩
    rw [← hf_71] at hP hD
    have hP : va_P D vwCl [(ch, .inr (0, [.ref aq, .ref sm, .ref tb, .ref ck, .ref cm, .ref le, .ref ne, .ref pr, .ref tr, .ref ln, .int trs, .long z_24])), (pr, .inl (cs 1, 4, .inr (.inl fpr))), (tr, .inl (cs 0, 4, .inl ftr)), (ln, .inl (cs 0, 4, .inl f_71))] H := hP
    have hD : va_D A [(ch, .inr (0, [.ref aq, .ref sm, .ref tb, .ref ck, .ref cm, .ref le, .ref ne, .ref pr, .ref tr, .ref ln, .int trs, .long z_24])), (pr, .inl (cs 1, 4, .inr (.inl fpr))), (tr, .inl (cs 0, 4, .inl ftr)), (ln, .inl (cs 0, 4, .inl f_71))] := hD
    refine lv_iinc (v := 4) (lv' := [(3, .int 4), (1, .long z_24), (0, .ref ch)]) hx hb dX0_keepIfCheaper_72 hl (k := 0) rfl (by decide) (by decide) rfl (fun ls hl => ?_)
    refine lv_goto (tgt := 55) hx hb dX0_keepIfCheaper_75 (by decide) ?_
    refine lv_iload_n hx hb dX0_keepIfCheaper_55 rfl (lv_at hl 0 rfl) ?_
    refine lv_iconst (v := 4) hx hb dX0_keepIfCheaper_56 (by decide) ?_
    refine lv_icmp_ge (tgt := 78) hx hb dX0_keepIfCheaper_57 (by decide) (fun c_57 => ?_) (fun c_57 => absurd c_57 (by decide))
    refine lv_aload_n hx hb dX0_keepIfCheaper_78 rfl (lv_at hl 2 rfl) ?_
    refine lv_dup hx hb dX0_keepIfCheaper_79 rfl ?_
    refine va_get (D := D) (ci := 0) (v := .int trs) (C := RX0) (T := TX0) (N := 12) hx hb hg gwX0 hown hK hP 0 rfl rfl 10 (by decide) (hg _ kw_255) (fun _ h9 => h9) rfl dX0_keepIfCheaper_80 ?_
    refine lv_iconst (v := 1) hx hb dX0_keepIfCheaper_83 (by decide) ?_
    refine lv_iadd hx hb dX0_keepIfCheaper_84 ?_
    refine lv_topi (fun z_84 e_84 => ?_)
    refine va_put (D := D) (ci := 0) (v := .int z_84) (ty := .int) (C := RX0) (T := TX0) (N := 12) hx hb hg gwX0 tyX0 tyX0_ok nmX0 hown hK hP hD hS 0 rfl rfl 10 (by decide) (hg _ kw_255) (fun _ h9 => h9) rfl (by decide +kernel) rfl rfl (Nat.le_of_ble_eq_true rfl) dX0_keepIfCheaper_85 (fun H locs hP hD hS => ?_)
    have hP : va_P D vwCl [(ch, .inr (0, [.ref aq, .ref sm, .ref tb, .ref ck, .ref cm, .ref le, .ref ne, .ref pr, .ref tr, .ref ln, .int z_84, .long z_24])), (pr, .inl (cs 1, 4, .inr (.inl fpr))), (tr, .inl (cs 0, 4, .inl ftr)), (ln, .inl (cs 0, 4, .inl f_71))] H := hP
    have hD : va_D A [(ch, .inr (0, [.ref aq, .ref sm, .ref tb, .ref ck, .ref cm, .ref le, .ref ne, .ref pr, .ref tr, .ref ln, .int z_84, .long z_24])), (pr, .inl (cs 1, 4, .inr (.inl fpr))), (tr, .inl (cs 0, 4, .inl ftr)), (ln, .inl (cs 0, 4, .inl f_71))] := hD
    refine W_sQ hQ ?_
    refine W.widen (k := 0) (n := 0) (Nat.le_of_ble_eq_true rfl) (Nat.le_of_ble_eq_true rfl) ?_
    have hP9 := hP.sub (ws' := [(ch, .inr (0, [.ref aq, .ref sm, .ref tb, .ref ck, .ref cm, .ref le, .ref ne, .ref pr, .ref tr, .ref ln, .int z_84, .long z_24])), (pr, .inl (cs 1, 4, .inr (.inl fpr))), (tr, .inl (cs 0, 4, .inl ftr)), (ln, .inl (cs 0, 4, .inl f_71))]) [0, 1, 2, 3] rfl
    have hD9 := hD.sub (ws' := [(ch, .inr (0, [.ref aq, .ref sm, .ref tb, .ref ck, .ref cm, .ref le, .ref ne, .ref pr, .ref tr, .ref ln, .int z_84, .long z_24])), (pr, .inl (cs 1, 4, .inr (.inl fpr))), (tr, .inl (cs 0, 4, .inl ftr)), (ln, .inl (cs 0, 4, .inl f_71))]) [0, 1, 2, 3] (by decide) rfl
    exact W.vret hx hb hr (fun t ht hW => ⟨⟨(), rfl, trivial, ⟨z_84, z_24, f_71, by rw [ht]; exact hP9, hD9⟩⟩, hS.F ht⟩) hS.2.2 dX0_keepIfCheaper_88
  · refine lv_lload_n hx hb dX0_keepIfCheaper_39 rfl (lv_at hl 1 rfl) ?_
    refine lv_aload_n hx hb dX0_keepIfCheaper_40 rfl (lv_at hl 2 rfl) ?_
    refine va_get (D := D) (ci := 0) (v := .long lpr) (C := RX0) (T := TX0) (N := 12) hx hb hg gwX0 hown hK hP 0 rfl rfl 11 (by decide) (hg _ kw_256) (fun _ h9 => h9) rfl dX0_keepIfCheaper_41 ?_
    refine W.lcmp hx hb dX0_keepIfCheaper_44 ?_
    refine lv_topi (fun z_44 e_44 => ?_)
    refine lv_if_ge (tgt := 78) hx hb dX0_keepIfCheaper_45 (by decide) (fun c_45 => ?_) (fun c_45 => ?_)
    · refine lv_aload_n hx hb dX0_keepIfCheaper_78 rfl (lv_at hl 2 rfl) ?_
      refine lv_dup hx hb dX0_keepIfCheaper_79 rfl ?_
      refine va_get (D := D) (ci := 0) (v := .int trs) (C := RX0) (T := TX0) (N := 12) hx hb hg gwX0 hown hK hP 0 rfl rfl 10 (by decide) (hg _ kw_255) (fun _ h9 => h9) rfl dX0_keepIfCheaper_80 ?_
      refine lv_iconst (v := 1) hx hb dX0_keepIfCheaper_83 (by decide) ?_
      refine lv_iadd hx hb dX0_keepIfCheaper_84 ?_
      refine lv_topi (fun z_84 e_84 => ?_)
      refine va_put (D := D) (ci := 0) (v := .int z_84) (ty := .int) (C := RX0) (T := TX0) (N := 12) hx hb hg gwX0 tyX0 tyX0_ok nmX0 hown hK hP hD hS 0 rfl rfl 10 (by decide) (hg _ kw_255) (fun _ h9 => h9) rfl (by decide +kernel) rfl rfl (Nat.le_of_ble_eq_true rfl) dX0_keepIfCheaper_85 (fun H locs hP hD hS => ?_)
      have hP : va_P D vwCl [(ch, .inr (0, [.ref aq, .ref sm, .ref tb, .ref ck, .ref cm, .ref le, .ref ne, .ref pr, .ref tr, .ref ln, .int z_84, .long lpr])), (pr, .inl (cs 1, 4, .inr (.inl fpr))), (tr, .inl (cs 0, 4, .inl ftr)), (ln, .inl (cs 0, 4, .inl fln))] H := hP
      have hD : va_D A [(ch, .inr (0, [.ref aq, .ref sm, .ref tb, .ref ck, .ref cm, .ref le, .ref ne, .ref pr, .ref tr, .ref ln, .int z_84, .long lpr])), (pr, .inl (cs 1, 4, .inr (.inl fpr))), (tr, .inl (cs 0, 4, .inl ftr)), (ln, .inl (cs 0, 4, .inl fln))] := hD
      refine W_sQ hQ ?_
      refine W.widen (k := 0) (n := 0) (Nat.le_of_ble_eq_true rfl) (Nat.le_of_ble_eq_true rfl) ?_
      have hP9 := hP.sub (ws' := [(ch, .inr (0, [.ref aq, .ref sm, .ref tb, .ref ck, .ref cm, .ref le, .ref ne, .ref pr, .ref tr, .ref ln, .int z_84, .long lpr])), (pr, .inl (cs 1, 4, .inr (.inl fpr))), (tr, .inl (cs 0, 4, .inl ftr)), (ln, .inl (cs 0, 4, .inl fln))]) [0, 1, 2, 3] rfl
      have hD9 := hD.sub (ws' := [(ch, .inr (0, [.ref aq, .ref sm, .ref tb, .ref ck, .ref cm, .ref le, .ref ne, .ref pr, .ref tr, .ref ln, .int z_84, .long lpr])), (pr, .inl (cs 1, 4, .inr (.inl fpr))), (tr, .inl (cs 0, 4, .inl ftr)), (ln, .inl (cs 0, 4, .inl fln))]) [0, 1, 2, 3] (by decide) rfl
      exact W.vret hx hb hr (fun t ht hW => ⟨⟨(), rfl, trivial, ⟨z_84, lpr, fln, by rw [ht]; exact hP9, hD9⟩⟩, hS.F ht⟩) hS.2.2 dX0_keepIfCheaper_88
    · refine lv_aload_n hx hb dX0_keepIfCheaper_48 rfl (lv_at hl 2 rfl) ?_
      refine lv_lload_n hx hb dX0_keepIfCheaper_49 rfl (lv_at hl 1 rfl) ?_
      refine va_put (D := D) (ci := 0) (v := .long z_24) (ty := .long) (C := RX0) (T := TX0) (N := 12) hx hb hg gwX0 tyX0 tyX0_ok nmX0 hown hK hP hD hS 0 rfl rfl 11 (by decide) (hg _ kw_256) (fun _ h9 => h9) rfl (by decide +kernel) rfl rfl (Nat.le_of_ble_eq_true rfl) dX0_keepIfCheaper_50 (fun H locs hP hD hS => ?_)
      have hP : va_P D vwCl [(ch, .inr (0, [.ref aq, .ref sm, .ref tb, .ref ck, .ref cm, .ref le, .ref ne, .ref pr, .ref tr, .ref ln, .int trs, .long z_24])), (pr, .inl (cs 1, 4, .inr (.inl fpr))), (tr, .inl (cs 0, 4, .inl ftr)), (ln, .inl (cs 0, 4, .inl fln))] H := hP
      have hD : va_D A [(ch, .inr (0, [.ref aq, .ref sm, .ref tb, .ref ck, .ref cm, .ref le, .ref ne, .ref pr, .ref tr, .ref ln, .int trs, .long z_24])), (pr, .inl (cs 1, 4, .inr (.inl fpr))), (tr, .inl (cs 0, 4, .inl ftr)), (ln, .inl (cs 0, 4, .inl fln))] := hD
      refine lv_iconst (v := 0) hx hb dX0_keepIfCheaper_53 (by decide) ?_
      refine lv_istore_n (lv' := [(3, .int 0), (1, .long z_24), (0, .ref ch)]) hx hb dX0_keepIfCheaper_54 rfl hl (by decide) rfl (fun ls hl => ?_)
      refine lv_iload_n hx hb dX0_keepIfCheaper_55 rfl (lv_at hl 0 rfl) ?_
      refine lv_iconst (v := 4) hx hb dX0_keepIfCheaper_56 (by decide) ?_
      refine lv_icmp_ge (tgt := 78) hx hb dX0_keepIfCheaper_57 (by decide) (fun c_57 => absurd c_57 (by decide)) (fun c_57 => ?_)
      refine lv_aload_n hx hb dX0_keepIfCheaper_60 rfl (lv_at hl 2 rfl) ?_
      refine va_get (D := D) (ci := 0) (v := .ref ln) (C := RX0) (T := TX0) (N := 12) hx hb hg gwX0 hown hK hP 0 rfl rfl 9 (by decide) (hg _ kw_257) (fun _ h9 => h9) rfl dX0_keepIfCheaper_61 ?_
      refine lv_iload_n hx hb dX0_keepIfCheaper_64 rfl (lv_at hl 0 rfl) ?_
      refine lv_aload_n hx hb dX0_keepIfCheaper_65 rfl (lv_at hl 2 rfl) ?_
      refine va_get (D := D) (ci := 0) (v := .ref tr) (C := RX0) (T := TX0) (N := 12) hx hb hg gwX0 hown hK hP 0 rfl rfl 8 (by decide) (hg _ kw_251) (fun _ h9 => h9) rfl dX0_keepIfCheaper_66 ?_
      refine lv_iload_n hx hb dX0_keepIfCheaper_69 rfl (lv_at hl 0 rfl) ?_
      refine va_iald hx hb hK hP 2 0 rfl rfl (show ¬ ((0 : Int32) < 0 ∨ 4 ≤ (0 : Int32).toNatClampNeg) by decide) dX0_keepIfCheaper_70 ?_
      refine lv_topi (fun z_70 e_70 => ?_)
      refine va_iast hx hb hK hP hD hS 3 0 rfl rfl (show ¬ ((0 : Int32) < 0 ∨ 4 ≤ (0 : Int32).toNatClampNeg) by decide) dX0_keepIfCheaper_71 (fun H locs hP hD hS => ?_)
      obtain ⟨f_71, hf_71⟩ : ∃ f9, f9 = (upd fln (0 : Int32).toNatClampNeg z_70) := ⟨_, rfl⟩
      rw [← hf_71] at hP hD
      have hP : va_P D vwCl [(ch, .inr (0, [.ref aq, .ref sm, .ref tb, .ref ck, .ref cm, .ref le, .ref ne, .ref pr, .ref tr, .ref ln, .int trs, .long z_24])), (pr, .inl (cs 1, 4, .inr (.inl fpr))), (tr, .inl (cs 0, 4, .inl ftr)), (ln, .inl (cs 0, 4, .inl f_71))] H := hP
      have hD : va_D A [(ch, .inr (0, [.ref aq, .ref sm, .ref tb, .ref ck, .ref cm, .ref le, .ref ne, .ref pr, .ref tr, .ref ln, .int trs, .long z_24])), (pr, .inl (cs 1, 4, .inr (.inl fpr))), (tr, .inl (cs 0, 4, .inl ftr)), (ln, .inl (cs 0, 4, .inl f_71))] := hD
      refine lv_iinc (v := 1) (lv' := [(3, .int 1), (1, .long z_24), (0, .ref ch)]) hx hb dX0_keepIfCheaper_72 hl (k := 0) rfl (by decide) (by decide) rfl (fun ls hl => ?_)
      refine lv_goto (tgt := 55) hx hb dX0_keepIfCheaper_75 (by decide) ?_
      refine lv_iload_n hx hb dX0_keepIfCheaper_55 rfl (lv_at hl 0 rfl) ?_
      refine lv_iconst (v := 4) hx hb dX0_keepIfCheaper_56 (by decide) ?_
      refine lv_icmp_ge (tgt := 78) hx hb dX0_keepIfCheaper_57 (by decide) (fun c_57 => absurd c_57 (by decide)) (fun c_57 => ?_)
      refine lv_aload_n hx hb dX0_keepIfCheaper_60 rfl (lv_at hl 2 rfl) ?_
      refine va_get (D := D) (ci := 0) (v := .ref ln) (C := RX0) (T := TX0) (N := 12) hx hb hg gwX0 hown hK hP 0 rfl rfl 9 (by decide) (hg _ kw_257) (fun _ h9 => h9) rfl dX0_keepIfCheaper_61 ?_
      refine lv_iload_n hx hb dX0_keepIfCheaper_64 rfl (lv_at hl 0 rfl) ?_
      refine lv_aload_n hx hb dX0_keepIfCheaper_65 rfl (lv_at hl 2 rfl) ?_
      refine va_get (D := D) (ci := 0) (v := .ref tr) (C := RX0) (T := TX0) (N := 12) hx hb hg gwX0 hown hK hP 0 rfl rfl 8 (by decide) (hg _ kw_251) (fun _ h9 => h9) rfl dX0_keepIfCheaper_66 ?_
      refine lv_iload_n hx hb dX0_keepIfCheaper_69 rfl (lv_at hl 0 rfl) ?_
      refine va_iald hx hb hK hP 2 0 rfl rfl (show ¬ ((1 : Int32) < 0 ∨ 4 ≤ (1 : Int32).toNatClampNeg) by decide) dX0_keepIfCheaper_70 ?_
      refine lv_topi (fun z_70 e_70 => ?_)
      refine va_iast hx hb hK hP hD hS 3 0 rfl rfl (show ¬ ((1 : Int32) < 0 ∨ 4 ≤ (1 : Int32).toNatClampNeg) by decide) dX0_keepIfCheaper_71 (fun H locs hP hD hS => ?_)
      obtain ⟨f_71, hf_71⟩ : ∃ f9, f9 = (upd f_71 (1 : Int32).toNatClampNeg z_70) := ⟨_, rfl⟩
      rw [← hf_71] at hP hD
      have hP : va_P D vwCl [(ch, .inr (0, [.ref aq, .ref sm, .ref tb, .ref ck, .ref cm, .ref le, .ref ne, .ref pr, .ref tr, .ref ln, .int trs, .long z_24])), (pr, .inl (cs 1, 4, .inr (.inl fpr))), (tr, .inl (cs 0, 4, .inl ftr)), (ln, .inl (cs 0, 4, .inl f_71))] H := hP
      have hD : va_D A [(ch, .inr (0, [.ref aq, .ref sm, .ref tb, .ref ck, .ref cm, .ref le, .ref ne, .ref pr, .ref tr, .ref ln, .int trs, .long z_24])), (pr, .inl (cs 1, 4, .inr (.inl fpr))), (tr, .inl (cs 0, 4, .inl ftr)), (ln, .inl (cs 0, 4, .inl f_71))] := hD
      refine lv_iinc (v := 2) (lv' := [(3, .int 2), (1, .long z_24), (0, .ref ch)]) hx hb dX0_keepIfCheaper_72 hl (k := 0) rfl (by decide) (by decide) rfl (fun ls hl => ?_)
      refine lv_goto (tgt := 55) hx hb dX0_keepIfCheaper_75 (by decide) ?_
      refine lv_iload_n hx hb dX0_keepIfCheaper_55 rfl (lv_at hl 0 rfl) ?_
      refine lv_iconst (v := 4) hx hb dX0_keepIfCheaper_56 (by decide) ?_
      refine lv_icmp_ge (tgt := 78) hx hb dX0_keepIfCheaper_57 (by decide) (fun c_57 => absurd c_57 (by decide)) (fun c_57 => ?_)
      refine lv_aload_n hx hb dX0_keepIfCheaper_60 rfl (lv_at hl 2 rfl) ?_
      refine va_get (D := D) (ci := 0) (v := .ref ln) (C := RX0) (T := TX0) (N := 12) hx hb hg gwX0 hown hK hP 0 rfl rfl 9 (by decide) (hg _ kw_257) (fun _ h9 => h9) rfl dX0_keepIfCheaper_61 ?_
      refine lv_iload_n hx hb dX0_keepIfCheaper_64 rfl (lv_at hl 0 rfl) ?_
      refine lv_aload_n hx hb dX0_keepIfCheaper_65 rfl (lv_at hl 2 rfl) ?_
      refine va_get (D := D) (ci := 0) (v := .ref tr) (C := RX0) (T := TX0) (N := 12) hx hb hg gwX0 hown hK hP 0 rfl rfl 8 (by decide) (hg _ kw_251) (fun _ h9 => h9) rfl dX0_keepIfCheaper_66 ?_
      refine lv_iload_n hx hb dX0_keepIfCheaper_69 rfl (lv_at hl 0 rfl) ?_
      refine va_iald hx hb hK hP 2 0 rfl rfl (show ¬ ((2 : Int32) < 0 ∨ 4 ≤ (2 : Int32).toNatClampNeg) by decide) dX0_keepIfCheaper_70 ?_
      refine lv_topi (fun z_70 e_70 => ?_)
      refine va_iast hx hb hK hP hD hS 3 0 rfl rfl (show ¬ ((2 : Int32) < 0 ∨ 4 ≤ (2 : Int32).toNatClampNeg) by decide) dX0_keepIfCheaper_71 (fun H locs hP hD hS => ?_)
      obtain ⟨f_71, hf_71⟩ : ∃ f9, f9 = (upd f_71 (2 : Int32).toNatClampNeg z_70) := ⟨_, rfl⟩
      rw [← hf_71] at hP hD
      have hP : va_P D vwCl [(ch, .inr (0, [.ref aq, .ref sm, .ref tb, .ref ck, .ref cm, .ref le, .ref ne, .ref pr, .ref tr, .ref ln, .int trs, .long z_24])), (pr, .inl (cs 1, 4, .inr (.inl fpr))), (tr, .inl (cs 0, 4, .inl ftr)), (ln, .inl (cs 0, 4, .inl f_71))] H := hP
      have hD : va_D A [(ch, .inr (0, [.ref aq, .ref sm, .ref tb, .ref ck, .ref cm, .ref le, .ref ne, .ref pr, .ref tr, .ref ln, .int trs, .long z_24])), (pr, .inl (cs 1, 4, .inr (.inl fpr))), (tr, .inl (cs 0, 4, .inl ftr)), (ln, .inl (cs 0, 4, .inl f_71))] := hD
      refine lv_iinc (v := 3) (lv' := [(3, .int 3), (1, .long z_24), (0, .ref ch)]) hx hb dX0_keepIfCheaper_72 hl (k := 0) rfl (by decide) (by decide) rfl (fun ls hl => ?_)
      refine lv_goto (tgt := 55) hx hb dX0_keepIfCheaper_75 (by decide) ?_
      refine lv_iload_n hx hb dX0_keepIfCheaper_55 rfl (lv_at hl 0 rfl) ?_
      refine lv_iconst (v := 4) hx hb dX0_keepIfCheaper_56 (by decide) ?_
      refine lv_icmp_ge (tgt := 78) hx hb dX0_keepIfCheaper_57 (by decide) (fun c_57 => absurd c_57 (by decide)) (fun c_57 => ?_)
      refine lv_aload_n hx hb dX0_keepIfCheaper_60 rfl (lv_at hl 2 rfl) ?_
      refine va_get (D := D) (ci := 0) (v := .ref ln) (C := RX0) (T := TX0) (N := 12) hx hb hg gwX0 hown hK hP 0 rfl rfl 9 (by decide) (hg _ kw_257) (fun _ h9 => h9) rfl dX0_keepIfCheaper_61 ?_
      refine lv_iload_n hx hb dX0_keepIfCheaper_64 rfl (lv_at hl 0 rfl) ?_
      refine lv_aload_n hx hb dX0_keepIfCheaper_65 rfl (lv_at hl 2 rfl) ?_
      refine va_get (D := D) (ci := 0) (v := .ref tr) (C := RX0) (T := TX0) (N := 12) hx hb hg gwX0 hown hK hP 0 rfl rfl 8 (by decide) (hg _ kw_251) (fun _ h9 => h9) rfl dX0_keepIfCheaper_66 ?_
      refine lv_iload_n hx hb dX0_keepIfCheaper_69 rfl (lv_at hl 0 rfl) ?_
      refine va_iald hx hb hK hP 2 0 rfl rfl (show ¬ ((3 : Int32) < 0 ∨ 4 ≤ (3 : Int32).toNatClampNeg) by decide) dX0_keepIfCheaper_70 ?_
      refine lv_topi (fun z_70 e_70 => ?_)
      refine va_iast hx hb hK hP hD hS 3 0 rfl rfl (show ¬ ((3 : Int32) < 0 ∨ 4 ≤ (3 : Int32).toNatClampNeg) by decide) dX0_keepIfCheaper_71 (fun H locs hP hD hS => ?_)
      obtain ⟨f_71, hf_71⟩ : ∃ f9, f9 = (upd f_71 (3 : Int32).toNatClampNeg z_70) := ⟨_, rfl⟩
      rw [← hf_71] at hP hD
      have hP : va_P D vwCl [(ch, .inr (0, [.ref aq, .ref sm, .ref tb, .ref ck, .ref cm, .ref le, .ref ne, .ref pr, .ref tr, .ref ln, .int trs, .long z_24])), (pr, .inl (cs 1, 4, .inr (.inl fpr))), (tr, .inl (cs 0, 4, .inl ftr)), (ln, .inl (cs 0, 4, .inl f_71))] H := hP
      have hD : va_D A [(ch, .inr (0, [.ref aq, .ref sm, .ref tb, .ref ck, .ref cm, .ref le, .ref ne, .ref pr, .ref tr, .ref ln, .int trs, .long z_24])), (pr, .inl (cs 1, 4, .inr (.inl fpr))), (tr, .inl (cs 0, 4, .inl ftr)), (ln, .inl (cs 0, 4, .inl f_71))] := hD
      refine lv_iinc (v := 4) (lv' := [(3, .int 4), (1, .long z_24), (0, .ref ch)]) hx hb dX0_keepIfCheaper_72 hl (k := 0) rfl (by decide) (by decide) rfl (fun ls hl => ?_)
      refine lv_goto (tgt := 55) hx hb dX0_keepIfCheaper_75 (by decide) ?_
      refine lv_iload_n hx hb dX0_keepIfCheaper_55 rfl (lv_at hl 0 rfl) ?_
      refine lv_iconst (v := 4) hx hb dX0_keepIfCheaper_56 (by decide) ?_
      refine lv_icmp_ge (tgt := 78) hx hb dX0_keepIfCheaper_57 (by decide) (fun c_57 => ?_) (fun c_57 => absurd c_57 (by decide))
      refine lv_aload_n hx hb dX0_keepIfCheaper_78 rfl (lv_at hl 2 rfl) ?_
      refine lv_dup hx hb dX0_keepIfCheaper_79 rfl ?_
      refine va_get (D := D) (ci := 0) (v := .int trs) (C := RX0) (T := TX0) (N := 12) hx hb hg gwX0 hown hK hP 0 rfl rfl 10 (by decide) (hg _ kw_255) (fun _ h9 => h9) rfl dX0_keepIfCheaper_80 ?_
      refine lv_iconst (v := 1) hx hb dX0_keepIfCheaper_83 (by decide) ?_
      refine lv_iadd hx hb dX0_keepIfCheaper_84 ?_
      refine lv_topi (fun z_84 e_84 => ?_)
      refine va_put (D := D) (ci := 0) (v := .int z_84) (ty := .int) (C := RX0) (T := TX0) (N := 12) hx hb hg gwX0 tyX0 tyX0_ok nmX0 hown hK hP hD hS 0 rfl rfl 10 (by decide) (hg _ kw_255) (fun _ h9 => h9) rfl (by decide +kernel) rfl rfl (Nat.le_of_ble_eq_true rfl) dX0_keepIfCheaper_85 (fun H locs hP hD hS => ?_)
      have hP : va_P D vwCl [(ch, .inr (0, [.ref aq, .ref sm, .ref tb, .ref ck, .ref cm, .ref le, .ref ne, .ref pr, .ref tr, .ref ln, .int z_84, .long z_24])), (pr, .inl (cs 1, 4, .inr (.inl fpr))), (tr, .inl (cs 0, 4, .inl ftr)), (ln, .inl (cs 0, 4, .inl f_71))] H := hP
      have hD : va_D A [(ch, .inr (0, [.ref aq, .ref sm, .ref tb, .ref ck, .ref cm, .ref le, .ref ne, .ref pr, .ref tr, .ref ln, .int z_84, .long z_24])), (pr, .inl (cs 1, 4, .inr (.inl fpr))), (tr, .inl (cs 0, 4, .inl ftr)), (ln, .inl (cs 0, 4, .inl f_71))] := hD
      refine W_sQ hQ ?_
      refine W.widen (k := 0) (n := 0) (Nat.le_of_ble_eq_true rfl) (Nat.le_of_ble_eq_true rfl) ?_
      have hP9 := hP.sub (ws' := [(ch, .inr (0, [.ref aq, .ref sm, .ref tb, .ref ck, .ref cm, .ref le, .ref ne, .ref pr, .ref tr, .ref ln, .int z_84, .long z_24])), (pr, .inl (cs 1, 4, .inr (.inl fpr))), (tr, .inl (cs 0, 4, .inl ftr)), (ln, .inl (cs 0, 4, .inl f_71))]) [0, 1, 2, 3] rfl
      have hD9 := hD.sub (ws' := [(ch, .inr (0, [.ref aq, .ref sm, .ref tb, .ref ck, .ref cm, .ref le, .ref ne, .ref pr, .ref tr, .ref ln, .int z_84, .long z_24])), (pr, .inl (cs 1, 4, .inr (.inl fpr))), (tr, .inl (cs 0, 4, .inl ftr)), (ln, .inl (cs 0, 4, .inl f_71))]) [0, 1, 2, 3] (by decide) rfl
      exact W.vret hx hb hr (fun t ht hW => ⟨⟨(), rfl, trivial, ⟨z_84, z_24, f_71, by rw [ht]; exact hP9, hD9⟩⟩, hS.F ht⟩) hS.2.2 dX0_keepIfCheaper_88

theorem dX0_countOn_0 : decode cX0_countOn 0 = .ok (.iconst 3, 1) := by decide +kernel
theorem dX0_countOn_1 : decode cX0_countOn 1 = .ok (.istore_n 1, 1) := by decide +kernel
theorem dX0_countOn_2 : decode cX0_countOn 2 = .ok (.iload_n 1, 1) := by decide +kernel
theorem dX0_countOn_3 : decode cX0_countOn 3 = .ok (.ifCond .lt 38, 3) := by decide +kernel
theorem dX0_countOn_6 : decode cX0_countOn 6 = .ok (.aload_n 0, 1) := by decide +kernel
theorem dX0_countOn_7 : decode cX0_countOn 7 = .ok (.getfield 47, 3) := by decide +kernel
theorem dX0_countOn_10 : decode cX0_countOn 10 = .ok (.iload_n 1, 1) := by decide +kernel
theorem dX0_countOn_11 : decode cX0_countOn 11 = .ok (.iaload, 1) := by decide +kernel
theorem dX0_countOn_12 : decode cX0_countOn 12 = .ok (.bipush 9, 2) := by decide +kernel
theorem dX0_countOn_14 : decode cX0_countOn 14 = .ok (.if_icmp .ge 14, 3) := by decide +kernel
theorem dX0_countOn_17 : decode cX0_countOn 17 = .ok (.aload_n 0, 1) := by decide +kernel
theorem dX0_countOn_18 : decode cX0_countOn 18 = .ok (.getfield 47, 3) := by decide +kernel
theorem dX0_countOn_21 : decode cX0_countOn 21 = .ok (.iload_n 1, 1) := by decide +kernel
theorem dX0_countOn_22 : decode cX0_countOn 22 = .ok (.dup2, 1) := by decide +kernel
theorem dX0_countOn_23 : decode cX0_countOn 23 = .ok (.iaload, 1) := by decide +kernel
theorem dX0_countOn_24 : decode cX0_countOn 24 = .ok (.iconst 1, 1) := by decide +kernel
theorem dX0_countOn_25 : decode cX0_countOn 25 = .ok (.iadd, 1) := by decide +kernel
theorem dX0_countOn_26 : decode cX0_countOn 26 = .ok (.iastore, 1) := by decide +kernel
theorem dX0_countOn_27 : decode cX0_countOn 27 = .ok (.return_, 1) := by decide +kernel
theorem dX0_countOn_28 : decode cX0_countOn 28 = .ok (.aload_n 0, 1) := by decide +kernel
theorem dX0_countOn_29 : decode cX0_countOn 29 = .ok (.getfield 47, 3) := by decide +kernel
theorem dX0_countOn_32 : decode cX0_countOn 32 = .ok (.iload_n 1, 1) := by decide +kernel
theorem dX0_countOn_33 : decode cX0_countOn 33 = .ok (.iconst 0, 1) := by decide +kernel
theorem dX0_countOn_34 : decode cX0_countOn 34 = .ok (.iastore, 1) := by decide +kernel
theorem dX0_countOn_35 : decode cX0_countOn 35 = .ok (.iinc 1 (-1), 3) := by decide +kernel
theorem dX0_countOn_38 : decode cX0_countOn 38 = .ok (.goto (-36), 3) := by decide +kernel
theorem dX0_countOn_41 : decode cX0_countOn 41 = .ok (.return_, 1) := by decide +kernel

set_option maxHeartbeats 4000000 in
set_option maxRecDepth 100000 in
theorem h_countOn (l : Launch) (D : va_G) (cs : Nat → ClassId) (ch : Nat) (sm : Nat) (tb : Nat) (ck : Nat) (cm : Nat) (le : Nat) (ne : Nat) (pr : Nat) (tr : Nat) (ln : Nat) (trs : Int32) (lpr : Int64) (aq : Nat) (ftr : Nat → Int32) (sz : Nat) : Met l yX0_countOn (Cond.code yX0_countOn cX0_countOn 2 none :: gw_tbl) ({ frames := 0, cells := 0, slots := 0, locals := 0 }) (pc_M D cs [(ch, .inr (0, [.ref aq, .ref sm, .ref tb, .ref ck, .ref cm, .ref le, .ref ne, .ref pr, .ref tr, .ref ln, .int trs, .long lpr])), (tr, .inl (cs 0, 4, .inl ftr))] sz [.ref ch]) (va_Qv (fun (u : Unit) => True) (fun u t => ∃ (ftr2 : Nat → Int32), va_P D vwCl [(ch, .inr (0, [.ref aq, .ref sm, .ref tb, .ref ck, .ref cm, .ref le, .ref ne, .ref pr, .ref tr, .ref ln, .int trs, .long lpr])), (tr, .inl (cs 0, 4, .inl ftr2))] t.heap ∧ va_D (va_A [(ch, .inr (0, [.ref aq, .ref sm, .ref tb, .ref ck, .ref cm, .ref le, .ref ne, .ref pr, .ref tr, .ref ln, .int trs, .long lpr])), (tr, .inl (cs 0, 4, .inl ftr))] sz) [(ch, .inr (0, [.ref aq, .ref sm, .ref tb, .ref ck, .ref cm, .ref le, .ref ne, .ref pr, .ref tr, .ref ln, .int trs, .long lpr])), (tr, .inl (cs 0, 4, .inl ftr2))]) (va_A [(ch, .inr (0, [.ref aq, .ref sm, .ref tb, .ref ck, .ref cm, .ref le, .ref ne, .ref pr, .ref tr, .ref ln, .int trs, .long lpr])), (tr, .inl (cs 0, 4, .inl ftr))] sz)) 0 0 (va_A [(ch, .inr (0, [.ref aq, .ref sm, .ref tb, .ref ck, .ref cm, .ref le, .ref ne, .ref pr, .ref tr, .ref ln, .int trs, .long lpr])), (tr, .inl (cs 0, 4, .inl ftr))] sz) := by
  refine Met.ofW (cc := cX0_countOn) (maxL := 2) (ret := none) (by decide) rfl ?_
  intro p e s m args below meth c s₁ B hml hv
  obtain ⟨hargs, hsz, hP, hK, hD0⟩ := hv
  have hx := B.exec
  have hb := B.bytes
  have hr := B.returns
  have hts := atoms_spec (ws := Cond.code yX0_countOn cX0_countOn 2 none :: gw_tbl) B.pre
  have hg := fun (w : Cond) (h : w ∈ gw_tbl) => hts w (List.mem_cons_of_mem _ h)
  have hown : s.vm.findClass RX0 = some m.cls := findClass_of_methodNamed B.named
  have hlocks := B.notSynchronized
  subst hsz
  have hD := hD0.self (sz := s.heap.size)
  generalize hAe : va_A [(ch, .inr (0, [.ref aq, .ref sm, .ref tb, .ref ck, .ref cm, .ref le, .ref ne, .ref pr, .ref tr, .ref ln, .int trs, .long lpr])), (tr, .inl (cs 0, 4, .inl ftr))] s.heap.size = A at hD ⊢
  have hA : ∀ q : Nat, s.heap.size ≤ q → A q := fun q h => by rw [← hAe]; exact Or.inr h
  have hS : va_S A s.heap s.heap [] := va_S.rf
  have hP : va_P D vwCl [(ch, .inr (0, [.ref aq, .ref sm, .ref tb, .ref ck, .ref cm, .ref le, .ref ne, .ref pr, .ref tr, .ref ln, .int trs, .long lpr])), (tr, .inl (cs 0, 4, .inl ftr))] s.heap := hP
  have hl := lv_entry ([.ref ch]) (n := 2) (Nat.le_of_ble_eq_true rfl)
  rw [show entryFrame m args 2 = F0 m 0 (lg_sl ([.ref ch]) ++ List.replicate (2 - (lg_sl ([.ref ch])).length) Slot.unset).toArray [] from by rw [hargs]; exact lg_entry_eq ..]
  generalize (lg_sl ([.ref ch]) ++ List.replicate (2 - (lg_sl ([.ref ch])).length) Slot.unset).toArray = ls at hl ⊢
  have hl : lv_has ls 2 [(0, .ref ch)] := hl
  refine W_genQ (fun Q hQ => ?_)
  refine lv_iconst (v := 3) hx hb dX0_countOn_0 (by decide) ?_
  refine lv_istore_n (lv' := [(1, .int 3), (0, .ref ch)]) hx hb dX0_countOn_1 rfl hl (by decide) rfl (fun ls hl => ?_)
  refine lv_iload_n hx hb dX0_countOn_2 rfl (lv_at hl 0 rfl) ?_
  refine lv_if_lt (tgt := 41) hx hb dX0_countOn_3 (by decide) (fun c_3 => absurd c_3 (by decide)) (fun c_3 => ?_)
  refine lv_aload_n hx hb dX0_countOn_6 rfl (lv_at hl 1 rfl) ?_
  refine va_get (D := D) (ci := 0) (v := .ref tr) (C := RX0) (T := TX0) (N := 12) hx hb hg gwX0 hown hK hP 0 rfl rfl 8 (by decide) (hg _ kw_251) (fun _ h9 => h9) rfl dX0_countOn_7 ?_
  refine lv_iload_n hx hb dX0_countOn_10 rfl (lv_at hl 0 rfl) ?_
  refine va_iald hx hb hK hP 1 0 rfl rfl (show ¬ ((3 : Int32) < 0 ∨ 4 ≤ (3 : Int32).toNatClampNeg) by decide) dX0_countOn_11 ?_
  refine lv_topi (fun z_11 e_11 => ?_)
  refine lv_bipush (v := 9) hx hb dX0_countOn_12 (by decide) ?_
  refine lv_icmp_ge (tgt := 28) hx hb dX0_countOn_14 (by decide) (fun c_14 => ?_) (fun c_14 => ?_)
  · refine lv_aload_n hx hb dX0_countOn_28 rfl (lv_at hl 1 rfl) ?_
    refine va_get (D := D) (ci := 0) (v := .ref tr) (C := RX0) (T := TX0) (N := 12) hx hb hg gwX0 hown hK hP 0 rfl rfl 8 (by decide) (hg _ kw_251) (fun _ h9 => h9) rfl dX0_countOn_29 ?_
    refine lv_iload_n hx hb dX0_countOn_32 rfl (lv_at hl 0 rfl) ?_
    refine lv_iconst (v := 0) hx hb dX0_countOn_33 (by decide) ?_
    refine va_iast hx hb hK hP hD hS 1 0 rfl rfl (show ¬ ((3 : Int32) < 0 ∨ 4 ≤ (3 : Int32).toNatClampNeg) by decide) dX0_countOn_34 (fun H locs hP hD hS => ?_)
    obtain ⟨f_34, hf_34⟩ : ∃ f9, f9 = (upd ftr (3 : Int32).toNatClampNeg 0) := ⟨_, rfl⟩
    rw [← hf_34] at hP hD
    have hP : va_P D vwCl [(ch, .inr (0, [.ref aq, .ref sm, .ref tb, .ref ck, .ref cm, .ref le, .ref ne, .ref pr, .ref tr, .ref ln, .int trs, .long lpr])), (tr, .inl (cs 0, 4, .inl f_34))] H := hP
    have hD : va_D A [(ch, .inr (0, [.ref aq, .ref sm, .ref tb, .ref ck, .ref cm, .ref le, .ref ne, .ref pr, .ref tr, .ref ln, .int trs, .long lpr])), (tr, .inl (cs 0, 4, .inl f_34))] := hD
    refine lv_iinc (v := 2) (lv' := [(1, .int 2), (0, .ref ch)]) hx hb dX0_countOn_35 hl (k := 0) rfl (by decide) (by decide) rfl (fun ls hl => ?_)
    refine lv_goto (tgt := 2) hx hb dX0_countOn_38 (by decide) ?_
    refine lv_iload_n hx hb dX0_countOn_2 rfl (lv_at hl 0 rfl) ?_
    refine lv_if_lt (tgt := 41) hx hb dX0_countOn_3 (by decide) (fun c_3 => absurd c_3 (by decide)) (fun c_3 => ?_)
    refine lv_aload_n hx hb dX0_countOn_6 rfl (lv_at hl 1 rfl) ?_
    refine va_get (D := D) (ci := 0) (v := .ref tr) (C := RX0) (T := TX0) (N := 12) hx hb hg gwX0 hown hK hP 0 rfl rfl 8 (by decide) (hg _ kw_251) (fun _ h9 => h9) rfl dX0_countOn_7 ?_
    refine lv_iload_n hx hb dX0_countOn_10 rfl (lv_at hl 0 rfl) ?_
    refine va_iald hx hb hK hP 1 0 rfl rfl (show ¬ ((2 : Int32) < 0 ∨ 4 ≤ (2 : Int32).toNatClampNeg) by decide) dX0_countOn_11 ?_
    refine lv_topi (fun z_11 e_11 => ?_)
    refine lv_bipush (v := 9) hx hb dX0_countOn_12 (by decide) ?_
    refine lv_icmp_ge (tgt := 28) hx hb dX0_countOn_14 (by decide) (fun c_14 => ?_) (fun c_14 => ?_)
    · refine lv_aload_n hx hb dX0_countOn_28 rfl (lv_at hl 1 rfl) ?_
      refine va_get (D := D) (ci := 0) (v := .ref tr) (C := RX0) (T := TX0) (N := 12) hx hb hg gwX0 hown hK hP 0 rfl rfl 8 (by decide) (hg _ kw_251) (fun _ h9 => h9) rfl dX0_countOn_29 ?_
      refine lv_iload_n hx hb dX0_countOn_32 rfl (lv_at hl 0 rfl) ?_
      refine lv_iconst (v := 0) hx hb dX0_countOn_33 (by decide) ?_
      refine va_iast hx hb hK hP hD hS 1 0 rfl rfl (show ¬ ((2 : Int32) < 0 ∨ 4 ≤ (2 : Int32).toNatClampNeg) by decide) dX0_countOn_34 (fun H locs hP hD hS => ?_)
      obtain ⟨f_34, hf_34⟩ : ∃ f9, f9 = (upd f_34 (2 : Int32).toNatClampNeg 0) := ⟨_, rfl⟩
      rw [← hf_34] at hP hD
      have hP : va_P D vwCl [(ch, .inr (0, [.ref aq, .ref sm, .ref tb, .ref ck, .ref cm, .ref le, .ref ne, .ref pr, .ref tr, .ref ln, .int trs, .long lpr])), (tr, .inl (cs 0, 4, .inl f_34))] H := hP
      have hD : va_D A [(ch, .inr (0, [.ref aq, .ref sm, .ref tb, .ref ck, .ref cm, .ref le, .ref ne, .ref pr, .ref tr, .ref ln, .int trs, .long lpr])), (tr, .inl (cs 0, 4, .inl f_34))] := hD
      refine lv_iinc (v := 1) (lv' := [(1, .int 1), (0, .ref ch)]) hx hb dX0_countOn_35 hl (k := 0) rfl (by decide) (by decide) rfl (fun ls hl => ?_)
      refine lv_goto (tgt := 2) hx hb dX0_countOn_38 (by decide) ?_
      refine lv_iload_n hx hb dX0_countOn_2 rfl (lv_at hl 0 rfl) ?_
      refine lv_if_lt (tgt := 41) hx hb dX0_countOn_3 (by decide) (fun c_3 => absurd c_3 (by decide)) (fun c_3 => ?_)
      refine lv_aload_n hx hb dX0_countOn_6 rfl (lv_at hl 1 rfl) ?_
      refine va_get (D := D) (ci := 0) (v := .ref tr) (C := RX0) (T := TX0) (N := 12) hx hb hg gwX0 hown hK hP 0 rfl rfl 8 (by decide) (hg _ kw_251) (fun _ h9 => h9) rfl dX0_countOn_7 ?_
      refine lv_iload_n hx hb dX0_countOn_10 rfl (lv_at hl 0 rfl) ?_
      refine va_iald hx hb hK hP 1 0 rfl rfl (show ¬ ((1 : Int32) < 0 ∨ 4 ≤ (1 : Int32).toNatClampNeg) by decide) dX0_countOn_11 ?_
      refine lv_topi (fun z_11 e_11 => ?_)
      refine lv_bipush (v := 9) hx hb dX0_countOn_12 (by decide) ?_
      refine lv_icmp_ge (tgt := 28) hx hb dX0_countOn_14 (by decide) (fun c_14 => ?_) (fun c_14 => ?_)
      · refine lv_aload_n hx hb dX0_countOn_28 rfl (lv_at hl 1 rfl) ?_
        refine va_get (D := D) (ci := 0) (v := .ref tr) (C := RX0) (T := TX0) (N := 12) hx hb hg gwX0 hown hK hP 0 rfl rfl 8 (by decide) (hg _ kw_251) (fun _ h9 => h9) rfl dX0_countOn_29 ?_
        refine lv_iload_n hx hb dX0_countOn_32 rfl (lv_at hl 0 rfl) ?_
        refine lv_iconst (v := 0) hx hb dX0_countOn_33 (by decide) ?_
        refine va_iast hx hb hK hP hD hS 1 0 rfl rfl (show ¬ ((1 : Int32) < 0 ∨ 4 ≤ (1 : Int32).toNatClampNeg) by decide) dX0_countOn_34 (fun H locs hP hD hS => ?_)
        obtain ⟨f_34, hf_34⟩ : ∃ f9, f9 = (upd f_34 (1 : Int32).toNatClampNeg 0) := ⟨_, rfl⟩
        rw [← hf_34] at hP hD
        have hP : va_P D vwCl [(ch, .inr (0, [.ref aq, .ref sm, .ref tb, .ref ck, .ref cm, .ref le, .ref ne, .ref pr, .ref tr, .ref ln, .int trs, .long lpr])), (tr, .inl (cs 0, 4, .inl f_34))] H := hP
        have hD : va_D A [(ch, .inr (0, [.ref aq, .ref sm, .ref tb, .ref ck, .ref cm, .ref le, .ref ne, .ref pr, .ref tr, .ref ln, .int trs, .long lpr])), (tr, .inl (cs 0, 4, .inl f_34))] := hD
        refine lv_iinc (v := 0) (lv' := [(1, .int 0), (0, .ref ch)]) hx hb dX0_countOn_35 hl (k := 0) rfl (by decide) (by decide) rfl (fun ls hl => ?_)
        refine lv_goto (tgt := 2) hx hb dX0_countOn_38 (by decide) ?_
        refine lv_iload_n hx hb dX0_countOn_2 rfl (lv_at hl 0 rfl) ?_
        refine lv_if_lt (tgt := 41) hx hb dX0_countOn_3 (by decide) (fun c_3 => absurd c_3 (by decide)) (fun c_3 => ?_)
        refine lv_aload_n hx hb dX0_countOn_6 rfl (lv_at hl 1 rfl) ?_
        refine va_get (D := D) (ci := 0) (v := .ref tr) (C := RX0) (T := TX0) (N := 12) hx hb hg gwX0 hown hK hP 0 rfl rfl 8 (by decide) (hg _ kw_251) (fun _ h9 => h9) rfl dX0_countOn_7 ?_
        refine lv_iload_n hx hb dX0_countOn_10 rfl (lv_at hl 0 rfl) ?_
        refine va_iald hx hb hK hP 1 0 rfl rfl (show ¬ ((0 : Int32) < 0 ∨ 4 ≤ (0 : Int32).toNatClampNeg) by decide) dX0_countOn_11 ?_
        refine lv_topi (fun z_11 e_11 => ?_)
        refine lv_bipush (v := 9) hx hb dX0_countOn_12 (by decide) ?_
        refine lv_icmp_ge (tgt := 28) hx hb dX0_countOn_14 (by decide) (fun c_14 => ?_) (fun c_14 => ?_)
        · refine lv_aload_n hx hb dX0_countOn_28 rfl (lv_at hl 1 rfl) ?_
          refine va_get (D := D) (ci := 0) (v := .ref tr) (C := RX0) (T := TX0) (N := 12) hx hb hg gwX0 hown hK hP 0 rfl rfl 8 (by decide) (hg _ kw_251) (fun _ h9 => h9) rfl dX0_countOn_29 ?_
          refine lv_iload_n hx hb dX0_countOn_32 rfl (lv_at hl 0 rfl) ?_
          refine lv_iconst (v := 0) hx hb dX0_countOn_33 (by decide) ?_
          refine va_iast hx hb hK hP hD hS 1 0 rfl rfl (show ¬ ((0 : Int32) < 0 ∨ 4 ≤ (0 : Int32).toNatClampNeg) by decide) dX0_countOn_34 (fun H locs hP hD hS => ?_)
          obtain ⟨f_34, hf_34⟩ : ∃ f9, f9 = (upd f_34 (0 : Int32).toNatClampNeg 0) := ⟨_, rfl⟩
          rw [← hf_34] at hP hD
          have hP : va_P D vwCl [(ch, .inr (0, [.ref aq, .ref sm, .ref tb, .ref ck, .ref cm, .ref le, .ref ne, .ref pr, .ref tr, .ref ln, .int trs, .long lpr])), (tr, .inl (cs 0, 4, .inl f_34))] H := hP
          have hD : va_D A [(ch, .inr (0, [.ref aq, .ref sm, .ref tb, .ref ck, .ref cm, .ref le, .ref ne, .ref pr, .ref tr, .ref ln, .int trs, .long lpr])), (tr, .inl (cs 0, 4, .inl f_34))] := hD
          refine lv_iinc (v := (-1)) (lv' := [(1, .int (-1)), (0, .ref ch)]) hx hb dX0_countOn_35 hl (k := 0) rfl (by decide) (by decide) rfl (fun ls hl => ?_)
          refine lv_goto (tgt := 2) hx hb dX0_countOn_38 (by decide) ?_
          refine lv_iload_n hx hb dX0_countOn_2 rfl (lv_at hl 0 rfl) ?_
          refine lv_if_lt (tgt := 41) hx hb dX0_countOn_3 (by decide) (fun c_3 => ?_) (fun c_3 => absurd c_3 (by decide))
          refine W_sQ hQ ?_
          refine W.widen (k := 0) (n := 0) (Nat.le_of_ble_eq_true rfl) (Nat.le_of_ble_eq_true rfl) ?_
          have hP9 := hP.sub (ws' := [(ch, .inr (0, [.ref aq, .ref sm, .ref tb, .ref ck, .ref cm, .ref le, .ref ne, .ref pr, .ref tr, .ref ln, .int trs, .long lpr])), (tr, .inl (cs 0, 4, .inl f_34))]) [0, 1] rfl
          have hD9 := hD.sub (ws' := [(ch, .inr (0, [.ref aq, .ref sm, .ref tb, .ref ck, .ref cm, .ref le, .ref ne, .ref pr, .ref tr, .ref ln, .int trs, .long lpr])), (tr, .inl (cs 0, 4, .inl f_34))]) [0, 1] (by decide) rfl
          exact W.vret hx hb hr (fun t ht hW => ⟨⟨(), rfl, trivial, ⟨f_34, by rw [ht]; exact hP9, hD9⟩⟩, hS.F ht⟩) hS.2.2 dX0_countOn_41
        · refine lv_aload_n hx hb dX0_countOn_17 rfl (lv_at hl 1 rfl) ?_
          refine va_get (D := D) (ci := 0) (v := .ref tr) (C := RX0) (T := TX0) (N := 12) hx hb hg gwX0 hown hK hP 0 rfl rfl 8 (by decide) (hg _ kw_251) (fun _ h9 => h9) rfl dX0_countOn_18 ?_
          refine lv_iload_n hx hb dX0_countOn_21 rfl (lv_at hl 0 rfl) ?_
          refine lv_dup2_11 hx hb dX0_countOn_22 rfl rfl ?_
          refine va_iald hx hb hK hP 1 0 rfl rfl (show ¬ ((0 : Int32) < 0 ∨ 4 ≤ (0 : Int32).toNatClampNeg) by decide) dX0_countOn_23 ?_
          refine lv_topi (fun z_23 e_23 => ?_)
          refine lv_iconst (v := 1) hx hb dX0_countOn_24 (by decide) ?_
          refine lv_iadd hx hb dX0_countOn_25 ?_
          refine lv_topi (fun z_25 e_25 => ?_)
          refine va_iast hx hb hK hP hD hS 1 0 rfl rfl (show ¬ ((0 : Int32) < 0 ∨ 4 ≤ (0 : Int32).toNatClampNeg) by decide) dX0_countOn_26 (fun H locs hP hD hS => ?_)
          obtain ⟨f_26, hf_26⟩ : ∃ f9, f9 = (upd f_34 (0 : Int32).toNatClampNeg z_25) := ⟨_, rfl⟩
          rw [← hf_26] at hP hD
          have hP : va_P D vwCl [(ch, .inr (0, [.ref aq, .ref sm, .ref tb, .ref ck, .ref cm, .ref le, .ref ne, .ref pr, .ref tr, .ref ln, .int trs, .long lpr])), (tr, .inl (cs 0, 4, .inl f_26))] H := hP
          have hD : va_D A [(ch, .inr (0, [.ref aq, .ref sm, .ref tb, .ref ck, .ref cm, .ref le, .ref ne, .ref pr, .ref tr, .ref ln, .int trs, .long lpr])), (tr, .inl (cs 0, 4, .inl f_26))] := hD
          refine W_sQ hQ ?_
          refine W.widen (k := 0) (n := 0) (Nat.le_of_ble_eq_true rfl) (Nat.le_of_ble_eq_true rfl) ?_
          have hP9 := hP.sub (ws' := [(ch, .inr (0, [.ref aq, .ref sm, .ref tb, .ref ck, .ref cm, .ref le, .ref ne, .ref pr, .ref tr, .ref ln, .int trs, .long lpr])), (tr, .inl (cs 0, 4, .inl f_26))]) [0, 1] rfl
          have hD9 := hD.sub (ws' := [(ch, .inr (0, [.ref aq, .ref sm, .ref tb, .ref ck, .ref cm, .ref le, .ref ne, .ref pr, .ref tr, .ref ln, .int trs, .long lpr])), (tr, .inl (cs 0, 4, .inl f_26))]) [0, 1] (by decide) rfl
          exact W.vret hx hb hr (fun t ht hW => ⟨⟨(), rfl, trivial, ⟨f_26, by rw [ht]; exact hP9, hD9⟩⟩, hS.F ht⟩) hS.2.2 dX0_countOn_27
      · refine lv_aload_n hx hb dX0_countOn_17 rfl (lv_at hl 1 rfl) ?_
        refine va_get (D := D) (ci := 0) (v := .ref tr) (C := RX0) (T := TX0) (N := 12) hx hb hg gwX0 hown hK hP 0 rfl rfl 8 (by decide) (hg _ kw_251) (fun _ h9 => h9) rfl dX0_countOn_18 ?_
        refine lv_iload_n hx hb dX0_countOn_21 rfl (lv_at hl 0 rfl) ?_
        refine lv_dup2_11 hx hb dX0_countOn_22 rfl rfl ?_
        refine va_iald hx hb hK hP 1 0 rfl rfl (show ¬ ((1 : Int32) < 0 ∨ 4 ≤ (1 : Int32).toNatClampNeg) by decide) dX0_countOn_23 ?_
        refine lv_topi (fun z_23 e_23 => ?_)
        refine lv_iconst (v := 1) hx hb dX0_countOn_24 (by decide) ?_
        refine lv_iadd hx hb dX0_countOn_25 ?_
        refine lv_topi (fun z_25 e_25 => ?_)
        refine va_iast hx hb hK hP hD hS 1 0 rfl rfl (show ¬ ((1 : Int32) < 0 ∨ 4 ≤ (1 : Int32).toNatClampNeg) by decide) dX0_countOn_26 (fun H locs hP hD hS => ?_)
        obtain ⟨f_26, hf_26⟩ : ∃ f9, f9 = (upd f_34 (1 : Int32).toNatClampNeg z_25) := ⟨_, rfl⟩
        rw [← hf_26] at hP hD
        have hP : va_P D vwCl [(ch, .inr (0, [.ref aq, .ref sm, .ref tb, .ref ck, .ref cm, .ref le, .ref ne, .ref pr, .ref tr, .ref ln, .int trs, .long lpr])), (tr, .inl (cs 0, 4, .inl f_26))] H := hP
        have hD : va_D A [(ch, .inr (0, [.ref aq, .ref sm, .ref tb, .ref ck, .ref cm, .ref le, .ref ne, .ref pr, .ref tr, .ref ln, .int trs, .long lpr])), (tr, .inl (cs 0, 4, .inl f_26))] := hD
        refine W_sQ hQ ?_
        refine W.widen (k := 0) (n := 0) (Nat.le_of_ble_eq_true rfl) (Nat.le_of_ble_eq_true rfl) ?_
        have hP9 := hP.sub (ws' := [(ch, .inr (0, [.ref aq, .ref sm, .ref tb, .ref ck, .ref cm, .ref le, .ref ne, .ref pr, .ref tr, .ref ln, .int trs, .long lpr])), (tr, .inl (cs 0, 4, .inl f_26))]) [0, 1] rfl
        have hD9 := hD.sub (ws' := [(ch, .inr (0, [.ref aq, .ref sm, .ref tb, .ref ck, .ref cm, .ref le, .ref ne, .ref pr, .ref tr, .ref ln, .int trs, .long lpr])), (tr, .inl (cs 0, 4, .inl f_26))]) [0, 1] (by decide) rfl
        exact W.vret hx hb hr (fun t ht hW => ⟨⟨(), rfl, trivial, ⟨f_26, by rw [ht]; exact hP9, hD9⟩⟩, hS.F ht⟩) hS.2.2 dX0_countOn_27
    · refine lv_aload_n hx hb dX0_countOn_17 rfl (lv_at hl 1 rfl) ?_
      refine va_get (D := D) (ci := 0) (v := .ref tr) (C := RX0) (T := TX0) (N := 12) hx hb hg gwX0 hown hK hP 0 rfl rfl 8 (by decide) (hg _ kw_251) (fun _ h9 => h9) rfl dX0_countOn_18 ?_
      refine lv_iload_n hx hb dX0_countOn_21 rfl (lv_at hl 0 rfl) ?_
      refine lv_dup2_11 hx hb dX0_countOn_22 rfl rfl ?_
      refine va_iald hx hb hK hP 1 0 rfl rfl (show ¬ ((2 : Int32) < 0 ∨ 4 ≤ (2 : Int32).toNatClampNeg) by decide) dX0_countOn_23 ?_
      refine lv_topi (fun z_23 e_23 => ?_)
      refine lv_iconst (v := 1) hx hb dX0_countOn_24 (by decide) ?_
      refine lv_iadd hx hb dX0_countOn_25 ?_
      refine lv_topi (fun z_25 e_25 => ?_)
      refine va_iast hx hb hK hP hD hS 1 0 rfl rfl (show ¬ ((2 : Int32) < 0 ∨ 4 ≤ (2 : Int32).toNatClampNeg) by decide) dX0_countOn_26 (fun H locs hP hD hS => ?_)
      obtain ⟨f_26, hf_26⟩ : ∃ f9, f9 = (upd f_34 (2 : Int32).toNatClampNeg z_25) := ⟨_, rfl⟩
      rw [← hf_26] at hP hD
      have hP : va_P D vwCl [(ch, .inr (0, [.ref aq, .ref sm, .ref tb, .ref ck, .ref cm, .ref le, .ref ne, .ref pr, .ref tr, .ref ln, .int trs, .long lpr])), (tr, .inl (cs 0, 4, .inl f_26))] H := hP
      have hD : va_D A [(ch, .inr (0, [.ref aq, .ref sm, .ref tb, .ref ck, .ref cm, .ref le, .ref ne, .ref pr, .ref tr, .ref ln, .int trs, .long lpr])), (tr, .inl (cs 0, 4, .inl f_26))] := hD
      refine W_sQ hQ ?_
      refine W.widen (k := 0) (n := 0) (Nat.le_of_ble_eq_true rfl) (Nat.le_of_ble_eq_true rfl) ?_
      have hP9 := hP.sub (ws' := [(ch, .inr (0, [.ref aq, .ref sm, .ref tb, .ref ck, .ref cm, .ref le, .ref ne, .ref pr, .ref tr, .ref ln, .int trs, .long lpr])), (tr, .inl (cs 0, 4, .inl f_26))]) [0, 1] rfl
      have hD9 := hD.sub (ws' := [(ch, .inr (0, [.ref aq, .ref sm, .ref tb, .ref ck, .ref cm, .ref le, .ref ne, .ref pr, .ref tr, .ref ln, .int trs, .long lpr])), (tr, .inl (cs 0, 4, .inl f_26))]) [0, 1] (by decide) rfl
      exact W.vret hx hb hr (fun t ht hW => ⟨⟨(), rfl, trivial, ⟨f_26, by rw [ht]; exact hP9, hD9⟩⟩, hS.F ht⟩) hS.2.2 dX0_countOn_27
  · refine lv_aload_n hx hb dX0_countOn_17 rfl (lv_at hl 1 rfl) ?_
    refine va_get (D := D) (ci := 0) (v := .ref tr) (C := RX0) (T := TX0) (N := 12) hx hb hg gwX0 hown hK hP 0 rfl rfl 8 (by decide) (hg _ kw_251) (fun _ h9 => h9) rfl dX0_countOn_18 ?_
    refine lv_iload_n hx hb dX0_countOn_21 rfl (lv_at hl 0 rfl) ?_
    refine lv_dup2_11 hx hb dX0_countOn_22 rfl rfl ?_
    refine va_iald hx hb hK hP 1 0 rfl rfl (show ¬ ((3 : Int32) < 0 ∨ 4 ≤ (3 : Int32).toNatClampNeg) by decide) dX0_countOn_23 ?_
    refine lv_topi (fun z_23 e_23 => ?_)
    refine lv_iconst (v := 1) hx hb dX0_countOn_24 (by decide) ?_
    refine lv_iadd hx hb dX0_countOn_25 ?_
    refine lv_topi (fun z_25 e_25 => ?_)
    refine va_iast hx hb hK hP hD hS 1 0 rfl rfl (show ¬ ((3 : Int32) < 0 ∨ 4 ≤ (3 : Int32).toNatClampNeg) by decide) dX0_countOn_26 (fun H locs hP hD hS => ?_)
    obtain ⟨f_26, hf_26⟩ : ∃ f9, f9 = (upd ftr (3 : Int32).toNatClampNeg z_25) := ⟨_, rfl⟩
    rw [← hf_26] at hP hD
    have hP : va_P D vwCl [(ch, .inr (0, [.ref aq, .ref sm, .ref tb, .ref ck, .ref cm, .ref le, .ref ne, .ref pr, .ref tr, .ref ln, .int trs, .long lpr])), (tr, .inl (cs 0, 4, .inl f_26))] H := hP
    have hD : va_D A [(ch, .inr (0, [.ref aq, .ref sm, .ref tb, .ref ck, .ref cm, .ref le, .ref ne, .ref pr, .ref tr, .ref ln, .int trs, .long lpr])), (tr, .inl (cs 0, 4, .inl f_26))] := hD
    refine W_sQ hQ ?_
    refine W.widen (k := 0) (n := 0) (Nat.le_of_ble_eq_true rfl) (Nat.le_of_ble_eq_true rfl) ?_
    have hP9 := hP.sub (ws' := [(ch, .inr (0, [.ref aq, .ref sm, .ref tb, .ref ck, .ref cm, .ref le, .ref ne, .ref pr, .ref tr, .ref ln, .int trs, .long lpr])), (tr, .inl (cs 0, 4, .inl f_26))]) [0, 1] rfl
    have hD9 := hD.sub (ws' := [(ch, .inr (0, [.ref aq, .ref sm, .ref tb, .ref ck, .ref cm, .ref le, .ref ne, .ref pr, .ref tr, .ref ln, .int trs, .long lpr])), (tr, .inl (cs 0, 4, .inl f_26))]) [0, 1] (by decide) rfl
    exact W.vret hx hb hr (fun t ht hW => ⟨⟨(), rfl, trivial, ⟨f_26, by rw [ht]; exact hP9, hD9⟩⟩, hS.F ht⟩) hS.2.2 dX0_countOn_27

theorem dX0_seekSame_0 : decode cX0_seekSame 0 = .ok (.aload_n 0, 1) := by decide +kernel
theorem dX0_seekSame_1 : decode cX0_seekSame 1 = .ok (.getfield 14, 3) := by decide +kernel
theorem dX0_seekSame_4 : decode cX0_seekSame 4 = .ok (.iconst 1, 1) := by decide +kernel
theorem dX0_seekSame_5 : decode cX0_seekSame 5 = .ok (.iconst 0, 1) := by decide +kernel
theorem dX0_seekSame_6 : decode cX0_seekSame 6 = .ok (.iconst 0, 1) := by decide +kernel
theorem dX0_seekSame_7 : decode cX0_seekSame 7 = .ok (.iconst 0, 1) := by decide +kernel
theorem dX0_seekSame_8 : decode cX0_seekSame 8 = .ok (.invokevirtual 58, 3) := by decide +kernel
theorem dX0_seekSame_11 : decode cX0_seekSame 11 = .ok (.aload_n 0, 1) := by decide +kernel
theorem dX0_seekSame_12 : decode cX0_seekSame 12 = .ok (.aload_n 0, 1) := by decide +kernel
theorem dX0_seekSame_13 : decode cX0_seekSame 13 = .ok (.getfield 14, 3) := by decide +kernel
theorem dX0_seekSame_16 : decode cX0_seekSame 16 = .ok (.aload_n 0, 1) := by decide +kernel
theorem dX0_seekSame_17 : decode cX0_seekSame 17 = .ok (.getfield 54, 3) := by decide +kernel
theorem dX0_seekSame_20 : decode cX0_seekSame 20 = .ok (.getfield 62, 3) := by decide +kernel
theorem dX0_seekSame_23 : decode cX0_seekSame 23 = .ok (.aload_n 0, 1) := by decide +kernel
theorem dX0_seekSame_24 : decode cX0_seekSame 24 = .ok (.getfield 38, 3) := by decide +kernel
theorem dX0_seekSame_27 : decode cX0_seekSame 27 = .ok (.iconst 0, 1) := by decide +kernel
theorem dX0_seekSame_28 : decode cX0_seekSame 28 = .ok (.aaload, 1) := by decide +kernel
theorem dX0_seekSame_29 : decode cX0_seekSame 29 = .ok (.invokevirtual 67, 3) := by decide +kernel
theorem dX0_seekSame_32 : decode cX0_seekSame 32 = .ok (.aload_n 0, 1) := by decide +kernel
theorem dX0_seekSame_33 : decode cX0_seekSame 33 = .ok (.aload_n 0, 1) := by decide +kernel
theorem dX0_seekSame_34 : decode cX0_seekSame 34 = .ok (.getfield 14, 3) := by decide +kernel
theorem dX0_seekSame_37 : decode cX0_seekSame 37 = .ok (.invokevirtual 71, 3) := by decide +kernel
theorem dX0_seekSame_40 : decode cX0_seekSame 40 = .ok (.iconst 0, 1) := by decide +kernel
theorem dX0_seekSame_41 : decode cX0_seekSame 41 = .ok (.istore_n 1, 1) := by decide +kernel
theorem dX0_seekSame_42 : decode cX0_seekSame 42 = .ok (.iload_n 1, 1) := by decide +kernel
theorem dX0_seekSame_43 : decode cX0_seekSame 43 = .ok (.sipush 999, 3) := by decide +kernel
theorem dX0_seekSame_46 : decode cX0_seekSame 46 = .ok (.if_icmp .gt 26, 3) := by decide +kernel
theorem dX0_seekSame_49 : decode cX0_seekSame 49 = .ok (.aload_n 0, 1) := by decide +kernel
theorem dX0_seekSame_50 : decode cX0_seekSame 50 = .ok (.getfield 47, 3) := by decide +kernel
theorem dX0_seekSame_53 : decode cX0_seekSame 53 = .ok (.iconst 0, 1) := by decide +kernel
theorem dX0_seekSame_54 : decode cX0_seekSame 54 = .ok (.iload_n 1, 1) := by decide +kernel
theorem dX0_seekSame_55 : decode cX0_seekSame 55 = .ok (.iastore, 1) := by decide +kernel
theorem dX0_seekSame_56 : decode cX0_seekSame 56 = .ok (.aload_n 0, 1) := by decide +kernel
theorem dX0_seekSame_57 : decode cX0_seekSame 57 = .ok (.iconst 1, 1) := by decide +kernel
theorem dX0_seekSame_58 : decode cX0_seekSame 58 = .ok (.invokevirtual 75, 3) := by decide +kernel
theorem dX0_seekSame_61 : decode cX0_seekSame 61 = .ok (.ifCond .eq 5, 3) := by decide +kernel
theorem dX0_seekSame_64 : decode cX0_seekSame 64 = .ok (.iload_n 1, 1) := by decide +kernel
theorem dX0_seekSame_65 : decode cX0_seekSame 65 = .ok (.ireturn, 1) := by decide +kernel
theorem dX0_seekSame_66 : decode cX0_seekSame 66 = .ok (.iinc 1 1, 3) := by decide +kernel
theorem dX0_seekSame_69 : decode cX0_seekSame 69 = .ok (.goto (-27), 3) := by decide +kernel
theorem dX0_seekSame_72 : decode cX0_seekSame 72 = .ok (.iconst (-1), 1) := by decide +kernel
theorem dX0_seekSame_73 : decode cX0_seekSame 73 = .ok (.ireturn, 1) := by decide +kernel
theorem kw_258 : (.fieldLink RX0 14 "NobodyChecks$Cheapest" "same" "LNobodyChecks$Same;" : Cond) ∈ gw_tbl := gw_in (by decide +kernel) (by decide +kernel)
theorem kw_259 : (.code yX3_become cX3_become 5 none : Cond) ∈ gw_tbl := gw_in (by decide +kernel) (by decide +kernel)
theorem kw_260 : (.methodLink RX0 58 ⟨"NobodyChecks$Same", "become", "(IIII)V"⟩ : Cond) ∈ gw_tbl := gw_in (by decide +kernel) (by decide +kernel)
theorem kw_261 : (.sameMethod "NobodyChecks$Same" "NobodyChecks$Pay" "become" "(IIII)V" : Cond) ∈ gw_tbl := gw_in (by decide +kernel) (by decide +kernel)
theorem kw_262 : (.selects RX9 (⟨"NobodyChecks$Same", "become", "(IIII)V"⟩) yX3_become : Cond) ∈ gw_tbl := gw_in (by decide +kernel) (by decide +kernel)
theorem kw_263 : (.instanceMethod yX3_become : Cond) ∈ gw_tbl := gw_in (by decide +kernel) (by decide +kernel)
theorem kw_264 : (.code yX0_fillLeads cX0_fillLeads 10 none : Cond) ∈ gw_tbl := gw_in (by decide +kernel) (by decide +kernel)
theorem kw_265 : (.methodLink RX0 67 yX0_fillLeads : Cond) ∈ gw_tbl := gw_in (by decide +kernel) (by decide +kernel)
theorem kw_266 : (.instanceMethod yX0_fillLeads : Cond) ∈ gw_tbl := gw_in (by decide +kernel) (by decide +kernel)
theorem kw_267 : (.selects RX0 yX0_fillLeads yX0_fillLeads : Cond) ∈ gw_tbl := gw_in (by decide +kernel) (by decide +kernel)
theorem kw_268 : (.initialized RX0 : Cond) ∈ gw_tbl := gw_in (by decide +kernel) (by decide +kernel)
theorem kw_269 : (.code yX0_fillNeeds cX0_fillNeeds 6 none : Cond) ∈ gw_tbl := gw_in (by decide +kernel) (by decide +kernel)
theorem kw_270 : (.methodLink RX0 71 yX0_fillNeeds : Cond) ∈ gw_tbl := gw_in (by decide +kernel) (by decide +kernel)
theorem kw_271 : (.instanceMethod yX0_fillNeeds : Cond) ∈ gw_tbl := gw_in (by decide +kernel) (by decide +kernel)
theorem kw_272 : (.selects RX0 yX0_fillNeeds yX0_fillNeeds : Cond) ∈ gw_tbl := gw_in (by decide +kernel) (by decide +kernel)
theorem kw_273 : (.code yX0_triedRests cX0_triedRests 7 (some .boolean) : Cond) ∈ gw_tbl := gw_in (by decide +kernel) (by decide +kernel)
theorem kw_274 : (.methodLink RX0 75 yX0_triedRests : Cond) ∈ gw_tbl := gw_in (by decide +kernel) (by decide +kernel)
theorem kw_275 : (.instanceMethod yX0_triedRests : Cond) ∈ gw_tbl := gw_in (by decide +kernel) (by decide +kernel)
theorem kw_276 : (.selects RX0 yX0_triedRests yX0_triedRests : Cond) ∈ gw_tbl := gw_in (by decide +kernel) (by decide +kernel)

set_option maxHeartbeats 4000000 in
set_option maxRecDepth 100000 in
theorem h_seekSame (l : Launch) (D : va_G) (cs : Nat → ClassId) (ch : Nat) (sm : Nat) (tb : Nat) (ck : Nat) (cm : Nat) (le : Nat) (ne : Nat) (pr : Nat) (tr : Nat) (ln : Nat) (trs : Int32) (lpr : Int64) (smn : Nat) (fsm : Nat → Int32) (aq : Nat) (aw : Nat) (ac : Nat) (ao : Nat) (am : Nat) (C : Nat) (hC5 : C ≤ 5) (P : Nat) (hP4 : P ≤ 4) (tot : Int64) (fao : Nat → Int32) (fam : Nat → Int64) (lr : Nat → Nat) (flr : Nat → Nat → Int64) (fne : Nat → Int64) (ftr : Nat → Int32) (sz : Nat) : Met l yX0_seekSame (Cond.code yX0_seekSame cX0_seekSame 2 (some .int) :: gw_tbl) ({ frames := 4, cells := 0, slots := 0, locals := 115 }) (pc_M D cs [(ch, .inr (0, [.ref aq, .ref sm, .ref tb, .ref ck, .ref cm, .ref le, .ref ne, .ref pr, .ref tr, .ref ln, .int trs, .long lpr])), (sm, .inr (9, [.ref smn, .null, .int 0])), (smn, .inl (cs 0, 4, .inl fsm)), (aq, .inr (5, [.ref aw, .ref ac, .ref ao, .ref am, .int (nI C), .int (nI P), .long tot])), (ao, .inl (cs 0, 4, .inl fao)), (am, .inl (cs 1, 16, .inr (.inl fam))), (le, .inl (cs 5, 4, .inr (.inr (.inr (.inr (rowsF 4 lr)))))), ((lr 0), .inl (cs 1, 12, .inr (.inl (flr 0)))), ((lr 1), .inl (cs 1, 12, .inr (.inl (flr 1)))), ((lr 2), .inl (cs 1, 12, .inr (.inl (flr 2)))), ((lr 3), .inl (cs 1, 12, .inr (.inl (flr 3)))), (ne, .inl (cs 1, 12, .inr (.inl fne))), (tr, .inl (cs 0, 4, .inl ftr))] sz [.ref ch]) (va_Qi (fun (r : Int32) (u : Unit) => True) (fun u t => ∃ (fsm2 : Nat → Int32), ∃ (ftr2 : Nat → Int32), ∃ (fne2 : Nat → Int64), ∃ (flr2 : Nat → Nat → Int64), va_P D vwCl [(ch, .inr (0, [.ref aq, .ref sm, .ref tb, .ref ck, .ref cm, .ref le, .ref ne, .ref pr, .ref tr, .ref ln, .int trs, .long lpr])), (sm, .inr (9, [.ref smn, .null, .int 0])), (smn, .inl (cs 0, 4, .inl fsm2)), (aq, .inr (5, [.ref aw, .ref ac, .ref ao, .ref am, .int (nI C), .int (nI P), .long tot])), (ao, .inl (cs 0, 4, .inl fao)), (am, .inl (cs 1, 16, .inr (.inl fam))), (le, .inl (cs 5, 4, .inr (.inr (.inr (.inr (rowsF 4 lr)))))), ((lr 0), .inl (cs 1, 12, .inr (.inl (flr2 0)))), ((lr 1), .inl (cs 1, 12, .inr (.inl (flr2 1)))), ((lr 2), .inl (cs 1, 12, .inr (.inl (flr2 2)))), ((lr 3), .inl (cs 1, 12, .inr (.inl (flr2 3)))), (ne, .inl (cs 1, 12, .inr (.inl fne2))), (tr, .inl (cs 0, 4, .inl ftr2))] t.heap ∧ va_D (va_A [(ch, .inr (0, [.ref aq, .ref sm, .ref tb, .ref ck, .ref cm, .ref le, .ref ne, .ref pr, .ref tr, .ref ln, .int trs, .long lpr])), (sm, .inr (9, [.ref smn, .null, .int 0])), (smn, .inl (cs 0, 4, .inl fsm)), (aq, .inr (5, [.ref aw, .ref ac, .ref ao, .ref am, .int (nI C), .int (nI P), .long tot])), (ao, .inl (cs 0, 4, .inl fao)), (am, .inl (cs 1, 16, .inr (.inl fam))), (le, .inl (cs 5, 4, .inr (.inr (.inr (.inr (rowsF 4 lr)))))), ((lr 0), .inl (cs 1, 12, .inr (.inl (flr 0)))), ((lr 1), .inl (cs 1, 12, .inr (.inl (flr 1)))), ((lr 2), .inl (cs 1, 12, .inr (.inl (flr 2)))), ((lr 3), .inl (cs 1, 12, .inr (.inl (flr 3)))), (ne, .inl (cs 1, 12, .inr (.inl fne))), (tr, .inl (cs 0, 4, .inl ftr))] sz) [(ch, .inr (0, [.ref aq, .ref sm, .ref tb, .ref ck, .ref cm, .ref le, .ref ne, .ref pr, .ref tr, .ref ln, .int trs, .long lpr])), (sm, .inr (9, [.ref smn, .null, .int 0])), (smn, .inl (cs 0, 4, .inl fsm2)), (aq, .inr (5, [.ref aw, .ref ac, .ref ao, .ref am, .int (nI C), .int (nI P), .long tot])), (ao, .inl (cs 0, 4, .inl fao)), (am, .inl (cs 1, 16, .inr (.inl fam))), (le, .inl (cs 5, 4, .inr (.inr (.inr (.inr (rowsF 4 lr)))))), ((lr 0), .inl (cs 1, 12, .inr (.inl (flr2 0)))), ((lr 1), .inl (cs 1, 12, .inr (.inl (flr2 1)))), ((lr 2), .inl (cs 1, 12, .inr (.inl (flr2 2)))), ((lr 3), .inl (cs 1, 12, .inr (.inl (flr2 3)))), (ne, .inl (cs 1, 12, .inr (.inl fne2))), (tr, .inl (cs 0, 4, .inl ftr2))]) (va_A [(ch, .inr (0, [.ref aq, .ref sm, .ref tb, .ref ck, .ref cm, .ref le, .ref ne, .ref pr, .ref tr, .ref ln, .int trs, .long lpr])), (sm, .inr (9, [.ref smn, .null, .int 0])), (smn, .inl (cs 0, 4, .inl fsm)), (aq, .inr (5, [.ref aw, .ref ac, .ref ao, .ref am, .int (nI C), .int (nI P), .long tot])), (ao, .inl (cs 0, 4, .inl fao)), (am, .inl (cs 1, 16, .inr (.inl fam))), (le, .inl (cs 5, 4, .inr (.inr (.inr (.inr (rowsF 4 lr)))))), ((lr 0), .inl (cs 1, 12, .inr (.inl (flr 0)))), ((lr 1), .inl (cs 1, 12, .inr (.inl (flr 1)))), ((lr 2), .inl (cs 1, 12, .inr (.inl (flr 2)))), ((lr 3), .inl (cs 1, 12, .inr (.inl (flr 3)))), (ne, .inl (cs 1, 12, .inr (.inl fne))), (tr, .inl (cs 0, 4, .inl ftr))] sz)) 0 0 (va_A [(ch, .inr (0, [.ref aq, .ref sm, .ref tb, .ref ck, .ref cm, .ref le, .ref ne, .ref pr, .ref tr, .ref ln, .int trs, .long lpr])), (sm, .inr (9, [.ref smn, .null, .int 0])), (smn, .inl (cs 0, 4, .inl fsm)), (aq, .inr (5, [.ref aw, .ref ac, .ref ao, .ref am, .int (nI C), .int (nI P), .long tot])), (ao, .inl (cs 0, 4, .inl fao)), (am, .inl (cs 1, 16, .inr (.inl fam))), (le, .inl (cs 5, 4, .inr (.inr (.inr (.inr (rowsF 4 lr)))))), ((lr 0), .inl (cs 1, 12, .inr (.inl (flr 0)))), ((lr 1), .inl (cs 1, 12, .inr (.inl (flr 1)))), ((lr 2), .inl (cs 1, 12, .inr (.inl (flr 2)))), ((lr 3), .inl (cs 1, 12, .inr (.inl (flr 3)))), (ne, .inl (cs 1, 12, .inr (.inl fne))), (tr, .inl (cs 0, 4, .inl ftr))] sz) := by
  refine Met.ofW (cc := cX0_seekSame) (maxL := 2) (ret := (some .int)) (by decide) rfl ?_
  intro p e s m args below meth c s₁ B hml hv
  obtain ⟨hargs, hsz, hP, hK, hD0⟩ := hv
  have hx := B.exec
  have hb := B.bytes
  have hr := B.returns
  have hts := atoms_spec (ws := Cond.code yX0_seekSame cX0_seekSame 2 (some .int) :: gw_tbl) B.pre
  have hg := fun (w : Cond) (h : w ∈ gw_tbl) => hts w (List.mem_cons_of_mem _ h)
  have hown : s.vm.findClass RX0 = some m.cls := findClass_of_methodNamed B.named
  have hlocks := B.notSynchronized
  subst hsz
  have hD := hD0.self (sz := s.heap.size)
  generalize hAe : va_A [(ch, .inr (0, [.ref aq, .ref sm, .ref tb, .ref ck, .ref cm, .ref le, .ref ne, .ref pr, .ref tr, .ref ln, .int trs, .long lpr])), (sm, .inr (9, [.ref smn, .null, .int 0])), (smn, .inl (cs 0, 4, .inl fsm)), (aq, .inr (5, [.ref aw, .ref ac, .ref ao, .ref am, .int (nI C), .int (nI P), .long tot])), (ao, .inl (cs 0, 4, .inl fao)), (am, .inl (cs 1, 16, .inr (.inl fam))), (le, .inl (cs 5, 4, .inr (.inr (.inr (.inr (rowsF 4 lr)))))), ((lr 0), .inl (cs 1, 12, .inr (.inl (flr 0)))), ((lr 1), .inl (cs 1, 12, .inr (.inl (flr 1)))), ((lr 2), .inl (cs 1, 12, .inr (.inl (flr 2)))), ((lr 3), .inl (cs 1, 12, .inr (.inl (flr 3)))), (ne, .inl (cs 1, 12, .inr (.inl fne))), (tr, .inl (cs 0, 4, .inl ftr))] s.heap.size = A at hD ⊢
  have hA : ∀ q : Nat, s.heap.size ≤ q → A q := fun q h => by rw [← hAe]; exact Or.inr h
  have hS : va_S A s.heap s.heap [] := va_S.rf
  have hP : va_P D vwCl [(ch, .inr (0, [.ref aq, .ref sm, .ref tb, .ref ck, .ref cm, .ref le, .ref ne, .ref pr, .ref tr, .ref ln, .int trs, .long lpr])), (sm, .inr (9, [.ref smn, .null, .int 0])), (smn, .inl (cs 0, 4, .inl fsm)), (aq, .inr (5, [.ref aw, .ref ac, .ref ao, .ref am, .int (nI C), .int (nI P), .long tot])), (ao, .inl (cs 0, 4, .inl fao)), (am, .inl (cs 1, 16, .inr (.inl fam))), (le, .inl (cs 5, 4, .inr (.inr (.inr (.inr (rowsF 4 lr)))))), ((lr 0), .inl (cs 1, 12, .inr (.inl (flr 0)))), ((lr 1), .inl (cs 1, 12, .inr (.inl (flr 1)))), ((lr 2), .inl (cs 1, 12, .inr (.inl (flr 2)))), ((lr 3), .inl (cs 1, 12, .inr (.inl (flr 3)))), (ne, .inl (cs 1, 12, .inr (.inl fne))), (tr, .inl (cs 0, 4, .inl ftr))] s.heap := hP
  have hl := lv_entry ([.ref ch]) (n := 2) (Nat.le_of_ble_eq_true rfl)
  rw [show entryFrame m args 2 = F0 m 0 (lg_sl ([.ref ch]) ++ List.replicate (2 - (lg_sl ([.ref ch])).length) Slot.unset).toArray [] from by rw [hargs]; exact lg_entry_eq ..]
  generalize (lg_sl ([.ref ch]) ++ List.replicate (2 - (lg_sl ([.ref ch])).length) Slot.unset).toArray = ls at hl ⊢
  have hl : lv_has ls 2 [(0, .ref ch)] := hl
  refine W_genQ (fun Q hQ => ?_)
  have hlm := lim_le hP4
  have hlq := lim_pos P
  have hsg := sgn_le hP4
  refine lv_aload_n hx hb dX0_seekSame_0 rfl (lv_at hl 0 rfl) ?_
  refine va_get (D := D) (ci := 0) (v := .ref sm) (C := RX0) (T := TX0) (N := 12) hx hb hg gwX0 hown hK hP 0 rfl rfl 1 (by decide) (hg _ kw_258) (fun _ h9 => h9) rfl dX0_seekSame_1 ?_
  refine lv_iconst (v := 1) hx hb dX0_seekSame_4 (by decide) ?_
  refine lv_iconst (v := 0) hx hb dX0_seekSame_5 (by decide) ?_
  refine lv_iconst (v := 0) hx hb dX0_seekSame_6 (by decide) ?_
  refine lv_iconst (v := 0) hx hb dX0_seekSame_7 (by decide) ?_
  have hPc := hP.sub (ws' := [(sm, .inr (9, [.ref smn, .null, .int 0])), (smn, .inl (cs 0, 4, .inl fsm))]) [1, 2] rfl
  have hDc := hD.sub (ws' := [(sm, .inr (9, [.ref smn, .null, .int 0])), (smn, .inl (cs 0, 4, .inl fsm))]) [1, 2] (by decide) rfl
  have hFc := va_free (wc := [(sm, .inr (9, [.ref smn, .null, .int 0])), (smn, .inl (cs 0, 4, .inl fsm))]) hD hS hA [1, 2] rfl
  refine va_callv (va_runU (As := [.int 1, .int 0, .int 0, .int 0]) (rest := []) ⟨hx, hb, hml, hown, hg⟩ (p_become_9 l D cs sm smn .null 0 fsm 1 0 0 0 _) (va_cwU (owner := "NobodyChecks$Pay") (x := ⟨"NobodyChecks$Same", "become", "(IIII)V"⟩) 4 hg (gw_U kw_260 kw_261 kw_262 kw_263 kw_151 kw_259) rfl rfl rfl rfl (by decide +kernel) ⟨(Nat.le_of_ble_eq_true rfl), (Nat.le_of_ble_eq_true rfl)⟩) (pr_MV (q := (RX9, TX9, 3)) 9 0 hK hPc hDc rfl rfl) rfl rfl hl.1 rfl (lv_room (Nat.le_of_ble_eq_true rfl)) dX0_seekSame_8 ⟨(Nat.le_of_ble_eq_true rfl), (Nat.le_of_ble_eq_true rfl)⟩) hS (fun q _ h => hFc q h) hFc (fun u t H1 locs ht hvm h_8 hB hz1 hk1 hS => ?_)
  obtain ⟨fq2_8, hq2_8, hP1, hD1⟩ := hB
  rw [ht] at hP1
  obtain ⟨hP, hD⟩ := va_join (wr := [(ch, .inr (0, [.ref aq, .ref sm, .ref tb, .ref ck, .ref cm, .ref le, .ref ne, .ref pr, .ref tr, .ref ln, .int trs, .long lpr])), (aq, .inr (5, [.ref aw, .ref ac, .ref ao, .ref am, .int (nI C), .int (nI P), .long tot])), (ao, .inl (cs 0, 4, .inl fao)), (am, .inl (cs 1, 16, .inr (.inl fam))), (le, .inl (cs 5, 4, .inr (.inr (.inr (.inr (rowsF 4 lr)))))), ((lr 0), .inl (cs 1, 12, .inr (.inl (flr 0)))), ((lr 1), .inl (cs 1, 12, .inr (.inl (flr 1)))), ((lr 2), .inl (cs 1, 12, .inr (.inl (flr 2)))), ((lr 3), .inl (cs 1, 12, .inr (.inl (flr 3)))), (ne, .inl (cs 1, 12, .inr (.inl fne))), (tr, .inl (cs 0, 4, .inl ftr))]) (w1 := [(sm, .inr (9, [.ref smn, .null, .int 0])), (smn, .inl (cs 0, 4, .inl fq2_8))]) hP hD [1, 2] [0, 3, 4, 5, 6, 7, 8, 9, 10, 11, 12] rfl rfl (by decide) (by decide) hk1 hFc hP1 hD1
  generalize H1 = H at hP hS ⊢
  have hP : va_P D vwCl [(ch, .inr (0, [.ref aq, .ref sm, .ref tb, .ref ck, .ref cm, .ref le, .ref ne, .ref pr, .ref tr, .ref ln, .int trs, .long lpr])), (aq, .inr (5, [.ref aw, .ref ac, .ref ao, .ref am, .int (nI C), .int (nI P), .long tot])), (ao, .inl (cs 0, 4, .inl fao)), (am, .inl (cs 1, 16, .inr (.inl fam))), (le, .inl (cs 5, 4, .inr (.inr (.inr (.inr (rowsF 4 lr)))))), ((lr 0), .inl (cs 1, 12, .inr (.inl (flr 0)))), ((lr 1), .inl (cs 1, 12, .inr (.inl (flr 1)))), ((lr 2), .inl (cs 1, 12, .inr (.inl (flr 2)))), ((lr 3), .inl (cs 1, 12, .inr (.inl (flr 3)))), (ne, .inl (cs 1, 12, .inr (.inl fne))), (tr, .inl (cs 0, 4, .inl ftr)), (sm, .inr (9, [.ref smn, .null, .int 0])), (smn, .inl (cs 0, 4, .inl fq2_8))] H := hP
  have hD : va_D A [(ch, .inr (0, [.ref aq, .ref sm, .ref tb, .ref ck, .ref cm, .ref le, .ref ne, .ref pr, .ref tr, .ref ln, .int trs, .long lpr])), (aq, .inr (5, [.ref aw, .ref ac, .ref ao, .ref am, .int (nI C), .int (nI P), .long tot])), (ao, .inl (cs 0, 4, .inl fao)), (am, .inl (cs 1, 16, .inr (.inl fam))), (le, .inl (cs 5, 4, .inr (.inr (.inr (.inr (rowsF 4 lr)))))), ((lr 0), .inl (cs 1, 12, .inr (.inl (flr 0)))), ((lr 1), .inl (cs 1, 12, .inr (.inl (flr 1)))), ((lr 2), .inl (cs 1, 12, .inr (.inl (flr 2)))), ((lr 3), .inl (cs 1, 12, .inr (.inl (flr 3)))), (ne, .inl (cs 1, 12, .inr (.inl fne))), (tr, .inl (cs 0, 4, .inl ftr)), (sm, .inr (9, [.ref smn, .null, .int 0])), (smn, .inl (cs 0, 4, .inl fq2_8))] := hD
  refine W.cs (cells' := 0) (slots' := 0) rfl rfl ?_
  refine lv_aload_n hx hb dX0_seekSame_11 rfl (lv_at hl 0 rfl) ?_
  refine lv_aload_n hx hb dX0_seekSame_12 rfl (lv_at hl 0 rfl) ?_
  refine va_get (D := D) (ci := 0) (v := .ref sm) (C := RX0) (T := TX0) (N := 12) hx hb hg gwX0 hown hK hP 0 rfl rfl 1 (by decide) (hg _ kw_258) (fun _ h9 => h9) rfl dX0_seekSame_13 ?_
  refine lv_aload_n hx hb dX0_seekSame_16 rfl (lv_at hl 0 rfl) ?_
  refine va_get (D := D) (ci := 0) (v := .ref aq) (C := RX0) (T := TX0) (N := 12) hx hb hg gwX0 hown hK hP 0 rfl rfl 0 (by decide) (hg _ kw_244) (fun _ h9 => h9) rfl dX0_seekSame_17 ?_
  refine va_get (D := D) (ci := 5) (v := .ref am) (C := RX5) (T := TX5) (N := 7) hx hb hg gwX5 hown hK hP 1 rfl rfl 3 (by decide) (hg _ kw_253) (fun _ h9 => h9) rfl dX0_seekSame_20 ?_
  refine lv_aload_n hx hb dX0_seekSame_23 rfl (lv_at hl 0 rfl) ?_
  refine va_get (D := D) (ci := 0) (v := .ref le) (C := RX0) (T := TX0) (N := 12) hx hb hg gwX0 hown hK hP 0 rfl rfl 5 (by decide) (hg _ kw_252) (fun _ h9 => h9) rfl dX0_seekSame_24 ?_
  refine lv_iconst (v := 0) hx hb dX0_seekSame_27 (by decide) ?_
  refine va_aldR (k := 0) hx hb hK hP 4 5 rfl rfl (show 0 < 4 by omega) (by decide) dX0_seekSame_28 ?_
  have hPc := hP.sub (ws' := [(ch, .inr (0, [.ref aq, .ref sm, .ref tb, .ref ck, .ref cm, .ref le, .ref ne, .ref pr, .ref tr, .ref ln, .int trs, .long lpr])), (sm, .inr (9, [.ref smn, .null, .int 0])), (smn, .inl (cs 0, 4, .inl fq2_8)), (aq, .inr (5, [.ref aw, .ref ac, .ref ao, .ref am, .int (nI C), .int (nI P), .long tot])), (am, .inl (cs 1, 16, .inr (.inl fam))), ((lr 0), .inl (cs 1, 12, .inr (.inl (flr 0))))]) [0, 11, 12, 1, 3, 5] rfl
  have hDc := hD.sub (ws' := [(ch, .inr (0, [.ref aq, .ref sm, .ref tb, .ref ck, .ref cm, .ref le, .ref ne, .ref pr, .ref tr, .ref ln, .int trs, .long lpr])), (sm, .inr (9, [.ref smn, .null, .int 0])), (smn, .inl (cs 0, 4, .inl fq2_8)), (aq, .inr (5, [.ref aw, .ref ac, .ref ao, .ref am, .int (nI C), .int (nI P), .long tot])), (am, .inl (cs 1, 16, .inr (.inl fam))), ((lr 0), .inl (cs 1, 12, .inr (.inl (flr 0))))]) [0, 11, 12, 1, 3, 5] (by decide) rfl
  have hFc := va_free (wc := [(ch, .inr (0, [.ref aq, .ref sm, .ref tb, .ref ck, .ref cm, .ref le, .ref ne, .ref pr, .ref tr, .ref ln, .int trs, .long lpr])), (sm, .inr (9, [.ref smn, .null, .int 0])), (smn, .inl (cs 0, 4, .inl fq2_8)), (aq, .inr (5, [.ref aw, .ref ac, .ref ao, .ref am, .int (nI C), .int (nI P), .long tot])), (am, .inl (cs 1, 16, .inr (.inl fam))), ((lr 0), .inl (cs 1, 12, .inr (.inl (flr 0))))]) hD hS hA [0, 11, 12, 1, 3, 5] rfl
  refine va_callv (va_runV (As := [.ref sm, .ref am, .ref (lr 0)]) (rest := []) ⟨hx, hb, hml, hown, hg⟩ (h_fillLeads l D cs ch sm tb ck cm le ne pr tr ln trs lpr sm smn .null 0 9 (by unfold isPy; omega) fq2_8 aq aw ac ao am C (by omega) P (by omega) tot am (lr 0) fam (flr 0) _) (cwV 3 hg (gw_V kw_265 kw_266 kw_267 kw_268 kw_264) rfl rfl rfl (by decide +kernel) ⟨(Nat.le_of_ble_eq_true rfl), (Nat.le_of_ble_eq_true rfl)⟩) (pr_MV (q := (RX0, TX0, 12)) 0 0 hK hPc hDc rfl rfl) rfl rfl hl.1 rfl (lv_room (Nat.le_of_ble_eq_true rfl)) dX0_seekSame_29 ⟨(Nat.le_of_ble_eq_true rfl), (Nat.le_of_ble_eq_true rfl)⟩) hS (fun q _ h => hFc q h) hFc (fun u t H1 locs ht hvm h_29 hB hz1 hk1 hS => ?_)
  obtain ⟨ffd2_29, hP1, hD1⟩ := hB
  rw [ht] at hP1
  obtain ⟨hP, hD⟩ := va_join (wr := [(ao, .inl (cs 0, 4, .inl fao)), (le, .inl (cs 5, 4, .inr (.inr (.inr (.inr (rowsF 4 lr)))))), ((lr 1), .inl (cs 1, 12, .inr (.inl (flr 1)))), ((lr 2), .inl (cs 1, 12, .inr (.inl (flr 2)))), ((lr 3), .inl (cs 1, 12, .inr (.inl (flr 3)))), (ne, .inl (cs 1, 12, .inr (.inl fne))), (tr, .inl (cs 0, 4, .inl ftr))]) (w1 := [(ch, .inr (0, [.ref aq, .ref sm, .ref tb, .ref ck, .ref cm, .ref le, .ref ne, .ref pr, .ref tr, .ref ln, .int trs, .long lpr])), (sm, .inr (9, [.ref smn, .null, .int 0])), (smn, .inl (cs 0, 4, .inl fq2_8)), (aq, .inr (5, [.ref aw, .ref ac, .ref ao, .ref am, .int (nI C), .int (nI P), .long tot])), (am, .inl (cs 1, 16, .inr (.inl fam))), ((lr 0), .inl (cs 1, 12, .inr (.inl ffd2_29)))]) hP hD [0, 11, 12, 1, 3, 5] [2, 4, 6, 7, 8, 9, 10] rfl rfl (by decide) (by decide) hk1 hFc hP1 hD1
  generalize H1 = H at hP hS ⊢
  have hP : va_P D vwCl [(ao, .inl (cs 0, 4, .inl fao)), (le, .inl (cs 5, 4, .inr (.inr (.inr (.inr (rowsF 4 lr)))))), ((lr 1), .inl (cs 1, 12, .inr (.inl (flr 1)))), ((lr 2), .inl (cs 1, 12, .inr (.inl (flr 2)))), ((lr 3), .inl (cs 1, 12, .inr (.inl (flr 3)))), (ne, .inl (cs 1, 12, .inr (.inl fne))), (tr, .inl (cs 0, 4, .inl ftr)), (ch, .inr (0, [.ref aq, .ref sm, .ref tb, .ref ck, .ref cm, .ref le, .ref ne, .ref pr, .ref tr, .ref ln, .int trs, .long lpr])), (sm, .inr (9, [.ref smn, .null, .int 0])), (smn, .inl (cs 0, 4, .inl fq2_8)), (aq, .inr (5, [.ref aw, .ref ac, .ref ao, .ref am, .int (nI C), .int (nI P), .long tot])), (am, .inl (cs 1, 16, .inr (.inl fam))), ((lr 0), .inl (cs 1, 12, .inr (.inl ffd2_29)))] H := hP
  have hD : va_D A [(ao, .inl (cs 0, 4, .inl fao)), (le, .inl (cs 5, 4, .inr (.inr (.inr (.inr (rowsF 4 lr)))))), ((lr 1), .inl (cs 1, 12, .inr (.inl (flr 1)))), ((lr 2), .inl (cs 1, 12, .inr (.inl (flr 2)))), ((lr 3), .inl (cs 1, 12, .inr (.inl (flr 3)))), (ne, .inl (cs 1, 12, .inr (.inl fne))), (tr, .inl (cs 0, 4, .inl ftr)), (ch, .inr (0, [.ref aq, .ref sm, .ref tb, .ref ck, .ref cm, .ref le, .ref ne, .ref pr, .ref tr, .ref ln, .int trs, .long lpr])), (sm, .inr (9, [.ref smn, .null, .int 0])), (smn, .inl (cs 0, 4, .inl fq2_8)), (aq, .inr (5, [.ref aw, .ref ac, .ref ao, .ref am, .int (nI C), .int (nI P), .long tot])), (am, .inl (cs 1, 16, .inr (.inl fam))), ((lr 0), .inl (cs 1, 12, .inr (.inl ffd2_29)))] := hD
  refine W.cs (cells' := 0) (slots' := 0) rfl rfl ?_
  obtain ⟨frlr_29, hfrlr_29⟩ : ∃ f9, f9 = va_up flr 0 ffd2_29 := ⟨_, rfl⟩
  have hP : va_P D vwCl [(ao, .inl (cs 0, 4, .inl fao)), (le, .inl (cs 5, 4, .inr (.inr (.inr (.inr (rowsF 4 lr)))))), ((lr 1), .inl (cs 1, 12, .inr (.inl (frlr_29 1)))), ((lr 2), .inl (cs 1, 12, .inr (.inl (frlr_29 2)))), ((lr 3), .inl (cs 1, 12, .inr (.inl (frlr_29 3)))), (ne, .inl (cs 1, 12, .inr (.inl fne))), (tr, .inl (cs 0, 4, .inl ftr)), (ch, .inr (0, [.ref aq, .ref sm, .ref tb, .ref ck, .ref cm, .ref le, .ref ne, .ref pr, .ref tr, .ref ln, .int trs, .long lpr])), (sm, .inr (9, [.ref smn, .null, .int 0])), (smn, .inl (cs 0, 4, .inl fq2_8)), (aq, .inr (5, [.ref aw, .ref ac, .ref ao, .ref am, .int (nI C), .int (nI P), .long tot])), (am, .inl (cs 1, 16, .inr (.inl fam))), ((lr 0), .inl (cs 1, 12, .inr (.inl (frlr_29 0))))] H := by rw [hfrlr_29]; exact hP
  have hD : va_D A [(ao, .inl (cs 0, 4, .inl fao)), (le, .inl (cs 5, 4, .inr (.inr (.inr (.inr (rowsF 4 lr)))))), ((lr 1), .inl (cs 1, 12, .inr (.inl (frlr_29 1)))), ((lr 2), .inl (cs 1, 12, .inr (.inl (frlr_29 2)))), ((lr 3), .inl (cs 1, 12, .inr (.inl (frlr_29 3)))), (ne, .inl (cs 1, 12, .inr (.inl fne))), (tr, .inl (cs 0, 4, .inl ftr)), (ch, .inr (0, [.ref aq, .ref sm, .ref tb, .ref ck, .ref cm, .ref le, .ref ne, .ref pr, .ref tr, .ref ln, .int trs, .long lpr])), (sm, .inr (9, [.ref smn, .null, .int 0])), (smn, .inl (cs 0, 4, .inl fq2_8)), (aq, .inr (5, [.ref aw, .ref ac, .ref ao, .ref am, .int (nI C), .int (nI P), .long tot])), (am, .inl (cs 1, 16, .inr (.inl fam))), ((lr 0), .inl (cs 1, 12, .inr (.inl (frlr_29 0))))] := by rw [hfrlr_29]; exact hD
  refine lv_aload_n hx hb dX0_seekSame_32 rfl (lv_at hl 0 rfl) ?_
  refine lv_aload_n hx hb dX0_seekSame_33 rfl (lv_at hl 0 rfl) ?_
  refine va_get (D := D) (ci := 0) (v := .ref sm) (C := RX0) (T := TX0) (N := 12) hx hb hg gwX0 hown hK hP 7 rfl rfl 1 (by decide) (hg _ kw_258) (fun _ h9 => h9) rfl dX0_seekSame_34 ?_
  have hPc := hP.sub (ws' := [(ch, .inr (0, [.ref aq, .ref sm, .ref tb, .ref ck, .ref cm, .ref le, .ref ne, .ref pr, .ref tr, .ref ln, .int trs, .long lpr])), (sm, .inr (9, [.ref smn, .null, .int 0])), (aq, .inr (5, [.ref aw, .ref ac, .ref ao, .ref am, .int (nI C), .int (nI P), .long tot])), (ao, .inl (cs 0, 4, .inl fao)), (ne, .inl (cs 1, 12, .inr (.inl fne)))]) [7, 8, 10, 0, 5] rfl
  have hDc := hD.sub (ws' := [(ch, .inr (0, [.ref aq, .ref sm, .ref tb, .ref ck, .ref cm, .ref le, .ref ne, .ref pr, .ref tr, .ref ln, .int trs, .long lpr])), (sm, .inr (9, [.ref smn, .null, .int 0])), (aq, .inr (5, [.ref aw, .ref ac, .ref ao, .ref am, .int (nI C), .int (nI P), .long tot])), (ao, .inl (cs 0, 4, .inl fao)), (ne, .inl (cs 1, 12, .inr (.inl fne)))]) [7, 8, 10, 0, 5] (by decide) rfl
  have hFc := va_free (wc := [(ch, .inr (0, [.ref aq, .ref sm, .ref tb, .ref ck, .ref cm, .ref le, .ref ne, .ref pr, .ref tr, .ref ln, .int trs, .long lpr])), (sm, .inr (9, [.ref smn, .null, .int 0])), (aq, .inr (5, [.ref aw, .ref ac, .ref ao, .ref am, .int (nI C), .int (nI P), .long tot])), (ao, .inl (cs 0, 4, .inl fao)), (ne, .inl (cs 1, 12, .inr (.inl fne)))]) hD hS hA [7, 8, 10, 0, 5] rfl
  refine va_callv (va_runV (As := [.ref sm]) (rest := []) ⟨hx, hb, hml, hown, hg⟩ (h_fillNeeds l D cs ch sm tb ck cm le ne pr tr ln trs lpr sm smn .null 0 9 (by unfold isPy; omega) aq aw ac ao am C (by omega) P (by omega) tot fao fne _) (cwV 1 hg (gw_V kw_270 kw_271 kw_272 kw_268 kw_269) rfl rfl rfl (by decide +kernel) ⟨(Nat.le_of_ble_eq_true rfl), (Nat.le_of_ble_eq_true rfl)⟩) (pr_MV (q := (RX0, TX0, 12)) 0 0 hK hPc hDc rfl rfl) rfl rfl hl.1 rfl (lv_room (Nat.le_of_ble_eq_true rfl)) dX0_seekSame_37 ⟨(Nat.le_of_ble_eq_true rfl), (Nat.le_of_ble_eq_true rfl)⟩) hS (fun q _ h => hFc q h) hFc (fun u t H1 locs ht hvm h_37 hB hz1 hk1 hS => ?_)
  obtain ⟨fne2_37, hP1, hD1⟩ := hB
  rw [ht] at hP1
  obtain ⟨hP, hD⟩ := va_join (wr := [(le, .inl (cs 5, 4, .inr (.inr (.inr (.inr (rowsF 4 lr)))))), ((lr 1), .inl (cs 1, 12, .inr (.inl (frlr_29 1)))), ((lr 2), .inl (cs 1, 12, .inr (.inl (frlr_29 2)))), ((lr 3), .inl (cs 1, 12, .inr (.inl (frlr_29 3)))), (tr, .inl (cs 0, 4, .inl ftr)), (smn, .inl (cs 0, 4, .inl fq2_8)), (am, .inl (cs 1, 16, .inr (.inl fam))), ((lr 0), .inl (cs 1, 12, .inr (.inl (frlr_29 0))))]) (w1 := [(ch, .inr (0, [.ref aq, .ref sm, .ref tb, .ref ck, .ref cm, .ref le, .ref ne, .ref pr, .ref tr, .ref ln, .int trs, .long lpr])), (sm, .inr (9, [.ref smn, .null, .int 0])), (aq, .inr (5, [.ref aw, .ref ac, .ref ao, .ref am, .int (nI C), .int (nI P), .long tot])), (ao, .inl (cs 0, 4, .inl fao)), (ne, .inl (cs 1, 12, .inr (.inl fne2_37)))]) hP hD [7, 8, 10, 0, 5] [1, 2, 3, 4, 6, 9, 11, 12] rfl rfl (by decide) (by decide) hk1 hFc hP1 hD1
  generalize H1 = H at hP hS ⊢
  have hP : va_P D vwCl [(le, .inl (cs 5, 4, .inr (.inr (.inr (.inr (rowsF 4 lr)))))), ((lr 1), .inl (cs 1, 12, .inr (.inl (frlr_29 1)))), ((lr 2), .inl (cs 1, 12, .inr (.inl (frlr_29 2)))), ((lr 3), .inl (cs 1, 12, .inr (.inl (frlr_29 3)))), (tr, .inl (cs 0, 4, .inl ftr)), (smn, .inl (cs 0, 4, .inl fq2_8)), (am, .inl (cs 1, 16, .inr (.inl fam))), ((lr 0), .inl (cs 1, 12, .inr (.inl (frlr_29 0)))), (ch, .inr (0, [.ref aq, .ref sm, .ref tb, .ref ck, .ref cm, .ref le, .ref ne, .ref pr, .ref tr, .ref ln, .int trs, .long lpr])), (sm, .inr (9, [.ref smn, .null, .int 0])), (aq, .inr (5, [.ref aw, .ref ac, .ref ao, .ref am, .int (nI C), .int (nI P), .long tot])), (ao, .inl (cs 0, 4, .inl fao)), (ne, .inl (cs 1, 12, .inr (.inl fne2_37)))] H := hP
  have hD : va_D A [(le, .inl (cs 5, 4, .inr (.inr (.inr (.inr (rowsF 4 lr)))))), ((lr 1), .inl (cs 1, 12, .inr (.inl (frlr_29 1)))), ((lr 2), .inl (cs 1, 12, .inr (.inl (frlr_29 2)))), ((lr 3), .inl (cs 1, 12, .inr (.inl (frlr_29 3)))), (tr, .inl (cs 0, 4, .inl ftr)), (smn, .inl (cs 0, 4, .inl fq2_8)), (am, .inl (cs 1, 16, .inr (.inl fam))), ((lr 0), .inl (cs 1, 12, .inr (.inl (frlr_29 0)))), (ch, .inr (0, [.ref aq, .ref sm, .ref tb, .ref ck, .ref cm, .ref le, .ref ne, .ref pr, .ref tr, .ref ln, .int trs, .long lpr])), (sm, .inr (9, [.ref smn, .null, .int 0])), (aq, .inr (5, [.ref aw, .ref ac, .ref ao, .ref am, .int (nI C), .int (nI P), .long tot])), (ao, .inl (cs 0, 4, .inl fao)), (ne, .inl (cs 1, 12, .inr (.inl fne2_37)))] := hD
  refine W.cs (cells' := 0) (slots' := 0) rfl rfl ?_
  refine lv_iconst (v := 0) hx hb dX0_seekSame_40 (by decide) ?_
  refine lv_istore_n (lv' := [(1, .int 0), (0, .ref ch)]) hx hb dX0_seekSame_41 rfl hl (by decide) rfl (fun ls hl => ?_)
  have LOOP42 : ∀ (n42 : Nat) (k : Nat) (ftr_42 : Nat → Int32), k ≤ 1000 → 1000 - k < n42 → ∀ (H : Heap) (locs : List Loc) (ls : Array Slot), va_P D vwCl [(le, .inl (cs 5, 4, .inr (.inr (.inr (.inr (rowsF 4 lr)))))), ((lr 1), .inl (cs 1, 12, .inr (.inl (frlr_29 1)))), ((lr 2), .inl (cs 1, 12, .inr (.inl (frlr_29 2)))), ((lr 3), .inl (cs 1, 12, .inr (.inl (frlr_29 3)))), (tr, .inl (cs 0, 4, .inl ftr_42)), (smn, .inl (cs 0, 4, .inl fq2_8)), (am, .inl (cs 1, 16, .inr (.inl fam))), ((lr 0), .inl (cs 1, 12, .inr (.inl (frlr_29 0)))), (ch, .inr (0, [.ref aq, .ref sm, .ref tb, .ref ck, .ref cm, .ref le, .ref ne, .ref pr, .ref tr, .ref ln, .int trs, .long lpr])), (sm, .inr (9, [.ref smn, .null, .int 0])), (aq, .inr (5, [.ref aw, .ref ac, .ref ao, .ref am, .int (nI C), .int (nI P), .long tot])), (ao, .inl (cs 0, 4, .inl fao)), (ne, .inl (cs 1, 12, .inr (.inl fne2_37)))] H → va_D A [(le, .inl (cs 5, 4, .inr (.inr (.inr (.inr (rowsF 4 lr)))))), ((lr 1), .inl (cs 1, 12, .inr (.inl (frlr_29 1)))), ((lr 2), .inl (cs 1, 12, .inr (.inl (frlr_29 2)))), ((lr 3), .inl (cs 1, 12, .inr (.inl (frlr_29 3)))), (tr, .inl (cs 0, 4, .inl ftr_42)), (smn, .inl (cs 0, 4, .inl fq2_8)), (am, .inl (cs 1, 16, .inr (.inl fam))), ((lr 0), .inl (cs 1, 12, .inr (.inl (frlr_29 0)))), (ch, .inr (0, [.ref aq, .ref sm, .ref tb, .ref ck, .ref cm, .ref le, .ref ne, .ref pr, .ref tr, .ref ln, .int trs, .long lpr])), (sm, .inr (9, [.ref smn, .null, .int 0])), (aq, .inr (5, [.ref aw, .ref ac, .ref ao, .ref am, .int (nI C), .int (nI P), .long tot])), (ao, .inl (cs 0, 4, .inl fao)), (ne, .inl (cs 1, 12, .inr (.inl fne2_37)))] → va_S A s.heap H locs → lv_has ls 2 [(0, .ref ch), (1, .int (nI k))] → W p l e ({ frames := 4, cells := 0, slots := 0, locals := 115 } : Room) s m args below meth c H locs 0 0 Q (F0 m 42 ls []) := by
    intro n42
    induction n42 with
    | zero =>
      intro k ftr_42 hk hn42 H locs ls hP hD hS hl
      exact absurd hn42 (Nat.not_lt_zero _)
    | succ n42 ih42 =>
      intro k ftr_42 hk hn42 H locs ls hP hD hS hl
      refine lv_iload_n hx hb dX0_seekSame_42 rfl (lv_at hl 1 rfl) ?_
      refine lv_sipush (v := 999) hx hb dX0_seekSame_43 (by decide) ?_
      refine lv_icmp_gt (tgt := 72) hx hb dX0_seekSame_46 (by decide) (fun c_46 => ?_) (fun c_46 => ?_)
      · have n_46 : 999 < k := b_lt_t (by omega) (by omega) c_46
        refine lv_iconst (v := (-1)) hx hb dX0_seekSame_72 (by decide) ?_
        refine W_sQ hQ ?_
        refine W.widen (k := 0) (n := 0) (Nat.le_of_ble_eq_true rfl) (Nat.le_of_ble_eq_true rfl) ?_
        have hP9 := hP.sub (ws' := [(ch, .inr (0, [.ref aq, .ref sm, .ref tb, .ref ck, .ref cm, .ref le, .ref ne, .ref pr, .ref tr, .ref ln, .int trs, .long lpr])), (sm, .inr (9, [.ref smn, .null, .int 0])), (smn, .inl (cs 0, 4, .inl fq2_8)), (aq, .inr (5, [.ref aw, .ref ac, .ref ao, .ref am, .int (nI C), .int (nI P), .long tot])), (ao, .inl (cs 0, 4, .inl fao)), (am, .inl (cs 1, 16, .inr (.inl fam))), (le, .inl (cs 5, 4, .inr (.inr (.inr (.inr (rowsF 4 lr)))))), ((lr 0), .inl (cs 1, 12, .inr (.inl (frlr_29 0)))), ((lr 1), .inl (cs 1, 12, .inr (.inl (frlr_29 1)))), ((lr 2), .inl (cs 1, 12, .inr (.inl (frlr_29 2)))), ((lr 3), .inl (cs 1, 12, .inr (.inl (frlr_29 3)))), (ne, .inl (cs 1, 12, .inr (.inl fne2_37))), (tr, .inl (cs 0, 4, .inl ftr_42))]) [8, 9, 5, 10, 11, 6, 0, 7, 1, 2, 3, 12, 4] rfl
        have hD9 := hD.sub (ws' := [(ch, .inr (0, [.ref aq, .ref sm, .ref tb, .ref ck, .ref cm, .ref le, .ref ne, .ref pr, .ref tr, .ref ln, .int trs, .long lpr])), (sm, .inr (9, [.ref smn, .null, .int 0])), (smn, .inl (cs 0, 4, .inl fq2_8)), (aq, .inr (5, [.ref aw, .ref ac, .ref ao, .ref am, .int (nI C), .int (nI P), .long tot])), (ao, .inl (cs 0, 4, .inl fao)), (am, .inl (cs 1, 16, .inr (.inl fam))), (le, .inl (cs 5, 4, .inr (.inr (.inr (.inr (rowsF 4 lr)))))), ((lr 0), .inl (cs 1, 12, .inr (.inl (frlr_29 0)))), ((lr 1), .inl (cs 1, 12, .inr (.inl (frlr_29 1)))), ((lr 2), .inl (cs 1, 12, .inr (.inl (frlr_29 2)))), ((lr 3), .inl (cs 1, 12, .inr (.inl (frlr_29 3)))), (ne, .inl (cs 1, 12, .inr (.inl fne2_37))), (tr, .inl (cs 0, 4, .inl ftr_42))]) [8, 9, 5, 10, 11, 6, 0, 7, 1, 2, 3, 12, 4] (by decide) rfl
        exact W.iret (v := (-1)) hx hb hr (fun t ht hW => ⟨⟨(-1), (), rfl, trivial, ⟨fq2_8, ftr_42, fne2_37, frlr_29, by rw [ht]; exact hP9, hD9⟩⟩, hS.F ht⟩) hS.2.2 dX0_seekSame_73
      · have n_46 : k ≤ 999 := b_lt_f (by omega) (by omega) c_46
        refine lv_aload_n hx hb dX0_seekSame_49 rfl (lv_at hl 0 rfl) ?_
        refine va_get (D := D) (ci := 0) (v := .ref tr) (C := RX0) (T := TX0) (N := 12) hx hb hg gwX0 hown hK hP 8 rfl rfl 8 (by decide) (hg _ kw_251) (fun _ h9 => h9) rfl dX0_seekSame_50 ?_
        refine lv_iconst (v := 0) hx hb dX0_seekSame_53 (by decide) ?_
        refine lv_iload_n hx hb dX0_seekSame_54 rfl (lv_at hl 1 rfl) ?_
        refine va_iast hx hb hK hP hD hS 4 0 rfl rfl (show ¬ ((0 : Int32) < 0 ∨ 4 ≤ (0 : Int32).toNatClampNeg) by decide) dX0_seekSame_55 (fun H locs hP hD hS => ?_)
        obtain ⟨f_55, hf_55⟩ : ∃ f9, f9 = (upd ftr_42 (0 : Int32).toNatClampNeg (nI k)) := ⟨_, rfl⟩
        rw [← hf_55] at hP hD
        have hP : va_P D vwCl [(le, .inl (cs 5, 4, .inr (.inr (.inr (.inr (rowsF 4 lr)))))), ((lr 1), .inl (cs 1, 12, .inr (.inl (frlr_29 1)))), ((lr 2), .inl (cs 1, 12, .inr (.inl (frlr_29 2)))), ((lr 3), .inl (cs 1, 12, .inr (.inl (frlr_29 3)))), (tr, .inl (cs 0, 4, .inl f_55)), (smn, .inl (cs 0, 4, .inl fq2_8)), (am, .inl (cs 1, 16, .inr (.inl fam))), ((lr 0), .inl (cs 1, 12, .inr (.inl (frlr_29 0)))), (ch, .inr (0, [.ref aq, .ref sm, .ref tb, .ref ck, .ref cm, .ref le, .ref ne, .ref pr, .ref tr, .ref ln, .int trs, .long lpr])), (sm, .inr (9, [.ref smn, .null, .int 0])), (aq, .inr (5, [.ref aw, .ref ac, .ref ao, .ref am, .int (nI C), .int (nI P), .long tot])), (ao, .inl (cs 0, 4, .inl fao)), (ne, .inl (cs 1, 12, .inr (.inl fne2_37)))] H := hP
        have hD : va_D A [(le, .inl (cs 5, 4, .inr (.inr (.inr (.inr (rowsF 4 lr)))))), ((lr 1), .inl (cs 1, 12, .inr (.inl (frlr_29 1)))), ((lr 2), .inl (cs 1, 12, .inr (.inl (frlr_29 2)))), ((lr 3), .inl (cs 1, 12, .inr (.inl (frlr_29 3)))), (tr, .inl (cs 0, 4, .inl f_55)), (smn, .inl (cs 0, 4, .inl fq2_8)), (am, .inl (cs 1, 16, .inr (.inl fam))), ((lr 0), .inl (cs 1, 12, .inr (.inl (frlr_29 0)))), (ch, .inr (0, [.ref aq, .ref sm, .ref tb, .ref ck, .ref cm, .ref le, .ref ne, .ref pr, .ref tr, .ref ln, .int trs, .long lpr])), (sm, .inr (9, [.ref smn, .null, .int 0])), (aq, .inr (5, [.ref aw, .ref ac, .ref ao, .ref am, .int (nI C), .int (nI P), .long tot])), (ao, .inl (cs 0, 4, .inl fao)), (ne, .inl (cs 1, 12, .inr (.inl fne2_37)))] := hD
        refine lv_aload_n hx hb dX0_seekSame_56 rfl (lv_at hl 0 rfl) ?_
        refine lv_iconst (v := 1) hx hb dX0_seekSame_57 (by decide) ?_
        have hPc := hP.sub (ws' := [(ch, .inr (0, [.ref aq, .ref sm, .ref tb, .ref ck, .ref cm, .ref le, .ref ne, .ref pr, .ref tr, .ref ln, .int trs, .long lpr])), (aq, .inr (5, [.ref aw, .ref ac, .ref ao, .ref am, .int (nI C), .int (nI P), .long tot])), (le, .inl (cs 5, 4, .inr (.inr (.inr (.inr (rowsF 4 lr)))))), ((lr 0), .inl (cs 1, 12, .inr (.inl (frlr_29 0)))), ((lr 1), .inl (cs 1, 12, .inr (.inl (frlr_29 1)))), ((lr 2), .inl (cs 1, 12, .inr (.inl (frlr_29 2)))), ((lr 3), .inl (cs 1, 12, .inr (.inl (frlr_29 3)))), (ne, .inl (cs 1, 12, .inr (.inl fne2_37))), (tr, .inl (cs 0, 4, .inl f_55))]) [8, 10, 0, 7, 1, 2, 3, 12, 4] rfl
        refine vp_callSi (W.runV (As := [.int 1]) (rest := []) ⟨hx, hb, hml, hown, hg⟩ (h_triedRests_1 l D cs ch sm tb ck cm le ne pr tr ln trs lpr aq aw ac ao am C (by omega) P (by omega) tot lr frlr_29 fne2_37 f_55) (cwV 1 hg (gw_V kw_274 kw_275 kw_276 kw_268 kw_273) rfl rfl rfl (by decide +kernel) ⟨(Nat.le_of_ble_eq_true rfl), (Nat.le_of_ble_eq_true rfl)⟩) (pr_SV (q := (RX0, TX0, 12)) 0 0 hK hPc rfl rfl) rfl rfl hl.1 rfl (lv_room (Nat.le_of_ble_eq_true rfl)) dX0_seekSame_58 ⟨(Nat.le_of_ble_eq_true rfl), (Nat.le_of_ble_eq_true rfl)⟩) (fun r_58 h_58 => ?_)
        rcases h_58 with rfl | rfl
        · refine lv_if_eq (tgt := 66) hx hb dX0_seekSame_61 (by decide) (fun c_61 => ?_) (fun c_61 => absurd c_61 (by decide))
          refine lv_iinc (v := (nI (k + 1))) (lv' := [(1, .int (nI (k + 1))), (0, .ref ch)]) hx hb dX0_seekSame_66 hl (k := 1) rfl (nI_add k 1) (by decide) rfl (fun ls hl => ?_)
          refine lv_goto (tgt := 42) hx hb dX0_seekSame_69 (by decide) ?_
          exact ih42 (k + 1) f_55 (by omega) (by omega) _ _ ls hP hD hS (lv_sub hl [1, 0] rfl)
        · refine lv_if_eq (tgt := 66) hx hb dX0_seekSame_61 (by decide) (fun c_61 => absurd c_61 (by decide)) (fun c_61 => ?_)
          refine lv_iload_n hx hb dX0_seekSame_64 rfl (lv_at hl 1 rfl) ?_
          refine W_sQ hQ ?_
          refine W.widen (k := 0) (n := 0) (Nat.le_of_ble_eq_true rfl) (Nat.le_of_ble_eq_true rfl) ?_
          have hP9 := hP.sub (ws' := [(ch, .inr (0, [.ref aq, .ref sm, .ref tb, .ref ck, .ref cm, .ref le, .ref ne, .ref pr, .ref tr, .ref ln, .int trs, .long lpr])), (sm, .inr (9, [.ref smn, .null, .int 0])), (smn, .inl (cs 0, 4, .inl fq2_8)), (aq, .inr (5, [.ref aw, .ref ac, .ref ao, .ref am, .int (nI C), .int (nI P), .long tot])), (ao, .inl (cs 0, 4, .inl fao)), (am, .inl (cs 1, 16, .inr (.inl fam))), (le, .inl (cs 5, 4, .inr (.inr (.inr (.inr (rowsF 4 lr)))))), ((lr 0), .inl (cs 1, 12, .inr (.inl (frlr_29 0)))), ((lr 1), .inl (cs 1, 12, .inr (.inl (frlr_29 1)))), ((lr 2), .inl (cs 1, 12, .inr (.inl (frlr_29 2)))), ((lr 3), .inl (cs 1, 12, .inr (.inl (frlr_29 3)))), (ne, .inl (cs 1, 12, .inr (.inl fne2_37))), (tr, .inl (cs 0, 4, .inl f_55))]) [8, 9, 5, 10, 11, 6, 0, 7, 1, 2, 3, 12, 4] rfl
          have hD9 := hD.sub (ws' := [(ch, .inr (0, [.ref aq, .ref sm, .ref tb, .ref ck, .ref cm, .ref le, .ref ne, .ref pr, .ref tr, .ref ln, .int trs, .long lpr])), (sm, .inr (9, [.ref smn, .null, .int 0])), (smn, .inl (cs 0, 4, .inl fq2_8)), (aq, .inr (5, [.ref aw, .ref ac, .ref ao, .ref am, .int (nI C), .int (nI P), .long tot])), (ao, .inl (cs 0, 4, .inl fao)), (am, .inl (cs 1, 16, .inr (.inl fam))), (le, .inl (cs 5, 4, .inr (.inr (.inr (.inr (rowsF 4 lr)))))), ((lr 0), .inl (cs 1, 12, .inr (.inl (frlr_29 0)))), ((lr 1), .inl (cs 1, 12, .inr (.inl (frlr_29 1)))), ((lr 2), .inl (cs 1, 12, .inr (.inl (frlr_29 2)))), ((lr 3), .inl (cs 1, 12, .inr (.inl (frlr_29 3)))), (ne, .inl (cs 1, 12, .inr (.inl fne2_37))), (tr, .inl (cs 0, 4, .inl f_55))]) [8, 9, 5, 10, 11, 6, 0, 7, 1, 2, 3, 12, 4] (by decide) rfl
          exact W.iret (v := (nI k)) hx hb hr (fun t ht hW => ⟨⟨(nI k), (), rfl, trivial, ⟨fq2_8, f_55, fne2_37, frlr_29, by rw [ht]; exact hP9, hD9⟩⟩, hS.F ht⟩) hS.2.2 dX0_seekSame_65
  exact LOOP42 (1000 - 0 + 1) 0 ftr (by omega) (Nat.lt_succ_self _) _ _ ls hP hD hS (lv_sub hl [1, 0] rfl)

theorem dX0_seekLook_0 : decode cX0_seekLook 0 = .ok (.aload_n 1, 1) := by decide +kernel
theorem dX0_seekLook_1 : decode cX0_seekLook 1 = .ok (.getfield 79, 3) := by decide +kernel
theorem dX0_seekLook_4 : decode cX0_seekLook 4 = .ok (.astore_n 2, 1) := by decide +kernel
theorem dX0_seekLook_5 : decode cX0_seekLook 5 = .ok (.aload_n 0, 1) := by decide +kernel
theorem dX0_seekLook_6 : decode cX0_seekLook 6 = .ok (.getfield 28, 3) := by decide +kernel
theorem dX0_seekLook_9 : decode cX0_seekLook 9 = .ok (.aload_n 2, 1) := by decide +kernel
theorem dX0_seekLook_10 : decode cX0_seekLook 10 = .ok (.iconst 0, 1) := by decide +kernel
theorem dX0_seekLook_11 : decode cX0_seekLook 11 = .ok (.iaload, 1) := by decide +kernel
theorem dX0_seekLook_12 : decode cX0_seekLook 12 = .ok (.iconst 0, 1) := by decide +kernel
theorem dX0_seekLook_13 : decode cX0_seekLook 13 = .ok (.aload_n 2, 1) := by decide +kernel
theorem dX0_seekLook_14 : decode cX0_seekLook 14 = .ok (.iconst 2, 1) := by decide +kernel
theorem dX0_seekLook_15 : decode cX0_seekLook 15 = .ok (.iaload, 1) := by decide +kernel
theorem dX0_seekLook_16 : decode cX0_seekLook 16 = .ok (.aload_n 2, 1) := by decide +kernel
theorem dX0_seekLook_17 : decode cX0_seekLook 17 = .ok (.iconst 3, 1) := by decide +kernel
theorem dX0_seekLook_18 : decode cX0_seekLook 18 = .ok (.iaload, 1) := by decide +kernel
theorem dX0_seekLook_19 : decode cX0_seekLook 19 = .ok (.invokevirtual 84, 3) := by decide +kernel
theorem dX0_seekLook_22 : decode cX0_seekLook 22 = .ok (.aload_n 0, 1) := by decide +kernel
theorem dX0_seekLook_23 : decode cX0_seekLook 23 = .ok (.aload_n 0, 1) := by decide +kernel
theorem dX0_seekLook_24 : decode cX0_seekLook 24 = .ok (.getfield 28, 3) := by decide +kernel
theorem dX0_seekLook_27 : decode cX0_seekLook 27 = .ok (.aload_n 0, 1) := by decide +kernel
theorem dX0_seekLook_28 : decode cX0_seekLook 28 = .ok (.getfield 54, 3) := by decide +kernel
theorem dX0_seekLook_31 : decode cX0_seekLook 31 = .ok (.getfield 62, 3) := by decide +kernel
theorem dX0_seekLook_34 : decode cX0_seekLook 34 = .ok (.aload_n 0, 1) := by decide +kernel
theorem dX0_seekLook_35 : decode cX0_seekLook 35 = .ok (.getfield 38, 3) := by decide +kernel
theorem dX0_seekLook_38 : decode cX0_seekLook 38 = .ok (.iconst 0, 1) := by decide +kernel
theorem dX0_seekLook_39 : decode cX0_seekLook 39 = .ok (.aaload, 1) := by decide +kernel
theorem dX0_seekLook_40 : decode cX0_seekLook 40 = .ok (.invokevirtual 67, 3) := by decide +kernel
theorem dX0_seekLook_43 : decode cX0_seekLook 43 = .ok (.aload_n 0, 1) := by decide +kernel
theorem dX0_seekLook_44 : decode cX0_seekLook 44 = .ok (.getfield 28, 3) := by decide +kernel
theorem dX0_seekLook_47 : decode cX0_seekLook 47 = .ok (.iconst 0, 1) := by decide +kernel
theorem dX0_seekLook_48 : decode cX0_seekLook 48 = .ok (.iconst 1, 1) := by decide +kernel
theorem dX0_seekLook_49 : decode cX0_seekLook 49 = .ok (.aload_n 2, 1) := by decide +kernel
theorem dX0_seekLook_50 : decode cX0_seekLook 50 = .ok (.iconst 2, 1) := by decide +kernel
theorem dX0_seekLook_51 : decode cX0_seekLook 51 = .ok (.iaload, 1) := by decide +kernel
theorem dX0_seekLook_52 : decode cX0_seekLook 52 = .ok (.aload_n 2, 1) := by decide +kernel
theorem dX0_seekLook_53 : decode cX0_seekLook 53 = .ok (.iconst 3, 1) := by decide +kernel
theorem dX0_seekLook_54 : decode cX0_seekLook 54 = .ok (.iaload, 1) := by decide +kernel
theorem dX0_seekLook_55 : decode cX0_seekLook 55 = .ok (.invokevirtual 84, 3) := by decide +kernel
theorem dX0_seekLook_58 : decode cX0_seekLook 58 = .ok (.aload_n 0, 1) := by decide +kernel
theorem dX0_seekLook_59 : decode cX0_seekLook 59 = .ok (.aload_n 0, 1) := by decide +kernel
theorem dX0_seekLook_60 : decode cX0_seekLook 60 = .ok (.getfield 28, 3) := by decide +kernel
theorem dX0_seekLook_63 : decode cX0_seekLook 63 = .ok (.aload_n 0, 1) := by decide +kernel
theorem dX0_seekLook_64 : decode cX0_seekLook 64 = .ok (.getfield 54, 3) := by decide +kernel
theorem dX0_seekLook_67 : decode cX0_seekLook 67 = .ok (.getfield 62, 3) := by decide +kernel
theorem dX0_seekLook_70 : decode cX0_seekLook 70 = .ok (.aload_n 0, 1) := by decide +kernel
theorem dX0_seekLook_71 : decode cX0_seekLook 71 = .ok (.getfield 38, 3) := by decide +kernel
theorem dX0_seekLook_74 : decode cX0_seekLook 74 = .ok (.iconst 1, 1) := by decide +kernel
theorem dX0_seekLook_75 : decode cX0_seekLook 75 = .ok (.aaload, 1) := by decide +kernel
theorem dX0_seekLook_76 : decode cX0_seekLook 76 = .ok (.invokevirtual 67, 3) := by decide +kernel
theorem dX0_seekLook_79 : decode cX0_seekLook 79 = .ok (.aload_n 0, 1) := by decide +kernel
theorem dX0_seekLook_80 : decode cX0_seekLook 80 = .ok (.aload_n 0, 1) := by decide +kernel
theorem dX0_seekLook_81 : decode cX0_seekLook 81 = .ok (.getfield 28, 3) := by decide +kernel
theorem dX0_seekLook_84 : decode cX0_seekLook 84 = .ok (.invokevirtual 71, 3) := by decide +kernel
theorem dX0_seekLook_87 : decode cX0_seekLook 87 = .ok (.aload_n 0, 1) := by decide +kernel
theorem dX0_seekLook_88 : decode cX0_seekLook 88 = .ok (.getfield 47, 3) := by decide +kernel
theorem dX0_seekLook_91 : decode cX0_seekLook 91 = .ok (.iconst 0, 1) := by decide +kernel
theorem dX0_seekLook_92 : decode cX0_seekLook 92 = .ok (.iconst 1, 1) := by decide +kernel
theorem dX0_seekLook_93 : decode cX0_seekLook 93 = .ok (.iastore, 1) := by decide +kernel
theorem dX0_seekLook_94 : decode cX0_seekLook 94 = .ok (.iconst 0, 1) := by decide +kernel
theorem dX0_seekLook_95 : decode cX0_seekLook 95 = .ok (.istore_n 3, 1) := by decide +kernel
theorem dX0_seekLook_96 : decode cX0_seekLook 96 = .ok (.iload_n 3, 1) := by decide +kernel
theorem dX0_seekLook_97 : decode cX0_seekLook 97 = .ok (.bipush 100, 2) := by decide +kernel
theorem dX0_seekLook_99 : decode cX0_seekLook 99 = .ok (.if_icmp .gt 26, 3) := by decide +kernel
theorem dX0_seekLook_102 : decode cX0_seekLook 102 = .ok (.aload_n 0, 1) := by decide +kernel
theorem dX0_seekLook_103 : decode cX0_seekLook 103 = .ok (.getfield 47, 3) := by decide +kernel
theorem dX0_seekLook_106 : decode cX0_seekLook 106 = .ok (.iconst 1, 1) := by decide +kernel
theorem dX0_seekLook_107 : decode cX0_seekLook 107 = .ok (.iload_n 3, 1) := by decide +kernel
theorem dX0_seekLook_108 : decode cX0_seekLook 108 = .ok (.iastore, 1) := by decide +kernel
theorem dX0_seekLook_109 : decode cX0_seekLook 109 = .ok (.aload_n 0, 1) := by decide +kernel
theorem dX0_seekLook_110 : decode cX0_seekLook 110 = .ok (.iconst 2, 1) := by decide +kernel
theorem dX0_seekLook_111 : decode cX0_seekLook 111 = .ok (.invokevirtual 75, 3) := by decide +kernel
theorem dX0_seekLook_114 : decode cX0_seekLook 114 = .ok (.ifCond .eq 5, 3) := by decide +kernel
theorem dX0_seekLook_117 : decode cX0_seekLook 117 = .ok (.iload_n 3, 1) := by decide +kernel
theorem dX0_seekLook_118 : decode cX0_seekLook 118 = .ok (.ireturn, 1) := by decide +kernel
theorem dX0_seekLook_119 : decode cX0_seekLook 119 = .ok (.iinc 3 1, 3) := by decide +kernel
theorem dX0_seekLook_122 : decode cX0_seekLook 122 = .ok (.goto (-26), 3) := by decide +kernel
theorem dX0_seekLook_125 : decode cX0_seekLook 125 = .ok (.iconst (-1), 1) := by decide +kernel
theorem dX0_seekLook_126 : decode cX0_seekLook 126 = .ok (.ireturn, 1) := by decide +kernel
theorem kw_277 : (.fieldLink RX0 79 "NobodyChecks$Pay" "numbers" "[I" : Cond) ∈ gw_tbl := gw_in (by decide +kernel) (by decide +kernel)
theorem kw_278 : (.fieldLink RX0 28 "NobodyChecks$Cheapest" "check" "LNobodyChecks$Check;" : Cond) ∈ gw_tbl := gw_in (by decide +kernel) (by decide +kernel)
theorem kw_279 : (.methodLink RX0 84 ⟨"NobodyChecks$Check", "become", "(IIII)V"⟩ : Cond) ∈ gw_tbl := gw_in (by decide +kernel) (by decide +kernel)
theorem kw_280 : (.sameMethod "NobodyChecks$Check" "NobodyChecks$Pay" "become" "(IIII)V" : Cond) ∈ gw_tbl := gw_in (by decide +kernel) (by decide +kernel)
theorem kw_281 : (.selects RX1 (⟨"NobodyChecks$Check", "become", "(IIII)V"⟩) yX3_become : Cond) ∈ gw_tbl := gw_in (by decide +kernel) (by decide +kernel)

set_option maxHeartbeats 4000000 in
set_option maxRecDepth 100000 in
theorem h_seekLook (l : Launch) (D : va_G) (cs : Nat → ClassId) (ch : Nat) (sm : Nat) (tb : Nat) (ck : Nat) (cm : Nat) (le : Nat) (ne : Nat) (pr : Nat) (tr : Nat) (ln : Nat) (trs : Int32) (lpr : Int64) (ckn : Nat) (fck : Nat → Int32) (h0 : Nat) (nq : Nat) (av : Value) (rk : Int32) (ci : Nat) (hci : isPy ci) (fq : Nat → Int32) (aq : Nat) (aw : Nat) (ac : Nat) (ao : Nat) (am : Nat) (C : Nat) (hC5 : C ≤ 5) (P : Nat) (hP4 : P ≤ 4) (tot : Int64) (fao : Nat → Int32) (fam : Nat → Int64) (lr : Nat → Nat) (flr : Nat → Nat → Int64) (fne : Nat → Int64) (ftr : Nat → Int32) (sz : Nat) : Met l yX0_seekLook (Cond.code yX0_seekLook cX0_seekLook 4 (some .int) :: gw_tbl) ({ frames := 4, cells := 0, slots := 0, locals := 115 }) (pc_M D cs [(ch, .inr (0, [.ref aq, .ref sm, .ref tb, .ref ck, .ref cm, .ref le, .ref ne, .ref pr, .ref tr, .ref ln, .int trs, .long lpr])), (ck, .inr (1, [.ref ckn, .null, .int 0])), (ckn, .inl (cs 0, 4, .inl fck)), (h0, .inr (ci, [.ref nq, av, .int rk])), (nq, .inl (cs 0, 4, .inl fq)), (aq, .inr (5, [.ref aw, .ref ac, .ref ao, .ref am, .int (nI C), .int (nI P), .long tot])), (ao, .inl (cs 0, 4, .inl fao)), (am, .inl (cs 1, 16, .inr (.inl fam))), (le, .inl (cs 5, 4, .inr (.inr (.inr (.inr (rowsF 4 lr)))))), ((lr 0), .inl (cs 1, 12, .inr (.inl (flr 0)))), ((lr 1), .inl (cs 1, 12, .inr (.inl (flr 1)))), ((lr 2), .inl (cs 1, 12, .inr (.inl (flr 2)))), ((lr 3), .inl (cs 1, 12, .inr (.inl (flr 3)))), (ne, .inl (cs 1, 12, .inr (.inl fne))), (tr, .inl (cs 0, 4, .inl ftr))] sz [.ref ch, .ref h0]) (va_Qi (fun (r : Int32) (u : Unit) => True) (fun u t => ∃ (fck2 : Nat → Int32), ∃ (ftr2 : Nat → Int32), ∃ (fne2 : Nat → Int64), ∃ (flr2 : Nat → Nat → Int64), va_P D vwCl [(ch, .inr (0, [.ref aq, .ref sm, .ref tb, .ref ck, .ref cm, .ref le, .ref ne, .ref pr, .ref tr, .ref ln, .int trs, .long lpr])), (ck, .inr (1, [.ref ckn, .null, .int 0])), (ckn, .inl (cs 0, 4, .inl fck2)), (h0, .inr (ci, [.ref nq, av, .int rk])), (nq, .inl (cs 0, 4, .inl fq)), (aq, .inr (5, [.ref aw, .ref ac, .ref ao, .ref am, .int (nI C), .int (nI P), .long tot])), (ao, .inl (cs 0, 4, .inl fao)), (am, .inl (cs 1, 16, .inr (.inl fam))), (le, .inl (cs 5, 4, .inr (.inr (.inr (.inr (rowsF 4 lr)))))), ((lr 0), .inl (cs 1, 12, .inr (.inl (flr2 0)))), ((lr 1), .inl (cs 1, 12, .inr (.inl (flr2 1)))), ((lr 2), .inl (cs 1, 12, .inr (.inl (flr2 2)))), ((lr 3), .inl (cs 1, 12, .inr (.inl (flr2 3)))), (ne, .inl (cs 1, 12, .inr (.inl fne2))), (tr, .inl (cs 0, 4, .inl ftr2))] t.heap ∧ va_D (va_A [(ch, .inr (0, [.ref aq, .ref sm, .ref tb, .ref ck, .ref cm, .ref le, .ref ne, .ref pr, .ref tr, .ref ln, .int trs, .long lpr])), (ck, .inr (1, [.ref ckn, .null, .int 0])), (ckn, .inl (cs 0, 4, .inl fck)), (h0, .inr (ci, [.ref nq, av, .int rk])), (nq, .inl (cs 0, 4, .inl fq)), (aq, .inr (5, [.ref aw, .ref ac, .ref ao, .ref am, .int (nI C), .int (nI P), .long tot])), (ao, .inl (cs 0, 4, .inl fao)), (am, .inl (cs 1, 16, .inr (.inl fam))), (le, .inl (cs 5, 4, .inr (.inr (.inr (.inr (rowsF 4 lr)))))), ((lr 0), .inl (cs 1, 12, .inr (.inl (flr 0)))), ((lr 1), .inl (cs 1, 12, .inr (.inl (flr 1)))), ((lr 2), .inl (cs 1, 12, .inr (.inl (flr 2)))), ((lr 3), .inl (cs 1, 12, .inr (.inl (flr 3)))), (ne, .inl (cs 1, 12, .inr (.inl fne))), (tr, .inl (cs 0, 4, .inl ftr))] sz) [(ch, .inr (0, [.ref aq, .ref sm, .ref tb, .ref ck, .ref cm, .ref le, .ref ne, .ref pr, .ref tr, .ref ln, .int trs, .long lpr])), (ck, .inr (1, [.ref ckn, .null, .int 0])), (ckn, .inl (cs 0, 4, .inl fck2)), (h0, .inr (ci, [.ref nq, av, .int rk])), (nq, .inl (cs 0, 4, .inl fq)), (aq, .inr (5, [.ref aw, .ref ac, .ref ao, .ref am, .int (nI C), .int (nI P), .long tot])), (ao, .inl (cs 0, 4, .inl fao)), (am, .inl (cs 1, 16, .inr (.inl fam))), (le, .inl (cs 5, 4, .inr (.inr (.inr (.inr (rowsF 4 lr)))))), ((lr 0), .inl (cs 1, 12, .inr (.inl (flr2 0)))), ((lr 1), .inl (cs 1, 12, .inr (.inl (flr2 1)))), ((lr 2), .inl (cs 1, 12, .inr (.inl (flr2 2)))), ((lr 3), .inl (cs 1, 12, .inr (.inl (flr2 3)))), (ne, .inl (cs 1, 12, .inr (.inl fne2))), (tr, .inl (cs 0, 4, .inl ftr2))]) (va_A [(ch, .inr (0, [.ref aq, .ref sm, .ref tb, .ref ck, .ref cm, .ref le, .ref ne, .ref pr, .ref tr, .ref ln, .int trs, .long lpr])), (ck, .inr (1, [.ref ckn, .null, .int 0])), (ckn, .inl (cs 0, 4, .inl fck)), (h0, .inr (ci, [.ref nq, av, .int rk])), (nq, .inl (cs 0, 4, .inl fq)), (aq, .inr (5, [.ref aw, .ref ac, .ref ao, .ref am, .int (nI C), .int (nI P), .long tot])), (ao, .inl (cs 0, 4, .inl fao)), (am, .inl (cs 1, 16, .inr (.inl fam))), (le, .inl (cs 5, 4, .inr (.inr (.inr (.inr (rowsF 4 lr)))))), ((lr 0), .inl (cs 1, 12, .inr (.inl (flr 0)))), ((lr 1), .inl (cs 1, 12, .inr (.inl (flr 1)))), ((lr 2), .inl (cs 1, 12, .inr (.inl (flr 2)))), ((lr 3), .inl (cs 1, 12, .inr (.inl (flr 3)))), (ne, .inl (cs 1, 12, .inr (.inl fne))), (tr, .inl (cs 0, 4, .inl ftr))] sz)) 0 0 (va_A [(ch, .inr (0, [.ref aq, .ref sm, .ref tb, .ref ck, .ref cm, .ref le, .ref ne, .ref pr, .ref tr, .ref ln, .int trs, .long lpr])), (ck, .inr (1, [.ref ckn, .null, .int 0])), (ckn, .inl (cs 0, 4, .inl fck)), (h0, .inr (ci, [.ref nq, av, .int rk])), (nq, .inl (cs 0, 4, .inl fq)), (aq, .inr (5, [.ref aw, .ref ac, .ref ao, .ref am, .int (nI C), .int (nI P), .long tot])), (ao, .inl (cs 0, 4, .inl fao)), (am, .inl (cs 1, 16, .inr (.inl fam))), (le, .inl (cs 5, 4, .inr (.inr (.inr (.inr (rowsF 4 lr)))))), ((lr 0), .inl (cs 1, 12, .inr (.inl (flr 0)))), ((lr 1), .inl (cs 1, 12, .inr (.inl (flr 1)))), ((lr 2), .inl (cs 1, 12, .inr (.inl (flr 2)))), ((lr 3), .inl (cs 1, 12, .inr (.inl (flr 3)))), (ne, .inl (cs 1, 12, .inr (.inl fne))), (tr, .inl (cs 0, 4, .inl ftr))] sz) := by
  refine Met.ofW (cc := cX0_seekLook) (maxL := 4) (ret := (some .int)) (by decide) rfl ?_
  intro p e s m args below meth c s₁ B hml hv
  obtain ⟨hargs, hsz, hP, hK, hD0⟩ := hv
  have hx := B.exec
  have hb := B.bytes
  have hr := B.returns
  have hts := atoms_spec (ws := Cond.code yX0_seekLook cX0_seekLook 4 (some .int) :: gw_tbl) B.pre
  have hg := fun (w : Cond) (h : w ∈ gw_tbl) => hts w (List.mem_cons_of_mem _ h)
  have hown : s.vm.findClass RX0 = some m.cls := findClass_of_methodNamed B.named
  have hlocks := B.notSynchronized
  subst hsz
  have hD := hD0.self (sz := s.heap.size)
  generalize hAe : va_A [(ch, .inr (0, [.ref aq, .ref sm, .ref tb, .ref ck, .ref cm, .ref le, .ref ne, .ref pr, .ref tr, .ref ln, .int trs, .long lpr])), (ck, .inr (1, [.ref ckn, .null, .int 0])), (ckn, .inl (cs 0, 4, .inl fck)), (h0, .inr (ci, [.ref nq, av, .int rk])), (nq, .inl (cs 0, 4, .inl fq)), (aq, .inr (5, [.ref aw, .ref ac, .ref ao, .ref am, .int (nI C), .int (nI P), .long tot])), (ao, .inl (cs 0, 4, .inl fao)), (am, .inl (cs 1, 16, .inr (.inl fam))), (le, .inl (cs 5, 4, .inr (.inr (.inr (.inr (rowsF 4 lr)))))), ((lr 0), .inl (cs 1, 12, .inr (.inl (flr 0)))), ((lr 1), .inl (cs 1, 12, .inr (.inl (flr 1)))), ((lr 2), .inl (cs 1, 12, .inr (.inl (flr 2)))), ((lr 3), .inl (cs 1, 12, .inr (.inl (flr 3)))), (ne, .inl (cs 1, 12, .inr (.inl fne))), (tr, .inl (cs 0, 4, .inl ftr))] s.heap.size = A at hD ⊢
  have hA : ∀ q : Nat, s.heap.size ≤ q → A q := fun q h => by rw [← hAe]; exact Or.inr h
  have hS : va_S A s.heap s.heap [] := va_S.rf
  have hP : va_P D vwCl [(ch, .inr (0, [.ref aq, .ref sm, .ref tb, .ref ck, .ref cm, .ref le, .ref ne, .ref pr, .ref tr, .ref ln, .int trs, .long lpr])), (ck, .inr (1, [.ref ckn, .null, .int 0])), (ckn, .inl (cs 0, 4, .inl fck)), (h0, .inr (ci, [.ref nq, av, .int rk])), (nq, .inl (cs 0, 4, .inl fq)), (aq, .inr (5, [.ref aw, .ref ac, .ref ao, .ref am, .int (nI C), .int (nI P), .long tot])), (ao, .inl (cs 0, 4, .inl fao)), (am, .inl (cs 1, 16, .inr (.inl fam))), (le, .inl (cs 5, 4, .inr (.inr (.inr (.inr (rowsF 4 lr)))))), ((lr 0), .inl (cs 1, 12, .inr (.inl (flr 0)))), ((lr 1), .inl (cs 1, 12, .inr (.inl (flr 1)))), ((lr 2), .inl (cs 1, 12, .inr (.inl (flr 2)))), ((lr 3), .inl (cs 1, 12, .inr (.inl (flr 3)))), (ne, .inl (cs 1, 12, .inr (.inl fne))), (tr, .inl (cs 0, 4, .inl ftr))] s.heap := hP
  have hl := lv_entry ([.ref ch, .ref h0]) (n := 4) (Nat.le_of_ble_eq_true rfl)
  rw [show entryFrame m args 4 = F0 m 0 (lg_sl ([.ref ch, .ref h0]) ++ List.replicate (4 - (lg_sl ([.ref ch, .ref h0])).length) Slot.unset).toArray [] from by rw [hargs]; exact lg_entry_eq ..]
  generalize (lg_sl ([.ref ch, .ref h0]) ++ List.replicate (4 - (lg_sl ([.ref ch, .ref h0])).length) Slot.unset).toArray = ls at hl ⊢
  have hl : lv_has ls 4 [(0, .ref ch), (1, .ref h0)] := hl
  refine W_genQ (fun Q hQ => ?_)
  have hlm := lim_le hP4
  have hlq := lim_pos P
  have hsg := sgn_le hP4
  refine lv_aload_n hx hb dX0_seekLook_0 rfl (lv_at hl 1 rfl) ?_
  refine pg_get0 (v := .ref nq) hx hb hg hown hK hP 3 rfl hci (hg _ kw_277) rfl dX0_seekLook_1 ?_
  refine lv_astore_n (lv' := [(2, .ref nq), (0, .ref ch), (1, .ref h0)]) hx hb dX0_seekLook_4 rfl hl (by decide) rfl (fun ls hl => ?_)
  refine lv_aload_n hx hb dX0_seekLook_5 rfl (lv_at hl 1 rfl) ?_
  refine va_get (D := D) (ci := 0) (v := .ref ck) (C := RX0) (T := TX0) (N := 12) hx hb hg gwX0 hown hK hP 0 rfl rfl 3 (by decide) (hg _ kw_278) (fun _ h9 => h9) rfl dX0_seekLook_6 ?_
  refine lv_aload_n hx hb dX0_seekLook_9 rfl (lv_at hl 0 rfl) ?_
  refine lv_iconst (v := 0) hx hb dX0_seekLook_10 (by decide) ?_
  refine va_iald hx hb hK hP 4 0 rfl rfl (show ¬ ((0 : Int32) < 0 ∨ 4 ≤ (0 : Int32).toNatClampNeg) by decide) dX0_seekLook_11 ?_
  refine lv_topi (fun z_11 e_11 => ?_)
  refine lv_iconst (v := 0) hx hb dX0_seekLook_12 (by decide) ?_
  refine lv_aload_n hx hb dX0_seekLook_13 rfl (lv_at hl 0 rfl) ?_
  refine lv_iconst (v := 2) hx hb dX0_seekLook_14 (by decide) ?_
  refine va_iald hx hb hK hP 4 0 rfl rfl (show ¬ ((2 : Int32) < 0 ∨ 4 ≤ (2 : Int32).toNatClampNeg) by decide) dX0_seekLook_15 ?_
  refine lv_topi (fun z_15 e_15 => ?_)
  refine lv_aload_n hx hb dX0_seekLook_16 rfl (lv_at hl 0 rfl) ?_
  refine lv_iconst (v := 3) hx hb dX0_seekLook_17 (by decide) ?_
  refine va_iald hx hb hK hP 4 0 rfl rfl (show ¬ ((3 : Int32) < 0 ∨ 4 ≤ (3 : Int32).toNatClampNeg) by decide) dX0_seekLook_18 ?_
  refine lv_topi (fun z_18 e_18 => ?_)
  have hPc := hP.sub (ws' := [(ck, .inr (1, [.ref ckn, .null, .int 0])), (ckn, .inl (cs 0, 4, .inl fck))]) [1, 2] rfl
  have hDc := hD.sub (ws' := [(ck, .inr (1, [.ref ckn, .null, .int 0])), (ckn, .inl (cs 0, 4, .inl fck))]) [1, 2] (by decide) rfl
  have hFc := va_free (wc := [(ck, .inr (1, [.ref ckn, .null, .int 0])), (ckn, .inl (cs 0, 4, .inl fck))]) hD hS hA [1, 2] rfl
  refine va_callv (va_runU (As := [.int z_11, .int 0, .int z_15, .int z_18]) (rest := []) ⟨hx, hb, hml, hown, hg⟩ (p_become_1 l D cs ck ckn .null 0 fck z_11 0 z_15 z_18 _) (va_cwU (owner := "NobodyChecks$Pay") (x := ⟨"NobodyChecks$Check", "become", "(IIII)V"⟩) 4 hg (gw_U kw_279 kw_280 kw_281 kw_263 kw_151 kw_259) rfl rfl rfl rfl (by decide +kernel) ⟨(Nat.le_of_ble_eq_true rfl), (Nat.le_of_ble_eq_true rfl)⟩) (pr_MV (q := (RX1, TX1, 3)) 1 0 hK hPc hDc rfl rfl) rfl rfl hl.1 rfl (lv_room (Nat.le_of_ble_eq_true rfl)) dX0_seekLook_19 ⟨(Nat.le_of_ble_eq_true rfl), (Nat.le_of_ble_eq_true rfl)⟩) hS (fun q _ h => hFc q h) hFc (fun u t H1 locs ht hvm h_19 hB hz1 hk1 hS => ?_)
  obtain ⟨fq2_19, hq2_19, hP1, hD1⟩ := hB
  rw [ht] at hP1
  obtain ⟨hP, hD⟩ := va_join (wr := [(ch, .inr (0, [.ref aq, .ref sm, .ref tb, .ref ck, .ref cm, .ref le, .ref ne, .ref pr, .ref tr, .ref ln, .int trs, .long lpr])), (h0, .inr (ci, [.ref nq, av, .int rk])), (nq, .inl (cs 0, 4, .inl fq)), (aq, .inr (5, [.ref aw, .ref ac, .ref ao, .ref am, .int (nI C), .int (nI P), .long tot])), (ao, .inl (cs 0, 4, .inl fao)), (am, .inl (cs 1, 16, .inr (.inl fam))), (le, .inl (cs 5, 4, .inr (.inr (.inr (.inr (rowsF 4 lr)))))), ((lr 0), .inl (cs 1, 12, .inr (.inl (flr 0)))), ((lr 1), .inl (cs 1, 12, .inr (.inl (flr 1)))), ((lr 2), .inl (cs 1, 12, .inr (.inl (flr 2)))), ((lr 3), .inl (cs 1, 12, .inr (.inl (flr 3)))), (ne, .inl (cs 1, 12, .inr (.inl fne))), (tr, .inl (cs 0, 4, .inl ftr))]) (w1 := [(ck, .inr (1, [.ref ckn, .null, .int 0])), (ckn, .inl (cs 0, 4, .inl fq2_19))]) hP hD [1, 2] [0, 3, 4, 5, 6, 7, 8, 9, 10, 11, 12, 13, 14] rfl rfl (by decide) (by decide) hk1 hFc hP1 hD1
  generalize H1 = H at hP hS ⊢
  have hP : va_P D vwCl [(ch, .inr (0, [.ref aq, .ref sm, .ref tb, .ref ck, .ref cm, .ref le, .ref ne, .ref pr, .ref tr, .ref ln, .int trs, .long lpr])), (h0, .inr (ci, [.ref nq, av, .int rk])), (nq, .inl (cs 0, 4, .inl fq)), (aq, .inr (5, [.ref aw, .ref ac, .ref ao, .ref am, .int (nI C), .int (nI P), .long tot])), (ao, .inl (cs 0, 4, .inl fao)), (am, .inl (cs 1, 16, .inr (.inl fam))), (le, .inl (cs 5, 4, .inr (.inr (.inr (.inr (rowsF 4 lr)))))), ((lr 0), .inl (cs 1, 12, .inr (.inl (flr 0)))), ((lr 1), .inl (cs 1, 12, .inr (.inl (flr 1)))), ((lr 2), .inl (cs 1, 12, .inr (.inl (flr 2)))), ((lr 3), .inl (cs 1, 12, .inr (.inl (flr 3)))), (ne, .inl (cs 1, 12, .inr (.inl fne))), (tr, .inl (cs 0, 4, .inl ftr)), (ck, .inr (1, [.ref ckn, .null, .int 0])), (ckn, .inl (cs 0, 4, .inl fq2_19))] H := hP
  have hD : va_D A [(ch, .inr (0, [.ref aq, .ref sm, .ref tb, .ref ck, .ref cm, .ref le, .ref ne, .ref pr, .ref tr, .ref ln, .int trs, .long lpr])), (h0, .inr (ci, [.ref nq, av, .int rk])), (nq, .inl (cs 0, 4, .inl fq)), (aq, .inr (5, [.ref aw, .ref ac, .ref ao, .ref am, .int (nI C), .int (nI P), .long tot])), (ao, .inl (cs 0, 4, .inl fao)), (am, .inl (cs 1, 16, .inr (.inl fam))), (le, .inl (cs 5, 4, .inr (.inr (.inr (.inr (rowsF 4 lr)))))), ((lr 0), .inl (cs 1, 12, .inr (.inl (flr 0)))), ((lr 1), .inl (cs 1, 12, .inr (.inl (flr 1)))), ((lr 2), .inl (cs 1, 12, .inr (.inl (flr 2)))), ((lr 3), .inl (cs 1, 12, .inr (.inl (flr 3)))), (ne, .inl (cs 1, 12, .inr (.inl fne))), (tr, .inl (cs 0, 4, .inl ftr)), (ck, .inr (1, [.ref ckn, .null, .int 0])), (ckn, .inl (cs 0, 4, .inl fq2_19))] := hD
  refine W.cs (cells' := 0) (slots' := 0) rfl rfl ?_
  refine lv_aload_n hx hb dX0_seekLook_22 rfl (lv_at hl 1 rfl) ?_
  refine lv_aload_n hx hb dX0_seekLook_23 rfl (lv_at hl 1 rfl) ?_
  refine va_get (D := D) (ci := 0) (v := .ref ck) (C := RX0) (T := TX0) (N := 12) hx hb hg gwX0 hown hK hP 0 rfl rfl 3 (by decide) (hg _ kw_278) (fun _ h9 => h9) rfl dX0_seekLook_24 ?_
  refine lv_aload_n hx hb dX0_seekLook_27 rfl (lv_at hl 1 rfl) ?_
  refine va_get (D := D) (ci := 0) (v := .ref aq) (C := RX0) (T := TX0) (N := 12) hx hb hg gwX0 hown hK hP 0 rfl rfl 0 (by decide) (hg _ kw_244) (fun _ h9 => h9) rfl dX0_seekLook_28 ?_
  refine va_get (D := D) (ci := 5) (v := .ref am) (C := RX5) (T := TX5) (N := 7) hx hb hg gwX5 hown hK hP 3 rfl rfl 3 (by decide) (hg _ kw_253) (fun _ h9 => h9) rfl dX0_seekLook_31 ?_
  refine lv_aload_n hx hb dX0_seekLook_34 rfl (lv_at hl 1 rfl) ?_
  refine va_get (D := D) (ci := 0) (v := .ref le) (C := RX0) (T := TX0) (N := 12) hx hb hg gwX0 hown hK hP 0 rfl rfl 5 (by decide) (hg _ kw_252) (fun _ h9 => h9) rfl dX0_seekLook_35 ?_
  refine lv_iconst (v := 0) hx hb dX0_seekLook_38 (by decide) ?_
  refine va_aldR (k := 0) hx hb hK hP 6 5 rfl rfl (show 0 < 4 by omega) (by decide) dX0_seekLook_39 ?_
  have hPc := hP.sub (ws' := [(ch, .inr (0, [.ref aq, .ref sm, .ref tb, .ref ck, .ref cm, .ref le, .ref ne, .ref pr, .ref tr, .ref ln, .int trs, .long lpr])), (ck, .inr (1, [.ref ckn, .null, .int 0])), (ckn, .inl (cs 0, 4, .inl fq2_19)), (aq, .inr (5, [.ref aw, .ref ac, .ref ao, .ref am, .int (nI C), .int (nI P), .long tot])), (am, .inl (cs 1, 16, .inr (.inl fam))), ((lr 0), .inl (cs 1, 12, .inr (.inl (flr 0))))]) [0, 13, 14, 3, 5, 7] rfl
  have hDc := hD.sub (ws' := [(ch, .inr (0, [.ref aq, .ref sm, .ref tb, .ref ck, .ref cm, .ref le, .ref ne, .ref pr, .ref tr, .ref ln, .int trs, .long lpr])), (ck, .inr (1, [.ref ckn, .null, .int 0])), (ckn, .inl (cs 0, 4, .inl fq2_19)), (aq, .inr (5, [.ref aw, .ref ac, .ref ao, .ref am, .int (nI C), .int (nI P), .long tot])), (am, .inl (cs 1, 16, .inr (.inl fam))), ((lr 0), .inl (cs 1, 12, .inr (.inl (flr 0))))]) [0, 13, 14, 3, 5, 7] (by decide) rfl
  have hFc := va_free (wc := [(ch, .inr (0, [.ref aq, .ref sm, .ref tb, .ref ck, .ref cm, .ref le, .ref ne, .ref pr, .ref tr, .ref ln, .int trs, .long lpr])), (ck, .inr (1, [.ref ckn, .null, .int 0])), (ckn, .inl (cs 0, 4, .inl fq2_19)), (aq, .inr (5, [.ref aw, .ref ac, .ref ao, .ref am, .int (nI C), .int (nI P), .long tot])), (am, .inl (cs 1, 16, .inr (.inl fam))), ((lr 0), .inl (cs 1, 12, .inr (.inl (flr 0))))]) hD hS hA [0, 13, 14, 3, 5, 7] rfl
  refine va_callv (va_runV (As := [.ref ck, .ref am, .ref (lr 0)]) (rest := []) ⟨hx, hb, hml, hown, hg⟩ (h_fillLeads l D cs ch sm tb ck cm le ne pr tr ln trs lpr ck ckn .null 0 1 (by unfold isPy; omega) fq2_19 aq aw ac ao am C (by omega) P (by omega) tot am (lr 0) fam (flr 0) _) (cwV 3 hg (gw_V kw_265 kw_266 kw_267 kw_268 kw_264) rfl rfl rfl (by decide +kernel) ⟨(Nat.le_of_ble_eq_true rfl), (Nat.le_of_ble_eq_true rfl)⟩) (pr_MV (q := (RX0, TX0, 12)) 0 0 hK hPc hDc rfl rfl) rfl rfl hl.1 rfl (lv_room (Nat.le_of_ble_eq_true rfl)) dX0_seekLook_40 ⟨(Nat.le_of_ble_eq_true rfl), (Nat.le_of_ble_eq_true rfl)⟩) hS (fun q _ h => hFc q h) hFc (fun u t H1 locs ht hvm h_40 hB hz1 hk1 hS => ?_)
  obtain ⟨ffd2_40, hP1, hD1⟩ := hB
  rw [ht] at hP1
  obtain ⟨hP, hD⟩ := va_join (wr := [(h0, .inr (ci, [.ref nq, av, .int rk])), (nq, .inl (cs 0, 4, .inl fq)), (ao, .inl (cs 0, 4, .inl fao)), (le, .inl (cs 5, 4, .inr (.inr (.inr (.inr (rowsF 4 lr)))))), ((lr 1), .inl (cs 1, 12, .inr (.inl (flr 1)))), ((lr 2), .inl (cs 1, 12, .inr (.inl (flr 2)))), ((lr 3), .inl (cs 1, 12, .inr (.inl (flr 3)))), (ne, .inl (cs 1, 12, .inr (.inl fne))), (tr, .inl (cs 0, 4, .inl ftr))]) (w1 := [(ch, .inr (0, [.ref aq, .ref sm, .ref tb, .ref ck, .ref cm, .ref le, .ref ne, .ref pr, .ref tr, .ref ln, .int trs, .long lpr])), (ck, .inr (1, [.ref ckn, .null, .int 0])), (ckn, .inl (cs 0, 4, .inl fq2_19)), (aq, .inr (5, [.ref aw, .ref ac, .ref ao, .ref am, .int (nI C), .int (nI P), .long tot])), (am, .inl (cs 1, 16, .inr (.inl fam))), ((lr 0), .inl (cs 1, 12, .inr (.inl ffd2_40)))]) hP hD [0, 13, 14, 3, 5, 7] [1, 2, 4, 6, 8, 9, 10, 11, 12] rfl rfl (by decide) (by decide) hk1 hFc hP1 hD1
  generalize H1 = H at hP hS ⊢
  have hP : va_P D vwCl [(h0, .inr (ci, [.ref nq, av, .int rk])), (nq, .inl (cs 0, 4, .inl fq)), (ao, .inl (cs 0, 4, .inl fao)), (le, .inl (cs 5, 4, .inr (.inr (.inr (.inr (rowsF 4 lr)))))), ((lr 1), .inl (cs 1, 12, .inr (.inl (flr 1)))), ((lr 2), .inl (cs 1, 12, .inr (.inl (flr 2)))), ((lr 3), .inl (cs 1, 12, .inr (.inl (flr 3)))), (ne, .inl (cs 1, 12, .inr (.inl fne))), (tr, .inl (cs 0, 4, .inl ftr)), (ch, .inr (0, [.ref aq, .ref sm, .ref tb, .ref ck, .ref cm, .ref le, .ref ne, .ref pr, .ref tr, .ref ln, .int trs, .long lpr])), (ck, .inr (1, [.ref ckn, .null, .int 0])), (ckn, .inl (cs 0, 4, .inl fq2_19)), (aq, .inr (5, [.ref aw, .ref ac, .ref ao, .ref am, .int (nI C), .int (nI P), .long tot])), (am, .inl (cs 1, 16, .inr (.inl fam))), ((lr 0), .inl (cs 1, 12, .inr (.inl ffd2_40)))] H := hP
  have hD : va_D A [(h0, .inr (ci, [.ref nq, av, .int rk])), (nq, .inl (cs 0, 4, .inl fq)), (ao, .inl (cs 0, 4, .inl fao)), (le, .inl (cs 5, 4, .inr (.inr (.inr (.inr (rowsF 4 lr)))))), ((lr 1), .inl (cs 1, 12, .inr (.inl (flr 1)))), ((lr 2), .inl (cs 1, 12, .inr (.inl (flr 2)))), ((lr 3), .inl (cs 1, 12, .inr (.inl (flr 3)))), (ne, .inl (cs 1, 12, .inr (.inl fne))), (tr, .inl (cs 0, 4, .inl ftr)), (ch, .inr (0, [.ref aq, .ref sm, .ref tb, .ref ck, .ref cm, .ref le, .ref ne, .ref pr, .ref tr, .ref ln, .int trs, .long lpr])), (ck, .inr (1, [.ref ckn, .null, .int 0])), (ckn, .inl (cs 0, 4, .inl fq2_19)), (aq, .inr (5, [.ref aw, .ref ac, .ref ao, .ref am, .int (nI C), .int (nI P), .long tot])), (am, .inl (cs 1, 16, .inr (.inl fam))), ((lr 0), .inl (cs 1, 12, .inr (.inl ffd2_40)))] := hD
  refine W.cs (cells' := 0) (slots' := 0) rfl rfl ?_
  obtain ⟨frlr_40, hfrlr_40⟩ : ∃ f9, f9 = va_up flr 0 ffd2_40 := ⟨_, rfl⟩
  have hP : va_P D vwCl [(h0, .inr (ci, [.ref nq, av, .int rk])), (nq, .inl (cs 0, 4, .inl fq)), (ao, .inl (cs 0, 4, .inl fao)), (le, .inl (cs 5, 4, .inr (.inr (.inr (.inr (rowsF 4 lr)))))), ((lr 1), .inl (cs 1, 12, .inr (.inl (frlr_40 1)))), ((lr 2), .inl (cs 1, 12, .inr (.inl (frlr_40 2)))), ((lr 3), .inl (cs 1, 12, .inr (.inl (frlr_40 3)))), (ne, .inl (cs 1, 12, .inr (.inl fne))), (tr, .inl (cs 0, 4, .inl ftr)), (ch, .inr (0, [.ref aq, .ref sm, .ref tb, .ref ck, .ref cm, .ref le, .ref ne, .ref pr, .ref tr, .ref ln, .int trs, .long lpr])), (ck, .inr (1, [.ref ckn, .null, .int 0])), (ckn, .inl (cs 0, 4, .inl fq2_19)), (aq, .inr (5, [.ref aw, .ref ac, .ref ao, .ref am, .int (nI C), .int (nI P), .long tot])), (am, .inl (cs 1, 16, .inr (.inl fam))), ((lr 0), .inl (cs 1, 12, .inr (.inl (frlr_40 0))))] H := by rw [hfrlr_40]; exact hP
  have hD : va_D A [(h0, .inr (ci, [.ref nq, av, .int rk])), (nq, .inl (cs 0, 4, .inl fq)), (ao, .inl (cs 0, 4, .inl fao)), (le, .inl (cs 5, 4, .inr (.inr (.inr (.inr (rowsF 4 lr)))))), ((lr 1), .inl (cs 1, 12, .inr (.inl (frlr_40 1)))), ((lr 2), .inl (cs 1, 12, .inr (.inl (frlr_40 2)))), ((lr 3), .inl (cs 1, 12, .inr (.inl (frlr_40 3)))), (ne, .inl (cs 1, 12, .inr (.inl fne))), (tr, .inl (cs 0, 4, .inl ftr)), (ch, .inr (0, [.ref aq, .ref sm, .ref tb, .ref ck, .ref cm, .ref le, .ref ne, .ref pr, .ref tr, .ref ln, .int trs, .long lpr])), (ck, .inr (1, [.ref ckn, .null, .int 0])), (ckn, .inl (cs 0, 4, .inl fq2_19)), (aq, .inr (5, [.ref aw, .ref ac, .ref ao, .ref am, .int (nI C), .int (nI P), .long tot])), (am, .inl (cs 1, 16, .inr (.inl fam))), ((lr 0), .inl (cs 1, 12, .inr (.inl (frlr_40 0))))] := by rw [hfrlr_40]; exact hD
  refine lv_aload_n hx hb dX0_seekLook_43 rfl (lv_at hl 1 rfl) ?_
  refine va_get (D := D) (ci := 0) (v := .ref ck) (C := RX0) (T := TX0) (N := 12) hx hb hg gwX0 hown hK hP 9 rfl rfl 3 (by decide) (hg _ kw_278) (fun _ h9 => h9) rfl dX0_seekLook_44 ?_
  refine lv_iconst (v := 0) hx hb dX0_seekLook_47 (by decide) ?_
  refine lv_iconst (v := 1) hx hb dX0_seekLook_48 (by decide) ?_
  refine lv_aload_n hx hb dX0_seekLook_49 rfl (lv_at hl 0 rfl) ?_
  refine lv_iconst (v := 2) hx hb dX0_seekLook_50 (by decide) ?_
  refine va_iald hx hb hK hP 1 0 rfl rfl (show ¬ ((2 : Int32) < 0 ∨ 4 ≤ (2 : Int32).toNatClampNeg) by decide) dX0_seekLook_51 ?_
  refine lv_topi (fun z_51 e_51 => ?_)
  refine lv_aload_n hx hb dX0_seekLook_52 rfl (lv_at hl 0 rfl) ?_
  refine lv_iconst (v := 3) hx hb dX0_seekLook_53 (by decide) ?_
  refine va_iald hx hb hK hP 1 0 rfl rfl (show ¬ ((3 : Int32) < 0 ∨ 4 ≤ (3 : Int32).toNatClampNeg) by decide) dX0_seekLook_54 ?_
  refine lv_topi (fun z_54 e_54 => ?_)
  have hPc := hP.sub (ws' := [(ck, .inr (1, [.ref ckn, .null, .int 0])), (ckn, .inl (cs 0, 4, .inl fq2_19))]) [10, 11] rfl
  have hDc := hD.sub (ws' := [(ck, .inr (1, [.ref ckn, .null, .int 0])), (ckn, .inl (cs 0, 4, .inl fq2_19))]) [10, 11] (by decide) rfl
  have hFc := va_free (wc := [(ck, .inr (1, [.ref ckn, .null, .int 0])), (ckn, .inl (cs 0, 4, .inl fq2_19))]) hD hS hA [10, 11] rfl
  refine va_callv (va_runU (As := [.int 0, .int 1, .int z_51, .int z_54]) (rest := []) ⟨hx, hb, hml, hown, hg⟩ (p_become_1 l D cs ck ckn .null 0 fq2_19 0 1 z_51 z_54 _) (va_cwU (owner := "NobodyChecks$Pay") (x := ⟨"NobodyChecks$Check", "become", "(IIII)V"⟩) 4 hg (gw_U kw_279 kw_280 kw_281 kw_263 kw_151 kw_259) rfl rfl rfl rfl (by decide +kernel) ⟨(Nat.le_of_ble_eq_true rfl), (Nat.le_of_ble_eq_true rfl)⟩) (pr_MV (q := (RX1, TX1, 3)) 1 0 hK hPc hDc rfl rfl) rfl rfl hl.1 rfl (lv_room (Nat.le_of_ble_eq_true rfl)) dX0_seekLook_55 ⟨(Nat.le_of_ble_eq_true rfl), (Nat.le_of_ble_eq_true rfl)⟩) hS (fun q _ h => hFc q h) hFc (fun u t H1 locs ht hvm h_55 hB hz1 hk1 hS => ?_)
  obtain ⟨fq2_55, hq2_55, hP1, hD1⟩ := hB
  rw [ht] at hP1
  obtain ⟨hP, hD⟩ := va_join (wr := [(h0, .inr (ci, [.ref nq, av, .int rk])), (nq, .inl (cs 0, 4, .inl fq)), (ao, .inl (cs 0, 4, .inl fao)), (le, .inl (cs 5, 4, .inr (.inr (.inr (.inr (rowsF 4 lr)))))), ((lr 1), .inl (cs 1, 12, .inr (.inl (frlr_40 1)))), ((lr 2), .inl (cs 1, 12, .inr (.inl (frlr_40 2)))), ((lr 3), .inl (cs 1, 12, .inr (.inl (frlr_40 3)))), (ne, .inl (cs 1, 12, .inr (.inl fne))), (tr, .inl (cs 0, 4, .inl ftr)), (ch, .inr (0, [.ref aq, .ref sm, .ref tb, .ref ck, .ref cm, .ref le, .ref ne, .ref pr, .ref tr, .ref ln, .int trs, .long lpr])), (aq, .inr (5, [.ref aw, .ref ac, .ref ao, .ref am, .int (nI C), .int (nI P), .long tot])), (am, .inl (cs 1, 16, .inr (.inl fam))), ((lr 0), .inl (cs 1, 12, .inr (.inl (frlr_40 0))))]) (w1 := [(ck, .inr (1, [.ref ckn, .null, .int 0])), (ckn, .inl (cs 0, 4, .inl fq2_55))]) hP hD [10, 11] [0, 1, 2, 3, 4, 5, 6, 7, 8, 9, 12, 13, 14] rfl rfl (by decide) (by decide) hk1 hFc hP1 hD1
  generalize H1 = H at hP hS ⊢
  have hP : va_P D vwCl [(h0, .inr (ci, [.ref nq, av, .int rk])), (nq, .inl (cs 0, 4, .inl fq)), (ao, .inl (cs 0, 4, .inl fao)), (le, .inl (cs 5, 4, .inr (.inr (.inr (.inr (rowsF 4 lr)))))), ((lr 1), .inl (cs 1, 12, .inr (.inl (frlr_40 1)))), ((lr 2), .inl (cs 1, 12, .inr (.inl (frlr_40 2)))), ((lr 3), .inl (cs 1, 12, .inr (.inl (frlr_40 3)))), (ne, .inl (cs 1, 12, .inr (.inl fne))), (tr, .inl (cs 0, 4, .inl ftr)), (ch, .inr (0, [.ref aq, .ref sm, .ref tb, .ref ck, .ref cm, .ref le, .ref ne, .ref pr, .ref tr, .ref ln, .int trs, .long lpr])), (aq, .inr (5, [.ref aw, .ref ac, .ref ao, .ref am, .int (nI C), .int (nI P), .long tot])), (am, .inl (cs 1, 16, .inr (.inl fam))), ((lr 0), .inl (cs 1, 12, .inr (.inl (frlr_40 0)))), (ck, .inr (1, [.ref ckn, .null, .int 0])), (ckn, .inl (cs 0, 4, .inl fq2_55))] H := hP
  have hD : va_D A [(h0, .inr (ci, [.ref nq, av, .int rk])), (nq, .inl (cs 0, 4, .inl fq)), (ao, .inl (cs 0, 4, .inl fao)), (le, .inl (cs 5, 4, .inr (.inr (.inr (.inr (rowsF 4 lr)))))), ((lr 1), .inl (cs 1, 12, .inr (.inl (frlr_40 1)))), ((lr 2), .inl (cs 1, 12, .inr (.inl (frlr_40 2)))), ((lr 3), .inl (cs 1, 12, .inr (.inl (frlr_40 3)))), (ne, .inl (cs 1, 12, .inr (.inl fne))), (tr, .inl (cs 0, 4, .inl ftr)), (ch, .inr (0, [.ref aq, .ref sm, .ref tb, .ref ck, .ref cm, .ref le, .ref ne, .ref pr, .ref tr, .ref ln, .int trs, .long lpr])), (aq, .inr (5, [.ref aw, .ref ac, .ref ao, .ref am, .int (nI C), .int (nI P), .long tot])), (am, .inl (cs 1, 16, .inr (.inl fam))), ((lr 0), .inl (cs 1, 12, .inr (.inl (frlr_40 0)))), (ck, .inr (1, [.ref ckn, .null, .int 0])), (ckn, .inl (cs 0, 4, .inl fq2_55))] := hD
  refine W.cs (cells' := 0) (slots' := 0) rfl rfl ?_
  refine lv_aload_n hx hb dX0_seekLook_58 rfl (lv_at hl 1 rfl) ?_
  refine lv_aload_n hx hb dX0_seekLook_59 rfl (lv_at hl 1 rfl) ?_
  refine va_get (D := D) (ci := 0) (v := .ref ck) (C := RX0) (T := TX0) (N := 12) hx hb hg gwX0 hown hK hP 9 rfl rfl 3 (by decide) (hg _ kw_278) (fun _ h9 => h9) rfl dX0_seekLook_60 ?_
  refine lv_aload_n hx hb dX0_seekLook_63 rfl (lv_at hl 1 rfl) ?_
  refine va_get (D := D) (ci := 0) (v := .ref aq) (C := RX0) (T := TX0) (N := 12) hx hb hg gwX0 hown hK hP 9 rfl rfl 0 (by decide) (hg _ kw_244) (fun _ h9 => h9) rfl dX0_seekLook_64 ?_
  refine va_get (D := D) (ci := 5) (v := .ref am) (C := RX5) (T := TX5) (N := 7) hx hb hg gwX5 hown hK hP 10 rfl rfl 3 (by decide) (hg _ kw_253) (fun _ h9 => h9) rfl dX0_seekLook_67 ?_
  refine lv_aload_n hx hb dX0_seekLook_70 rfl (lv_at hl 1 rfl) ?_
  refine va_get (D := D) (ci := 0) (v := .ref le) (C := RX0) (T := TX0) (N := 12) hx hb hg gwX0 hown hK hP 9 rfl rfl 5 (by decide) (hg _ kw_252) (fun _ h9 => h9) rfl dX0_seekLook_71 ?_
  refine lv_iconst (v := 1) hx hb dX0_seekLook_74 (by decide) ?_
  refine va_aldR (k := 1) hx hb hK hP 3 5 rfl rfl (show 1 < 4 by omega) (by decide) dX0_seekLook_75 ?_
  have hPc := hP.sub (ws' := [(ch, .inr (0, [.ref aq, .ref sm, .ref tb, .ref ck, .ref cm, .ref le, .ref ne, .ref pr, .ref tr, .ref ln, .int trs, .long lpr])), (ck, .inr (1, [.ref ckn, .null, .int 0])), (ckn, .inl (cs 0, 4, .inl fq2_55)), (aq, .inr (5, [.ref aw, .ref ac, .ref ao, .ref am, .int (nI C), .int (nI P), .long tot])), (am, .inl (cs 1, 16, .inr (.inl fam))), ((lr 1), .inl (cs 1, 12, .inr (.inl (frlr_40 1))))]) [9, 13, 14, 10, 11, 4] rfl
  have hDc := hD.sub (ws' := [(ch, .inr (0, [.ref aq, .ref sm, .ref tb, .ref ck, .ref cm, .ref le, .ref ne, .ref pr, .ref tr, .ref ln, .int trs, .long lpr])), (ck, .inr (1, [.ref ckn, .null, .int 0])), (ckn, .inl (cs 0, 4, .inl fq2_55)), (aq, .inr (5, [.ref aw, .ref ac, .ref ao, .ref am, .int (nI C), .int (nI P), .long tot])), (am, .inl (cs 1, 16, .inr (.inl fam))), ((lr 1), .inl (cs 1, 12, .inr (.inl (frlr_40 1))))]) [9, 13, 14, 10, 11, 4] (by decide) rfl
  have hFc := va_free (wc := [(ch, .inr (0, [.ref aq, .ref sm, .ref tb, .ref ck, .ref cm, .ref le, .ref ne, .ref pr, .ref tr, .ref ln, .int trs, .long lpr])), (ck, .inr (1, [.ref ckn, .null, .int 0])), (ckn, .inl (cs 0, 4, .inl fq2_55)), (aq, .inr (5, [.ref aw, .ref ac, .ref ao, .ref am, .int (nI C), .int (nI P), .long tot])), (am, .inl (cs 1, 16, .inr (.inl fam))), ((lr 1), .inl (cs 1, 12, .inr (.inl (frlr_40 1))))]) hD hS hA [9, 13, 14, 10, 11, 4] rfl
  refine va_callv (va_runV (As := [.ref ck, .ref am, .ref (lr 1)]) (rest := []) ⟨hx, hb, hml, hown, hg⟩ (h_fillLeads l D cs ch sm tb ck cm le ne pr tr ln trs lpr ck ckn .null 0 1 (by unfold isPy; omega) fq2_55 aq aw ac ao am C (by omega) P (by omega) tot am (lr 1) fam (frlr_40 1) _) (cwV 3 hg (gw_V kw_265 kw_266 kw_267 kw_268 kw_264) rfl rfl rfl (by decide +kernel) ⟨(Nat.le_of_ble_eq_true rfl), (Nat.le_of_ble_eq_true rfl)⟩) (pr_MV (q := (RX0, TX0, 12)) 0 0 hK hPc hDc rfl rfl) rfl rfl hl.1 rfl (lv_room (Nat.le_of_ble_eq_true rfl)) dX0_seekLook_76 ⟨(Nat.le_of_ble_eq_true rfl), (Nat.le_of_ble_eq_true rfl)⟩) hS (fun q _ h => hFc q h) hFc (fun u t H1 locs ht hvm h_76 hB hz1 hk1 hS => ?_)
  obtain ⟨ffd2_76, hP1, hD1⟩ := hB
  rw [ht] at hP1
  obtain ⟨hP, hD⟩ := va_join (wr := [(h0, .inr (ci, [.ref nq, av, .int rk])), (nq, .inl (cs 0, 4, .inl fq)), (ao, .inl (cs 0, 4, .inl fao)), (le, .inl (cs 5, 4, .inr (.inr (.inr (.inr (rowsF 4 lr)))))), ((lr 2), .inl (cs 1, 12, .inr (.inl (frlr_40 2)))), ((lr 3), .inl (cs 1, 12, .inr (.inl (frlr_40 3)))), (ne, .inl (cs 1, 12, .inr (.inl fne))), (tr, .inl (cs 0, 4, .inl ftr)), ((lr 0), .inl (cs 1, 12, .inr (.inl (frlr_40 0))))]) (w1 := [(ch, .inr (0, [.ref aq, .ref sm, .ref tb, .ref ck, .ref cm, .ref le, .ref ne, .ref pr, .ref tr, .ref ln, .int trs, .long lpr])), (ck, .inr (1, [.ref ckn, .null, .int 0])), (ckn, .inl (cs 0, 4, .inl fq2_55)), (aq, .inr (5, [.ref aw, .ref ac, .ref ao, .ref am, .int (nI C), .int (nI P), .long tot])), (am, .inl (cs 1, 16, .inr (.inl fam))), ((lr 1), .inl (cs 1, 12, .inr (.inl ffd2_76)))]) hP hD [9, 13, 14, 10, 11, 4] [0, 1, 2, 3, 5, 6, 7, 8, 12] rfl rfl (by decide) (by decide) hk1 hFc hP1 hD1
  generalize H1 = H at hP hS ⊢
  have hP : va_P D vwCl [(h0, .inr (ci, [.ref nq, av, .int rk])), (nq, .inl (cs 0, 4, .inl fq)), (ao, .inl (cs 0, 4, .inl fao)), (le, .inl (cs 5, 4, .inr (.inr (.inr (.inr (rowsF 4 lr)))))), ((lr 2), .inl (cs 1, 12, .inr (.inl (frlr_40 2)))), ((lr 3), .inl (cs 1, 12, .inr (.inl (frlr_40 3)))), (ne, .inl (cs 1, 12, .inr (.inl fne))), (tr, .inl (cs 0, 4, .inl ftr)), ((lr 0), .inl (cs 1, 12, .inr (.inl (frlr_40 0)))), (ch, .inr (0, [.ref aq, .ref sm, .ref tb, .ref ck, .ref cm, .ref le, .ref ne, .ref pr, .ref tr, .ref ln, .int trs, .long lpr])), (ck, .inr (1, [.ref ckn, .null, .int 0])), (ckn, .inl (cs 0, 4, .inl fq2_55)), (aq, .inr (5, [.ref aw, .ref ac, .ref ao, .ref am, .int (nI C), .int (nI P), .long tot])), (am, .inl (cs 1, 16, .inr (.inl fam))), ((lr 1), .inl (cs 1, 12, .inr (.inl ffd2_76)))] H := hP
  have hD : va_D A [(h0, .inr (ci, [.ref nq, av, .int rk])), (nq, .inl (cs 0, 4, .inl fq)), (ao, .inl (cs 0, 4, .inl fao)), (le, .inl (cs 5, 4, .inr (.inr (.inr (.inr (rowsF 4 lr)))))), ((lr 2), .inl (cs 1, 12, .inr (.inl (frlr_40 2)))), ((lr 3), .inl (cs 1, 12, .inr (.inl (frlr_40 3)))), (ne, .inl (cs 1, 12, .inr (.inl fne))), (tr, .inl (cs 0, 4, .inl ftr)), ((lr 0), .inl (cs 1, 12, .inr (.inl (frlr_40 0)))), (ch, .inr (0, [.ref aq, .ref sm, .ref tb, .ref ck, .ref cm, .ref le, .ref ne, .ref pr, .ref tr, .ref ln, .int trs, .long lpr])), (ck, .inr (1, [.ref ckn, .null, .int 0])), (ckn, .inl (cs 0, 4, .inl fq2_55)), (aq, .inr (5, [.ref aw, .ref ac, .ref ao, .ref am, .int (nI C), .int (nI P), .long tot])), (am, .inl (cs 1, 16, .inr (.inl fam))), ((lr 1), .inl (cs 1, 12, .inr (.inl ffd2_76)))] := hD
  refine W.cs (cells' := 0) (slots' := 0) rfl rfl ?_
  obtain ⟨frlr_76, hfrlr_76⟩ : ∃ f9, f9 = va_up frlr_40 1 ffd2_76 := ⟨_, rfl⟩
  have hP : va_P D vwCl [(h0, .inr (ci, [.ref nq, av, .int rk])), (nq, .inl (cs 0, 4, .inl fq)), (ao, .inl (cs 0, 4, .inl fao)), (le, .inl (cs 5, 4, .inr (.inr (.inr (.inr (rowsF 4 lr)))))), ((lr 2), .inl (cs 1, 12, .inr (.inl (frlr_76 2)))), ((lr 3), .inl (cs 1, 12, .inr (.inl (frlr_76 3)))), (ne, .inl (cs 1, 12, .inr (.inl fne))), (tr, .inl (cs 0, 4, .inl ftr)), ((lr 0), .inl (cs 1, 12, .inr (.inl (frlr_76 0)))), (ch, .inr (0, [.ref aq, .ref sm, .ref tb, .ref ck, .ref cm, .ref le, .ref ne, .ref pr, .ref tr, .ref ln, .int trs, .long lpr])), (ck, .inr (1, [.ref ckn, .null, .int 0])), (ckn, .inl (cs 0, 4, .inl fq2_55)), (aq, .inr (5, [.ref aw, .ref ac, .ref ao, .ref am, .int (nI C), .int (nI P), .long tot])), (am, .inl (cs 1, 16, .inr (.inl fam))), ((lr 1), .inl (cs 1, 12, .inr (.inl (frlr_76 1))))] H := by rw [hfrlr_76]; exact hP
  have hD : va_D A [(h0, .inr (ci, [.ref nq, av, .int rk])), (nq, .inl (cs 0, 4, .inl fq)), (ao, .inl (cs 0, 4, .inl fao)), (le, .inl (cs 5, 4, .inr (.inr (.inr (.inr (rowsF 4 lr)))))), ((lr 2), .inl (cs 1, 12, .inr (.inl (frlr_76 2)))), ((lr 3), .inl (cs 1, 12, .inr (.inl (frlr_76 3)))), (ne, .inl (cs 1, 12, .inr (.inl fne))), (tr, .inl (cs 0, 4, .inl ftr)), ((lr 0), .inl (cs 1, 12, .inr (.inl (frlr_76 0)))), (ch, .inr (0, [.ref aq, .ref sm, .ref tb, .ref ck, .ref cm, .ref le, .ref ne, .ref pr, .ref tr, .ref ln, .int trs, .long lpr])), (ck, .inr (1, [.ref ckn, .null, .int 0])), (ckn, .inl (cs 0, 4, .inl fq2_55)), (aq, .inr (5, [.ref aw, .ref ac, .ref ao, .ref am, .int (nI C), .int (nI P), .long tot])), (am, .inl (cs 1, 16, .inr (.inl fam))), ((lr 1), .inl (cs 1, 12, .inr (.inl (frlr_76 1))))] := by rw [hfrlr_76]; exact hD
  refine lv_aload_n hx hb dX0_seekLook_79 rfl (lv_at hl 1 rfl) ?_
  refine lv_aload_n hx hb dX0_seekLook_80 rfl (lv_at hl 1 rfl) ?_
  refine va_get (D := D) (ci := 0) (v := .ref ck) (C := RX0) (T := TX0) (N := 12) hx hb hg gwX0 hown hK hP 9 rfl rfl 3 (by decide) (hg _ kw_278) (fun _ h9 => h9) rfl dX0_seekLook_81 ?_
  have hPc := hP.sub (ws' := [(ch, .inr (0, [.ref aq, .ref sm, .ref tb, .ref ck, .ref cm, .ref le, .ref ne, .ref pr, .ref tr, .ref ln, .int trs, .long lpr])), (ck, .inr (1, [.ref ckn, .null, .int 0])), (aq, .inr (5, [.ref aw, .ref ac, .ref ao, .ref am, .int (nI C), .int (nI P), .long tot])), (ao, .inl (cs 0, 4, .inl fao)), (ne, .inl (cs 1, 12, .inr (.inl fne)))]) [9, 10, 12, 2, 6] rfl
  have hDc := hD.sub (ws' := [(ch, .inr (0, [.ref aq, .ref sm, .ref tb, .ref ck, .ref cm, .ref le, .ref ne, .ref pr, .ref tr, .ref ln, .int trs, .long lpr])), (ck, .inr (1, [.ref ckn, .null, .int 0])), (aq, .inr (5, [.ref aw, .ref ac, .ref ao, .ref am, .int (nI C), .int (nI P), .long tot])), (ao, .inl (cs 0, 4, .inl fao)), (ne, .inl (cs 1, 12, .inr (.inl fne)))]) [9, 10, 12, 2, 6] (by decide) rfl
  have hFc := va_free (wc := [(ch, .inr (0, [.ref aq, .ref sm, .ref tb, .ref ck, .ref cm, .ref le, .ref ne, .ref pr, .ref tr, .ref ln, .int trs, .long lpr])), (ck, .inr (1, [.ref ckn, .null, .int 0])), (aq, .inr (5, [.ref aw, .ref ac, .ref ao, .ref am, .int (nI C), .int (nI P), .long tot])), (ao, .inl (cs 0, 4, .inl fao)), (ne, .inl (cs 1, 12, .inr (.inl fne)))]) hD hS hA [9, 10, 12, 2, 6] rfl
  refine va_callv (va_runV (As := [.ref ck]) (rest := []) ⟨hx, hb, hml, hown, hg⟩ (h_fillNeeds l D cs ch sm tb ck cm le ne pr tr ln trs lpr ck ckn .null 0 1 (by unfold isPy; omega) aq aw ac ao am C (by omega) P (by omega) tot fao fne _) (cwV 1 hg (gw_V kw_270 kw_271 kw_272 kw_268 kw_269) rfl rfl rfl (by decide +kernel) ⟨(Nat.le_of_ble_eq_true rfl), (Nat.le_of_ble_eq_true rfl)⟩) (pr_MV (q := (RX0, TX0, 12)) 0 0 hK hPc hDc rfl rfl) rfl rfl hl.1 rfl (lv_room (Nat.le_of_ble_eq_true rfl)) dX0_seekLook_84 ⟨(Nat.le_of_ble_eq_true rfl), (Nat.le_of_ble_eq_true rfl)⟩) hS (fun q _ h => hFc q h) hFc (fun u t H1 locs ht hvm h_84 hB hz1 hk1 hS => ?_)
  obtain ⟨fne2_84, hP1, hD1⟩ := hB
  rw [ht] at hP1
  obtain ⟨hP, hD⟩ := va_join (wr := [(h0, .inr (ci, [.ref nq, av, .int rk])), (nq, .inl (cs 0, 4, .inl fq)), (le, .inl (cs 5, 4, .inr (.inr (.inr (.inr (rowsF 4 lr)))))), ((lr 2), .inl (cs 1, 12, .inr (.inl (frlr_76 2)))), ((lr 3), .inl (cs 1, 12, .inr (.inl (frlr_76 3)))), (tr, .inl (cs 0, 4, .inl ftr)), ((lr 0), .inl (cs 1, 12, .inr (.inl (frlr_76 0)))), (ckn, .inl (cs 0, 4, .inl fq2_55)), (am, .inl (cs 1, 16, .inr (.inl fam))), ((lr 1), .inl (cs 1, 12, .inr (.inl (frlr_76 1))))]) (w1 := [(ch, .inr (0, [.ref aq, .ref sm, .ref tb, .ref ck, .ref cm, .ref le, .ref ne, .ref pr, .ref tr, .ref ln, .int trs, .long lpr])), (ck, .inr (1, [.ref ckn, .null, .int 0])), (aq, .inr (5, [.ref aw, .ref ac, .ref ao, .ref am, .int (nI C), .int (nI P), .long tot])), (ao, .inl (cs 0, 4, .inl fao)), (ne, .inl (cs 1, 12, .inr (.inl fne2_84)))]) hP hD [9, 10, 12, 2, 6] [0, 1, 3, 4, 5, 7, 8, 11, 13, 14] rfl rfl (by decide) (by decide) hk1 hFc hP1 hD1
  generalize H1 = H at hP hS ⊢
  have hP : va_P D vwCl [(h0, .inr (ci, [.ref nq, av, .int rk])), (nq, .inl (cs 0, 4, .inl fq)), (le, .inl (cs 5, 4, .inr (.inr (.inr (.inr (rowsF 4 lr)))))), ((lr 2), .inl (cs 1, 12, .inr (.inl (frlr_76 2)))), ((lr 3), .inl (cs 1, 12, .inr (.inl (frlr_76 3)))), (tr, .inl (cs 0, 4, .inl ftr)), ((lr 0), .inl (cs 1, 12, .inr (.inl (frlr_76 0)))), (ckn, .inl (cs 0, 4, .inl fq2_55)), (am, .inl (cs 1, 16, .inr (.inl fam))), ((lr 1), .inl (cs 1, 12, .inr (.inl (frlr_76 1)))), (ch, .inr (0, [.ref aq, .ref sm, .ref tb, .ref ck, .ref cm, .ref le, .ref ne, .ref pr, .ref tr, .ref ln, .int trs, .long lpr])), (ck, .inr (1, [.ref ckn, .null, .int 0])), (aq, .inr (5, [.ref aw, .ref ac, .ref ao, .ref am, .int (nI C), .int (nI P), .long tot])), (ao, .inl (cs 0, 4, .inl fao)), (ne, .inl (cs 1, 12, .inr (.inl fne2_84)))] H := hP
  have hD : va_D A [(h0, .inr (ci, [.ref nq, av, .int rk])), (nq, .inl (cs 0, 4, .inl fq)), (le, .inl (cs 5, 4, .inr (.inr (.inr (.inr (rowsF 4 lr)))))), ((lr 2), .inl (cs 1, 12, .inr (.inl (frlr_76 2)))), ((lr 3), .inl (cs 1, 12, .inr (.inl (frlr_76 3)))), (tr, .inl (cs 0, 4, .inl ftr)), ((lr 0), .inl (cs 1, 12, .inr (.inl (frlr_76 0)))), (ckn, .inl (cs 0, 4, .inl fq2_55)), (am, .inl (cs 1, 16, .inr (.inl fam))), ((lr 1), .inl (cs 1, 12, .inr (.inl (frlr_76 1)))), (ch, .inr (0, [.ref aq, .ref sm, .ref tb, .ref ck, .ref cm, .ref le, .ref ne, .ref pr, .ref tr, .ref ln, .int trs, .long lpr])), (ck, .inr (1, [.ref ckn, .null, .int 0])), (aq, .inr (5, [.ref aw, .ref ac, .ref ao, .ref am, .int (nI C), .int (nI P), .long tot])), (ao, .inl (cs 0, 4, .inl fao)), (ne, .inl (cs 1, 12, .inr (.inl fne2_84)))] := hD
  refine W.cs (cells' := 0) (slots' := 0) rfl rfl ?_
  refine lv_aload_n hx hb dX0_seekLook_87 rfl (lv_at hl 1 rfl) ?_
  refine va_get (D := D) (ci := 0) (v := .ref tr) (C := RX0) (T := TX0) (N := 12) hx hb hg gwX0 hown hK hP 10 rfl rfl 8 (by decide) (hg _ kw_251) (fun _ h9 => h9) rfl dX0_seekLook_88 ?_
  refine lv_iconst (v := 0) hx hb dX0_seekLook_91 (by decide) ?_
  refine lv_iconst (v := 1) hx hb dX0_seekLook_92 (by decide) ?_
  refine va_iast hx hb hK hP hD hS 5 0 rfl rfl (show ¬ ((0 : Int32) < 0 ∨ 4 ≤ (0 : Int32).toNatClampNeg) by decide) dX0_seekLook_93 (fun H locs hP hD hS => ?_)
  obtain ⟨f_93, hf_93⟩ : ∃ f9, f9 = (upd ftr (0 : Int32).toNatClampNeg 1) := ⟨_, rfl⟩
  rw [← hf_93] at hP hD
  have hP : va_P D vwCl [(h0, .inr (ci, [.ref nq, av, .int rk])), (nq, .inl (cs 0, 4, .inl fq)), (le, .inl (cs 5, 4, .inr (.inr (.inr (.inr (rowsF 4 lr)))))), ((lr 2), .inl (cs 1, 12, .inr (.inl (frlr_76 2)))), ((lr 3), .inl (cs 1, 12, .inr (.inl (frlr_76 3)))), (tr, .inl (cs 0, 4, .inl f_93)), ((lr 0), .inl (cs 1, 12, .inr (.inl (frlr_76 0)))), (ckn, .inl (cs 0, 4, .inl fq2_55)), (am, .inl (cs 1, 16, .inr (.inl fam))), ((lr 1), .inl (cs 1, 12, .inr (.inl (frlr_76 1)))), (ch, .inr (0, [.ref aq, .ref sm, .ref tb, .ref ck, .ref cm, .ref le, .ref ne, .ref pr, .ref tr, .ref ln, .int trs, .long lpr])), (ck, .inr (1, [.ref ckn, .null, .int 0])), (aq, .inr (5, [.ref aw, .ref ac, .ref ao, .ref am, .int (nI C), .int (nI P), .long tot])), (ao, .inl (cs 0, 4, .inl fao)), (ne, .inl (cs 1, 12, .inr (.inl fne2_84)))] H := hP
  have hD : va_D A [(h0, .inr (ci, [.ref nq, av, .int rk])), (nq, .inl (cs 0, 4, .inl fq)), (le, .inl (cs 5, 4, .inr (.inr (.inr (.inr (rowsF 4 lr)))))), ((lr 2), .inl (cs 1, 12, .inr (.inl (frlr_76 2)))), ((lr 3), .inl (cs 1, 12, .inr (.inl (frlr_76 3)))), (tr, .inl (cs 0, 4, .inl f_93)), ((lr 0), .inl (cs 1, 12, .inr (.inl (frlr_76 0)))), (ckn, .inl (cs 0, 4, .inl fq2_55)), (am, .inl (cs 1, 16, .inr (.inl fam))), ((lr 1), .inl (cs 1, 12, .inr (.inl (frlr_76 1)))), (ch, .inr (0, [.ref aq, .ref sm, .ref tb, .ref ck, .ref cm, .ref le, .ref ne, .ref pr, .ref tr, .ref ln, .int trs, .long lpr])), (ck, .inr (1, [.ref ckn, .null, .int 0])), (aq, .inr (5, [.ref aw, .ref ac, .ref ao, .ref am, .int (nI C), .int (nI P), .long tot])), (ao, .inl (cs 0, 4, .inl fao)), (ne, .inl (cs 1, 12, .inr (.inl fne2_84)))] := hD
  refine lv_iconst (v := 0) hx hb dX0_seekLook_94 (by decide) ?_
  refine lv_istore_n (lv' := [(3, .int 0), (2, .ref nq), (0, .ref ch), (1, .ref h0)]) hx hb dX0_seekLook_95 rfl hl (by decide) rfl (fun ls hl => ?_)
  have LOOP96 : ∀ (n96 : Nat) (k : Nat) (ftr_96 : Nat → Int32), k ≤ 101 → 101 - k < n96 → ∀ (H : Heap) (locs : List Loc) (ls : Array Slot), va_P D vwCl [(h0, .inr (ci, [.ref nq, av, .int rk])), (nq, .inl (cs 0, 4, .inl fq)), (le, .inl (cs 5, 4, .inr (.inr (.inr (.inr (rowsF 4 lr)))))), ((lr 2), .inl (cs 1, 12, .inr (.inl (frlr_76 2)))), ((lr 3), .inl (cs 1, 12, .inr (.inl (frlr_76 3)))), (tr, .inl (cs 0, 4, .inl ftr_96)), ((lr 0), .inl (cs 1, 12, .inr (.inl (frlr_76 0)))), (ckn, .inl (cs 0, 4, .inl fq2_55)), (am, .inl (cs 1, 16, .inr (.inl fam))), ((lr 1), .inl (cs 1, 12, .inr (.inl (frlr_76 1)))), (ch, .inr (0, [.ref aq, .ref sm, .ref tb, .ref ck, .ref cm, .ref le, .ref ne, .ref pr, .ref tr, .ref ln, .int trs, .long lpr])), (ck, .inr (1, [.ref ckn, .null, .int 0])), (aq, .inr (5, [.ref aw, .ref ac, .ref ao, .ref am, .int (nI C), .int (nI P), .long tot])), (ao, .inl (cs 0, 4, .inl fao)), (ne, .inl (cs 1, 12, .inr (.inl fne2_84)))] H → va_D A [(h0, .inr (ci, [.ref nq, av, .int rk])), (nq, .inl (cs 0, 4, .inl fq)), (le, .inl (cs 5, 4, .inr (.inr (.inr (.inr (rowsF 4 lr)))))), ((lr 2), .inl (cs 1, 12, .inr (.inl (frlr_76 2)))), ((lr 3), .inl (cs 1, 12, .inr (.inl (frlr_76 3)))), (tr, .inl (cs 0, 4, .inl ftr_96)), ((lr 0), .inl (cs 1, 12, .inr (.inl (frlr_76 0)))), (ckn, .inl (cs 0, 4, .inl fq2_55)), (am, .inl (cs 1, 16, .inr (.inl fam))), ((lr 1), .inl (cs 1, 12, .inr (.inl (frlr_76 1)))), (ch, .inr (0, [.ref aq, .ref sm, .ref tb, .ref ck, .ref cm, .ref le, .ref ne, .ref pr, .ref tr, .ref ln, .int trs, .long lpr])), (ck, .inr (1, [.ref ckn, .null, .int 0])), (aq, .inr (5, [.ref aw, .ref ac, .ref ao, .ref am, .int (nI C), .int (nI P), .long tot])), (ao, .inl (cs 0, 4, .inl fao)), (ne, .inl (cs 1, 12, .inr (.inl fne2_84)))] → va_S A s.heap H locs → lv_has ls 4 [(0, .ref ch), (1, .ref h0), (2, .ref nq), (3, .int (nI k))] → W p l e ({ frames := 4, cells := 0, slots := 0, locals := 115 } : Room) s m args below meth c H locs 0 0 Q (F0 m 96 ls []) := by
    intro n96
    induction n96 with
    | zero =>
      intro k ftr_96 hk hn96 H locs ls hP hD hS hl
      exact absurd hn96 (Nat.not_lt_zero _)
    | succ n96 ih96 =>
      intro k ftr_96 hk hn96 H locs ls hP hD hS hl
      refine lv_iload_n hx hb dX0_seekLook_96 rfl (lv_at hl 3 rfl) ?_
      refine lv_bipush (v := 100) hx hb dX0_seekLook_97 (by decide) ?_
      refine lv_icmp_gt (tgt := 125) hx hb dX0_seekLook_99 (by decide) (fun c_99 => ?_) (fun c_99 => ?_)
      · have n_99 : 100 < k := b_lt_t (by omega) (by omega) c_99
        refine lv_iconst (v := (-1)) hx hb dX0_seekLook_125 (by decide) ?_
        refine W_sQ hQ ?_
        refine W.widen (k := 0) (n := 0) (Nat.le_of_ble_eq_true rfl) (Nat.le_of_ble_eq_true rfl) ?_
        have hP9 := hP.sub (ws' := [(ch, .inr (0, [.ref aq, .ref sm, .ref tb, .ref ck, .ref cm, .ref le, .ref ne, .ref pr, .ref tr, .ref ln, .int trs, .long lpr])), (ck, .inr (1, [.ref ckn, .null, .int 0])), (ckn, .inl (cs 0, 4, .inl fq2_55)), (h0, .inr (ci, [.ref nq, av, .int rk])), (nq, .inl (cs 0, 4, .inl fq)), (aq, .inr (5, [.ref aw, .ref ac, .ref ao, .ref am, .int (nI C), .int (nI P), .long tot])), (ao, .inl (cs 0, 4, .inl fao)), (am, .inl (cs 1, 16, .inr (.inl fam))), (le, .inl (cs 5, 4, .inr (.inr (.inr (.inr (rowsF 4 lr)))))), ((lr 0), .inl (cs 1, 12, .inr (.inl (frlr_76 0)))), ((lr 1), .inl (cs 1, 12, .inr (.inl (frlr_76 1)))), ((lr 2), .inl (cs 1, 12, .inr (.inl (frlr_76 2)))), ((lr 3), .inl (cs 1, 12, .inr (.inl (frlr_76 3)))), (ne, .inl (cs 1, 12, .inr (.inl fne2_84))), (tr, .inl (cs 0, 4, .inl ftr_96))]) [10, 11, 7, 0, 1, 12, 13, 8, 2, 6, 9, 3, 4, 14, 5] rfl
        have hD9 := hD.sub (ws' := [(ch, .inr (0, [.ref aq, .ref sm, .ref tb, .ref ck, .ref cm, .ref le, .ref ne, .ref pr, .ref tr, .ref ln, .int trs, .long lpr])), (ck, .inr (1, [.ref ckn, .null, .int 0])), (ckn, .inl (cs 0, 4, .inl fq2_55)), (h0, .inr (ci, [.ref nq, av, .int rk])), (nq, .inl (cs 0, 4, .inl fq)), (aq, .inr (5, [.ref aw, .ref ac, .ref ao, .ref am, .int (nI C), .int (nI P), .long tot])), (ao, .inl (cs 0, 4, .inl fao)), (am, .inl (cs 1, 16, .inr (.inl fam))), (le, .inl (cs 5, 4, .inr (.inr (.inr (.inr (rowsF 4 lr)))))), ((lr 0), .inl (cs 1, 12, .inr (.inl (frlr_76 0)))), ((lr 1), .inl (cs 1, 12, .inr (.inl (frlr_76 1)))), ((lr 2), .inl (cs 1, 12, .inr (.inl (frlr_76 2)))), ((lr 3), .inl (cs 1, 12, .inr (.inl (frlr_76 3)))), (ne, .inl (cs 1, 12, .inr (.inl fne2_84))), (tr, .inl (cs 0, 4, .inl ftr_96))]) [10, 11, 7, 0, 1, 12, 13, 8, 2, 6, 9, 3, 4, 14, 5] (by decide) rfl
        exact W.iret (v := (-1)) hx hb hr (fun t ht hW => ⟨⟨(-1), (), rfl, trivial, ⟨fq2_55, ftr_96, fne2_84, frlr_76, by rw [ht]; exact hP9, hD9⟩⟩, hS.F ht⟩) hS.2.2 dX0_seekLook_126
      · have n_99 : k ≤ 100 := b_lt_f (by omega) (by omega) c_99
        refine lv_aload_n hx hb dX0_seekLook_102 rfl (lv_at hl 0 rfl) ?_
        refine va_get (D := D) (ci := 0) (v := .ref tr) (C := RX0) (T := TX0) (N := 12) hx hb hg gwX0 hown hK hP 10 rfl rfl 8 (by decide) (hg _ kw_251) (fun _ h9 => h9) rfl dX0_seekLook_103 ?_
        refine lv_iconst (v := 1) hx hb dX0_seekLook_106 (by decide) ?_
        refine lv_iload_n hx hb dX0_seekLook_107 rfl (lv_at hl 3 rfl) ?_
        refine va_iast hx hb hK hP hD hS 5 0 rfl rfl (show ¬ ((1 : Int32) < 0 ∨ 4 ≤ (1 : Int32).toNatClampNeg) by decide) dX0_seekLook_108 (fun H locs hP hD hS => ?_)
        obtain ⟨f_108, hf_108⟩ : ∃ f9, f9 = (upd ftr_96 (1 : Int32).toNatClampNeg (nI k)) := ⟨_, rfl⟩
        rw [← hf_108] at hP hD
        have hP : va_P D vwCl [(h0, .inr (ci, [.ref nq, av, .int rk])), (nq, .inl (cs 0, 4, .inl fq)), (le, .inl (cs 5, 4, .inr (.inr (.inr (.inr (rowsF 4 lr)))))), ((lr 2), .inl (cs 1, 12, .inr (.inl (frlr_76 2)))), ((lr 3), .inl (cs 1, 12, .inr (.inl (frlr_76 3)))), (tr, .inl (cs 0, 4, .inl f_108)), ((lr 0), .inl (cs 1, 12, .inr (.inl (frlr_76 0)))), (ckn, .inl (cs 0, 4, .inl fq2_55)), (am, .inl (cs 1, 16, .inr (.inl fam))), ((lr 1), .inl (cs 1, 12, .inr (.inl (frlr_76 1)))), (ch, .inr (0, [.ref aq, .ref sm, .ref tb, .ref ck, .ref cm, .ref le, .ref ne, .ref pr, .ref tr, .ref ln, .int trs, .long lpr])), (ck, .inr (1, [.ref ckn, .null, .int 0])), (aq, .inr (5, [.ref aw, .ref ac, .ref ao, .ref am, .int (nI C), .int (nI P), .long tot])), (ao, .inl (cs 0, 4, .inl fao)), (ne, .inl (cs 1, 12, .inr (.inl fne2_84)))] H := hP
        have hD : va_D A [(h0, .inr (ci, [.ref nq, av, .int rk])), (nq, .inl (cs 0, 4, .inl fq)), (le, .inl (cs 5, 4, .inr (.inr (.inr (.inr (rowsF 4 lr)))))), ((lr 2), .inl (cs 1, 12, .inr (.inl (frlr_76 2)))), ((lr 3), .inl (cs 1, 12, .inr (.inl (frlr_76 3)))), (tr, .inl (cs 0, 4, .inl f_108)), ((lr 0), .inl (cs 1, 12, .inr (.inl (frlr_76 0)))), (ckn, .inl (cs 0, 4, .inl fq2_55)), (am, .inl (cs 1, 16, .inr (.inl fam))), ((lr 1), .inl (cs 1, 12, .inr (.inl (frlr_76 1)))), (ch, .inr (0, [.ref aq, .ref sm, .ref tb, .ref ck, .ref cm, .ref le, .ref ne, .ref pr, .ref tr, .ref ln, .int trs, .long lpr])), (ck, .inr (1, [.ref ckn, .null, .int 0])), (aq, .inr (5, [.ref aw, .ref ac, .ref ao, .ref am, .int (nI C), .int (nI P), .long tot])), (ao, .inl (cs 0, 4, .inl fao)), (ne, .inl (cs 1, 12, .inr (.inl fne2_84)))] := hD
        refine lv_aload_n hx hb dX0_seekLook_109 rfl (lv_at hl 0 rfl) ?_
        refine lv_iconst (v := 2) hx hb dX0_seekLook_110 (by decide) ?_
        have hPc := hP.sub (ws' := [(ch, .inr (0, [.ref aq, .ref sm, .ref tb, .ref ck, .ref cm, .ref le, .ref ne, .ref pr, .ref tr, .ref ln, .int trs, .long lpr])), (aq, .inr (5, [.ref aw, .ref ac, .ref ao, .ref am, .int (nI C), .int (nI P), .long tot])), (le, .inl (cs 5, 4, .inr (.inr (.inr (.inr (rowsF 4 lr)))))), ((lr 0), .inl (cs 1, 12, .inr (.inl (frlr_76 0)))), ((lr 1), .inl (cs 1, 12, .inr (.inl (frlr_76 1)))), ((lr 2), .inl (cs 1, 12, .inr (.inl (frlr_76 2)))), ((lr 3), .inl (cs 1, 12, .inr (.inl (frlr_76 3)))), (ne, .inl (cs 1, 12, .inr (.inl fne2_84))), (tr, .inl (cs 0, 4, .inl f_108))]) [10, 12, 2, 6, 9, 3, 4, 14, 5] rfl
        refine vp_callSi (W.runV (As := [.int 2]) (rest := []) ⟨hx, hb, hml, hown, hg⟩ (h_triedRests_2 l D cs ch sm tb ck cm le ne pr tr ln trs lpr aq aw ac ao am C (by omega) P (by omega) tot lr frlr_76 fne2_84 f_108) (cwV 1 hg (gw_V kw_274 kw_275 kw_276 kw_268 kw_273) rfl rfl rfl (by decide +kernel) ⟨(Nat.le_of_ble_eq_true rfl), (Nat.le_of_ble_eq_true rfl)⟩) (pr_SV (q := (RX0, TX0, 12)) 0 0 hK hPc rfl rfl) rfl rfl hl.1 rfl (lv_room (Nat.le_of_ble_eq_true rfl)) dX0_seekLook_111 ⟨(Nat.le_of_ble_eq_true rfl), (Nat.le_of_ble_eq_true rfl)⟩) (fun r_111 h_111 => ?_)
        rcases h_111 with rfl | rfl
        · refine lv_if_eq (tgt := 119) hx hb dX0_seekLook_114 (by decide) (fun c_114 => ?_) (fun c_114 => absurd c_114 (by decide))
          refine lv_iinc (v := (nI (k + 1))) (lv' := [(3, .int (nI (k + 1))), (0, .ref ch), (1, .ref h0), (2, .ref nq)]) hx hb dX0_seekLook_119 hl (k := 3) rfl (nI_add k 1) (by decide) rfl (fun ls hl => ?_)
          refine lv_goto (tgt := 96) hx hb dX0_seekLook_122 (by decide) ?_
          exact ih96 (k + 1) f_108 (by omega) (by omega) _ _ ls hP hD hS (lv_sub hl [1, 2, 3, 0] rfl)
        · refine lv_if_eq (tgt := 119) hx hb dX0_seekLook_114 (by decide) (fun c_114 => absurd c_114 (by decide)) (fun c_114 => ?_)
          refine lv_iload_n hx hb dX0_seekLook_117 rfl (lv_at hl 3 rfl) ?_
          refine W_sQ hQ ?_
          refine W.widen (k := 0) (n := 0) (Nat.le_of_ble_eq_true rfl) (Nat.le_of_ble_eq_true rfl) ?_
          have hP9 := hP.sub (ws' := [(ch, .inr (0, [.ref aq, .ref sm, .ref tb, .ref ck, .ref cm, .ref le, .ref ne, .ref pr, .ref tr, .ref ln, .int trs, .long lpr])), (ck, .inr (1, [.ref ckn, .null, .int 0])), (ckn, .inl (cs 0, 4, .inl fq2_55)), (h0, .inr (ci, [.ref nq, av, .int rk])), (nq, .inl (cs 0, 4, .inl fq)), (aq, .inr (5, [.ref aw, .ref ac, .ref ao, .ref am, .int (nI C), .int (nI P), .long tot])), (ao, .inl (cs 0, 4, .inl fao)), (am, .inl (cs 1, 16, .inr (.inl fam))), (le, .inl (cs 5, 4, .inr (.inr (.inr (.inr (rowsF 4 lr)))))), ((lr 0), .inl (cs 1, 12, .inr (.inl (frlr_76 0)))), ((lr 1), .inl (cs 1, 12, .inr (.inl (frlr_76 1)))), ((lr 2), .inl (cs 1, 12, .inr (.inl (frlr_76 2)))), ((lr 3), .inl (cs 1, 12, .inr (.inl (frlr_76 3)))), (ne, .inl (cs 1, 12, .inr (.inl fne2_84))), (tr, .inl (cs 0, 4, .inl f_108))]) [10, 11, 7, 0, 1, 12, 13, 8, 2, 6, 9, 3, 4, 14, 5] rfl
          have hD9 := hD.sub (ws' := [(ch, .inr (0, [.ref aq, .ref sm, .ref tb, .ref ck, .ref cm, .ref le, .ref ne, .ref pr, .ref tr, .ref ln, .int trs, .long lpr])), (ck, .inr (1, [.ref ckn, .null, .int 0])), (ckn, .inl (cs 0, 4, .inl fq2_55)), (h0, .inr (ci, [.ref nq, av, .int rk])), (nq, .inl (cs 0, 4, .inl fq)), (aq, .inr (5, [.ref aw, .ref ac, .ref ao, .ref am, .int (nI C), .int (nI P), .long tot])), (ao, .inl (cs 0, 4, .inl fao)), (am, .inl (cs 1, 16, .inr (.inl fam))), (le, .inl (cs 5, 4, .inr (.inr (.inr (.inr (rowsF 4 lr)))))), ((lr 0), .inl (cs 1, 12, .inr (.inl (frlr_76 0)))), ((lr 1), .inl (cs 1, 12, .inr (.inl (frlr_76 1)))), ((lr 2), .inl (cs 1, 12, .inr (.inl (frlr_76 2)))), ((lr 3), .inl (cs 1, 12, .inr (.inl (frlr_76 3)))), (ne, .inl (cs 1, 12, .inr (.inl fne2_84))), (tr, .inl (cs 0, 4, .inl f_108))]) [10, 11, 7, 0, 1, 12, 13, 8, 2, 6, 9, 3, 4, 14, 5] (by decide) rfl
          exact W.iret (v := (nI k)) hx hb hr (fun t ht hW => ⟨⟨(nI k), (), rfl, trivial, ⟨fq2_55, f_108, fne2_84, frlr_76, by rw [ht]; exact hP9, hD9⟩⟩, hS.F ht⟩) hS.2.2 dX0_seekLook_118
  exact LOOP96 (101 - 0 + 1) 0 f_93 (by omega) (Nat.lt_succ_self _) _ _ ls hP hD hS (lv_sub hl [2, 3, 1, 0] rfl)

theorem dX0_seekTable_0 : decode cX0_seekTable 0 = .ok (.iconst 0, 1) := by decide +kernel
theorem dX0_seekTable_1 : decode cX0_seekTable 1 = .ok (.istore_n 1, 1) := by decide +kernel
theorem dX0_seekTable_2 : decode cX0_seekTable 2 = .ok (.iload_n 1, 1) := by decide +kernel
theorem dX0_seekTable_3 : decode cX0_seekTable 3 = .ok (.iconst 4, 1) := by decide +kernel
theorem dX0_seekTable_4 : decode cX0_seekTable 4 = .ok (.if_icmp .ge 79, 3) := by decide +kernel
theorem dX0_seekTable_7 : decode cX0_seekTable 7 = .ok (.aload_n 0, 1) := by decide +kernel
theorem dX0_seekTable_8 : decode cX0_seekTable 8 = .ok (.getfield 21, 3) := by decide +kernel
theorem dX0_seekTable_11 : decode cX0_seekTable 11 = .ok (.iconst 0, 1) := by decide +kernel
theorem dX0_seekTable_12 : decode cX0_seekTable 12 = .ok (.iconst 0, 1) := by decide +kernel
theorem dX0_seekTable_13 : decode cX0_seekTable 13 = .ok (.iconst 0, 1) := by decide +kernel
theorem dX0_seekTable_14 : decode cX0_seekTable 14 = .ok (.iconst 0, 1) := by decide +kernel
theorem dX0_seekTable_15 : decode cX0_seekTable 15 = .ok (.invokevirtual 85, 3) := by decide +kernel
theorem dX0_seekTable_18 : decode cX0_seekTable 18 = .ok (.aload_n 0, 1) := by decide +kernel
theorem dX0_seekTable_19 : decode cX0_seekTable 19 = .ok (.getfield 21, 3) := by decide +kernel
theorem dX0_seekTable_22 : decode cX0_seekTable 22 = .ok (.getfield 86, 3) := by decide +kernel
theorem dX0_seekTable_25 : decode cX0_seekTable 25 = .ok (.iload_n 1, 1) := by decide +kernel
theorem dX0_seekTable_26 : decode cX0_seekTable 26 = .ok (.iconst 1, 1) := by decide +kernel
theorem dX0_seekTable_27 : decode cX0_seekTable 27 = .ok (.iastore, 1) := by decide +kernel
theorem dX0_seekTable_28 : decode cX0_seekTable 28 = .ok (.aload_n 0, 1) := by decide +kernel
theorem dX0_seekTable_29 : decode cX0_seekTable 29 = .ok (.aload_n 0, 1) := by decide +kernel
theorem dX0_seekTable_30 : decode cX0_seekTable 30 = .ok (.getfield 21, 3) := by decide +kernel
theorem dX0_seekTable_33 : decode cX0_seekTable 33 = .ok (.aload_n 0, 1) := by decide +kernel
theorem dX0_seekTable_34 : decode cX0_seekTable 34 = .ok (.getfield 54, 3) := by decide +kernel
theorem dX0_seekTable_37 : decode cX0_seekTable 37 = .ok (.getfield 62, 3) := by decide +kernel
theorem dX0_seekTable_40 : decode cX0_seekTable 40 = .ok (.aload_n 0, 1) := by decide +kernel
theorem dX0_seekTable_41 : decode cX0_seekTable 41 = .ok (.getfield 38, 3) := by decide +kernel
theorem dX0_seekTable_44 : decode cX0_seekTable 44 = .ok (.iload_n 1, 1) := by decide +kernel
theorem dX0_seekTable_45 : decode cX0_seekTable 45 = .ok (.aaload, 1) := by decide +kernel
theorem dX0_seekTable_46 : decode cX0_seekTable 46 = .ok (.invokevirtual 67, 3) := by decide +kernel
theorem dX0_seekTable_49 : decode cX0_seekTable 49 = .ok (.aload_n 0, 1) := by decide +kernel
theorem dX0_seekTable_50 : decode cX0_seekTable 50 = .ok (.getfield 44, 3) := by decide +kernel
theorem dX0_seekTable_53 : decode cX0_seekTable 53 = .ok (.iload_n 1, 1) := by decide +kernel
theorem dX0_seekTable_54 : decode cX0_seekTable 54 = .ok (.aload_n 0, 1) := by decide +kernel
theorem dX0_seekTable_55 : decode cX0_seekTable 55 = .ok (.aload_n 0, 1) := by decide +kernel
theorem dX0_seekTable_56 : decode cX0_seekTable 56 = .ok (.getfield 21, 3) := by decide +kernel
theorem dX0_seekTable_59 : decode cX0_seekTable 59 = .ok (.invokevirtual 87, 3) := by decide +kernel
theorem dX0_seekTable_62 : decode cX0_seekTable 62 = .ok (.lastore, 1) := by decide +kernel
theorem dX0_seekTable_63 : decode cX0_seekTable 63 = .ok (.aload_n 0, 1) := by decide +kernel
theorem dX0_seekTable_64 : decode cX0_seekTable 64 = .ok (.getfield 47, 3) := by decide +kernel
theorem dX0_seekTable_67 : decode cX0_seekTable 67 = .ok (.iload_n 1, 1) := by decide +kernel
theorem dX0_seekTable_68 : decode cX0_seekTable 68 = .ok (.iconst 0, 1) := by decide +kernel
theorem dX0_seekTable_69 : decode cX0_seekTable 69 = .ok (.iastore, 1) := by decide +kernel
theorem dX0_seekTable_70 : decode cX0_seekTable 70 = .ok (.aload_n 0, 1) := by decide +kernel
theorem dX0_seekTable_71 : decode cX0_seekTable 71 = .ok (.getfield 51, 3) := by decide +kernel
theorem dX0_seekTable_74 : decode cX0_seekTable 74 = .ok (.iload_n 1, 1) := by decide +kernel
theorem dX0_seekTable_75 : decode cX0_seekTable 75 = .ok (.iconst (-1), 1) := by decide +kernel
theorem dX0_seekTable_76 : decode cX0_seekTable 76 = .ok (.iastore, 1) := by decide +kernel
theorem dX0_seekTable_77 : decode cX0_seekTable 77 = .ok (.iinc 1 1, 3) := by decide +kernel
theorem dX0_seekTable_80 : decode cX0_seekTable 80 = .ok (.goto (-78), 3) := by decide +kernel
theorem dX0_seekTable_83 : decode cX0_seekTable 83 = .ok (.aload_n 0, 1) := by decide +kernel
theorem dX0_seekTable_84 : decode cX0_seekTable 84 = .ok (.aload_n 0, 1) := by decide +kernel
theorem dX0_seekTable_85 : decode cX0_seekTable 85 = .ok (.getfield 21, 3) := by decide +kernel
theorem dX0_seekTable_88 : decode cX0_seekTable 88 = .ok (.invokevirtual 71, 3) := by decide +kernel
theorem dX0_seekTable_91 : decode cX0_seekTable 91 = .ok (.aload_n 0, 1) := by decide +kernel
theorem dX0_seekTable_92 : decode cX0_seekTable 92 = .ok (.iconst 0, 1) := by decide +kernel
theorem dX0_seekTable_93 : decode cX0_seekTable 93 = .ok (.putfield 91, 3) := by decide +kernel
theorem dX0_seekTable_96 : decode cX0_seekTable 96 = .ok (.iconst 0, 1) := by decide +kernel
theorem dX0_seekTable_97 : decode cX0_seekTable 97 = .ok (.istore_n 1, 1) := by decide +kernel
theorem dX0_seekTable_98 : decode cX0_seekTable 98 = .ok (.iload_n 1, 1) := by decide +kernel
theorem dX0_seekTable_99 : decode cX0_seekTable 99 = .ok (.sipush 10000, 3) := by decide +kernel
theorem dX0_seekTable_102 : decode cX0_seekTable 102 = .ok (.if_icmp .ge 25, 3) := by decide +kernel
theorem dX0_seekTable_105 : decode cX0_seekTable 105 = .ok (.aload_n 0, 1) := by decide +kernel
theorem dX0_seekTable_106 : decode cX0_seekTable 106 = .ok (.iconst 4, 1) := by decide +kernel
theorem dX0_seekTable_107 : decode cX0_seekTable 107 = .ok (.invokevirtual 75, 3) := by decide +kernel
theorem dX0_seekTable_110 : decode cX0_seekTable 110 = .ok (.ifCond .eq 7, 3) := by decide +kernel
theorem dX0_seekTable_113 : decode cX0_seekTable 113 = .ok (.aload_n 0, 1) := by decide +kernel
theorem dX0_seekTable_114 : decode cX0_seekTable 114 = .ok (.invokevirtual 95, 3) := by decide +kernel
theorem dX0_seekTable_117 : decode cX0_seekTable 117 = .ok (.aload_n 0, 1) := by decide +kernel
theorem dX0_seekTable_118 : decode cX0_seekTable 118 = .ok (.invokevirtual 98, 3) := by decide +kernel
theorem dX0_seekTable_121 : decode cX0_seekTable 121 = .ok (.iinc 1 1, 3) := by decide +kernel
theorem dX0_seekTable_124 : decode cX0_seekTable 124 = .ok (.goto (-26), 3) := by decide +kernel
theorem dX0_seekTable_127 : decode cX0_seekTable 127 = .ok (.return_, 1) := by decide +kernel
theorem kw_282 : (.fieldLink RX0 21 "NobodyChecks$Cheapest" "table" "LNobodyChecks$Table;" : Cond) ∈ gw_tbl := gw_in (by decide +kernel) (by decide +kernel)
theorem kw_283 : (.methodLink RX0 85 ⟨"NobodyChecks$Table", "become", "(IIII)V"⟩ : Cond) ∈ gw_tbl := gw_in (by decide +kernel) (by decide +kernel)
theorem kw_284 : (.sameMethod "NobodyChecks$Table" "NobodyChecks$Pay" "become" "(IIII)V" : Cond) ∈ gw_tbl := gw_in (by decide +kernel) (by decide +kernel)
theorem kw_285 : (.selects RX10 (⟨"NobodyChecks$Table", "become", "(IIII)V"⟩) yX3_become : Cond) ∈ gw_tbl := gw_in (by decide +kernel) (by decide +kernel)
theorem kw_286 : (.fieldLink RX0 86 "NobodyChecks$Table" "numbers" "[I" : Cond) ∈ gw_tbl := gw_in (by decide +kernel) (by decide +kernel)
theorem kw_287 : (.code yX0_togetherByTruth cX0_togetherByTruth 5 (some .long) : Cond) ∈ gw_tbl := gw_in (by decide +kernel) (by decide +kernel)
theorem kw_288 : (.methodLink RX0 87 yX0_togetherByTruth : Cond) ∈ gw_tbl := gw_in (by decide +kernel) (by decide +kernel)
theorem kw_289 : (.instanceMethod yX0_togetherByTruth : Cond) ∈ gw_tbl := gw_in (by decide +kernel) (by decide +kernel)
theorem kw_290 : (.selects RX0 yX0_togetherByTruth yX0_togetherByTruth : Cond) ∈ gw_tbl := gw_in (by decide +kernel) (by decide +kernel)
theorem kw_291 : (.code yX0_countOn cX0_countOn 2 none : Cond) ∈ gw_tbl := gw_in (by decide +kernel) (by decide +kernel)
theorem kw_292 : (.methodLink RX0 98 yX0_countOn : Cond) ∈ gw_tbl := gw_in (by decide +kernel) (by decide +kernel)
theorem kw_293 : (.instanceMethod yX0_countOn : Cond) ∈ gw_tbl := gw_in (by decide +kernel) (by decide +kernel)
theorem kw_294 : (.selects RX0 yX0_countOn yX0_countOn : Cond) ∈ gw_tbl := gw_in (by decide +kernel) (by decide +kernel)
theorem kw_295 : (.code yX0_keepIfCheaper cX0_keepIfCheaper 4 none : Cond) ∈ gw_tbl := gw_in (by decide +kernel) (by decide +kernel)
theorem kw_296 : (.methodLink RX0 95 yX0_keepIfCheaper : Cond) ∈ gw_tbl := gw_in (by decide +kernel) (by decide +kernel)
theorem kw_297 : (.instanceMethod yX0_keepIfCheaper : Cond) ∈ gw_tbl := gw_in (by decide +kernel) (by decide +kernel)
theorem kw_298 : (.selects RX0 yX0_keepIfCheaper yX0_keepIfCheaper : Cond) ∈ gw_tbl := gw_in (by decide +kernel) (by decide +kernel)

set_option maxHeartbeats 4000000 in
set_option maxRecDepth 100000 in
theorem h_seekTable (l : Launch) (D : va_G) (cs : Nat → ClassId) (ch : Nat) (sm : Nat) (tb : Nat) (ck : Nat) (cm : Nat) (le : Nat) (ne : Nat) (pr : Nat) (tr : Nat) (ln : Nat) (trs : Int32) (lpr : Int64) (tbn : Nat) (ftb : Nat → Int32) (aq : Nat) (aw : Nat) (ac : Nat) (ao : Nat) (am : Nat) (C : Nat) (hC5 : C ≤ 5) (P : Nat) (hP4 : P ≤ 4) (tot : Int64) (fao : Nat → Int32) (fam : Nat → Int64) (lr : Nat → Nat) (flr : Nat → Nat → Int64) (fne : Nat → Int64) (ftr : Nat → Int32) (fln : Nat → Int32) (fpr : Nat → Int64) (sz : Nat) : Met l yX0_seekTable (Cond.code yX0_seekTable cX0_seekTable 2 none :: gw_tbl) ({ frames := 4, cells := 0, slots := 0, locals := 115 }) (pc_M D cs [(ch, .inr (0, [.ref aq, .ref sm, .ref tb, .ref ck, .ref cm, .ref le, .ref ne, .ref pr, .ref tr, .ref ln, .int trs, .long lpr])), (tb, .inr (10, [.ref tbn, .null, .int 0])), (tbn, .inl (cs 0, 4, .inl ftb)), (aq, .inr (5, [.ref aw, .ref ac, .ref ao, .ref am, .int (nI C), .int (nI P), .long tot])), (ao, .inl (cs 0, 4, .inl fao)), (am, .inl (cs 1, 16, .inr (.inl fam))), (le, .inl (cs 5, 4, .inr (.inr (.inr (.inr (rowsF 4 lr)))))), ((lr 0), .inl (cs 1, 12, .inr (.inl (flr 0)))), ((lr 1), .inl (cs 1, 12, .inr (.inl (flr 1)))), ((lr 2), .inl (cs 1, 12, .inr (.inl (flr 2)))), ((lr 3), .inl (cs 1, 12, .inr (.inl (flr 3)))), (ne, .inl (cs 1, 12, .inr (.inl fne))), (tr, .inl (cs 0, 4, .inl ftr)), (pr, .inl (cs 1, 4, .inr (.inl fpr))), (ln, .inl (cs 0, 4, .inl fln))] sz [.ref ch]) (va_Qv (fun (u : Unit) => True) (fun u t => ∃ (trs2 : Int32), ∃ (lpr2 : Int64), ∃ (ftb2 : Nat → Int32), ∃ (ftr2 : Nat → Int32), ∃ (fln2 : Nat → Int32), ∃ (fne2 : Nat → Int64), ∃ (fpr2 : Nat → Int64), ∃ (flr2 : Nat → Nat → Int64), va_P D vwCl [(ch, .inr (0, [.ref aq, .ref sm, .ref tb, .ref ck, .ref cm, .ref le, .ref ne, .ref pr, .ref tr, .ref ln, .int trs2, .long lpr2])), (tb, .inr (10, [.ref tbn, .null, .int 0])), (tbn, .inl (cs 0, 4, .inl ftb2)), (aq, .inr (5, [.ref aw, .ref ac, .ref ao, .ref am, .int (nI C), .int (nI P), .long tot])), (ao, .inl (cs 0, 4, .inl fao)), (am, .inl (cs 1, 16, .inr (.inl fam))), (le, .inl (cs 5, 4, .inr (.inr (.inr (.inr (rowsF 4 lr)))))), ((lr 0), .inl (cs 1, 12, .inr (.inl (flr2 0)))), ((lr 1), .inl (cs 1, 12, .inr (.inl (flr2 1)))), ((lr 2), .inl (cs 1, 12, .inr (.inl (flr2 2)))), ((lr 3), .inl (cs 1, 12, .inr (.inl (flr2 3)))), (ne, .inl (cs 1, 12, .inr (.inl fne2))), (tr, .inl (cs 0, 4, .inl ftr2)), (pr, .inl (cs 1, 4, .inr (.inl fpr2))), (ln, .inl (cs 0, 4, .inl fln2))] t.heap ∧ va_D (va_A [(ch, .inr (0, [.ref aq, .ref sm, .ref tb, .ref ck, .ref cm, .ref le, .ref ne, .ref pr, .ref tr, .ref ln, .int trs, .long lpr])), (tb, .inr (10, [.ref tbn, .null, .int 0])), (tbn, .inl (cs 0, 4, .inl ftb)), (aq, .inr (5, [.ref aw, .ref ac, .ref ao, .ref am, .int (nI C), .int (nI P), .long tot])), (ao, .inl (cs 0, 4, .inl fao)), (am, .inl (cs 1, 16, .inr (.inl fam))), (le, .inl (cs 5, 4, .inr (.inr (.inr (.inr (rowsF 4 lr)))))), ((lr 0), .inl (cs 1, 12, .inr (.inl (flr 0)))), ((lr 1), .inl (cs 1, 12, .inr (.inl (flr 1)))), ((lr 2), .inl (cs 1, 12, .inr (.inl (flr 2)))), ((lr 3), .inl (cs 1, 12, .inr (.inl (flr 3)))), (ne, .inl (cs 1, 12, .inr (.inl fne))), (tr, .inl (cs 0, 4, .inl ftr)), (pr, .inl (cs 1, 4, .inr (.inl fpr))), (ln, .inl (cs 0, 4, .inl fln))] sz) [(ch, .inr (0, [.ref aq, .ref sm, .ref tb, .ref ck, .ref cm, .ref le, .ref ne, .ref pr, .ref tr, .ref ln, .int trs2, .long lpr2])), (tb, .inr (10, [.ref tbn, .null, .int 0])), (tbn, .inl (cs 0, 4, .inl ftb2)), (aq, .inr (5, [.ref aw, .ref ac, .ref ao, .ref am, .int (nI C), .int (nI P), .long tot])), (ao, .inl (cs 0, 4, .inl fao)), (am, .inl (cs 1, 16, .inr (.inl fam))), (le, .inl (cs 5, 4, .inr (.inr (.inr (.inr (rowsF 4 lr)))))), ((lr 0), .inl (cs 1, 12, .inr (.inl (flr2 0)))), ((lr 1), .inl (cs 1, 12, .inr (.inl (flr2 1)))), ((lr 2), .inl (cs 1, 12, .inr (.inl (flr2 2)))), ((lr 3), .inl (cs 1, 12, .inr (.inl (flr2 3)))), (ne, .inl (cs 1, 12, .inr (.inl fne2))), (tr, .inl (cs 0, 4, .inl ftr2)), (pr, .inl (cs 1, 4, .inr (.inl fpr2))), (ln, .inl (cs 0, 4, .inl fln2))]) (va_A [(ch, .inr (0, [.ref aq, .ref sm, .ref tb, .ref ck, .ref cm, .ref le, .ref ne, .ref pr, .ref tr, .ref ln, .int trs, .long lpr])), (tb, .inr (10, [.ref tbn, .null, .int 0])), (tbn, .inl (cs 0, 4, .inl ftb)), (aq, .inr (5, [.ref aw, .ref ac, .ref ao, .ref am, .int (nI C), .int (nI P), .long tot])), (ao, .inl (cs 0, 4, .inl fao)), (am, .inl (cs 1, 16, .inr (.inl fam))), (le, .inl (cs 5, 4, .inr (.inr (.inr (.inr (rowsF 4 lr)))))), ((lr 0), .inl (cs 1, 12, .inr (.inl (flr 0)))), ((lr 1), .inl (cs 1, 12, .inr (.inl (flr 1)))), ((lr 2), .inl (cs 1, 12, .inr (.inl (flr 2)))), ((lr 3), .inl (cs 1, 12, .inr (.inl (flr 3)))), (ne, .inl (cs 1, 12, .inr (.inl fne))), (tr, .inl (cs 0, 4, .inl ftr)), (pr, .inl (cs 1, 4, .inr (.inl fpr))), (ln, .inl (cs 0, 4, .inl fln))] sz)) 0 0 (va_A [(ch, .inr (0, [.ref aq, .ref sm, .ref tb, .ref ck, .ref cm, .ref le, .ref ne, .ref pr, .ref tr, .ref ln, .int trs, .long lpr])), (tb, .inr (10, [.ref tbn, .null, .int 0])), (tbn, .inl (cs 0, 4, .inl ftb)), (aq, .inr (5, [.ref aw, .ref ac, .ref ao, .ref am, .int (nI C), .int (nI P), .long tot])), (ao, .inl (cs 0, 4, .inl fao)), (am, .inl (cs 1, 16, .inr (.inl fam))), (le, .inl (cs 5, 4, .inr (.inr (.inr (.inr (rowsF 4 lr)))))), ((lr 0), .inl (cs 1, 12, .inr (.inl (flr 0)))), ((lr 1), .inl (cs 1, 12, .inr (.inl (flr 1)))), ((lr 2), .inl (cs 1, 12, .inr (.inl (flr 2)))), ((lr 3), .inl (cs 1, 12, .inr (.inl (flr 3)))), (ne, .inl (cs 1, 12, .inr (.inl fne))), (tr, .inl (cs 0, 4, .inl ftr)), (pr, .inl (cs 1, 4, .inr (.inl fpr))), (ln, .inl (cs 0, 4, .inl fln))] sz) := by
  refine Met.ofW (cc := cX0_seekTable) (maxL := 2) (ret := none) (by decide) rfl ?_
  intro p e s m args below meth c s₁ B hml hv
  obtain ⟨hargs, hsz, hP, hK, hD0⟩ := hv
  have hx := B.exec
  have hb := B.bytes
  have hr := B.returns
  have hts := atoms_spec (ws := Cond.code yX0_seekTable cX0_seekTable 2 none :: gw_tbl) B.pre
  have hg := fun (w : Cond) (h : w ∈ gw_tbl) => hts w (List.mem_cons_of_mem _ h)
  have hown : s.vm.findClass RX0 = some m.cls := findClass_of_methodNamed B.named
  have hlocks := B.notSynchronized
  subst hsz
  have hD := hD0.self (sz := s.heap.size)
  generalize hAe : va_A [(ch, .inr (0, [.ref aq, .ref sm, .ref tb, .ref ck, .ref cm, .ref le, .ref ne, .ref pr, .ref tr, .ref ln, .int trs, .long lpr])), (tb, .inr (10, [.ref tbn, .null, .int 0])), (tbn, .inl (cs 0, 4, .inl ftb)), (aq, .inr (5, [.ref aw, .ref ac, .ref ao, .ref am, .int (nI C), .int (nI P), .long tot])), (ao, .inl (cs 0, 4, .inl fao)), (am, .inl (cs 1, 16, .inr (.inl fam))), (le, .inl (cs 5, 4, .inr (.inr (.inr (.inr (rowsF 4 lr)))))), ((lr 0), .inl (cs 1, 12, .inr (.inl (flr 0)))), ((lr 1), .inl (cs 1, 12, .inr (.inl (flr 1)))), ((lr 2), .inl (cs 1, 12, .inr (.inl (flr 2)))), ((lr 3), .inl (cs 1, 12, .inr (.inl (flr 3)))), (ne, .inl (cs 1, 12, .inr (.inl fne))), (tr, .inl (cs 0, 4, .inl ftr)), (pr, .inl (cs 1, 4, .inr (.inl fpr))), (ln, .inl (cs 0, 4, .inl fln))] s.heap.size = A at hD ⊢
  have hA : ∀ q : Nat, s.heap.size ≤ q → A q := fun q h => by rw [← hAe]; exact Or.inr h
  have hS : va_S A s.heap s.heap [] := va_S.rf
  have hP : va_P D vwCl [(ch, .inr (0, [.ref aq, .ref sm, .ref tb, .ref ck, .ref cm, .ref le, .ref ne, .ref pr, .ref tr, .ref ln, .int trs, .long lpr])), (tb, .inr (10, [.ref tbn, .null, .int 0])), (tbn, .inl (cs 0, 4, .inl ftb)), (aq, .inr (5, [.ref aw, .ref ac, .ref ao, .ref am, .int (nI C), .int (nI P), .long tot])), (ao, .inl (cs 0, 4, .inl fao)), (am, .inl (cs 1, 16, .inr (.inl fam))), (le, .inl (cs 5, 4, .inr (.inr (.inr (.inr (rowsF 4 lr)))))), ((lr 0), .inl (cs 1, 12, .inr (.inl (flr 0)))), ((lr 1), .inl (cs 1, 12, .inr (.inl (flr 1)))), ((lr 2), .inl (cs 1, 12, .inr (.inl (flr 2)))), ((lr 3), .inl (cs 1, 12, .inr (.inl (flr 3)))), (ne, .inl (cs 1, 12, .inr (.inl fne))), (tr, .inl (cs 0, 4, .inl ftr)), (pr, .inl (cs 1, 4, .inr (.inl fpr))), (ln, .inl (cs 0, 4, .inl fln))] s.heap := hP
  have hl := lv_entry ([.ref ch]) (n := 2) (Nat.le_of_ble_eq_true rfl)
  rw [show entryFrame m args 2 = F0 m 0 (lg_sl ([.ref ch]) ++ List.replicate (2 - (lg_sl ([.ref ch])).length) Slot.unset).toArray [] from by rw [hargs]; exact lg_entry_eq ..]
  generalize (lg_sl ([.ref ch]) ++ List.replicate (2 - (lg_sl ([.ref ch])).length) Slot.unset).toArray = ls at hl ⊢
  have hl : lv_has ls 2 [(0, .ref ch)] := hl
  refine W_genQ (fun Q hQ => ?_)
  have hlm := lim_le hP4
  have hlq := lim_pos P
  have hsg := sgn_le hP4
  refine lv_iconst (v := 0) hx hb dX0_seekTable_0 (by decide) ?_
  refine lv_istore_n (lv' := [(1, .int 0), (0, .ref ch)]) hx hb dX0_seekTable_1 rfl hl (by decide) rfl (fun ls hl => ?_)
  refine lv_iload_n hx hb dX0_seekTable_2 rfl (lv_at hl 0 rfl) ?_
  refine lv_iconst (v := 4) hx hb dX0_seekTable_3 (by decide) ?_
  refine lv_icmp_ge (tgt := 83) hx hb dX0_seekTable_4 (by decide) (fun c_4 => absurd c_4 (by decide)) (fun c_4 => ?_)
  refine lv_aload_n hx hb dX0_seekTable_7 rfl (lv_at hl 1 rfl) ?_
  refine va_get (D := D) (ci := 0) (v := .ref tb) (C := RX0) (T := TX0) (N := 12) hx hb hg gwX0 hown hK hP 0 rfl rfl 2 (by decide) (hg _ kw_282) (fun _ h9 => h9) rfl dX0_seekTable_8 ?_
  refine lv_iconst (v := 0) hx hb dX0_seekTable_11 (by decide) ?_
  refine lv_iconst (v := 0) hx hb dX0_seekTable_12 (by decide) ?_
  refine lv_iconst (v := 0) hx hb dX0_seekTable_13 (by decide) ?_
  refine lv_iconst (v := 0) hx hb dX0_seekTable_14 (by decide) ?_
  have hPc := hP.sub (ws' := [(tb, .inr (10, [.ref tbn, .null, .int 0])), (tbn, .inl (cs 0, 4, .inl ftb))]) [1, 2] rfl
  have hDc := hD.sub (ws' := [(tb, .inr (10, [.ref tbn, .null, .int 0])), (tbn, .inl (cs 0, 4, .inl ftb))]) [1, 2] (by decide) rfl
  have hFc := va_free (wc := [(tb, .inr (10, [.ref tbn, .null, .int 0])), (tbn, .inl (cs 0, 4, .inl ftb))]) hD hS hA [1, 2] rfl
  refine va_callv (va_runU (As := [.int 0, .int 0, .int 0, .int 0]) (rest := []) ⟨hx, hb, hml, hown, hg⟩ (p_become_10 l D cs tb tbn .null 0 ftb 0 0 0 0 _) (va_cwU (owner := "NobodyChecks$Pay") (x := ⟨"NobodyChecks$Table", "become", "(IIII)V"⟩) 4 hg (gw_U kw_283 kw_284 kw_285 kw_263 kw_151 kw_259) rfl rfl rfl rfl (by decide +kernel) ⟨(Nat.le_of_ble_eq_true rfl), (Nat.le_of_ble_eq_true rfl)⟩) (pr_MV (q := (RX10, TX10, 3)) 10 0 hK hPc hDc rfl rfl) rfl rfl hl.1 rfl (lv_room (Nat.le_of_ble_eq_true rfl)) dX0_seekTable_15 ⟨(Nat.le_of_ble_eq_true rfl), (Nat.le_of_ble_eq_true rfl)⟩) hS (fun q _ h => hFc q h) hFc (fun u t H1 locs ht hvm h_15 hB hz1 hk1 hS => ?_)
  obtain ⟨fq2_15, hq2_15, hP1, hD1⟩ := hB
  rw [ht] at hP1
  obtain ⟨hP, hD⟩ := va_join (wr := [(ch, .inr (0, [.ref aq, .ref sm, .ref tb, .ref ck, .ref cm, .ref le, .ref ne, .ref pr, .ref tr, .ref ln, .int trs, .long lpr])), (aq, .inr (5, [.ref aw, .ref ac, .ref ao, .ref am, .int (nI C), .int (nI P), .long tot])), (ao, .inl (cs 0, 4, .inl fao)), (am, .inl (cs 1, 16, .inr (.inl fam))), (le, .inl (cs 5, 4, .inr (.inr (.inr (.inr (rowsF 4 lr)))))), ((lr 0), .inl (cs 1, 12, .inr (.inl (flr 0)))), ((lr 1), .inl (cs 1, 12, .inr (.inl (flr 1)))), ((lr 2), .inl (cs 1, 12, .inr (.inl (flr 2)))), ((lr 3), .inl (cs 1, 12, .inr (.inl (flr 3)))), (ne, .inl (cs 1, 12, .inr (.inl fne))), (tr, .inl (cs 0, 4, .inl ftr)), (pr, .inl (cs 1, 4, .inr (.inl fpr))), (ln, .inl (cs 0, 4, .inl fln))]) (w1 := [(tb, .inr (10, [.ref tbn, .null, .int 0])), (tbn, .inl (cs 0, 4, .inl fq2_15))]) hP hD [1, 2] [0, 3, 4, 5, 6, 7, 8, 9, 10, 11, 12, 13, 14] rfl rfl (by decide) (by decide) hk1 hFc hP1 hD1
  generalize H1 = H at hP hS ⊢
  have hP : va_P D vwCl [(ch, .inr (0, [.ref aq, .ref sm, .ref tb, .ref ck, .ref cm, .ref le, .ref ne, .ref pr, .ref tr, .ref ln, .int trs, .long lpr])), (aq, .inr (5, [.ref aw, .ref ac, .ref ao, .ref am, .int (nI C), .int (nI P), .long tot])), (ao, .inl (cs 0, 4, .inl fao)), (am, .inl (cs 1, 16, .inr (.inl fam))), (le, .inl (cs 5, 4, .inr (.inr (.inr (.inr (rowsF 4 lr)))))), ((lr 0), .inl (cs 1, 12, .inr (.inl (flr 0)))), ((lr 1), .inl (cs 1, 12, .inr (.inl (flr 1)))), ((lr 2), .inl (cs 1, 12, .inr (.inl (flr 2)))), ((lr 3), .inl (cs 1, 12, .inr (.inl (flr 3)))), (ne, .inl (cs 1, 12, .inr (.inl fne))), (tr, .inl (cs 0, 4, .inl ftr)), (pr, .inl (cs 1, 4, .inr (.inl fpr))), (ln, .inl (cs 0, 4, .inl fln)), (tb, .inr (10, [.ref tbn, .null, .int 0])), (tbn, .inl (cs 0, 4, .inl fq2_15))] H := hP
  have hD : va_D A [(ch, .inr (0, [.ref aq, .ref sm, .ref tb, .ref ck, .ref cm, .ref le, .ref ne, .ref pr, .ref tr, .ref ln, .int trs, .long lpr])), (aq, .inr (5, [.ref aw, .ref ac, .ref ao, .ref am, .int (nI C), .int (nI P), .long tot])), (ao, .inl (cs 0, 4, .inl fao)), (am, .inl (cs 1, 16, .inr (.inl fam))), (le, .inl (cs 5, 4, .inr (.inr (.inr (.inr (rowsF 4 lr)))))), ((lr 0), .inl (cs 1, 12, .inr (.inl (flr 0)))), ((lr 1), .inl (cs 1, 12, .inr (.inl (flr 1)))), ((lr 2), .inl (cs 1, 12, .inr (.inl (flr 2)))), ((lr 3), .inl (cs 1, 12, .inr (.inl (flr 3)))), (ne, .inl (cs 1, 12, .inr (.inl fne))), (tr, .inl (cs 0, 4, .inl ftr)), (pr, .inl (cs 1, 4, .inr (.inl fpr))), (ln, .inl (cs 0, 4, .inl fln)), (tb, .inr (10, [.ref tbn, .null, .int 0])), (tbn, .inl (cs 0, 4, .inl fq2_15))] := hD
  refine W.cs (cells' := 0) (slots' := 0) rfl rfl ?_
  refine lv_aload_n hx hb dX0_seekTable_18 rfl (lv_at hl 1 rfl) ?_
  refine va_get (D := D) (ci := 0) (v := .ref tb) (C := RX0) (T := TX0) (N := 12) hx hb hg gwX0 hown hK hP 0 rfl rfl 2 (by decide) (hg _ kw_282) (fun _ h9 => h9) rfl dX0_seekTable_19 ?_
  refine va_get (D := D) (ci := 10) (v := .ref tbn) (C := RX10) (T := TX10) (N := 3) hx hb hg gwX10 hown hK hP 13 rfl rfl 0 (by decide) (hg _ kw_286) (fun x h9 => u_same (hg _ kw_126) x h9) rfl dX0_seekTable_22 ?_
  refine lv_iload_n hx hb dX0_seekTable_25 rfl (lv_at hl 0 rfl) ?_
  refine lv_iconst (v := 1) hx hb dX0_seekTable_26 (by decide) ?_
  refine va_iast hx hb hK hP hD hS 14 0 rfl rfl (show ¬ ((0 : Int32) < 0 ∨ 4 ≤ (0 : Int32).toNatClampNeg) by decide) dX0_seekTable_27 (fun H locs hP hD hS => ?_)
  obtain ⟨f_27, hf_27⟩ : ∃ f9, f9 = (upd fq2_15 (0 : Int32).toNatClampNeg 1) := ⟨_, rfl⟩
  rw [← hf_27] at hP hD
  have hP : va_P D vwCl [(ch, .inr (0, [.ref aq, .ref sm, .ref tb, .ref ck, .ref cm, .ref le, .ref ne, .ref pr, .ref tr, .ref ln, .int trs, .long lpr])), (aq, .inr (5, [.ref aw, .ref ac, .ref ao, .ref am, .int (nI C), .int (nI P), .long tot])), (ao, .inl (cs 0, 4, .inl fao)), (am, .inl (cs 1, 16, .inr (.inl fam))), (le, .inl (cs 5, 4, .inr (.inr (.inr (.inr (rowsF 4 lr)))))), ((lr 0), .inl (cs 1, 12, .inr (.inl (flr 0)))), ((lr 1), .inl (cs 1, 12, .inr (.inl (flr 1)))), ((lr 2), .inl (cs 1, 12, .inr (.inl (flr 2)))), ((lr 3), .inl (cs 1, 12, .inr (.inl (flr 3)))), (ne, .inl (cs 1, 12, .inr (.inl fne))), (tr, .inl (cs 0, 4, .inl ftr)), (pr, .inl (cs 1, 4, .inr (.inl fpr))), (ln, .inl (cs 0, 4, .inl fln)), (tb, .inr (10, [.ref tbn, .null, .int 0])), (tbn, .inl (cs 0, 4, .inl f_27))] H := hP
  have hD : va_D A [(ch, .inr (0, [.ref aq, .ref sm, .ref tb, .ref ck, .ref cm, .ref le, .ref ne, .ref pr, .ref tr, .ref ln, .int trs, .long lpr])), (aq, .inr (5, [.ref aw, .ref ac, .ref ao, .ref am, .int (nI C), .int (nI P), .long tot])), (ao, .inl (cs 0, 4, .inl fao)), (am, .inl (cs 1, 16, .inr (.inl fam))), (le, .inl (cs 5, 4, .inr (.inr (.inr (.inr (rowsF 4 lr)))))), ((lr 0), .inl (cs 1, 12, .inr (.inl (flr 0)))), ((lr 1), .inl (cs 1, 12, .inr (.inl (flr 1)))), ((lr 2), .inl (cs 1, 12, .inr (.inl (flr 2)))), ((lr 3), .inl (cs 1, 12, .inr (.inl (flr 3)))), (ne, .inl (cs 1, 12, .inr (.inl fne))), (tr, .inl (cs 0, 4, .inl ftr)), (pr, .inl (cs 1, 4, .inr (.inl fpr))), (ln, .inl (cs 0, 4, .inl fln)), (tb, .inr (10, [.ref tbn, .null, .int 0])), (tbn, .inl (cs 0, 4, .inl f_27))] := hD
  refine lv_aload_n hx hb dX0_seekTable_28 rfl (lv_at hl 1 rfl) ?_
  refine lv_aload_n hx hb dX0_seekTable_29 rfl (lv_at hl 1 rfl) ?_
  refine va_get (D := D) (ci := 0) (v := .ref tb) (C := RX0) (T := TX0) (N := 12) hx hb hg gwX0 hown hK hP 0 rfl rfl 2 (by decide) (hg _ kw_282) (fun _ h9 => h9) rfl dX0_seekTable_30 ?_
  refine lv_aload_n hx hb dX0_seekTable_33 rfl (lv_at hl 1 rfl) ?_
  refine va_get (D := D) (ci := 0) (v := .ref aq) (C := RX0) (T := TX0) (N := 12) hx hb hg gwX0 hown hK hP 0 rfl rfl 0 (by decide) (hg _ kw_244) (fun _ h9 => h9) rfl dX0_seekTable_34 ?_
  refine va_get (D := D) (ci := 5) (v := .ref am) (C := RX5) (T := TX5) (N := 7) hx hb hg gwX5 hown hK hP 1 rfl rfl 3 (by decide) (hg _ kw_253) (fun _ h9 => h9) rfl dX0_seekTable_37 ?_
  refine lv_aload_n hx hb dX0_seekTable_40 rfl (lv_at hl 1 rfl) ?_
  refine va_get (D := D) (ci := 0) (v := .ref le) (C := RX0) (T := TX0) (N := 12) hx hb hg gwX0 hown hK hP 0 rfl rfl 5 (by decide) (hg _ kw_252) (fun _ h9 => h9) rfl dX0_seekTable_41 ?_
  refine lv_iload_n hx hb dX0_seekTable_44 rfl (lv_at hl 0 rfl) ?_
  refine va_aldR (k := 0) hx hb hK hP 4 5 rfl rfl (show 0 < 4 by omega) (by decide) dX0_seekTable_45 ?_
  have hPc := hP.sub (ws' := [(ch, .inr (0, [.ref aq, .ref sm, .ref tb, .ref ck, .ref cm, .ref le, .ref ne, .ref pr, .ref tr, .ref ln, .int trs, .long lpr])), (tb, .inr (10, [.ref tbn, .null, .int 0])), (tbn, .inl (cs 0, 4, .inl f_27)), (aq, .inr (5, [.ref aw, .ref ac, .ref ao, .ref am, .int (nI C), .int (nI P), .long tot])), (am, .inl (cs 1, 16, .inr (.inl fam))), ((lr 0), .inl (cs 1, 12, .inr (.inl (flr 0))))]) [0, 13, 14, 1, 3, 5] rfl
  have hDc := hD.sub (ws' := [(ch, .inr (0, [.ref aq, .ref sm, .ref tb, .ref ck, .ref cm, .ref le, .ref ne, .ref pr, .ref tr, .ref ln, .int trs, .long lpr])), (tb, .inr (10, [.ref tbn, .null, .int 0])), (tbn, .inl (cs 0, 4, .inl f_27)), (aq, .inr (5, [.ref aw, .ref ac, .ref ao, .ref am, .int (nI C), .int (nI P), .long tot])), (am, .inl (cs 1, 16, .inr (.inl fam))), ((lr 0), .inl (cs 1, 12, .inr (.inl (flr 0))))]) [0, 13, 14, 1, 3, 5] (by decide) rfl
  have hFc := va_free (wc := [(ch, .inr (0, [.ref aq, .ref sm, .ref tb, .ref ck, .ref cm, .ref le, .ref ne, .ref pr, .ref tr, .ref ln, .int trs, .long lpr])), (tb, .inr (10, [.ref tbn, .null, .int 0])), (tbn, .inl (cs 0, 4, .inl f_27)), (aq, .inr (5, [.ref aw, .ref ac, .ref ao, .ref am, .int (nI C), .int (nI P), .long tot])), (am, .inl (cs 1, 16, .inr (.inl fam))), ((lr 0), .inl (cs 1, 12, .inr (.inl (flr 0))))]) hD hS hA [0, 13, 14, 1, 3, 5] rfl
  refine va_callv (va_runV (As := [.ref tb, .ref am, .ref (lr 0)]) (rest := []) ⟨hx, hb, hml, hown, hg⟩ (h_fillLeads l D cs ch sm tb ck cm le ne pr tr ln trs lpr tb tbn .null 0 10 (by unfold isPy; omega) f_27 aq aw ac ao am C (by omega) P (by omega) tot am (lr 0) fam (flr 0) _) (cwV 3 hg (gw_V kw_265 kw_266 kw_267 kw_268 kw_264) rfl rfl rfl (by decide +kernel) ⟨(Nat.le_of_ble_eq_true rfl), (Nat.le_of_ble_eq_true rfl)⟩) (pr_MV (q := (RX0, TX0, 12)) 0 0 hK hPc hDc rfl rfl) rfl rfl hl.1 rfl (lv_room (Nat.le_of_ble_eq_true rfl)) dX0_seekTable_46 ⟨(Nat.le_of_ble_eq_true rfl), (Nat.le_of_ble_eq_true rfl)⟩) hS (fun q _ h => hFc q h) hFc (fun u t H1 locs ht hvm h_46 hB hz1 hk1 hS => ?_)
  obtain ⟨ffd2_46, hP1, hD1⟩ := hB
  rw [ht] at hP1
  obtain ⟨hP, hD⟩ := va_join (wr := [(ao, .inl (cs 0, 4, .inl fao)), (le, .inl (cs 5, 4, .inr (.inr (.inr (.inr (rowsF 4 lr)))))), ((lr 1), .inl (cs 1, 12, .inr (.inl (flr 1)))), ((lr 2), .inl (cs 1, 12, .inr (.inl (flr 2)))), ((lr 3), .inl (cs 1, 12, .inr (.inl (flr 3)))), (ne, .inl (cs 1, 12, .inr (.inl fne))), (tr, .inl (cs 0, 4, .inl ftr)), (pr, .inl (cs 1, 4, .inr (.inl fpr))), (ln, .inl (cs 0, 4, .inl fln))]) (w1 := [(ch, .inr (0, [.ref aq, .ref sm, .ref tb, .ref ck, .ref cm, .ref le, .ref ne, .ref pr, .ref tr, .ref ln, .int trs, .long lpr])), (tb, .inr (10, [.ref tbn, .null, .int 0])), (tbn, .inl (cs 0, 4, .inl f_27)), (aq, .inr (5, [.ref aw, .ref ac, .ref ao, .ref am, .int (nI C), .int (nI P), .long tot])), (am, .inl (cs 1, 16, .inr (.inl fam))), ((lr 0), .inl (cs 1, 12, .inr (.inl ffd2_46)))]) hP hD [0, 13, 14, 1, 3, 5] [2, 4, 6, 7, 8, 9, 10, 11, 12] rfl rfl (by decide) (by decide) hk1 hFc hP1 hD1
  generalize H1 = H at hP hS ⊢
  have hP : va_P D vwCl [(ao, .inl (cs 0, 4, .inl fao)), (le, .inl (cs 5, 4, .inr (.inr (.inr (.inr (rowsF 4 lr)))))), ((lr 1), .inl (cs 1, 12, .inr (.inl (flr 1)))), ((lr 2), .inl (cs 1, 12, .inr (.inl (flr 2)))), ((lr 3), .inl (cs 1, 12, .inr (.inl (flr 3)))), (ne, .inl (cs 1, 12, .inr (.inl fne))), (tr, .inl (cs 0, 4, .inl ftr)), (pr, .inl (cs 1, 4, .inr (.inl fpr))), (ln, .inl (cs 0, 4, .inl fln)), (ch, .inr (0, [.ref aq, .ref sm, .ref tb, .ref ck, .ref cm, .ref le, .ref ne, .ref pr, .ref tr, .ref ln, .int trs, .long lpr])), (tb, .inr (10, [.ref tbn, .null, .int 0])), (tbn, .inl (cs 0, 4, .inl f_27)), (aq, .inr (5, [.ref aw, .ref ac, .ref ao, .ref am, .int (nI C), .int (nI P), .long tot])), (am, .inl (cs 1, 16, .inr (.inl fam))), ((lr 0), .inl (cs 1, 12, .inr (.inl ffd2_46)))] H := hP
  have hD : va_D A [(ao, .inl (cs 0, 4, .inl fao)), (le, .inl (cs 5, 4, .inr (.inr (.inr (.inr (rowsF 4 lr)))))), ((lr 1), .inl (cs 1, 12, .inr (.inl (flr 1)))), ((lr 2), .inl (cs 1, 12, .inr (.inl (flr 2)))), ((lr 3), .inl (cs 1, 12, .inr (.inl (flr 3)))), (ne, .inl (cs 1, 12, .inr (.inl fne))), (tr, .inl (cs 0, 4, .inl ftr)), (pr, .inl (cs 1, 4, .inr (.inl fpr))), (ln, .inl (cs 0, 4, .inl fln)), (ch, .inr (0, [.ref aq, .ref sm, .ref tb, .ref ck, .ref cm, .ref le, .ref ne, .ref pr, .ref tr, .ref ln, .int trs, .long lpr])), (tb, .inr (10, [.ref tbn, .null, .int 0])), (tbn, .inl (cs 0, 4, .inl f_27)), (aq, .inr (5, [.ref aw, .ref ac, .ref ao, .ref am, .int (nI C), .int (nI P), .long tot])), (am, .inl (cs 1, 16, .inr (.inl fam))), ((lr 0), .inl (cs 1, 12, .inr (.inl ffd2_46)))] := hD
  refine W.cs (cells' := 0) (slots' := 0) rfl rfl ?_
  obtain ⟨frlr_46, hfrlr_46⟩ : ∃ f9, f9 = va_up flr 0 ffd2_46 := ⟨_, rfl⟩
  have hP : va_P D vwCl [(ao, .inl (cs 0, 4, .inl fao)), (le, .inl (cs 5, 4, .inr (.inr (.inr (.inr (rowsF 4 lr)))))), ((lr 1), .inl (cs 1, 12, .inr (.inl (frlr_46 1)))), ((lr 2), .inl (cs 1, 12, .inr (.inl (frlr_46 2)))), ((lr 3), .inl (cs 1, 12, .inr (.inl (frlr_46 3)))), (ne, .inl (cs 1, 12, .inr (.inl fne))), (tr, .inl (cs 0, 4, .inl ftr)), (pr, .inl (cs 1, 4, .inr (.inl fpr))), (ln, .inl (cs 0, 4, .inl fln)), (ch, .inr (0, [.ref aq, .ref sm, .ref tb, .ref ck, .ref cm, .ref le, .ref ne, .ref pr, .ref tr, .ref ln, .int trs, .long lpr])), (tb, .inr (10, [.ref tbn, .null, .int 0])), (tbn, .inl (cs 0, 4, .inl f_27)), (aq, .inr (5, [.ref aw, .ref ac, .ref ao, .ref am, .int (nI C), .int (nI P), .long tot])), (am, .inl (cs 1, 16, .inr (.inl fam))), ((lr 0), .inl (cs 1, 12, .inr (.inl (frlr_46 0))))] H := by rw [hfrlr_46]; exact hP
  have hD : va_D A [(ao, .inl (cs 0, 4, .inl fao)), (le, .inl (cs 5, 4, .inr (.inr (.inr (.inr (rowsF 4 lr)))))), ((lr 1), .inl (cs 1, 12, .inr (.inl (frlr_46 1)))), ((lr 2), .inl (cs 1, 12, .inr (.inl (frlr_46 2)))), ((lr 3), .inl (cs 1, 12, .inr (.inl (frlr_46 3)))), (ne, .inl (cs 1, 12, .inr (.inl fne))), (tr, .inl (cs 0, 4, .inl ftr)), (pr, .inl (cs 1, 4, .inr (.inl fpr))), (ln, .inl (cs 0, 4, .inl fln)), (ch, .inr (0, [.ref aq, .ref sm, .ref tb, .ref ck, .ref cm, .ref le, .ref ne, .ref pr, .ref tr, .ref ln, .int trs, .long lpr])), (tb, .inr (10, [.ref tbn, .null, .int 0])), (tbn, .inl (cs 0, 4, .inl f_27)), (aq, .inr (5, [.ref aw, .ref ac, .ref ao, .ref am, .int (nI C), .int (nI P), .long tot])), (am, .inl (cs 1, 16, .inr (.inl fam))), ((lr 0), .inl (cs 1, 12, .inr (.inl (frlr_46 0))))] := by rw [hfrlr_46]; exact hD
  refine lv_aload_n hx hb dX0_seekTable_49 rfl (lv_at hl 1 rfl) ?_
  refine va_get (D := D) (ci := 0) (v := .ref pr) (C := RX0) (T := TX0) (N := 12) hx hb hg gwX0 hown hK hP 9 rfl rfl 7 (by decide) (hg _ kw_254) (fun _ h9 => h9) rfl dX0_seekTable_50 ?_
  refine lv_iload_n hx hb dX0_seekTable_53 rfl (lv_at hl 0 rfl) ?_
  refine lv_aload_n hx hb dX0_seekTable_54 rfl (lv_at hl 1 rfl) ?_
  refine lv_aload_n hx hb dX0_seekTable_55 rfl (lv_at hl 1 rfl) ?_
  refine va_get (D := D) (ci := 0) (v := .ref tb) (C := RX0) (T := TX0) (N := 12) hx hb hg gwX0 hown hK hP 9 rfl rfl 2 (by decide) (hg _ kw_282) (fun _ h9 => h9) rfl dX0_seekTable_56 ?_
  have hPc := hP.sub (ws' := [(ch, .inr (0, [.ref aq, .ref sm, .ref tb, .ref ck, .ref cm, .ref le, .ref ne, .ref pr, .ref tr, .ref ln, .int trs, .long lpr])), (tb, .inr (10, [.ref tbn, .null, .int 0])), (tbn, .inl (cs 0, 4, .inl f_27)), (aq, .inr (5, [.ref aw, .ref ac, .ref ao, .ref am, .int (nI C), .int (nI P), .long tot])), (am, .inl (cs 1, 16, .inr (.inl fam)))]) [9, 10, 11, 12, 13] rfl
  refine vp_callSl (W.runV (As := [.ref tb]) (rest := [.int 0, .ref pr]) ⟨hx, hb, hml, hown, hg⟩ (h_togetherByTruth l D cs ch sm tb ck cm le ne pr tr ln trs lpr tb tbn .null 0 10 (by unfold isPy; omega) f_27 aq aw ac ao am C (by omega) P (by omega) tot fam) (cwV 1 hg (gw_V kw_288 kw_289 kw_290 kw_268 kw_287) rfl rfl rfl (by decide +kernel) ⟨(Nat.le_of_ble_eq_true rfl), (Nat.le_of_ble_eq_true rfl)⟩) (pr_SV (q := (RX0, TX0, 12)) 0 0 hK hPc rfl rfl) rfl rfl hl.1 rfl (lv_room (Nat.le_of_ble_eq_true rfl)) dX0_seekTable_59 ⟨(Nat.le_of_ble_eq_true rfl), (Nat.le_of_ble_eq_true rfl)⟩) (fun r_59 h_59 => ?_)
  clear h_59
  refine va_last hx hb hK hP hD hS 7 1 rfl rfl (show ¬ ((0 : Int32) < 0 ∨ 4 ≤ (0 : Int32).toNatClampNeg) by decide) dX0_seekTable_62 (fun H locs hP hD hS => ?_)
  obtain ⟨f_62, hf_62⟩ : ∃ f9, f9 = (vp_updL fpr (0 : Int32).toNatClampNeg r_59) := ⟨_, rfl⟩
  rw [← hf_62] at hP hD
  have hP : va_P D vwCl [(ao, .inl (cs 0, 4, .inl fao)), (le, .inl (cs 5, 4, .inr (.inr (.inr (.inr (rowsF 4 lr)))))), ((lr 1), .inl (cs 1, 12, .inr (.inl (frlr_46 1)))), ((lr 2), .inl (cs 1, 12, .inr (.inl (frlr_46 2)))), ((lr 3), .inl (cs 1, 12, .inr (.inl (frlr_46 3)))), (ne, .inl (cs 1, 12, .inr (.inl fne))), (tr, .inl (cs 0, 4, .inl ftr)), (pr, .inl (cs 1, 4, .inr (.inl f_62))), (ln, .inl (cs 0, 4, .inl fln)), (ch, .inr (0, [.ref aq, .ref sm, .ref tb, .ref ck, .ref cm, .ref le, .ref ne, .ref pr, .ref tr, .ref ln, .int trs, .long lpr])), (tb, .inr (10, [.ref tbn, .null, .int 0])), (tbn, .inl (cs 0, 4, .inl f_27)), (aq, .inr (5, [.ref aw, .ref ac, .ref ao, .ref am, .int (nI C), .int (nI P), .long tot])), (am, .inl (cs 1, 16, .inr (.inl fam))), ((lr 0), .inl (cs 1, 12, .inr (.inl (frlr_46 0))))] H := hP
  have hD : va_D A [(ao, .inl (cs 0, 4, .inl fao)), (le, .inl (cs 5, 4, .inr (.inr (.inr (.inr (rowsF 4 lr)))))), ((lr 1), .inl (cs 1, 12, .inr (.inl (frlr_46 1)))), ((lr 2), .inl (cs 1, 12, .inr (.inl (frlr_46 2)))), ((lr 3), .inl (cs 1, 12, .inr (.inl (frlr_46 3)))), (ne, .inl (cs 1, 12, .inr (.inl fne))), (tr, .inl (cs 0, 4, .inl ftr)), (pr, .inl (cs 1, 4, .inr (.inl f_62))), (ln, .inl (cs 0, 4, .inl fln)), (ch, .inr (0, [.ref aq, .ref sm, .ref tb, .ref ck, .ref cm, .ref le, .ref ne, .ref pr, .ref tr, .ref ln, .int trs, .long lpr])), (tb, .inr (10, [.ref tbn, .null, .int 0])), (tbn, .inl (cs 0, 4, .inl f_27)), (aq, .inr (5, [.ref aw, .ref ac, .ref ao, .ref am, .int (nI C), .int (nI P), .long tot])), (am, .inl (cs 1, 16, .inr (.inl fam))), ((lr 0), .inl (cs 1, 12, .inr (.inl (frlr_46 0))))] := hD
  refine lv_aload_n hx hb dX0_seekTable_63 rfl (lv_at hl 1 rfl) ?_
  refine va_get (D := D) (ci := 0) (v := .ref tr) (C := RX0) (T := TX0) (N := 12) hx hb hg gwX0 hown hK hP 9 rfl rfl 8 (by decide) (hg _ kw_251) (fun _ h9 => h9) rfl dX0_seekTable_64 ?_
  refine lv_iload_n hx hb dX0_seekTable_67 rfl (lv_at hl 0 rfl) ?_
  refine lv_iconst (v := 0) hx hb dX0_seekTable_68 (by decide) ?_
  refine va_iast hx hb hK hP hD hS 6 0 rfl rfl (show ¬ ((0 : Int32) < 0 ∨ 4 ≤ (0 : Int32).toNatClampNeg) by decide) dX0_seekTable_69 (fun H locs hP hD hS => ?_)
  obtain ⟨f_69, hf_69⟩ : ∃ f9, f9 = (upd ftr (0 : Int32).toNatClampNeg 0) := ⟨_, rfl⟩
  rw [← hf_69] at hP hD
  have hP : va_P D vwCl [(ao, .inl (cs 0, 4, .inl fao)), (le, .inl (cs 5, 4, .inr (.inr (.inr (.inr (rowsF 4 lr)))))), ((lr 1), .inl (cs 1, 12, .inr (.inl (frlr_46 1)))), ((lr 2), .inl (cs 1, 12, .inr (.inl (frlr_46 2)))), ((lr 3), .inl (cs 1, 12, .inr (.inl (frlr_46 3)))), (ne, .inl (cs 1, 12, .inr (.inl fne))), (tr, .inl (cs 0, 4, .inl f_69)), (pr, .inl (cs 1, 4, .inr (.inl f_62))), (ln, .inl (cs 0, 4, .inl fln)), (ch, .inr (0, [.ref aq, .ref sm, .ref tb, .ref ck, .ref cm, .ref le, .ref ne, .ref pr, .ref tr, .ref ln, .int trs, .long lpr])), (tb, .inr (10, [.ref tbn, .null, .int 0])), (tbn, .inl (cs 0, 4, .inl f_27)), (aq, .inr (5, [.ref aw, .ref ac, .ref ao, .ref am, .int (nI C), .int (nI P), .long tot])), (am, .inl (cs 1, 16, .inr (.inl fam))), ((lr 0), .inl (cs 1, 12, .inr (.inl (frlr_46 0))))] H := hP
  have hD : va_D A [(ao, .inl (cs 0, 4, .inl fao)), (le, .inl (cs 5, 4, .inr (.inr (.inr (.inr (rowsF 4 lr)))))), ((lr 1), .inl (cs 1, 12, .inr (.inl (frlr_46 1)))), ((lr 2), .inl (cs 1, 12, .inr (.inl (frlr_46 2)))), ((lr 3), .inl (cs 1, 12, .inr (.inl (frlr_46 3)))), (ne, .inl (cs 1, 12, .inr (.inl fne))), (tr, .inl (cs 0, 4, .inl f_69)), (pr, .inl (cs 1, 4, .inr (.inl f_62))), (ln, .inl (cs 0, 4, .inl fln)), (ch, .inr (0, [.ref aq, .ref sm, .ref tb, .ref ck, .ref cm, .ref le, .ref ne, .ref pr, .ref tr, .ref ln, .int trs, .long lpr])), (tb, .inr (10, [.ref tbn, .null, .int 0])), (tbn, .inl (cs 0, 4, .inl f_27)), (aq, .inr (5, [.ref aw, .ref ac, .ref ao, .ref am, .int (nI C), .int (nI P), .long tot])), (am, .inl (cs 1, 16, .inr (.inl fam))), ((lr 0), .inl (cs 1, 12, .inr (.inl (frlr_46 0))))] := hD
  refine lv_aload_n hx hb dX0_seekTable_70 rfl (lv_at hl 1 rfl) ?_
  refine va_get (D := D) (ci := 0) (v := .ref ln) (C := RX0) (T := TX0) (N := 12) hx hb hg gwX0 hown hK hP 9 rfl rfl 9 (by decide) (hg _ kw_257) (fun _ h9 => h9) rfl dX0_seekTable_71 ?_
  refine lv_iload_n hx hb dX0_seekTable_74 rfl (lv_at hl 0 rfl) ?_
  refine lv_iconst (v := (-1)) hx hb dX0_seekTable_75 (by decide) ?_
  refine va_iast hx hb hK hP hD hS 8 0 rfl rfl (show ¬ ((0 : Int32) < 0 ∨ 4 ≤ (0 : Int32).toNatClampNeg) by decide) dX0_seekTable_76 (fun H locs hP hD hS => ?_)
  obtain ⟨f_76, hf_76⟩ : ∃ f9, f9 = (upd fln (0 : Int32).toNatClampNeg (-1)) := ⟨_, rfl⟩
  rw [← hf_76] at hP hD
  have hP : va_P D vwCl [(ao, .inl (cs 0, 4, .inl fao)), (le, .inl (cs 5, 4, .inr (.inr (.inr (.inr (rowsF 4 lr)))))), ((lr 1), .inl (cs 1, 12, .inr (.inl (frlr_46 1)))), ((lr 2), .inl (cs 1, 12, .inr (.inl (frlr_46 2)))), ((lr 3), .inl (cs 1, 12, .inr (.inl (frlr_46 3)))), (ne, .inl (cs 1, 12, .inr (.inl fne))), (tr, .inl (cs 0, 4, .inl f_69)), (pr, .inl (cs 1, 4, .inr (.inl f_62))), (ln, .inl (cs 0, 4, .inl f_76)), (ch, .inr (0, [.ref aq, .ref sm, .ref tb, .ref ck, .ref cm, .ref le, .ref ne, .ref pr, .ref tr, .ref ln, .int trs, .long lpr])), (tb, .inr (10, [.ref tbn, .null, .int 0])), (tbn, .inl (cs 0, 4, .inl f_27)), (aq, .inr (5, [.ref aw, .ref ac, .ref ao, .ref am, .int (nI C), .int (nI P), .long tot])), (am, .inl (cs 1, 16, .inr (.inl fam))), ((lr 0), .inl (cs 1, 12, .inr (.inl (frlr_46 0))))] H := hP
  have hD : va_D A [(ao, .inl (cs 0, 4, .inl fao)), (le, .inl (cs 5, 4, .inr (.inr (.inr (.inr (rowsF 4 lr)))))), ((lr 1), .inl (cs 1, 12, .inr (.inl (frlr_46 1)))), ((lr 2), .inl (cs 1, 12, .inr (.inl (frlr_46 2)))), ((lr 3), .inl (cs 1, 12, .inr (.inl (frlr_46 3)))), (ne, .inl (cs 1, 12, .inr (.inl fne))), (tr, .inl (cs 0, 4, .inl f_69)), (pr, .inl (cs 1, 4, .inr (.inl f_62))), (ln, .inl (cs 0, 4, .inl f_76)), (ch, .inr (0, [.ref aq, .ref sm, .ref tb, .ref ck, .ref cm, .ref le, .ref ne, .ref pr, .ref tr, .ref ln, .int trs, .long lpr])), (tb, .inr (10, [.ref tbn, .null, .int 0])), (tbn, .inl (cs 0, 4, .inl f_27)), (aq, .inr (5, [.ref aw, .ref ac, .ref ao, .ref am, .int (nI C), .int (nI P), .long tot])), (am, .inl (cs 1, 16, .inr (.inl fam))), ((lr 0), .inl (cs 1, 12, .inr (.inl (frlr_46 0))))] := hD
  refine lv_iinc (v := 1) (lv' := [(1, .int 1), (0, .ref ch)]) hx hb dX0_seekTable_77 hl (k := 0) rfl (by decide) (by decide) rfl (fun ls hl => ?_)
  refine lv_goto (tgt := 2) hx hb dX0_seekTable_80 (by decide) ?_
  refine lv_iload_n hx hb dX0_seekTable_2 rfl (lv_at hl 0 rfl) ?_
  refine lv_iconst (v := 4) hx hb dX0_seekTable_3 (by decide) ?_
  refine lv_icmp_ge (tgt := 83) hx hb dX0_seekTable_4 (by decide) (fun c_4 => absurd c_4 (by decide)) (fun c_4 => ?_)
  refine lv_aload_n hx hb dX0_seekTable_7 rfl (lv_at hl 1 rfl) ?_
  refine va_get (D := D) (ci := 0) (v := .ref tb) (C := RX0) (T := TX0) (N := 12) hx hb hg gwX0 hown hK hP 9 rfl rfl 2 (by decide) (hg _ kw_282) (fun _ h9 => h9) rfl dX0_seekTable_8 ?_
  refine lv_iconst (v := 0) hx hb dX0_seekTable_11 (by decide) ?_
  refine lv_iconst (v := 0) hx hb dX0_seekTable_12 (by decide) ?_
  refine lv_iconst (v := 0) hx hb dX0_seekTable_13 (by decide) ?_
  refine lv_iconst (v := 0) hx hb dX0_seekTable_14 (by decide) ?_
  have hPc := hP.sub (ws' := [(tb, .inr (10, [.ref tbn, .null, .int 0])), (tbn, .inl (cs 0, 4, .inl f_27))]) [10, 11] rfl
  have hDc := hD.sub (ws' := [(tb, .inr (10, [.ref tbn, .null, .int 0])), (tbn, .inl (cs 0, 4, .inl f_27))]) [10, 11] (by decide) rfl
  have hFc := va_free (wc := [(tb, .inr (10, [.ref tbn, .null, .int 0])), (tbn, .inl (cs 0, 4, .inl f_27))]) hD hS hA [10, 11] rfl
  refine va_callv (va_runU (As := [.int 0, .int 0, .int 0, .int 0]) (rest := []) ⟨hx, hb, hml, hown, hg⟩ (p_become_10 l D cs tb tbn .null 0 f_27 0 0 0 0 _) (va_cwU (owner := "NobodyChecks$Pay") (x := ⟨"NobodyChecks$Table", "become", "(IIII)V"⟩) 4 hg (gw_U kw_283 kw_284 kw_285 kw_263 kw_151 kw_259) rfl rfl rfl rfl (by decide +kernel) ⟨(Nat.le_of_ble_eq_true rfl), (Nat.le_of_ble_eq_true rfl)⟩) (pr_MV (q := (RX10, TX10, 3)) 10 0 hK hPc hDc rfl rfl) rfl rfl hl.1 rfl (lv_room (Nat.le_of_ble_eq_true rfl)) dX0_seekTable_15 ⟨(Nat.le_of_ble_eq_true rfl), (Nat.le_of_ble_eq_true rfl)⟩) hS (fun q _ h => hFc q h) hFc (fun u t H1 locs ht hvm h_15 hB hz1 hk1 hS => ?_)
  obtain ⟨fq2_15, hq2_15, hP1, hD1⟩ := hB
  rw [ht] at hP1
  obtain ⟨hP, hD⟩ := va_join (wr := [(ao, .inl (cs 0, 4, .inl fao)), (le, .inl (cs 5, 4, .inr (.inr (.inr (.inr (rowsF 4 lr)))))), ((lr 1), .inl (cs 1, 12, .inr (.inl (frlr_46 1)))), ((lr 2), .inl (cs 1, 12, .inr (.inl (frlr_46 2)))), ((lr 3), .inl (cs 1, 12, .inr (.inl (frlr_46 3)))), (ne, .inl (cs 1, 12, .inr (.inl fne))), (tr, .inl (cs 0, 4, .inl f_69)), (pr, .inl (cs 1, 4, .inr (.inl f_62))), (ln, .inl (cs 0, 4, .inl f_76)), (ch, .inr (0, [.ref aq, .ref sm, .ref tb, .ref ck, .ref cm, .ref le, .ref ne, .ref pr, .ref tr, .ref ln, .int trs, .long lpr])), (aq, .inr (5, [.ref aw, .ref ac, .ref ao, .ref am, .int (nI C), .int (nI P), .long tot])), (am, .inl (cs 1, 16, .inr (.inl fam))), ((lr 0), .inl (cs 1, 12, .inr (.inl (frlr_46 0))))]) (w1 := [(tb, .inr (10, [.ref tbn, .null, .int 0])), (tbn, .inl (cs 0, 4, .inl fq2_15))]) hP hD [10, 11] [0, 1, 2, 3, 4, 5, 6, 7, 8, 9, 12, 13, 14] rfl rfl (by decide) (by decide) hk1 hFc hP1 hD1
  generalize H1 = H at hP hS ⊢
  have hP : va_P D vwCl [(ao, .inl (cs 0, 4, .inl fao)), (le, .inl (cs 5, 4, .inr (.inr (.inr (.inr (rowsF 4 lr)))))), ((lr 1), .inl (cs 1, 12, .inr (.inl (frlr_46 1)))), ((lr 2), .inl (cs 1, 12, .inr (.inl (frlr_46 2)))), ((lr 3), .inl (cs 1, 12, .inr (.inl (frlr_46 3)))), (ne, .inl (cs 1, 12, .inr (.inl fne))), (tr, .inl (cs 0, 4, .inl f_69)), (pr, .inl (cs 1, 4, .inr (.inl f_62))), (ln, .inl (cs 0, 4, .inl f_76)), (ch, .inr (0, [.ref aq, .ref sm, .ref tb, .ref ck, .ref cm, .ref le, .ref ne, .ref pr, .ref tr, .ref ln, .int trs, .long lpr])), (aq, .inr (5, [.ref aw, .ref ac, .ref ao, .ref am, .int (nI C), .int (nI P), .long tot])), (am, .inl (cs 1, 16, .inr (.inl fam))), ((lr 0), .inl (cs 1, 12, .inr (.inl (frlr_46 0)))), (tb, .inr (10, [.ref tbn, .null, .int 0])), (tbn, .inl (cs 0, 4, .inl fq2_15))] H := hP
  have hD : va_D A [(ao, .inl (cs 0, 4, .inl fao)), (le, .inl (cs 5, 4, .inr (.inr (.inr (.inr (rowsF 4 lr)))))), ((lr 1), .inl (cs 1, 12, .inr (.inl (frlr_46 1)))), ((lr 2), .inl (cs 1, 12, .inr (.inl (frlr_46 2)))), ((lr 3), .inl (cs 1, 12, .inr (.inl (frlr_46 3)))), (ne, .inl (cs 1, 12, .inr (.inl fne))), (tr, .inl (cs 0, 4, .inl f_69)), (pr, .inl (cs 1, 4, .inr (.inl f_62))), (ln, .inl (cs 0, 4, .inl f_76)), (ch, .inr (0, [.ref aq, .ref sm, .ref tb, .ref ck, .ref cm, .ref le, .ref ne, .ref pr, .ref tr, .ref ln, .int trs, .long lpr])), (aq, .inr (5, [.ref aw, .ref ac, .ref ao, .ref am, .int (nI C), .int (nI P), .long tot])), (am, .inl (cs 1, 16, .inr (.inl fam))), ((lr 0), .inl (cs 1, 12, .inr (.inl (frlr_46 0)))), (tb, .inr (10, [.ref tbn, .null, .int 0])), (tbn, .inl (cs 0, 4, .inl fq2_15))] := hD
  refine W.cs (cells' := 0) (slots' := 0) rfl rfl ?_
  refine lv_aload_n hx hb dX0_seekTable_18 rfl (lv_at hl 1 rfl) ?_
  refine va_get (D := D) (ci := 0) (v := .ref tb) (C := RX0) (T := TX0) (N := 12) hx hb hg gwX0 hown hK hP 9 rfl rfl 2 (by decide) (hg _ kw_282) (fun _ h9 => h9) rfl dX0_seekTable_19 ?_
  refine va_get (D := D) (ci := 10) (v := .ref tbn) (C := RX10) (T := TX10) (N := 3) hx hb hg gwX10 hown hK hP 13 rfl rfl 0 (by decide) (hg _ kw_286) (fun x h9 => u_same (hg _ kw_126) x h9) rfl dX0_seekTable_22 ?_
  refine lv_iload_n hx hb dX0_seekTable_25 rfl (lv_at hl 0 rfl) ?_
  refine lv_iconst (v := 1) hx hb dX0_seekTable_26 (by decide) ?_
  refine va_iast hx hb hK hP hD hS 14 0 rfl rfl (show ¬ ((1 : Int32) < 0 ∨ 4 ≤ (1 : Int32).toNatClampNeg) by decide) dX0_seekTable_27 (fun H locs hP hD hS => ?_)
  obtain ⟨f_27, hf_27⟩ : ∃ f9, f9 = (upd fq2_15 (1 : Int32).toNatClampNeg 1) := ⟨_, rfl⟩
  rw [← hf_27] at hP hD
  have hP : va_P D vwCl [(ao, .inl (cs 0, 4, .inl fao)), (le, .inl (cs 5, 4, .inr (.inr (.inr (.inr (rowsF 4 lr)))))), ((lr 1), .inl (cs 1, 12, .inr (.inl (frlr_46 1)))), ((lr 2), .inl (cs 1, 12, .inr (.inl (frlr_46 2)))), ((lr 3), .inl (cs 1, 12, .inr (.inl (frlr_46 3)))), (ne, .inl (cs 1, 12, .inr (.inl fne))), (tr, .inl (cs 0, 4, .inl f_69)), (pr, .inl (cs 1, 4, .inr (.inl f_62))), (ln, .inl (cs 0, 4, .inl f_76)), (ch, .inr (0, [.ref aq, .ref sm, .ref tb, .ref ck, .ref cm, .ref le, .ref ne, .ref pr, .ref tr, .ref ln, .int trs, .long lpr])), (aq, .inr (5, [.ref aw, .ref ac, .ref ao, .ref am, .int (nI C), .int (nI P), .long tot])), (am, .inl (cs 1, 16, .inr (.inl fam))), ((lr 0), .inl (cs 1, 12, .inr (.inl (frlr_46 0)))), (tb, .inr (10, [.ref tbn, .null, .int 0])), (tbn, .inl (cs 0, 4, .inl f_27))] H := hP
  have hD : va_D A [(ao, .inl (cs 0, 4, .inl fao)), (le, .inl (cs 5, 4, .inr (.inr (.inr (.inr (rowsF 4 lr)))))), ((lr 1), .inl (cs 1, 12, .inr (.inl (frlr_46 1)))), ((lr 2), .inl (cs 1, 12, .inr (.inl (frlr_46 2)))), ((lr 3), .inl (cs 1, 12, .inr (.inl (frlr_46 3)))), (ne, .inl (cs 1, 12, .inr (.inl fne))), (tr, .inl (cs 0, 4, .inl f_69)), (pr, .inl (cs 1, 4, .inr (.inl f_62))), (ln, .inl (cs 0, 4, .inl f_76)), (ch, .inr (0, [.ref aq, .ref sm, .ref tb, .ref ck, .ref cm, .ref le, .ref ne, .ref pr, .ref tr, .ref ln, .int trs, .long lpr])), (aq, .inr (5, [.ref aw, .ref ac, .ref ao, .ref am, .int (nI C), .int (nI P), .long tot])), (am, .inl (cs 1, 16, .inr (.inl fam))), ((lr 0), .inl (cs 1, 12, .inr (.inl (frlr_46 0)))), (tb, .inr (10, [.ref tbn, .null, .int 0])), (tbn, .inl (cs 0, 4, .inl f_27))] := hD
  refine lv_aload_n hx hb dX0_seekTable_28 rfl (lv_at hl 1 rfl) ?_
  refine lv_aload_n hx hb dX0_seekTable_29 rfl (lv_at hl 1 rfl) ?_
  refine va_get (D := D) (ci := 0) (v := .ref tb) (C := RX0) (T := TX0) (N := 12) hx hb hg gwX0 hown hK hP 9 rfl rfl 2 (by decide) (hg _ kw_282) (fun _ h9 => h9) rfl dX0_seekTable_30 ?_
  refine lv_aload_n hx hb dX0_seekTable_33 rfl (lv_at hl 1 rfl) ?_
  refine va_get (D := D) (ci := 0) (v := .ref aq) (C := RX0) (T := TX0) (N := 12) hx hb hg gwX0 hown hK hP 9 rfl rfl 0 (by decide) (hg _ kw_244) (fun _ h9 => h9) rfl dX0_seekTable_34 ?_
  refine va_get (D := D) (ci := 5) (v := .ref am) (C := RX5) (T := TX5) (N := 7) hx hb hg gwX5 hown hK hP 10 rfl rfl 3 (by decide) (hg _ kw_253) (fun _ h9 => h9) rfl dX0_seekTable_37 ?_
  refine lv_aload_n hx hb dX0_seekTable_40 rfl (lv_at hl 1 rfl) ?_
  refine va_get (D := D) (ci := 0) (v := .ref le) (C := RX0) (T := TX0) (N := 12) hx hb hg gwX0 hown hK hP 9 rfl rfl 5 (by decide) (hg _ kw_252) (fun _ h9 => h9) rfl dX0_seekTable_41 ?_
  refine lv_iload_n hx hb dX0_seekTable_44 rfl (lv_at hl 0 rfl) ?_
  refine va_aldR (k := 1) hx hb hK hP 1 5 rfl rfl (show 1 < 4 by omega) (by decide) dX0_seekTable_45 ?_
  have hPc := hP.sub (ws' := [(ch, .inr (0, [.ref aq, .ref sm, .ref tb, .ref ck, .ref cm, .ref le, .ref ne, .ref pr, .ref tr, .ref ln, .int trs, .long lpr])), (tb, .inr (10, [.ref tbn, .null, .int 0])), (tbn, .inl (cs 0, 4, .inl f_27)), (aq, .inr (5, [.ref aw, .ref ac, .ref ao, .ref am, .int (nI C), .int (nI P), .long tot])), (am, .inl (cs 1, 16, .inr (.inl fam))), ((lr 1), .inl (cs 1, 12, .inr (.inl (frlr_46 1))))]) [9, 13, 14, 10, 11, 2] rfl
  have hDc := hD.sub (ws' := [(ch, .inr (0, [.ref aq, .ref sm, .ref tb, .ref ck, .ref cm, .ref le, .ref ne, .ref pr, .ref tr, .ref ln, .int trs, .long lpr])), (tb, .inr (10, [.ref tbn, .null, .int 0])), (tbn, .inl (cs 0, 4, .inl f_27)), (aq, .inr (5, [.ref aw, .ref ac, .ref ao, .ref am, .int (nI C), .int (nI P), .long tot])), (am, .inl (cs 1, 16, .inr (.inl fam))), ((lr 1), .inl (cs 1, 12, .inr (.inl (frlr_46 1))))]) [9, 13, 14, 10, 11, 2] (by decide) rfl
  have hFc := va_free (wc := [(ch, .inr (0, [.ref aq, .ref sm, .ref tb, .ref ck, .ref cm, .ref le, .ref ne, .ref pr, .ref tr, .ref ln, .int trs, .long lpr])), (tb, .inr (10, [.ref tbn, .null, .int 0])), (tbn, .inl (cs 0, 4, .inl f_27)), (aq, .inr (5, [.ref aw, .ref ac, .ref ao, .ref am, .int (nI C), .int (nI P), .long tot])), (am, .inl (cs 1, 16, .inr (.inl fam))), ((lr 1), .inl (cs 1, 12, .inr (.inl (frlr_46 1))))]) hD hS hA [9, 13, 14, 10, 11, 2] rfl
  refine va_callv (va_runV (As := [.ref tb, .ref am, .ref (lr 1)]) (rest := []) ⟨hx, hb, hml, hown, hg⟩ (h_fillLeads l D cs ch sm tb ck cm le ne pr tr ln trs lpr tb tbn .null 0 10 (by unfold isPy; omega) f_27 aq aw ac ao am C (by omega) P (by omega) tot am (lr 1) fam (frlr_46 1) _) (cwV 3 hg (gw_V kw_265 kw_266 kw_267 kw_268 kw_264) rfl rfl rfl (by decide +kernel) ⟨(Nat.le_of_ble_eq_true rfl), (Nat.le_of_ble_eq_true rfl)⟩) (pr_MV (q := (RX0, TX0, 12)) 0 0 hK hPc hDc rfl rfl) rfl rfl hl.1 rfl (lv_room (Nat.le_of_ble_eq_true rfl)) dX0_seekTable_46 ⟨(Nat.le_of_ble_eq_true rfl), (Nat.le_of_ble_eq_true rfl)⟩) hS (fun q _ h => hFc q h) hFc (fun u t H1 locs ht hvm h_46 hB hz1 hk1 hS => ?_)
  obtain ⟨ffd2_46, hP1, hD1⟩ := hB
  rw [ht] at hP1
  obtain ⟨hP, hD⟩ := va_join (wr := [(ao, .inl (cs 0, 4, .inl fao)), (le, .inl (cs 5, 4, .inr (.inr (.inr (.inr (rowsF 4 lr)))))), ((lr 2), .inl (cs 1, 12, .inr (.inl (frlr_46 2)))), ((lr 3), .inl (cs 1, 12, .inr (.inl (frlr_46 3)))), (ne, .inl (cs 1, 12, .inr (.inl fne))), (tr, .inl (cs 0, 4, .inl f_69)), (pr, .inl (cs 1, 4, .inr (.inl f_62))), (ln, .inl (cs 0, 4, .inl f_76)), ((lr 0), .inl (cs 1, 12, .inr (.inl (frlr_46 0))))]) (w1 := [(ch, .inr (0, [.ref aq, .ref sm, .ref tb, .ref ck, .ref cm, .ref le, .ref ne, .ref pr, .ref tr, .ref ln, .int trs, .long lpr])), (tb, .inr (10, [.ref tbn, .null, .int 0])), (tbn, .inl (cs 0, 4, .inl f_27)), (aq, .inr (5, [.ref aw, .ref ac, .ref ao, .ref am, .int (nI C), .int (nI P), .long tot])), (am, .inl (cs 1, 16, .inr (.inl fam))), ((lr 1), .inl (cs 1, 12, .inr (.inl ffd2_46)))]) hP hD [9, 13, 14, 10, 11, 2] [0, 1, 3, 4, 5, 6, 7, 8, 12] rfl rfl (by decide) (by decide) hk1 hFc hP1 hD1
  generalize H1 = H at hP hS ⊢
  have hP : va_P D vwCl [(ao, .inl (cs 0, 4, .inl fao)), (le, .inl (cs 5, 4, .inr (.inr (.inr (.inr (rowsF 4 lr)))))), ((lr 2), .inl (cs 1, 12, .inr (.inl (frlr_46 2)))), ((lr 3), .inl (cs 1, 12, .inr (.inl (frlr_46 3)))), (ne, .inl (cs 1, 12, .inr (.inl fne))), (tr, .inl (cs 0, 4, .inl f_69)), (pr, .inl (cs 1, 4, .inr (.inl f_62))), (ln, .inl (cs 0, 4, .inl f_76)), ((lr 0), .inl (cs 1, 12, .inr (.inl (frlr_46 0)))), (ch, .inr (0, [.ref aq, .ref sm, .ref tb, .ref ck, .ref cm, .ref le, .ref ne, .ref pr, .ref tr, .ref ln, .int trs, .long lpr])), (tb, .inr (10, [.ref tbn, .null, .int 0])), (tbn, .inl (cs 0, 4, .inl f_27)), (aq, .inr (5, [.ref aw, .ref ac, .ref ao, .ref am, .int (nI C), .int (nI P), .long tot])), (am, .inl (cs 1, 16, .inr (.inl fam))), ((lr 1), .inl (cs 1, 12, .inr (.inl ffd2_46)))] H := hP
  have hD : va_D A [(ao, .inl (cs 0, 4, .inl fao)), (le, .inl (cs 5, 4, .inr (.inr (.inr (.inr (rowsF 4 lr)))))), ((lr 2), .inl (cs 1, 12, .inr (.inl (frlr_46 2)))), ((lr 3), .inl (cs 1, 12, .inr (.inl (frlr_46 3)))), (ne, .inl (cs 1, 12, .inr (.inl fne))), (tr, .inl (cs 0, 4, .inl f_69)), (pr, .inl (cs 1, 4, .inr (.inl f_62))), (ln, .inl (cs 0, 4, .inl f_76)), ((lr 0), .inl (cs 1, 12, .inr (.inl (frlr_46 0)))), (ch, .inr (0, [.ref aq, .ref sm, .ref tb, .ref ck, .ref cm, .ref le, .ref ne, .ref pr, .ref tr, .ref ln, .int trs, .long lpr])), (tb, .inr (10, [.ref tbn, .null, .int 0])), (tbn, .inl (cs 0, 4, .inl f_27)), (aq, .inr (5, [.ref aw, .ref ac, .ref ao, .ref am, .int (nI C), .int (nI P), .long tot])), (am, .inl (cs 1, 16, .inr (.inl fam))), ((lr 1), .inl (cs 1, 12, .inr (.inl ffd2_46)))] := hD
  refine W.cs (cells' := 0) (slots' := 0) rfl rfl ?_
  obtain ⟨frlr_46, hfrlr_46⟩ : ∃ f9, f9 = va_up frlr_46 1 ffd2_46 := ⟨_, rfl⟩
  have hP : va_P D vwCl [(ao, .inl (cs 0, 4, .inl fao)), (le, .inl (cs 5, 4, .inr (.inr (.inr (.inr (rowsF 4 lr)))))), ((lr 2), .inl (cs 1, 12, .inr (.inl (frlr_46 2)))), ((lr 3), .inl (cs 1, 12, .inr (.inl (frlr_46 3)))), (ne, .inl (cs 1, 12, .inr (.inl fne))), (tr, .inl (cs 0, 4, .inl f_69)), (pr, .inl (cs 1, 4, .inr (.inl f_62))), (ln, .inl (cs 0, 4, .inl f_76)), ((lr 0), .inl (cs 1, 12, .inr (.inl (frlr_46 0)))), (ch, .inr (0, [.ref aq, .ref sm, .ref tb, .ref ck, .ref cm, .ref le, .ref ne, .ref pr, .ref tr, .ref ln, .int trs, .long lpr])), (tb, .inr (10, [.ref tbn, .null, .int 0])), (tbn, .inl (cs 0, 4, .inl f_27)), (aq, .inr (5, [.ref aw, .ref ac, .ref ao, .ref am, .int (nI C), .int (nI P), .long tot])), (am, .inl (cs 1, 16, .inr (.inl fam))), ((lr 1), .inl (cs 1, 12, .inr (.inl (frlr_46 1))))] H := by rw [hfrlr_46]; exact hP
  have hD : va_D A [(ao, .inl (cs 0, 4, .inl fao)), (le, .inl (cs 5, 4, .inr (.inr (.inr (.inr (rowsF 4 lr)))))), ((lr 2), .inl (cs 1, 12, .inr (.inl (frlr_46 2)))), ((lr 3), .inl (cs 1, 12, .inr (.inl (frlr_46 3)))), (ne, .inl (cs 1, 12, .inr (.inl fne))), (tr, .inl (cs 0, 4, .inl f_69)), (pr, .inl (cs 1, 4, .inr (.inl f_62))), (ln, .inl (cs 0, 4, .inl f_76)), ((lr 0), .inl (cs 1, 12, .inr (.inl (frlr_46 0)))), (ch, .inr (0, [.ref aq, .ref sm, .ref tb, .ref ck, .ref cm, .ref le, .ref ne, .ref pr, .ref tr, .ref ln, .int trs, .long lpr])), (tb, .inr (10, [.ref tbn, .null, .int 0])), (tbn, .inl (cs 0, 4, .inl f_27)), (aq, .inr (5, [.ref aw, .ref ac, .ref ao, .ref am, .int (nI C), .int (nI P), .long tot])), (am, .inl (cs 1, 16, .inr (.inl fam))), ((lr 1), .inl (cs 1, 12, .inr (.inl (frlr_46 1))))] := by rw [hfrlr_46]; exact hD
  refine lv_aload_n hx hb dX0_seekTable_49 rfl (lv_at hl 1 rfl) ?_
  refine va_get (D := D) (ci := 0) (v := .ref pr) (C := RX0) (T := TX0) (N := 12) hx hb hg gwX0 hown hK hP 9 rfl rfl 7 (by decide) (hg _ kw_254) (fun _ h9 => h9) rfl dX0_seekTable_50 ?_
  refine lv_iload_n hx hb dX0_seekTable_53 rfl (lv_at hl 0 rfl) ?_
  refine lv_aload_n hx hb dX0_seekTable_54 rfl (lv_at hl 1 rfl) ?_
  refine lv_aload_n hx hb dX0_seekTable_55 rfl (lv_at hl 1 rfl) ?_
  refine va_get (D := D) (ci := 0) (v := .ref tb) (C := RX0) (T := TX0) (N := 12) hx hb hg gwX0 hown hK hP 9 rfl rfl 2 (by decide) (hg _ kw_282) (fun _ h9 => h9) rfl dX0_seekTable_56 ?_
  have hPc := hP.sub (ws' := [(ch, .inr (0, [.ref aq, .ref sm, .ref tb, .ref ck, .ref cm, .ref le, .ref ne, .ref pr, .ref tr, .ref ln, .int trs, .long lpr])), (tb, .inr (10, [.ref tbn, .null, .int 0])), (tbn, .inl (cs 0, 4, .inl f_27)), (aq, .inr (5, [.ref aw, .ref ac, .ref ao, .ref am, .int (nI C), .int (nI P), .long tot])), (am, .inl (cs 1, 16, .inr (.inl fam)))]) [9, 10, 11, 12, 13] rfl
  refine vp_callSl (W.runV (As := [.ref tb]) (rest := [.int 1, .ref pr]) ⟨hx, hb, hml, hown, hg⟩ (h_togetherByTruth l D cs ch sm tb ck cm le ne pr tr ln trs lpr tb tbn .null 0 10 (by unfold isPy; omega) f_27 aq aw ac ao am C (by omega) P (by omega) tot fam) (cwV 1 hg (gw_V kw_288 kw_289 kw_290 kw_268 kw_287) rfl rfl rfl (by decide +kernel) ⟨(Nat.le_of_ble_eq_true rfl), (Nat.le_of_ble_eq_true rfl)⟩) (pr_SV (q := (RX0, TX0, 12)) 0 0 hK hPc rfl rfl) rfl rfl hl.1 rfl (lv_room (Nat.le_of_ble_eq_true rfl)) dX0_seekTable_59 ⟨(Nat.le_of_ble_eq_true rfl), (Nat.le_of_ble_eq_true rfl)⟩) (fun r_59 h_59 => ?_)
  clear h_59
  refine va_last hx hb hK hP hD hS 6 1 rfl rfl (show ¬ ((1 : Int32) < 0 ∨ 4 ≤ (1 : Int32).toNatClampNeg) by decide) dX0_seekTable_62 (fun H locs hP hD hS => ?_)
  obtain ⟨f_62, hf_62⟩ : ∃ f9, f9 = (vp_updL f_62 (1 : Int32).toNatClampNeg r_59) := ⟨_, rfl⟩
  rw [← hf_62] at hP hD
  have hP : va_P D vwCl [(ao, .inl (cs 0, 4, .inl fao)), (le, .inl (cs 5, 4, .inr (.inr (.inr (.inr (rowsF 4 lr)))))), ((lr 2), .inl (cs 1, 12, .inr (.inl (frlr_46 2)))), ((lr 3), .inl (cs 1, 12, .inr (.inl (frlr_46 3)))), (ne, .inl (cs 1, 12, .inr (.inl fne))), (tr, .inl (cs 0, 4, .inl f_69)), (pr, .inl (cs 1, 4, .inr (.inl f_62))), (ln, .inl (cs 0, 4, .inl f_76)), ((lr 0), .inl (cs 1, 12, .inr (.inl (frlr_46 0)))), (ch, .inr (0, [.ref aq, .ref sm, .ref tb, .ref ck, .ref cm, .ref le, .ref ne, .ref pr, .ref tr, .ref ln, .int trs, .long lpr])), (tb, .inr (10, [.ref tbn, .null, .int 0])), (tbn, .inl (cs 0, 4, .inl f_27)), (aq, .inr (5, [.ref aw, .ref ac, .ref ao, .ref am, .int (nI C), .int (nI P), .long tot])), (am, .inl (cs 1, 16, .inr (.inl fam))), ((lr 1), .inl (cs 1, 12, .inr (.inl (frlr_46 1))))] H := hP
  have hD : va_D A [(ao, .inl (cs 0, 4, .inl fao)), (le, .inl (cs 5, 4, .inr (.inr (.inr (.inr (rowsF 4 lr)))))), ((lr 2), .inl (cs 1, 12, .inr (.inl (frlr_46 2)))), ((lr 3), .inl (cs 1, 12, .inr (.inl (frlr_46 3)))), (ne, .inl (cs 1, 12, .inr (.inl fne))), (tr, .inl (cs 0, 4, .inl f_69)), (pr, .inl (cs 1, 4, .inr (.inl f_62))), (ln, .inl (cs 0, 4, .inl f_76)), ((lr 0), .inl (cs 1, 12, .inr (.inl (frlr_46 0)))), (ch, .inr (0, [.ref aq, .ref sm, .ref tb, .ref ck, .ref cm, .ref le, .ref ne, .ref pr, .ref tr, .ref ln, .int trs, .long lpr])), (tb, .inr (10, [.ref tbn, .null, .int 0])), (tbn, .inl (cs 0, 4, .inl f_27)), (aq, .inr (5, [.ref aw, .ref ac, .ref ao, .ref am, .int (nI C), .int (nI P), .long tot])), (am, .inl (cs 1, 16, .inr (.inl fam))), ((lr 1), .inl (cs 1, 12, .inr (.inl (frlr_46 1))))] := hD
  refine lv_aload_n hx hb dX0_seekTable_63 rfl (lv_at hl 1 rfl) ?_
  refine va_get (D := D) (ci := 0) (v := .ref tr) (C := RX0) (T := TX0) (N := 12) hx hb hg gwX0 hown hK hP 9 rfl rfl 8 (by decide) (hg _ kw_251) (fun _ h9 => h9) rfl dX0_seekTable_64 ?_
  refine lv_iload_n hx hb dX0_seekTable_67 rfl (lv_at hl 0 rfl) ?_
  refine lv_iconst (v := 0) hx hb dX0_seekTable_68 (by decide) ?_
  refine va_iast hx hb hK hP hD hS 5 0 rfl rfl (show ¬ ((1 : Int32) < 0 ∨ 4 ≤ (1 : Int32).toNatClampNeg) by decide) dX0_seekTable_69 (fun H locs hP hD hS => ?_)
  obtain ⟨f_69, hf_69⟩ : ∃ f9, f9 = (upd f_69 (1 : Int32).toNatClampNeg 0) := ⟨_, rfl⟩
  rw [← hf_69] at hP hD
  have hP : va_P D vwCl [(ao, .inl (cs 0, 4, .inl fao)), (le, .inl (cs 5, 4, .inr (.inr (.inr (.inr (rowsF 4 lr)))))), ((lr 2), .inl (cs 1, 12, .inr (.inl (frlr_46 2)))), ((lr 3), .inl (cs 1, 12, .inr (.inl (frlr_46 3)))), (ne, .inl (cs 1, 12, .inr (.inl fne))), (tr, .inl (cs 0, 4, .inl f_69)), (pr, .inl (cs 1, 4, .inr (.inl f_62))), (ln, .inl (cs 0, 4, .inl f_76)), ((lr 0), .inl (cs 1, 12, .inr (.inl (frlr_46 0)))), (ch, .inr (0, [.ref aq, .ref sm, .ref tb, .ref ck, .ref cm, .ref le, .ref ne, .ref pr, .ref tr, .ref ln, .int trs, .long lpr])), (tb, .inr (10, [.ref tbn, .null, .int 0])), (tbn, .inl (cs 0, 4, .inl f_27)), (aq, .inr (5, [.ref aw, .ref ac, .ref ao, .ref am, .int (nI C), .int (nI P), .long tot])), (am, .inl (cs 1, 16, .inr (.inl fam))), ((lr 1), .inl (cs 1, 12, .inr (.inl (frlr_46 1))))] H := hP
  have hD : va_D A [(ao, .inl (cs 0, 4, .inl fao)), (le, .inl (cs 5, 4, .inr (.inr (.inr (.inr (rowsF 4 lr)))))), ((lr 2), .inl (cs 1, 12, .inr (.inl (frlr_46 2)))), ((lr 3), .inl (cs 1, 12, .inr (.inl (frlr_46 3)))), (ne, .inl (cs 1, 12, .inr (.inl fne))), (tr, .inl (cs 0, 4, .inl f_69)), (pr, .inl (cs 1, 4, .inr (.inl f_62))), (ln, .inl (cs 0, 4, .inl f_76)), ((lr 0), .inl (cs 1, 12, .inr (.inl (frlr_46 0)))), (ch, .inr (0, [.ref aq, .ref sm, .ref tb, .ref ck, .ref cm, .ref le, .ref ne, .ref pr, .ref tr, .ref ln, .int trs, .long lpr])), (tb, .inr (10, [.ref tbn, .null, .int 0])), (tbn, .inl (cs 0, 4, .inl f_27)), (aq, .inr (5, [.ref aw, .ref ac, .ref ao, .ref am, .int (nI C), .int (nI P), .long tot])), (am, .inl (cs 1, 16, .inr (.inl fam))), ((lr 1), .inl (cs 1, 12, .inr (.inl (frlr_46 1))))] := hD
  refine lv_aload_n hx hb dX0_seekTable_70 rfl (lv_at hl 1 rfl) ?_
  refine va_get (D := D) (ci := 0) (v := .ref ln) (C := RX0) (T := TX0) (N := 12) hx hb hg gwX0 hown hK hP 9 rfl rfl 9 (by decide) (hg _ kw_257) (fun _ h9 => h9) rfl dX0_seekTable_71 ?_
  refine lv_iload_n hx hb dX0_seekTable_74 rfl (lv_at hl 0 rfl) ?_
  refine lv_iconst (v := (-1)) hx hb dX0_seekTable_75 (by decide) ?_
  refine va_iast hx hb hK hP hD hS 7 0 rfl rfl (show ¬ ((1 : Int32) < 0 ∨ 4 ≤ (1 : Int32).toNatClampNeg) by decide) dX0_seekTable_76 (fun H locs hP hD hS => ?_)
  obtain ⟨f_76, hf_76⟩ : ∃ f9, f9 = (upd f_76 (1 : Int32).toNatClampNeg (-1)) := ⟨_, rfl⟩
  rw [← hf_76] at hP hD
  have hP : va_P D vwCl [(ao, .inl (cs 0, 4, .inl fao)), (le, .inl (cs 5, 4, .inr (.inr (.inr (.inr (rowsF 4 lr)))))), ((lr 2), .inl (cs 1, 12, .inr (.inl (frlr_46 2)))), ((lr 3), .inl (cs 1, 12, .inr (.inl (frlr_46 3)))), (ne, .inl (cs 1, 12, .inr (.inl fne))), (tr, .inl (cs 0, 4, .inl f_69)), (pr, .inl (cs 1, 4, .inr (.inl f_62))), (ln, .inl (cs 0, 4, .inl f_76)), ((lr 0), .inl (cs 1, 12, .inr (.inl (frlr_46 0)))), (ch, .inr (0, [.ref aq, .ref sm, .ref tb, .ref ck, .ref cm, .ref le, .ref ne, .ref pr, .ref tr, .ref ln, .int trs, .long lpr])), (tb, .inr (10, [.ref tbn, .null, .int 0])), (tbn, .inl (cs 0, 4, .inl f_27)), (aq, .inr (5, [.ref aw, .ref ac, .ref ao, .ref am, .int (nI C), .int (nI P), .long tot])), (am, .inl (cs 1, 16, .inr (.inl fam))), ((lr 1), .inl (cs 1, 12, .inr (.inl (frlr_46 1))))] H := hP
  have hD : va_D A [(ao, .inl (cs 0, 4, .inl fao)), (le, .inl (cs 5, 4, .inr (.inr (.inr (.inr (rowsF 4 lr)))))), ((lr 2), .inl (cs 1, 12, .inr (.inl (frlr_46 2)))), ((lr 3), .inl (cs 1, 12, .inr (.inl (frlr_46 3)))), (ne, .inl (cs 1, 12, .inr (.inl fne))), (tr, .inl (cs 0, 4, .inl f_69)), (pr, .inl (cs 1, 4, .inr (.inl f_62))), (ln, .inl (cs 0, 4, .inl f_76)), ((lr 0), .inl (cs 1, 12, .inr (.inl (frlr_46 0)))), (ch, .inr (0, [.ref aq, .ref sm, .ref tb, .ref ck, .ref cm, .ref le, .ref ne, .ref pr, .ref tr, .ref ln, .int trs, .long lpr])), (tb, .inr (10, [.ref tbn, .null, .int 0])), (tbn, .inl (cs 0, 4, .inl f_27)), (aq, .inr (5, [.ref aw, .ref ac, .ref ao, .ref am, .int (nI C), .int (nI P), .long tot])), (am, .inl (cs 1, 16, .inr (.inl fam))), ((lr 1), .inl (cs 1, 12, .inr (.inl (frlr_46 1))))] := hD
  refine lv_iinc (v := 2) (lv' := [(1, .int 2), (0, .ref ch)]) hx hb dX0_seekTable_77 hl (k := 0) rfl (by decide) (by decide) rfl (fun ls hl => ?_)
  refine lv_goto (tgt := 2) hx hb dX0_seekTable_80 (by decide) ?_
  refine lv_iload_n hx hb dX0_seekTable_2 rfl (lv_at hl 0 rfl) ?_
  refine lv_iconst (v := 4) hx hb dX0_seekTable_3 (by decide) ?_
  refine lv_icmp_ge (tgt := 83) hx hb dX0_seekTable_4 (by decide) (fun c_4 => absurd c_4 (by decide)) (fun c_4 => ?_)
  refine lv_aload_n hx hb dX0_seekTable_7 rfl (lv_at hl 1 rfl) ?_
  refine va_get (D := D) (ci := 0) (v := .ref tb) (C := RX0) (T := TX0) (N := 12) hx hb hg gwX0 hown hK hP 9 rfl rfl 2 (by decide) (hg _ kw_282) (fun _ h9 => h9) rfl dX0_seekTable_8 ?_
  refine lv_iconst (v := 0) hx hb dX0_seekTable_11 (by decide) ?_
  refine lv_iconst (v := 0) hx hb dX0_seekTable_12 (by decide) ?_
  refine lv_iconst (v := 0) hx hb dX0_seekTable_13 (by decide) ?_
  refine lv_iconst (v := 0) hx hb dX0_seekTable_14 (by decide) ?_
  have hPc := hP.sub (ws' := [(tb, .inr (10, [.ref tbn, .null, .int 0])), (tbn, .inl (cs 0, 4, .inl f_27))]) [10, 11] rfl
  have hDc := hD.sub (ws' := [(tb, .inr (10, [.ref tbn, .null, .int 0])), (tbn, .inl (cs 0, 4, .inl f_27))]) [10, 11] (by decide) rfl
  have hFc := va_free (wc := [(tb, .inr (10, [.ref tbn, .null, .int 0])), (tbn, .inl (cs 0, 4, .inl f_27))]) hD hS hA [10, 11] rfl
  refine va_callv (va_runU (As := [.int 0, .int 0, .int 0, .int 0]) (rest := []) ⟨hx, hb, hml, hown, hg⟩ (p_become_10 l D cs tb tbn .null 0 f_27 0 0 0 0 _) (va_cwU (owner := "NobodyChecks$Pay") (x := ⟨"NobodyChecks$Table", "become", "(IIII)V"⟩) 4 hg (gw_U kw_283 kw_284 kw_285 kw_263 kw_151 kw_259) rfl rfl rfl rfl (by decide +kernel) ⟨(Nat.le_of_ble_eq_true rfl), (Nat.le_of_ble_eq_true rfl)⟩) (pr_MV (q := (RX10, TX10, 3)) 10 0 hK hPc hDc rfl rfl) rfl rfl hl.1 rfl (lv_room (Nat.le_of_ble_eq_true rfl)) dX0_seekTable_15 ⟨(Nat.le_of_ble_eq_true rfl), (Nat.le_of_ble_eq_true rfl)⟩) hS (fun q _ h => hFc q h) hFc (fun u t H1 locs ht hvm h_15 hB hz1 hk1 hS => ?_)
  obtain ⟨fq2_15, hq2_15, hP1, hD1⟩ := hB
  rw [ht] at hP1
  obtain ⟨hP, hD⟩ := va_join (wr := [(ao, .inl (cs 0, 4, .inl fao)), (le, .inl (cs 5, 4, .inr (.inr (.inr (.inr (rowsF 4 lr)))))), ((lr 2), .inl (cs 1, 12, .inr (.inl (frlr_46 2)))), ((lr 3), .inl (cs 1, 12, .inr (.inl (frlr_46 3)))), (ne, .inl (cs 1, 12, .inr (.inl fne))), (tr, .inl (cs 0, 4, .inl f_69)), (pr, .inl (cs 1, 4, .inr (.inl f_62))), (ln, .inl (cs 0, 4, .inl f_76)), ((lr 0), .inl (cs 1, 12, .inr (.inl (frlr_46 0)))), (ch, .inr (0, [.ref aq, .ref sm, .ref tb, .ref ck, .ref cm, .ref le, .ref ne, .ref pr, .ref tr, .ref ln, .int trs, .long lpr])), (aq, .inr (5, [.ref aw, .ref ac, .ref ao, .ref am, .int (nI C), .int (nI P), .long tot])), (am, .inl (cs 1, 16, .inr (.inl fam))), ((lr 1), .inl (cs 1, 12, .inr (.inl (frlr_46 1))))]) (w1 := [(tb, .inr (10, [.ref tbn, .null, .int 0])), (tbn, .inl (cs 0, 4, .inl fq2_15))]) hP hD [10, 11] [0, 1, 2, 3, 4, 5, 6, 7, 8, 9, 12, 13, 14] rfl rfl (by decide) (by decide) hk1 hFc hP1 hD1
  generalize H1 = H at hP hS ⊢
  have hP : va_P D vwCl [(ao, .inl (cs 0, 4, .inl fao)), (le, .inl (cs 5, 4, .inr (.inr (.inr (.inr (rowsF 4 lr)))))), ((lr 2), .inl (cs 1, 12, .inr (.inl (frlr_46 2)))), ((lr 3), .inl (cs 1, 12, .inr (.inl (frlr_46 3)))), (ne, .inl (cs 1, 12, .inr (.inl fne))), (tr, .inl (cs 0, 4, .inl f_69)), (pr, .inl (cs 1, 4, .inr (.inl f_62))), (ln, .inl (cs 0, 4, .inl f_76)), ((lr 0), .inl (cs 1, 12, .inr (.inl (frlr_46 0)))), (ch, .inr (0, [.ref aq, .ref sm, .ref tb, .ref ck, .ref cm, .ref le, .ref ne, .ref pr, .ref tr, .ref ln, .int trs, .long lpr])), (aq, .inr (5, [.ref aw, .ref ac, .ref ao, .ref am, .int (nI C), .int (nI P), .long tot])), (am, .inl (cs 1, 16, .inr (.inl fam))), ((lr 1), .inl (cs 1, 12, .inr (.inl (frlr_46 1)))), (tb, .inr (10, [.ref tbn, .null, .int 0])), (tbn, .inl (cs 0, 4, .inl fq2_15))] H := hP
  have hD : va_D A [(ao, .inl (cs 0, 4, .inl fao)), (le, .inl (cs 5, 4, .inr (.inr (.inr (.inr (rowsF 4 lr)))))), ((lr 2), .inl (cs 1, 12, .inr (.inl (frlr_46 2)))), ((lr 3), .inl (cs 1, 12, .inr (.inl (frlr_46 3)))), (ne, .inl (cs 1, 12, .inr (.inl fne))), (tr, .inl (cs 0, 4, .inl f_69)), (pr, .inl (cs 1, 4, .inr (.inl f_62))), (ln, .inl (cs 0, 4, .inl f_76)), ((lr 0), .inl (cs 1, 12, .inr (.inl (frlr_46 0)))), (ch, .inr (0, [.ref aq, .ref sm, .ref tb, .ref ck, .ref cm, .ref le, .ref ne, .ref pr, .ref tr, .ref ln, .int trs, .long lpr])), (aq, .inr (5, [.ref aw, .ref ac, .ref ao, .ref am, .int (nI C), .int (nI P), .long tot])), (am, .inl (cs 1, 16, .inr (.inl fam))), ((lr 1), .inl (cs 1, 12, .inr (.inl (frlr_46 1)))), (tb, .inr (10, [.ref tbn, .null, .int 0])), (tbn, .inl (cs 0, 4, .inl fq2_15))] := hD
  refine W.cs (cells' := 0) (slots' := 0) rfl rfl ?_
  refine lv_aload_n hx hb dX0_seekTable_18 rfl (lv_at hl 1 rfl) ?_
  refine va_get (D := D) (ci := 0) (v := .ref tb) (C := RX0) (T := TX0) (N := 12) hx hb hg gwX0 hown hK hP 9 rfl rfl 2 (by decide) (hg _ kw_282) (fun _ h9 => h9) rfl dX0_seekTable_19 ?_
  refine va_get (D := D) (ci := 10) (v := .ref tbn) (C := RX10) (T := TX10) (N := 3) hx hb hg gwX10 hown hK hP 13 rfl rfl 0 (by decide) (hg _ kw_286) (fun x h9 => u_same (hg _ kw_126) x h9) rfl dX0_seekTable_22 ?_
  refine lv_iload_n hx hb dX0_seekTable_25 rfl (lv_at hl 0 rfl) ?_
  refine lv_iconst (v := 1) hx hb dX0_seekTable_26 (by decide) ?_
  refine va_iast hx hb hK hP hD hS 14 0 rfl rfl (show ¬ ((2 : Int32) < 0 ∨ 4 ≤ (2 : Int32).toNatClampNeg) by decide) dX0_seekTable_27 (fun H locs hP hD hS => ?_)
  obtain ⟨f_27, hf_27⟩ : ∃ f9, f9 = (upd fq2_15 (2 : Int32).toNatClampNeg 1) := ⟨_, rfl⟩
  rw [← hf_27] at hP hD
  have hP : va_P D vwCl [(ao, .inl (cs 0, 4, .inl fao)), (le, .inl (cs 5, 4, .inr (.inr (.inr (.inr (rowsF 4 lr)))))), ((lr 2), .inl (cs 1, 12, .inr (.inl (frlr_46 2)))), ((lr 3), .inl (cs 1, 12, .inr (.inl (frlr_46 3)))), (ne, .inl (cs 1, 12, .inr (.inl fne))), (tr, .inl (cs 0, 4, .inl f_69)), (pr, .inl (cs 1, 4, .inr (.inl f_62))), (ln, .inl (cs 0, 4, .inl f_76)), ((lr 0), .inl (cs 1, 12, .inr (.inl (frlr_46 0)))), (ch, .inr (0, [.ref aq, .ref sm, .ref tb, .ref ck, .ref cm, .ref le, .ref ne, .ref pr, .ref tr, .ref ln, .int trs, .long lpr])), (aq, .inr (5, [.ref aw, .ref ac, .ref ao, .ref am, .int (nI C), .int (nI P), .long tot])), (am, .inl (cs 1, 16, .inr (.inl fam))), ((lr 1), .inl (cs 1, 12, .inr (.inl (frlr_46 1)))), (tb, .inr (10, [.ref tbn, .null, .int 0])), (tbn, .inl (cs 0, 4, .inl f_27))] H := hP
  have hD : va_D A [(ao, .inl (cs 0, 4, .inl fao)), (le, .inl (cs 5, 4, .inr (.inr (.inr (.inr (rowsF 4 lr)))))), ((lr 2), .inl (cs 1, 12, .inr (.inl (frlr_46 2)))), ((lr 3), .inl (cs 1, 12, .inr (.inl (frlr_46 3)))), (ne, .inl (cs 1, 12, .inr (.inl fne))), (tr, .inl (cs 0, 4, .inl f_69)), (pr, .inl (cs 1, 4, .inr (.inl f_62))), (ln, .inl (cs 0, 4, .inl f_76)), ((lr 0), .inl (cs 1, 12, .inr (.inl (frlr_46 0)))), (ch, .inr (0, [.ref aq, .ref sm, .ref tb, .ref ck, .ref cm, .ref le, .ref ne, .ref pr, .ref tr, .ref ln, .int trs, .long lpr])), (aq, .inr (5, [.ref aw, .ref ac, .ref ao, .ref am, .int (nI C), .int (nI P), .long tot])), (am, .inl (cs 1, 16, .inr (.inl fam))), ((lr 1), .inl (cs 1, 12, .inr (.inl (frlr_46 1)))), (tb, .inr (10, [.ref tbn, .null, .int 0])), (tbn, .inl (cs 0, 4, .inl f_27))] := hD
  refine lv_aload_n hx hb dX0_seekTable_28 rfl (lv_at hl 1 rfl) ?_
  refine lv_aload_n hx hb dX0_seekTable_29 rfl (lv_at hl 1 rfl) ?_
  refine va_get (D := D) (ci := 0) (v := .ref tb) (C := RX0) (T := TX0) (N := 12) hx hb hg gwX0 hown hK hP 9 rfl rfl 2 (by decide) (hg _ kw_282) (fun _ h9 => h9) rfl dX0_seekTable_30 ?_
  refine lv_aload_n hx hb dX0_seekTable_33 rfl (lv_at hl 1 rfl) ?_
  refine va_get (D := D) (ci := 0) (v := .ref aq) (C := RX0) (T := TX0) (N := 12) hx hb hg gwX0 hown hK hP 9 rfl rfl 0 (by decide) (hg _ kw_244) (fun _ h9 => h9) rfl dX0_seekTable_34 ?_
  refine va_get (D := D) (ci := 5) (v := .ref am) (C := RX5) (T := TX5) (N := 7) hx hb hg gwX5 hown hK hP 10 rfl rfl 3 (by decide) (hg _ kw_253) (fun _ h9 => h9) rfl dX0_seekTable_37 ?_
  refine lv_aload_n hx hb dX0_seekTable_40 rfl (lv_at hl 1 rfl) ?_
  refine va_get (D := D) (ci := 0) (v := .ref le) (C := RX0) (T := TX0) (N := 12) hx hb hg gwX0 hown hK hP 9 rfl rfl 5 (by decide) (hg _ kw_252) (fun _ h9 => h9) rfl dX0_seekTable_41 ?_
  refine lv_iload_n hx hb dX0_seekTable_44 rfl (lv_at hl 0 rfl) ?_
  refine va_aldR (k := 2) hx hb hK hP 1 5 rfl rfl (show 2 < 4 by omega) (by decide) dX0_seekTable_45 ?_
  have hPc := hP.sub (ws' := [(ch, .inr (0, [.ref aq, .ref sm, .ref tb, .ref ck, .ref cm, .ref le, .ref ne, .ref pr, .ref tr, .ref ln, .int trs, .long lpr])), (tb, .inr (10, [.ref tbn, .null, .int 0])), (tbn, .inl (cs 0, 4, .inl f_27)), (aq, .inr (5, [.ref aw, .ref ac, .ref ao, .ref am, .int (nI C), .int (nI P), .long tot])), (am, .inl (cs 1, 16, .inr (.inl fam))), ((lr 2), .inl (cs 1, 12, .inr (.inl (frlr_46 2))))]) [9, 13, 14, 10, 11, 2] rfl
  have hDc := hD.sub (ws' := [(ch, .inr (0, [.ref aq, .ref sm, .ref tb, .ref ck, .ref cm, .ref le, .ref ne, .ref pr, .ref tr, .ref ln, .int trs, .long lpr])), (tb, .inr (10, [.ref tbn, .null, .int 0])), (tbn, .inl (cs 0, 4, .inl f_27)), (aq, .inr (5, [.ref aw, .ref ac, .ref ao, .ref am, .int (nI C), .int (nI P), .long tot])), (am, .inl (cs 1, 16, .inr (.inl fam))), ((lr 2), .inl (cs 1, 12, .inr (.inl (frlr_46 2))))]) [9, 13, 14, 10, 11, 2] (by decide) rfl
  have hFc := va_free (wc := [(ch, .inr (0, [.ref aq, .ref sm, .ref tb, .ref ck, .ref cm, .ref le, .ref ne, .ref pr, .ref tr, .ref ln, .int trs, .long lpr])), (tb, .inr (10, [.ref tbn, .null, .int 0])), (tbn, .inl (cs 0, 4, .inl f_27)), (aq, .inr (5, [.ref aw, .ref ac, .ref ao, .ref am, .int (nI C), .int (nI P), .long tot])), (am, .inl (cs 1, 16, .inr (.inl fam))), ((lr 2), .inl (cs 1, 12, .inr (.inl (frlr_46 2))))]) hD hS hA [9, 13, 14, 10, 11, 2] rfl
  refine va_callv (va_runV (As := [.ref tb, .ref am, .ref (lr 2)]) (rest := []) ⟨hx, hb, hml, hown, hg⟩ (h_fillLeads l D cs ch sm tb ck cm le ne pr tr ln trs lpr tb tbn .null 0 10 (by unfold isPy; omega) f_27 aq aw ac ao am C (by omega) P (by omega) tot am (lr 2) fam (frlr_46 2) _) (cwV 3 hg (gw_V kw_265 kw_266 kw_267 kw_268 kw_264) rfl rfl rfl (by decide +kernel) ⟨(Nat.le_of_ble_eq_true rfl), (Nat.le_of_ble_eq_true rfl)⟩) (pr_MV (q := (RX0, TX0, 12)) 0 0 hK hPc hDc rfl rfl) rfl rfl hl.1 rfl (lv_room (Nat.le_of_ble_eq_true rfl)) dX0_seekTable_46 ⟨(Nat.le_of_ble_eq_true rfl), (Nat.le_of_ble_eq_true rfl)⟩) hS (fun q _ h => hFc q h) hFc (fun u t H1 locs ht hvm h_46 hB hz1 hk1 hS => ?_)
  obtain ⟨ffd2_46, hP1, hD1⟩ := hB
  rw [ht] at hP1
  obtain ⟨hP, hD⟩ := va_join (wr := [(ao, .inl (cs 0, 4, .inl fao)), (le, .inl (cs 5, 4, .inr (.inr (.inr (.inr (rowsF 4 lr)))))), ((lr 3), .inl (cs 1, 12, .inr (.inl (frlr_46 3)))), (ne, .inl (cs 1, 12, .inr (.inl fne))), (tr, .inl (cs 0, 4, .inl f_69)), (pr, .inl (cs 1, 4, .inr (.inl f_62))), (ln, .inl (cs 0, 4, .inl f_76)), ((lr 0), .inl (cs 1, 12, .inr (.inl (frlr_46 0)))), ((lr 1), .inl (cs 1, 12, .inr (.inl (frlr_46 1))))]) (w1 := [(ch, .inr (0, [.ref aq, .ref sm, .ref tb, .ref ck, .ref cm, .ref le, .ref ne, .ref pr, .ref tr, .ref ln, .int trs, .long lpr])), (tb, .inr (10, [.ref tbn, .null, .int 0])), (tbn, .inl (cs 0, 4, .inl f_27)), (aq, .inr (5, [.ref aw, .ref ac, .ref ao, .ref am, .int (nI C), .int (nI P), .long tot])), (am, .inl (cs 1, 16, .inr (.inl fam))), ((lr 2), .inl (cs 1, 12, .inr (.inl ffd2_46)))]) hP hD [9, 13, 14, 10, 11, 2] [0, 1, 3, 4, 5, 6, 7, 8, 12] rfl rfl (by decide) (by decide) hk1 hFc hP1 hD1
  generalize H1 = H at hP hS ⊢
  have hP : va_P D vwCl [(ao, .inl (cs 0, 4, .inl fao)), (le, .inl (cs 5, 4, .inr (.inr (.inr (.inr (rowsF 4 lr)))))), ((lr 3), .inl (cs 1, 12, .inr (.inl (frlr_46 3)))), (ne, .inl (cs 1, 12, .inr (.inl fne))), (tr, .inl (cs 0, 4, .inl f_69)), (pr, .inl (cs 1, 4, .inr (.inl f_62))), (ln, .inl (cs 0, 4, .inl f_76)), ((lr 0), .inl (cs 1, 12, .inr (.inl (frlr_46 0)))), ((lr 1), .inl (cs 1, 12, .inr (.inl (frlr_46 1)))), (ch, .inr (0, [.ref aq, .ref sm, .ref tb, .ref ck, .ref cm, .ref le, .ref ne, .ref pr, .ref tr, .ref ln, .int trs, .long lpr])), (tb, .inr (10, [.ref tbn, .null, .int 0])), (tbn, .inl (cs 0, 4, .inl f_27)), (aq, .inr (5, [.ref aw, .ref ac, .ref ao, .ref am, .int (nI C), .int (nI P), .long tot])), (am, .inl (cs 1, 16, .inr (.inl fam))), ((lr 2), .inl (cs 1, 12, .inr (.inl ffd2_46)))] H := hP
  have hD : va_D A [(ao, .inl (cs 0, 4, .inl fao)), (le, .inl (cs 5, 4, .inr (.inr (.inr (.inr (rowsF 4 lr)))))), ((lr 3), .inl (cs 1, 12, .inr (.inl (frlr_46 3)))), (ne, .inl (cs 1, 12, .inr (.inl fne))), (tr, .inl (cs 0, 4, .inl f_69)), (pr, .inl (cs 1, 4, .inr (.inl f_62))), (ln, .inl (cs 0, 4, .inl f_76)), ((lr 0), .inl (cs 1, 12, .inr (.inl (frlr_46 0)))), ((lr 1), .inl (cs 1, 12, .inr (.inl (frlr_46 1)))), (ch, .inr (0, [.ref aq, .ref sm, .ref tb, .ref ck, .ref cm, .ref le, .ref ne, .ref pr, .ref tr, .ref ln, .int trs, .long lpr])), (tb, .inr (10, [.ref tbn, .null, .int 0])), (tbn, .inl (cs 0, 4, .inl f_27)), (aq, .inr (5, [.ref aw, .ref ac, .ref ao, .ref am, .int (nI C), .int (nI P), .long tot])), (am, .inl (cs 1, 16, .inr (.inl fam))), ((lr 2), .inl (cs 1, 12, .inr (.inl ffd2_46)))] := hD
  refine W.cs (cells' := 0) (slots' := 0) rfl rfl ?_
  obtain ⟨frlr_46, hfrlr_46⟩ : ∃ f9, f9 = va_up frlr_46 2 ffd2_46 := ⟨_, rfl⟩
  have hP : va_P D vwCl [(ao, .inl (cs 0, 4, .inl fao)), (le, .inl (cs 5, 4, .inr (.inr (.inr (.inr (rowsF 4 lr)))))), ((lr 3), .inl (cs 1, 12, .inr (.inl (frlr_46 3)))), (ne, .inl (cs 1, 12, .inr (.inl fne))), (tr, .inl (cs 0, 4, .inl f_69)), (pr, .inl (cs 1, 4, .inr (.inl f_62))), (ln, .inl (cs 0, 4, .inl f_76)), ((lr 0), .inl (cs 1, 12, .inr (.inl (frlr_46 0)))), ((lr 1), .inl (cs 1, 12, .inr (.inl (frlr_46 1)))), (ch, .inr (0, [.ref aq, .ref sm, .ref tb, .ref ck, .ref cm, .ref le, .ref ne, .ref pr, .ref tr, .ref ln, .int trs, .long lpr])), (tb, .inr (10, [.ref tbn, .null, .int 0])), (tbn, .inl (cs 0, 4, .inl f_27)), (aq, .inr (5, [.ref aw, .ref ac, .ref ao, .ref am, .int (nI C), .int (nI P), .long tot])), (am, .inl (cs 1, 16, .inr (.inl fam))), ((lr 2), .inl (cs 1, 12, .inr (.inl (frlr_46 2))))] H := by rw [hfrlr_46]; exact hP
  have hD : va_D A [(ao, .inl (cs 0, 4, .inl fao)), (le, .inl (cs 5, 4, .inr (.inr (.inr (.inr (rowsF 4 lr)))))), ((lr 3), .inl (cs 1, 12, .inr (.inl (frlr_46 3)))), (ne, .inl (cs 1, 12, .inr (.inl fne))), (tr, .inl (cs 0, 4, .inl f_69)), (pr, .inl (cs 1, 4, .inr (.inl f_62))), (ln, .inl (cs 0, 4, .inl f_76)), ((lr 0), .inl (cs 1, 12, .inr (.inl (frlr_46 0)))), ((lr 1), .inl (cs 1, 12, .inr (.inl (frlr_46 1)))), (ch, .inr (0, [.ref aq, .ref sm, .ref tb, .ref ck, .ref cm, .ref le, .ref ne, .ref pr, .ref tr, .ref ln, .int trs, .long lpr])), (tb, .inr (10, [.ref tbn, .null, .int 0])), (tbn, .inl (cs 0, 4, .inl f_27)), (aq, .inr (5, [.ref aw, .ref ac, .ref ao, .ref am, .int (nI C), .int (nI P), .long tot])), (am, .inl (cs 1, 16, .inr (.inl fam))), ((lr 2), .inl (cs 1, 12, .inr (.inl (frlr_46 2))))] := by rw [hfrlr_46]; exact hD
  refine lv_aload_n hx hb dX0_seekTable_49 rfl (lv_at hl 1 rfl) ?_
  refine va_get (D := D) (ci := 0) (v := .ref pr) (C := RX0) (T := TX0) (N := 12) hx hb hg gwX0 hown hK hP 9 rfl rfl 7 (by decide) (hg _ kw_254) (fun _ h9 => h9) rfl dX0_seekTable_50 ?_
  refine lv_iload_n hx hb dX0_seekTable_53 rfl (lv_at hl 0 rfl) ?_
  refine lv_aload_n hx hb dX0_seekTable_54 rfl (lv_at hl 1 rfl) ?_
  refine lv_aload_n hx hb dX0_seekTable_55 rfl (lv_at hl 1 rfl) ?_
  refine va_get (D := D) (ci := 0) (v := .ref tb) (C := RX0) (T := TX0) (N := 12) hx hb hg gwX0 hown hK hP 9 rfl rfl 2 (by decide) (hg _ kw_282) (fun _ h9 => h9) rfl dX0_seekTable_56 ?_
  have hPc := hP.sub (ws' := [(ch, .inr (0, [.ref aq, .ref sm, .ref tb, .ref ck, .ref cm, .ref le, .ref ne, .ref pr, .ref tr, .ref ln, .int trs, .long lpr])), (tb, .inr (10, [.ref tbn, .null, .int 0])), (tbn, .inl (cs 0, 4, .inl f_27)), (aq, .inr (5, [.ref aw, .ref ac, .ref ao, .ref am, .int (nI C), .int (nI P), .long tot])), (am, .inl (cs 1, 16, .inr (.inl fam)))]) [9, 10, 11, 12, 13] rfl
  refine vp_callSl (W.runV (As := [.ref tb]) (rest := [.int 2, .ref pr]) ⟨hx, hb, hml, hown, hg⟩ (h_togetherByTruth l D cs ch sm tb ck cm le ne pr tr ln trs lpr tb tbn .null 0 10 (by unfold isPy; omega) f_27 aq aw ac ao am C (by omega) P (by omega) tot fam) (cwV 1 hg (gw_V kw_288 kw_289 kw_290 kw_268 kw_287) rfl rfl rfl (by decide +kernel) ⟨(Nat.le_of_ble_eq_true rfl), (Nat.le_of_ble_eq_true rfl)⟩) (pr_SV (q := (RX0, TX0, 12)) 0 0 hK hPc rfl rfl) rfl rfl hl.1 rfl (lv_room (Nat.le_of_ble_eq_true rfl)) dX0_seekTable_59 ⟨(Nat.le_of_ble_eq_true rfl), (Nat.le_of_ble_eq_true rfl)⟩) (fun r_59 h_59 => ?_)
  clear h_59
  refine va_last hx hb hK hP hD hS 5 1 rfl rfl (show ¬ ((2 : Int32) < 0 ∨ 4 ≤ (2 : Int32).toNatClampNeg) by decide) dX0_seekTable_62 (fun H locs hP hD hS => ?_)
  obtain ⟨f_62, hf_62⟩ : ∃ f9, f9 = (vp_updL f_62 (2 : Int32).toNatClampNeg r_59) := ⟨_, rfl⟩
  rw [← hf_62] at hP hD
  have hP : va_P D vwCl [(ao, .inl (cs 0, 4, .inl fao)), (le, .inl (cs 5, 4, .inr (.inr (.inr (.inr (rowsF 4 lr)))))), ((lr 3), .inl (cs 1, 12, .inr (.inl (frlr_46 3)))), (ne, .inl (cs 1, 12, .inr (.inl fne))), (tr, .inl (cs 0, 4, .inl f_69)), (pr, .inl (cs 1, 4, .inr (.inl f_62))), (ln, .inl (cs 0, 4, .inl f_76)), ((lr 0), .inl (cs 1, 12, .inr (.inl (frlr_46 0)))), ((lr 1), .inl (cs 1, 12, .inr (.inl (frlr_46 1)))), (ch, .inr (0, [.ref aq, .ref sm, .ref tb, .ref ck, .ref cm, .ref le, .ref ne, .ref pr, .ref tr, .ref ln, .int trs, .long lpr])), (tb, .inr (10, [.ref tbn, .null, .int 0])), (tbn, .inl (cs 0, 4, .inl f_27)), (aq, .inr (5, [.ref aw, .ref ac, .ref ao, .ref am, .int (nI C), .int (nI P), .long tot])), (am, .inl (cs 1, 16, .inr (.inl fam))), ((lr 2), .inl (cs 1, 12, .inr (.inl (frlr_46 2))))] H := hP
  have hD : va_D A [(ao, .inl (cs 0, 4, .inl fao)), (le, .inl (cs 5, 4, .inr (.inr (.inr (.inr (rowsF 4 lr)))))), ((lr 3), .inl (cs 1, 12, .inr (.inl (frlr_46 3)))), (ne, .inl (cs 1, 12, .inr (.inl fne))), (tr, .inl (cs 0, 4, .inl f_69)), (pr, .inl (cs 1, 4, .inr (.inl f_62))), (ln, .inl (cs 0, 4, .inl f_76)), ((lr 0), .inl (cs 1, 12, .inr (.inl (frlr_46 0)))), ((lr 1), .inl (cs 1, 12, .inr (.inl (frlr_46 1)))), (ch, .inr (0, [.ref aq, .ref sm, .ref tb, .ref ck, .ref cm, .ref le, .ref ne, .ref pr, .ref tr, .ref ln, .int trs, .long lpr])), (tb, .inr (10, [.ref tbn, .null, .int 0])), (tbn, .inl (cs 0, 4, .inl f_27)), (aq, .inr (5, [.ref aw, .ref ac, .ref ao, .ref am, .int (nI C), .int (nI P), .long tot])), (am, .inl (cs 1, 16, .inr (.inl fam))), ((lr 2), .inl (cs 1, 12, .inr (.inl (frlr_46 2))))] := hD
  refine lv_aload_n hx hb dX0_seekTable_63 rfl (lv_at hl 1 rfl) ?_
  refine va_get (D := D) (ci := 0) (v := .ref tr) (C := RX0) (T := TX0) (N := 12) hx hb hg gwX0 hown hK hP 9 rfl rfl 8 (by decide) (hg _ kw_251) (fun _ h9 => h9) rfl dX0_seekTable_64 ?_
  refine lv_iload_n hx hb dX0_seekTable_67 rfl (lv_at hl 0 rfl) ?_
  refine lv_iconst (v := 0) hx hb dX0_seekTable_68 (by decide) ?_
  refine va_iast hx hb hK hP hD hS 4 0 rfl rfl (show ¬ ((2 : Int32) < 0 ∨ 4 ≤ (2 : Int32).toNatClampNeg) by decide) dX0_seekTable_69 (fun H locs hP hD hS => ?_)
  obtain ⟨f_69, hf_69⟩ : ∃ f9, f9 = (upd f_69 (2 : Int32).toNatClampNeg 0) := ⟨_, rfl⟩
  rw [← hf_69] at hP hD
  have hP : va_P D vwCl [(ao, .inl (cs 0, 4, .inl fao)), (le, .inl (cs 5, 4, .inr (.inr (.inr (.inr (rowsF 4 lr)))))), ((lr 3), .inl (cs 1, 12, .inr (.inl (frlr_46 3)))), (ne, .inl (cs 1, 12, .inr (.inl fne))), (tr, .inl (cs 0, 4, .inl f_69)), (pr, .inl (cs 1, 4, .inr (.inl f_62))), (ln, .inl (cs 0, 4, .inl f_76)), ((lr 0), .inl (cs 1, 12, .inr (.inl (frlr_46 0)))), ((lr 1), .inl (cs 1, 12, .inr (.inl (frlr_46 1)))), (ch, .inr (0, [.ref aq, .ref sm, .ref tb, .ref ck, .ref cm, .ref le, .ref ne, .ref pr, .ref tr, .ref ln, .int trs, .long lpr])), (tb, .inr (10, [.ref tbn, .null, .int 0])), (tbn, .inl (cs 0, 4, .inl f_27)), (aq, .inr (5, [.ref aw, .ref ac, .ref ao, .ref am, .int (nI C), .int (nI P), .long tot])), (am, .inl (cs 1, 16, .inr (.inl fam))), ((lr 2), .inl (cs 1, 12, .inr (.inl (frlr_46 2))))] H := hP
  have hD : va_D A [(ao, .inl (cs 0, 4, .inl fao)), (le, .inl (cs 5, 4, .inr (.inr (.inr (.inr (rowsF 4 lr)))))), ((lr 3), .inl (cs 1, 12, .inr (.inl (frlr_46 3)))), (ne, .inl (cs 1, 12, .inr (.inl fne))), (tr, .inl (cs 0, 4, .inl f_69)), (pr, .inl (cs 1, 4, .inr (.inl f_62))), (ln, .inl (cs 0, 4, .inl f_76)), ((lr 0), .inl (cs 1, 12, .inr (.inl (frlr_46 0)))), ((lr 1), .inl (cs 1, 12, .inr (.inl (frlr_46 1)))), (ch, .inr (0, [.ref aq, .ref sm, .ref tb, .ref ck, .ref cm, .ref le, .ref ne, .ref pr, .ref tr, .ref ln, .int trs, .long lpr])), (tb, .inr (10, [.ref tbn, .null, .int 0])), (tbn, .inl (cs 0, 4, .inl f_27)), (aq, .inr (5, [.ref aw, .ref ac, .ref ao, .ref am, .int (nI C), .int (nI P), .long tot])), (am, .inl (cs 1, 16, .inr (.inl fam))), ((lr 2), .inl (cs 1, 12, .inr (.inl (frlr_46 2))))] := hD
  refine lv_aload_n hx hb dX0_seekTable_70 rfl (lv_at hl 1 rfl) ?_
  refine va_get (D := D) (ci := 0) (v := .ref ln) (C := RX0) (T := TX0) (N := 12) hx hb hg gwX0 hown hK hP 9 rfl rfl 9 (by decide) (hg _ kw_257) (fun _ h9 => h9) rfl dX0_seekTable_71 ?_
  refine lv_iload_n hx hb dX0_seekTable_74 rfl (lv_at hl 0 rfl) ?_
  refine lv_iconst (v := (-1)) hx hb dX0_seekTable_75 (by decide) ?_
  refine va_iast hx hb hK hP hD hS 6 0 rfl rfl (show ¬ ((2 : Int32) < 0 ∨ 4 ≤ (2 : Int32).toNatClampNeg) by decide) dX0_seekTable_76 (fun H locs hP hD hS => ?_)
  obtain ⟨f_76, hf_76⟩ : ∃ f9, f9 = (upd f_76 (2 : Int32).toNatClampNeg (-1)) := ⟨_, rfl⟩
  rw [← hf_76] at hP hD
  have hP : va_P D vwCl [(ao, .inl (cs 0, 4, .inl fao)), (le, .inl (cs 5, 4, .inr (.inr (.inr (.inr (rowsF 4 lr)))))), ((lr 3), .inl (cs 1, 12, .inr (.inl (frlr_46 3)))), (ne, .inl (cs 1, 12, .inr (.inl fne))), (tr, .inl (cs 0, 4, .inl f_69)), (pr, .inl (cs 1, 4, .inr (.inl f_62))), (ln, .inl (cs 0, 4, .inl f_76)), ((lr 0), .inl (cs 1, 12, .inr (.inl (frlr_46 0)))), ((lr 1), .inl (cs 1, 12, .inr (.inl (frlr_46 1)))), (ch, .inr (0, [.ref aq, .ref sm, .ref tb, .ref ck, .ref cm, .ref le, .ref ne, .ref pr, .ref tr, .ref ln, .int trs, .long lpr])), (tb, .inr (10, [.ref tbn, .null, .int 0])), (tbn, .inl (cs 0, 4, .inl f_27)), (aq, .inr (5, [.ref aw, .ref ac, .ref ao, .ref am, .int (nI C), .int (nI P), .long tot])), (am, .inl (cs 1, 16, .inr (.inl fam))), ((lr 2), .inl (cs 1, 12, .inr (.inl (frlr_46 2))))] H := hP
  have hD : va_D A [(ao, .inl (cs 0, 4, .inl fao)), (le, .inl (cs 5, 4, .inr (.inr (.inr (.inr (rowsF 4 lr)))))), ((lr 3), .inl (cs 1, 12, .inr (.inl (frlr_46 3)))), (ne, .inl (cs 1, 12, .inr (.inl fne))), (tr, .inl (cs 0, 4, .inl f_69)), (pr, .inl (cs 1, 4, .inr (.inl f_62))), (ln, .inl (cs 0, 4, .inl f_76)), ((lr 0), .inl (cs 1, 12, .inr (.inl (frlr_46 0)))), ((lr 1), .inl (cs 1, 12, .inr (.inl (frlr_46 1)))), (ch, .inr (0, [.ref aq, .ref sm, .ref tb, .ref ck, .ref cm, .ref le, .ref ne, .ref pr, .ref tr, .ref ln, .int trs, .long lpr])), (tb, .inr (10, [.ref tbn, .null, .int 0])), (tbn, .inl (cs 0, 4, .inl f_27)), (aq, .inr (5, [.ref aw, .ref ac, .ref ao, .ref am, .int (nI C), .int (nI P), .long tot])), (am, .inl (cs 1, 16, .inr (.inl fam))), ((lr 2), .inl (cs 1, 12, .inr (.inl (frlr_46 2))))] := hD
  refine lv_iinc (v := 3) (lv' := [(1, .int 3), (0, .ref ch)]) hx hb dX0_seekTable_77 hl (k := 0) rfl (by decide) (by decide) rfl (fun ls hl => ?_)
  refine lv_goto (tgt := 2) hx hb dX0_seekTable_80 (by decide) ?_
  refine lv_iload_n hx hb dX0_seekTable_2 rfl (lv_at hl 0 rfl) ?_
  refine lv_iconst (v := 4) hx hb dX0_seekTable_3 (by decide) ?_
  refine lv_icmp_ge (tgt := 83) hx hb dX0_seekTable_4 (by decide) (fun c_4 => absurd c_4 (by decide)) (fun c_4 => ?_)
  refine lv_aload_n hx hb dX0_seekTable_7 rfl (lv_at hl 1 rfl) ?_
  refine va_get (D := D) (ci := 0) (v := .ref tb) (C := RX0) (T := TX0) (N := 12) hx hb hg gwX0 hown hK hP 9 rfl rfl 2 (by decide) (hg _ kw_282) (fun _ h9 => h9) rfl dX0_seekTable_8 ?_
  refine lv_iconst (v := 0) hx hb dX0_seekTable_11 (by decide) ?_
  refine lv_iconst (v := 0) hx hb dX0_seekTable_12 (by decide) ?_
  refine lv_iconst (v := 0) hx hb dX0_seekTable_13 (by decide) ?_
  refine lv_iconst (v := 0) hx hb dX0_seekTable_14 (by decide) ?_
  have hPc := hP.sub (ws' := [(tb, .inr (10, [.ref tbn, .null, .int 0])), (tbn, .inl (cs 0, 4, .inl f_27))]) [10, 11] rfl
  have hDc := hD.sub (ws' := [(tb, .inr (10, [.ref tbn, .null, .int 0])), (tbn, .inl (cs 0, 4, .inl f_27))]) [10, 11] (by decide) rfl
  have hFc := va_free (wc := [(tb, .inr (10, [.ref tbn, .null, .int 0])), (tbn, .inl (cs 0, 4, .inl f_27))]) hD hS hA [10, 11] rfl
  refine va_callv (va_runU (As := [.int 0, .int 0, .int 0, .int 0]) (rest := []) ⟨hx, hb, hml, hown, hg⟩ (p_become_10 l D cs tb tbn .null 0 f_27 0 0 0 0 _) (va_cwU (owner := "NobodyChecks$Pay") (x := ⟨"NobodyChecks$Table", "become", "(IIII)V"⟩) 4 hg (gw_U kw_283 kw_284 kw_285 kw_263 kw_151 kw_259) rfl rfl rfl rfl (by decide +kernel) ⟨(Nat.le_of_ble_eq_true rfl), (Nat.le_of_ble_eq_true rfl)⟩) (pr_MV (q := (RX10, TX10, 3)) 10 0 hK hPc hDc rfl rfl) rfl rfl hl.1 rfl (lv_room (Nat.le_of_ble_eq_true rfl)) dX0_seekTable_15 ⟨(Nat.le_of_ble_eq_true rfl), (Nat.le_of_ble_eq_true rfl)⟩) hS (fun q _ h => hFc q h) hFc (fun u t H1 locs ht hvm h_15 hB hz1 hk1 hS => ?_)
  obtain ⟨fq2_15, hq2_15, hP1, hD1⟩ := hB
  rw [ht] at hP1
  obtain ⟨hP, hD⟩ := va_join (wr := [(ao, .inl (cs 0, 4, .inl fao)), (le, .inl (cs 5, 4, .inr (.inr (.inr (.inr (rowsF 4 lr)))))), ((lr 3), .inl (cs 1, 12, .inr (.inl (frlr_46 3)))), (ne, .inl (cs 1, 12, .inr (.inl fne))), (tr, .inl (cs 0, 4, .inl f_69)), (pr, .inl (cs 1, 4, .inr (.inl f_62))), (ln, .inl (cs 0, 4, .inl f_76)), ((lr 0), .inl (cs 1, 12, .inr (.inl (frlr_46 0)))), ((lr 1), .inl (cs 1, 12, .inr (.inl (frlr_46 1)))), (ch, .inr (0, [.ref aq, .ref sm, .ref tb, .ref ck, .ref cm, .ref le, .ref ne, .ref pr, .ref tr, .ref ln, .int trs, .long lpr])), (aq, .inr (5, [.ref aw, .ref ac, .ref ao, .ref am, .int (nI C), .int (nI P), .long tot])), (am, .inl (cs 1, 16, .inr (.inl fam))), ((lr 2), .inl (cs 1, 12, .inr (.inl (frlr_46 2))))]) (w1 := [(tb, .inr (10, [.ref tbn, .null, .int 0])), (tbn, .inl (cs 0, 4, .inl fq2_15))]) hP hD [10, 11] [0, 1, 2, 3, 4, 5, 6, 7, 8, 9, 12, 13, 14] rfl rfl (by decide) (by decide) hk1 hFc hP1 hD1
  generalize H1 = H at hP hS ⊢
  have hP : va_P D vwCl [(ao, .inl (cs 0, 4, .inl fao)), (le, .inl (cs 5, 4, .inr (.inr (.inr (.inr (rowsF 4 lr)))))), ((lr 3), .inl (cs 1, 12, .inr (.inl (frlr_46 3)))), (ne, .inl (cs 1, 12, .inr (.inl fne))), (tr, .inl (cs 0, 4, .inl f_69)), (pr, .inl (cs 1, 4, .inr (.inl f_62))), (ln, .inl (cs 0, 4, .inl f_76)), ((lr 0), .inl (cs 1, 12, .inr (.inl (frlr_46 0)))), ((lr 1), .inl (cs 1, 12, .inr (.inl (frlr_46 1)))), (ch, .inr (0, [.ref aq, .ref sm, .ref tb, .ref ck, .ref cm, .ref le, .ref ne, .ref pr, .ref tr, .ref ln, .int trs, .long lpr])), (aq, .inr (5, [.ref aw, .ref ac, .ref ao, .ref am, .int (nI C), .int (nI P), .long tot])), (am, .inl (cs 1, 16, .inr (.inl fam))), ((lr 2), .inl (cs 1, 12, .inr (.inl (frlr_46 2)))), (tb, .inr (10, [.ref tbn, .null, .int 0])), (tbn, .inl (cs 0, 4, .inl fq2_15))] H := hP
  have hD : va_D A [(ao, .inl (cs 0, 4, .inl fao)), (le, .inl (cs 5, 4, .inr (.inr (.inr (.inr (rowsF 4 lr)))))), ((lr 3), .inl (cs 1, 12, .inr (.inl (frlr_46 3)))), (ne, .inl (cs 1, 12, .inr (.inl fne))), (tr, .inl (cs 0, 4, .inl f_69)), (pr, .inl (cs 1, 4, .inr (.inl f_62))), (ln, .inl (cs 0, 4, .inl f_76)), ((lr 0), .inl (cs 1, 12, .inr (.inl (frlr_46 0)))), ((lr 1), .inl (cs 1, 12, .inr (.inl (frlr_46 1)))), (ch, .inr (0, [.ref aq, .ref sm, .ref tb, .ref ck, .ref cm, .ref le, .ref ne, .ref pr, .ref tr, .ref ln, .int trs, .long lpr])), (aq, .inr (5, [.ref aw, .ref ac, .ref ao, .ref am, .int (nI C), .int (nI P), .long tot])), (am, .inl (cs 1, 16, .inr (.inl fam))), ((lr 2), .inl (cs 1, 12, .inr (.inl (frlr_46 2)))), (tb, .inr (10, [.ref tbn, .null, .int 0])), (tbn, .inl (cs 0, 4, .inl fq2_15))] := hD
  refine W.cs (cells' := 0) (slots' := 0) rfl rfl ?_
  refine lv_aload_n hx hb dX0_seekTable_18 rfl (lv_at hl 1 rfl) ?_
  refine va_get (D := D) (ci := 0) (v := .ref tb) (C := RX0) (T := TX0) (N := 12) hx hb hg gwX0 hown hK hP 9 rfl rfl 2 (by decide) (hg _ kw_282) (fun _ h9 => h9) rfl dX0_seekTable_19 ?_
  refine va_get (D := D) (ci := 10) (v := .ref tbn) (C := RX10) (T := TX10) (N := 3) hx hb hg gwX10 hown hK hP 13 rfl rfl 0 (by decide) (hg _ kw_286) (fun x h9 => u_same (hg _ kw_126) x h9) rfl dX0_seekTable_22 ?_
  refine lv_iload_n hx hb dX0_seekTable_25 rfl (lv_at hl 0 rfl) ?_
  refine lv_iconst (v := 1) hx hb dX0_seekTable_26 (by decide) ?_
  refine va_iast hx hb hK hP hD hS 14 0 rfl rfl (show ¬ ((3 : Int32) < 0 ∨ 4 ≤ (3 : Int32).toNatClampNeg) by decide) dX0_seekTable_27 (fun H locs hP hD hS => ?_)
  obtain ⟨f_27, hf_27⟩ : ∃ f9, f9 = (upd fq2_15 (3 : Int32).toNatClampNeg 1) := ⟨_, rfl⟩
  rw [← hf_27] at hP hD
  have hP : va_P D vwCl [(ao, .inl (cs 0, 4, .inl fao)), (le, .inl (cs 5, 4, .inr (.inr (.inr (.inr (rowsF 4 lr)))))), ((lr 3), .inl (cs 1, 12, .inr (.inl (frlr_46 3)))), (ne, .inl (cs 1, 12, .inr (.inl fne))), (tr, .inl (cs 0, 4, .inl f_69)), (pr, .inl (cs 1, 4, .inr (.inl f_62))), (ln, .inl (cs 0, 4, .inl f_76)), ((lr 0), .inl (cs 1, 12, .inr (.inl (frlr_46 0)))), ((lr 1), .inl (cs 1, 12, .inr (.inl (frlr_46 1)))), (ch, .inr (0, [.ref aq, .ref sm, .ref tb, .ref ck, .ref cm, .ref le, .ref ne, .ref pr, .ref tr, .ref ln, .int trs, .long lpr])), (aq, .inr (5, [.ref aw, .ref ac, .ref ao, .ref am, .int (nI C), .int (nI P), .long tot])), (am, .inl (cs 1, 16, .inr (.inl fam))), ((lr 2), .inl (cs 1, 12, .inr (.inl (frlr_46 2)))), (tb, .inr (10, [.ref tbn, .null, .int 0])), (tbn, .inl (cs 0, 4, .inl f_27))] H := hP
  have hD : va_D A [(ao, .inl (cs 0, 4, .inl fao)), (le, .inl (cs 5, 4, .inr (.inr (.inr (.inr (rowsF 4 lr)))))), ((lr 3), .inl (cs 1, 12, .inr (.inl (frlr_46 3)))), (ne, .inl (cs 1, 12, .inr (.inl fne))), (tr, .inl (cs 0, 4, .inl f_69)), (pr, .inl (cs 1, 4, .inr (.inl f_62))), (ln, .inl (cs 0, 4, .inl f_76)), ((lr 0), .inl (cs 1, 12, .inr (.inl (frlr_46 0)))), ((lr 1), .inl (cs 1, 12, .inr (.inl (frlr_46 1)))), (ch, .inr (0, [.ref aq, .ref sm, .ref tb, .ref ck, .ref cm, .ref le, .ref ne, .ref pr, .ref tr, .ref ln, .int trs, .long lpr])), (aq, .inr (5, [.ref aw, .ref ac, .ref ao, .ref am, .int (nI C), .int (nI P), .long tot])), (am, .inl (cs 1, 16, .inr (.inl fam))), ((lr 2), .inl (cs 1, 12, .inr (.inl (frlr_46 2)))), (tb, .inr (10, [.ref tbn, .null, .int 0])), (tbn, .inl (cs 0, 4, .inl f_27))] := hD
  refine lv_aload_n hx hb dX0_seekTable_28 rfl (lv_at hl 1 rfl) ?_
  refine lv_aload_n hx hb dX0_seekTable_29 rfl (lv_at hl 1 rfl) ?_
  refine va_get (D := D) (ci := 0) (v := .ref tb) (C := RX0) (T := TX0) (N := 12) hx hb hg gwX0 hown hK hP 9 rfl rfl 2 (by decide) (hg _ kw_282) (fun _ h9 => h9) rfl dX0_seekTable_30 ?_
  refine lv_aload_n hx hb dX0_seekTable_33 rfl (lv_at hl 1 rfl) ?_
  refine va_get (D := D) (ci := 0) (v := .ref aq) (C := RX0) (T := TX0) (N := 12) hx hb hg gwX0 hown hK hP 9 rfl rfl 0 (by decide) (hg _ kw_244) (fun _ h9 => h9) rfl dX0_seekTable_34 ?_
  refine va_get (D := D) (ci := 5) (v := .ref am) (C := RX5) (T := TX5) (N := 7) hx hb hg gwX5 hown hK hP 10 rfl rfl 3 (by decide) (hg _ kw_253) (fun _ h9 => h9) rfl dX0_seekTable_37 ?_
  refine lv_aload_n hx hb dX0_seekTable_40 rfl (lv_at hl 1 rfl) ?_
  refine va_get (D := D) (ci := 0) (v := .ref le) (C := RX0) (T := TX0) (N := 12) hx hb hg gwX0 hown hK hP 9 rfl rfl 5 (by decide) (hg _ kw_252) (fun _ h9 => h9) rfl dX0_seekTable_41 ?_
  refine lv_iload_n hx hb dX0_seekTable_44 rfl (lv_at hl 0 rfl) ?_
  refine va_aldR (k := 3) hx hb hK hP 1 5 rfl rfl (show 3 < 4 by omega) (by decide) dX0_seekTable_45 ?_
  have hPc := hP.sub (ws' := [(ch, .inr (0, [.ref aq, .ref sm, .ref tb, .ref ck, .ref cm, .ref le, .ref ne, .ref pr, .ref tr, .ref ln, .int trs, .long lpr])), (tb, .inr (10, [.ref tbn, .null, .int 0])), (tbn, .inl (cs 0, 4, .inl f_27)), (aq, .inr (5, [.ref aw, .ref ac, .ref ao, .ref am, .int (nI C), .int (nI P), .long tot])), (am, .inl (cs 1, 16, .inr (.inl fam))), ((lr 3), .inl (cs 1, 12, .inr (.inl (frlr_46 3))))]) [9, 13, 14, 10, 11, 2] rfl
  have hDc := hD.sub (ws' := [(ch, .inr (0, [.ref aq, .ref sm, .ref tb, .ref ck, .ref cm, .ref le, .ref ne, .ref pr, .ref tr, .ref ln, .int trs, .long lpr])), (tb, .inr (10, [.ref tbn, .null, .int 0])), (tbn, .inl (cs 0, 4, .inl f_27)), (aq, .inr (5, [.ref aw, .ref ac, .ref ao, .ref am, .int (nI C), .int (nI P), .long tot])), (am, .inl (cs 1, 16, .inr (.inl fam))), ((lr 3), .inl (cs 1, 12, .inr (.inl (frlr_46 3))))]) [9, 13, 14, 10, 11, 2] (by decide) rfl
  have hFc := va_free (wc := [(ch, .inr (0, [.ref aq, .ref sm, .ref tb, .ref ck, .ref cm, .ref le, .ref ne, .ref pr, .ref tr, .ref ln, .int trs, .long lpr])), (tb, .inr (10, [.ref tbn, .null, .int 0])), (tbn, .inl (cs 0, 4, .inl f_27)), (aq, .inr (5, [.ref aw, .ref ac, .ref ao, .ref am, .int (nI C), .int (nI P), .long tot])), (am, .inl (cs 1, 16, .inr (.inl fam))), ((lr 3), .inl (cs 1, 12, .inr (.inl (frlr_46 3))))]) hD hS hA [9, 13, 14, 10, 11, 2] rfl
  refine va_callv (va_runV (As := [.ref tb, .ref am, .ref (lr 3)]) (rest := []) ⟨hx, hb, hml, hown, hg⟩ (h_fillLeads l D cs ch sm tb ck cm le ne pr tr ln trs lpr tb tbn .null 0 10 (by unfold isPy; omega) f_27 aq aw ac ao am C (by omega) P (by omega) tot am (lr 3) fam (frlr_46 3) _) (cwV 3 hg (gw_V kw_265 kw_266 kw_267 kw_268 kw_264) rfl rfl rfl (by decide +kernel) ⟨(Nat.le_of_ble_eq_true rfl), (Nat.le_of_ble_eq_true rfl)⟩) (pr_MV (q := (RX0, TX0, 12)) 0 0 hK hPc hDc rfl rfl) rfl rfl hl.1 rfl (lv_room (Nat.le_of_ble_eq_true rfl)) dX0_seekTable_46 ⟨(Nat.le_of_ble_eq_true rfl), (Nat.le_of_ble_eq_true rfl)⟩) hS (fun q _ h => hFc q h) hFc (fun u t H1 locs ht hvm h_46 hB hz1 hk1 hS => ?_)
  obtain ⟨ffd2_46, hP1, hD1⟩ := hB
  rw [ht] at hP1
  obtain ⟨hP, hD⟩ := va_join (wr := [(ao, .inl (cs 0, 4, .inl fao)), (le, .inl (cs 5, 4, .inr (.inr (.inr (.inr (rowsF 4 lr)))))), (ne, .inl (cs 1, 12, .inr (.inl fne))), (tr, .inl (cs 0, 4, .inl f_69)), (pr, .inl (cs 1, 4, .inr (.inl f_62))), (ln, .inl (cs 0, 4, .inl f_76)), ((lr 0), .inl (cs 1, 12, .inr (.inl (frlr_46 0)))), ((lr 1), .inl (cs 1, 12, .inr (.inl (frlr_46 1)))), ((lr 2), .inl (cs 1, 12, .inr (.inl (frlr_46 2))))]) (w1 := [(ch, .inr (0, [.ref aq, .ref sm, .ref tb, .ref ck, .ref cm, .ref le, .ref ne, .ref pr, .ref tr, .ref ln, .int trs, .long lpr])), (tb, .inr (10, [.ref tbn, .null, .int 0])), (tbn, .inl (cs 0, 4, .inl f_27)), (aq, .inr (5, [.ref aw, .ref ac, .ref ao, .ref am, .int (nI C), .int (nI P), .long tot])), (am, .inl (cs 1, 16, .inr (.inl fam))), ((lr 3), .inl (cs 1, 12, .inr (.inl ffd2_46)))]) hP hD [9, 13, 14, 10, 11, 2] [0, 1, 3, 4, 5, 6, 7, 8, 12] rfl rfl (by decide) (by decide) hk1 hFc hP1 hD1
  generalize H1 = H at hP hS ⊢
  have hP : va_P D vwCl [(ao, .inl (cs 0, 4, .inl fao)), (le, .inl (cs 5, 4, .inr (.inr (.inr (.inr (rowsF 4 lr)))))), (ne, .inl (cs 1, 12, .inr (.inl fne))), (tr, .inl (cs 0, 4, .inl f_69)), (pr, .inl (cs 1, 4, .inr (.inl f_62))), (ln, .inl (cs 0, 4, .inl f_76)), ((lr 0), .inl (cs 1, 12, .inr (.inl (frlr_46 0)))), ((lr 1), .inl (cs 1, 12, .inr (.inl (frlr_46 1)))), ((lr 2), .inl (cs 1, 12, .inr (.inl (frlr_46 2)))), (ch, .inr (0, [.ref aq, .ref sm, .ref tb, .ref ck, .ref cm, .ref le, .ref ne, .ref pr, .ref tr, .ref ln, .int trs, .long lpr])), (tb, .inr (10, [.ref tbn, .null, .int 0])), (tbn, .inl (cs 0, 4, .inl f_27)), (aq, .inr (5, [.ref aw, .ref ac, .ref ao, .ref am, .int (nI C), .int (nI P), .long tot])), (am, .inl (cs 1, 16, .inr (.inl fam))), ((lr 3), .inl (cs 1, 12, .inr (.inl ffd2_46)))] H := hP
  have hD : va_D A [(ao, .inl (cs 0, 4, .inl fao)), (le, .inl (cs 5, 4, .inr (.inr (.inr (.inr (rowsF 4 lr)))))), (ne, .inl (cs 1, 12, .inr (.inl fne))), (tr, .inl (cs 0, 4, .inl f_69)), (pr, .inl (cs 1, 4, .inr (.inl f_62))), (ln, .inl (cs 0, 4, .inl f_76)), ((lr 0), .inl (cs 1, 12, .inr (.inl (frlr_46 0)))), ((lr 1), .inl (cs 1, 12, .inr (.inl (frlr_46 1)))), ((lr 2), .inl (cs 1, 12, .inr (.inl (frlr_46 2)))), (ch, .inr (0, [.ref aq, .ref sm, .ref tb, .ref ck, .ref cm, .ref le, .ref ne, .ref pr, .ref tr, .ref ln, .int trs, .long lpr])), (tb, .inr (10, [.ref tbn, .null, .int 0])), (tbn, .inl (cs 0, 4, .inl f_27)), (aq, .inr (5, [.ref aw, .ref ac, .ref ao, .ref am, .int (nI C), .int (nI P), .long tot])), (am, .inl (cs 1, 16, .inr (.inl fam))), ((lr 3), .inl (cs 1, 12, .inr (.inl ffd2_46)))] := hD
  refine W.cs (cells' := 0) (slots' := 0) rfl rfl ?_
  obtain ⟨frlr_46, hfrlr_46⟩ : ∃ f9, f9 = va_up frlr_46 3 ffd2_46 := ⟨_, rfl⟩
  have hP : va_P D vwCl [(ao, .inl (cs 0, 4, .inl fao)), (le, .inl (cs 5, 4, .inr (.inr (.inr (.inr (rowsF 4 lr)))))), (ne, .inl (cs 1, 12, .inr (.inl fne))), (tr, .inl (cs 0, 4, .inl f_69)), (pr, .inl (cs 1, 4, .inr (.inl f_62))), (ln, .inl (cs 0, 4, .inl f_76)), ((lr 0), .inl (cs 1, 12, .inr (.inl (frlr_46 0)))), ((lr 1), .inl (cs 1, 12, .inr (.inl (frlr_46 1)))), ((lr 2), .inl (cs 1, 12, .inr (.inl (frlr_46 2)))), (ch, .inr (0, [.ref aq, .ref sm, .ref tb, .ref ck, .ref cm, .ref le, .ref ne, .ref pr, .ref tr, .ref ln, .int trs, .long lpr])), (tb, .inr (10, [.ref tbn, .null, .int 0])), (tbn, .inl (cs 0, 4, .inl f_27)), (aq, .inr (5, [.ref aw, .ref ac, .ref ao, .ref am, .int (nI C), .int (nI P), .long tot])), (am, .inl (cs 1, 16, .inr (.inl fam))), ((lr 3), .inl (cs 1, 12, .inr (.inl (frlr_46 3))))] H := by rw [hfrlr_46]; exact hP
  have hD : va_D A [(ao, .inl (cs 0, 4, .inl fao)), (le, .inl (cs 5, 4, .inr (.inr (.inr (.inr (rowsF 4 lr)))))), (ne, .inl (cs 1, 12, .inr (.inl fne))), (tr, .inl (cs 0, 4, .inl f_69)), (pr, .inl (cs 1, 4, .inr (.inl f_62))), (ln, .inl (cs 0, 4, .inl f_76)), ((lr 0), .inl (cs 1, 12, .inr (.inl (frlr_46 0)))), ((lr 1), .inl (cs 1, 12, .inr (.inl (frlr_46 1)))), ((lr 2), .inl (cs 1, 12, .inr (.inl (frlr_46 2)))), (ch, .inr (0, [.ref aq, .ref sm, .ref tb, .ref ck, .ref cm, .ref le, .ref ne, .ref pr, .ref tr, .ref ln, .int trs, .long lpr])), (tb, .inr (10, [.ref tbn, .null, .int 0])), (tbn, .inl (cs 0, 4, .inl f_27)), (aq, .inr (5, [.ref aw, .ref ac, .ref ao, .ref am, .int (nI C), .int (nI P), .long tot])), (am, .inl (cs 1, 16, .inr (.inl fam))), ((lr 3), .inl (cs 1, 12, .inr (.inl (frlr_46 3))))] := by rw [hfrlr_46]; exact hD
  refine lv_aload_n hx hb dX0_seekTable_49 rfl (lv_at hl 1 rfl) ?_
  refine va_get (D := D) (ci := 0) (v := .ref pr) (C := RX0) (T := TX0) (N := 12) hx hb hg gwX0 hown hK hP 9 rfl rfl 7 (by decide) (hg _ kw_254) (fun _ h9 => h9) rfl dX0_seekTable_50 ?_
  refine lv_iload_n hx hb dX0_seekTable_53 rfl (lv_at hl 0 rfl) ?_
  refine lv_aload_n hx hb dX0_seekTable_54 rfl (lv_at hl 1 rfl) ?_
  refine lv_aload_n hx hb dX0_seekTable_55 rfl (lv_at hl 1 rfl) ?_
  refine va_get (D := D) (ci := 0) (v := .ref tb) (C := RX0) (T := TX0) (N := 12) hx hb hg gwX0 hown hK hP 9 rfl rfl 2 (by decide) (hg _ kw_282) (fun _ h9 => h9) rfl dX0_seekTable_56 ?_
  have hPc := hP.sub (ws' := [(ch, .inr (0, [.ref aq, .ref sm, .ref tb, .ref ck, .ref cm, .ref le, .ref ne, .ref pr, .ref tr, .ref ln, .int trs, .long lpr])), (tb, .inr (10, [.ref tbn, .null, .int 0])), (tbn, .inl (cs 0, 4, .inl f_27)), (aq, .inr (5, [.ref aw, .ref ac, .ref ao, .ref am, .int (nI C), .int (nI P), .long tot])), (am, .inl (cs 1, 16, .inr (.inl fam)))]) [9, 10, 11, 12, 13] rfl
  refine vp_callSl (W.runV (As := [.ref tb]) (rest := [.int 3, .ref pr]) ⟨hx, hb, hml, hown, hg⟩ (h_togetherByTruth l D cs ch sm tb ck cm le ne pr tr ln trs lpr tb tbn .null 0 10 (by unfold isPy; omega) f_27 aq aw ac ao am C (by omega) P (by omega) tot fam) (cwV 1 hg (gw_V kw_288 kw_289 kw_290 kw_268 kw_287) rfl rfl rfl (by decide +kernel) ⟨(Nat.le_of_ble_eq_true rfl), (Nat.le_of_ble_eq_true rfl)⟩) (pr_SV (q := (RX0, TX0, 12)) 0 0 hK hPc rfl rfl) rfl rfl hl.1 rfl (lv_room (Nat.le_of_ble_eq_true rfl)) dX0_seekTable_59 ⟨(Nat.le_of_ble_eq_true rfl), (Nat.le_of_ble_eq_true rfl)⟩) (fun r_59 h_59 => ?_)
  clear h_59
  refine va_last hx hb hK hP hD hS 4 1 rfl rfl (show ¬ ((3 : Int32) < 0 ∨ 4 ≤ (3 : Int32).toNatClampNeg) by decide) dX0_seekTable_62 (fun H locs hP hD hS => ?_)
  obtain ⟨f_62, hf_62⟩ : ∃ f9, f9 = (vp_updL f_62 (3 : Int32).toNatClampNeg r_59) := ⟨_, rfl⟩
  rw [← hf_62] at hP hD
  have hP : va_P D vwCl [(ao, .inl (cs 0, 4, .inl fao)), (le, .inl (cs 5, 4, .inr (.inr (.inr (.inr (rowsF 4 lr)))))), (ne, .inl (cs 1, 12, .inr (.inl fne))), (tr, .inl (cs 0, 4, .inl f_69)), (pr, .inl (cs 1, 4, .inr (.inl f_62))), (ln, .inl (cs 0, 4, .inl f_76)), ((lr 0), .inl (cs 1, 12, .inr (.inl (frlr_46 0)))), ((lr 1), .inl (cs 1, 12, .inr (.inl (frlr_46 1)))), ((lr 2), .inl (cs 1, 12, .inr (.inl (frlr_46 2)))), (ch, .inr (0, [.ref aq, .ref sm, .ref tb, .ref ck, .ref cm, .ref le, .ref ne, .ref pr, .ref tr, .ref ln, .int trs, .long lpr])), (tb, .inr (10, [.ref tbn, .null, .int 0])), (tbn, .inl (cs 0, 4, .inl f_27)), (aq, .inr (5, [.ref aw, .ref ac, .ref ao, .ref am, .int (nI C), .int (nI P), .long tot])), (am, .inl (cs 1, 16, .inr (.inl fam))), ((lr 3), .inl (cs 1, 12, .inr (.inl (frlr_46 3))))] H := hP
  have hD : va_D A [(ao, .inl (cs 0, 4, .inl fao)), (le, .inl (cs 5, 4, .inr (.inr (.inr (.inr (rowsF 4 lr)))))), (ne, .inl (cs 1, 12, .inr (.inl fne))), (tr, .inl (cs 0, 4, .inl f_69)), (pr, .inl (cs 1, 4, .inr (.inl f_62))), (ln, .inl (cs 0, 4, .inl f_76)), ((lr 0), .inl (cs 1, 12, .inr (.inl (frlr_46 0)))), ((lr 1), .inl (cs 1, 12, .inr (.inl (frlr_46 1)))), ((lr 2), .inl (cs 1, 12, .inr (.inl (frlr_46 2)))), (ch, .inr (0, [.ref aq, .ref sm, .ref tb, .ref ck, .ref cm, .ref le, .ref ne, .ref pr, .ref tr, .ref ln, .int trs, .long lpr])), (tb, .inr (10, [.ref tbn, .null, .int 0])), (tbn, .inl (cs 0, 4, .inl f_27)), (aq, .inr (5, [.ref aw, .ref ac, .ref ao, .ref am, .int (nI C), .int (nI P), .long tot])), (am, .inl (cs 1, 16, .inr (.inl fam))), ((lr 3), .inl (cs 1, 12, .inr (.inl (frlr_46 3))))] := hD
  refine lv_aload_n hx hb dX0_seekTable_63 rfl (lv_at hl 1 rfl) ?_
  refine va_get (D := D) (ci := 0) (v := .ref tr) (C := RX0) (T := TX0) (N := 12) hx hb hg gwX0 hown hK hP 9 rfl rfl 8 (by decide) (hg _ kw_251) (fun _ h9 => h9) rfl dX0_seekTable_64 ?_
  refine lv_iload_n hx hb dX0_seekTable_67 rfl (lv_at hl 0 rfl) ?_
  refine lv_iconst (v := 0) hx hb dX0_seekTable_68 (by decide) ?_
  refine va_iast hx hb hK hP hD hS 3 0 rfl rfl (show ¬ ((3 : Int32) < 0 ∨ 4 ≤ (3 : Int32).toNatClampNeg) by decide) dX0_seekTable_69 (fun H locs hP hD hS => ?_)
  obtain ⟨f_69, hf_69⟩ : ∃ f9, f9 = (upd f_69 (3 : Int32).toNatClampNeg 0) := ⟨_, rfl⟩
  rw [← hf_69] at hP hD
  have hP : va_P D vwCl [(ao, .inl (cs 0, 4, .inl fao)), (le, .inl (cs 5, 4, .inr (.inr (.inr (.inr (rowsF 4 lr)))))), (ne, .inl (cs 1, 12, .inr (.inl fne))), (tr, .inl (cs 0, 4, .inl f_69)), (pr, .inl (cs 1, 4, .inr (.inl f_62))), (ln, .inl (cs 0, 4, .inl f_76)), ((lr 0), .inl (cs 1, 12, .inr (.inl (frlr_46 0)))), ((lr 1), .inl (cs 1, 12, .inr (.inl (frlr_46 1)))), ((lr 2), .inl (cs 1, 12, .inr (.inl (frlr_46 2)))), (ch, .inr (0, [.ref aq, .ref sm, .ref tb, .ref ck, .ref cm, .ref le, .ref ne, .ref pr, .ref tr, .ref ln, .int trs, .long lpr])), (tb, .inr (10, [.ref tbn, .null, .int 0])), (tbn, .inl (cs 0, 4, .inl f_27)), (aq, .inr (5, [.ref aw, .ref ac, .ref ao, .ref am, .int (nI C), .int (nI P), .long tot])), (am, .inl (cs 1, 16, .inr (.inl fam))), ((lr 3), .inl (cs 1, 12, .inr (.inl (frlr_46 3))))] H := hP
  have hD : va_D A [(ao, .inl (cs 0, 4, .inl fao)), (le, .inl (cs 5, 4, .inr (.inr (.inr (.inr (rowsF 4 lr)))))), (ne, .inl (cs 1, 12, .inr (.inl fne))), (tr, .inl (cs 0, 4, .inl f_69)), (pr, .inl (cs 1, 4, .inr (.inl f_62))), (ln, .inl (cs 0, 4, .inl f_76)), ((lr 0), .inl (cs 1, 12, .inr (.inl (frlr_46 0)))), ((lr 1), .inl (cs 1, 12, .inr (.inl (frlr_46 1)))), ((lr 2), .inl (cs 1, 12, .inr (.inl (frlr_46 2)))), (ch, .inr (0, [.ref aq, .ref sm, .ref tb, .ref ck, .ref cm, .ref le, .ref ne, .ref pr, .ref tr, .ref ln, .int trs, .long lpr])), (tb, .inr (10, [.ref tbn, .null, .int 0])), (tbn, .inl (cs 0, 4, .inl f_27)), (aq, .inr (5, [.ref aw, .ref ac, .ref ao, .ref am, .int (nI C), .int (nI P), .long tot])), (am, .inl (cs 1, 16, .inr (.inl fam))), ((lr 3), .inl (cs 1, 12, .inr (.inl (frlr_46 3))))] := hD
  refine lv_aload_n hx hb dX0_seekTable_70 rfl (lv_at hl 1 rfl) ?_
  refine va_get (D := D) (ci := 0) (v := .ref ln) (C := RX0) (T := TX0) (N := 12) hx hb hg gwX0 hown hK hP 9 rfl rfl 9 (by decide) (hg _ kw_257) (fun _ h9 => h9) rfl dX0_seekTable_71 ?_
  refine lv_iload_n hx hb dX0_seekTable_74 rfl (lv_at hl 0 rfl) ?_
  refine lv_iconst (v := (-1)) hx hb dX0_seekTable_75 (by decide) ?_
  refine va_iast hx hb hK hP hD hS 5 0 rfl rfl (show ¬ ((3 : Int32) < 0 ∨ 4 ≤ (3 : Int32).toNatClampNeg) by decide) dX0_seekTable_76 (fun H locs hP hD hS => ?_)
  obtain ⟨f_76, hf_76⟩ : ∃ f9, f9 = (upd f_76 (3 : Int32).toNatClampNeg (-1)) := ⟨_, rfl⟩
  rw [← hf_76] at hP hD
  have hP : va_P D vwCl [(ao, .inl (cs 0, 4, .inl fao)), (le, .inl (cs 5, 4, .inr (.inr (.inr (.inr (rowsF 4 lr)))))), (ne, .inl (cs 1, 12, .inr (.inl fne))), (tr, .inl (cs 0, 4, .inl f_69)), (pr, .inl (cs 1, 4, .inr (.inl f_62))), (ln, .inl (cs 0, 4, .inl f_76)), ((lr 0), .inl (cs 1, 12, .inr (.inl (frlr_46 0)))), ((lr 1), .inl (cs 1, 12, .inr (.inl (frlr_46 1)))), ((lr 2), .inl (cs 1, 12, .inr (.inl (frlr_46 2)))), (ch, .inr (0, [.ref aq, .ref sm, .ref tb, .ref ck, .ref cm, .ref le, .ref ne, .ref pr, .ref tr, .ref ln, .int trs, .long lpr])), (tb, .inr (10, [.ref tbn, .null, .int 0])), (tbn, .inl (cs 0, 4, .inl f_27)), (aq, .inr (5, [.ref aw, .ref ac, .ref ao, .ref am, .int (nI C), .int (nI P), .long tot])), (am, .inl (cs 1, 16, .inr (.inl fam))), ((lr 3), .inl (cs 1, 12, .inr (.inl (frlr_46 3))))] H := hP
  have hD : va_D A [(ao, .inl (cs 0, 4, .inl fao)), (le, .inl (cs 5, 4, .inr (.inr (.inr (.inr (rowsF 4 lr)))))), (ne, .inl (cs 1, 12, .inr (.inl fne))), (tr, .inl (cs 0, 4, .inl f_69)), (pr, .inl (cs 1, 4, .inr (.inl f_62))), (ln, .inl (cs 0, 4, .inl f_76)), ((lr 0), .inl (cs 1, 12, .inr (.inl (frlr_46 0)))), ((lr 1), .inl (cs 1, 12, .inr (.inl (frlr_46 1)))), ((lr 2), .inl (cs 1, 12, .inr (.inl (frlr_46 2)))), (ch, .inr (0, [.ref aq, .ref sm, .ref tb, .ref ck, .ref cm, .ref le, .ref ne, .ref pr, .ref tr, .ref ln, .int trs, .long lpr])), (tb, .inr (10, [.ref tbn, .null, .int 0])), (tbn, .inl (cs 0, 4, .inl f_27)), (aq, .inr (5, [.ref aw, .ref ac, .ref ao, .ref am, .int (nI C), .int (nI P), .long tot])), (am, .inl (cs 1, 16, .inr (.inl fam))), ((lr 3), .inl (cs 1, 12, .inr (.inl (frlr_46 3))))] := hD
  refine lv_iinc (v := 4) (lv' := [(1, .int 4), (0, .ref ch)]) hx hb dX0_seekTable_77 hl (k := 0) rfl (by decide) (by decide) rfl (fun ls hl => ?_)
  refine lv_goto (tgt := 2) hx hb dX0_seekTable_80 (by decide) ?_
  refine lv_iload_n hx hb dX0_seekTable_2 rfl (lv_at hl 0 rfl) ?_
  refine lv_iconst (v := 4) hx hb dX0_seekTable_3 (by decide) ?_
  refine lv_icmp_ge (tgt := 83) hx hb dX0_seekTable_4 (by decide) (fun c_4 => ?_) (fun c_4 => absurd c_4 (by decide))
  refine lv_aload_n hx hb dX0_seekTable_83 rfl (lv_at hl 1 rfl) ?_
  refine lv_aload_n hx hb dX0_seekTable_84 rfl (lv_at hl 1 rfl) ?_
  refine va_get (D := D) (ci := 0) (v := .ref tb) (C := RX0) (T := TX0) (N := 12) hx hb hg gwX0 hown hK hP 9 rfl rfl 2 (by decide) (hg _ kw_282) (fun _ h9 => h9) rfl dX0_seekTable_85 ?_
  have hPc := hP.sub (ws' := [(ch, .inr (0, [.ref aq, .ref sm, .ref tb, .ref ck, .ref cm, .ref le, .ref ne, .ref pr, .ref tr, .ref ln, .int trs, .long lpr])), (tb, .inr (10, [.ref tbn, .null, .int 0])), (aq, .inr (5, [.ref aw, .ref ac, .ref ao, .ref am, .int (nI C), .int (nI P), .long tot])), (ao, .inl (cs 0, 4, .inl fao)), (ne, .inl (cs 1, 12, .inr (.inl fne)))]) [9, 10, 12, 0, 2] rfl
  have hDc := hD.sub (ws' := [(ch, .inr (0, [.ref aq, .ref sm, .ref tb, .ref ck, .ref cm, .ref le, .ref ne, .ref pr, .ref tr, .ref ln, .int trs, .long lpr])), (tb, .inr (10, [.ref tbn, .null, .int 0])), (aq, .inr (5, [.ref aw, .ref ac, .ref ao, .ref am, .int (nI C), .int (nI P), .long tot])), (ao, .inl (cs 0, 4, .inl fao)), (ne, .inl (cs 1, 12, .inr (.inl fne)))]) [9, 10, 12, 0, 2] (by decide) rfl
  have hFc := va_free (wc := [(ch, .inr (0, [.ref aq, .ref sm, .ref tb, .ref ck, .ref cm, .ref le, .ref ne, .ref pr, .ref tr, .ref ln, .int trs, .long lpr])), (tb, .inr (10, [.ref tbn, .null, .int 0])), (aq, .inr (5, [.ref aw, .ref ac, .ref ao, .ref am, .int (nI C), .int (nI P), .long tot])), (ao, .inl (cs 0, 4, .inl fao)), (ne, .inl (cs 1, 12, .inr (.inl fne)))]) hD hS hA [9, 10, 12, 0, 2] rfl
  refine va_callv (va_runV (As := [.ref tb]) (rest := []) ⟨hx, hb, hml, hown, hg⟩ (h_fillNeeds l D cs ch sm tb ck cm le ne pr tr ln trs lpr tb tbn .null 0 10 (by unfold isPy; omega) aq aw ac ao am C (by omega) P (by omega) tot fao fne _) (cwV 1 hg (gw_V kw_270 kw_271 kw_272 kw_268 kw_269) rfl rfl rfl (by decide +kernel) ⟨(Nat.le_of_ble_eq_true rfl), (Nat.le_of_ble_eq_true rfl)⟩) (pr_MV (q := (RX0, TX0, 12)) 0 0 hK hPc hDc rfl rfl) rfl rfl hl.1 rfl (lv_room (Nat.le_of_ble_eq_true rfl)) dX0_seekTable_88 ⟨(Nat.le_of_ble_eq_true rfl), (Nat.le_of_ble_eq_true rfl)⟩) hS (fun q _ h => hFc q h) hFc (fun u t H1 locs ht hvm h_88 hB hz1 hk1 hS => ?_)
  obtain ⟨fne2_88, hP1, hD1⟩ := hB
  rw [ht] at hP1
  obtain ⟨hP, hD⟩ := va_join (wr := [(le, .inl (cs 5, 4, .inr (.inr (.inr (.inr (rowsF 4 lr)))))), (tr, .inl (cs 0, 4, .inl f_69)), (pr, .inl (cs 1, 4, .inr (.inl f_62))), (ln, .inl (cs 0, 4, .inl f_76)), ((lr 0), .inl (cs 1, 12, .inr (.inl (frlr_46 0)))), ((lr 1), .inl (cs 1, 12, .inr (.inl (frlr_46 1)))), ((lr 2), .inl (cs 1, 12, .inr (.inl (frlr_46 2)))), (tbn, .inl (cs 0, 4, .inl f_27)), (am, .inl (cs 1, 16, .inr (.inl fam))), ((lr 3), .inl (cs 1, 12, .inr (.inl (frlr_46 3))))]) (w1 := [(ch, .inr (0, [.ref aq, .ref sm, .ref tb, .ref ck, .ref cm, .ref le, .ref ne, .ref pr, .ref tr, .ref ln, .int trs, .long lpr])), (tb, .inr (10, [.ref tbn, .null, .int 0])), (aq, .inr (5, [.ref aw, .ref ac, .ref ao, .ref am, .int (nI C), .int (nI P), .long tot])), (ao, .inl (cs 0, 4, .inl fao)), (ne, .inl (cs 1, 12, .inr (.inl fne2_88)))]) hP hD [9, 10, 12, 0, 2] [1, 3, 4, 5, 6, 7, 8, 11, 13, 14] rfl rfl (by decide) (by decide) hk1 hFc hP1 hD1
  generalize H1 = H at hP hS ⊢
  have hP : va_P D vwCl [(le, .inl (cs 5, 4, .inr (.inr (.inr (.inr (rowsF 4 lr)))))), (tr, .inl (cs 0, 4, .inl f_69)), (pr, .inl (cs 1, 4, .inr (.inl f_62))), (ln, .inl (cs 0, 4, .inl f_76)), ((lr 0), .inl (cs 1, 12, .inr (.inl (frlr_46 0)))), ((lr 1), .inl (cs 1, 12, .inr (.inl (frlr_46 1)))), ((lr 2), .inl (cs 1, 12, .inr (.inl (frlr_46 2)))), (tbn, .inl (cs 0, 4, .inl f_27)), (am, .inl (cs 1, 16, .inr (.inl fam))), ((lr 3), .inl (cs 1, 12, .inr (.inl (frlr_46 3)))), (ch, .inr (0, [.ref aq, .ref sm, .ref tb, .ref ck, .ref cm, .ref le, .ref ne, .ref pr, .ref tr, .ref ln, .int trs, .long lpr])), (tb, .inr (10, [.ref tbn, .null, .int 0])), (aq, .inr (5, [.ref aw, .ref ac, .ref ao, .ref am, .int (nI C), .int (nI P), .long tot])), (ao, .inl (cs 0, 4, .inl fao)), (ne, .inl (cs 1, 12, .inr (.inl fne2_88)))] H := hP
  have hD : va_D A [(le, .inl (cs 5, 4, .inr (.inr (.inr (.inr (rowsF 4 lr)))))), (tr, .inl (cs 0, 4, .inl f_69)), (pr, .inl (cs 1, 4, .inr (.inl f_62))), (ln, .inl (cs 0, 4, .inl f_76)), ((lr 0), .inl (cs 1, 12, .inr (.inl (frlr_46 0)))), ((lr 1), .inl (cs 1, 12, .inr (.inl (frlr_46 1)))), ((lr 2), .inl (cs 1, 12, .inr (.inl (frlr_46 2)))), (tbn, .inl (cs 0, 4, .inl f_27)), (am, .inl (cs 1, 16, .inr (.inl fam))), ((lr 3), .inl (cs 1, 12, .inr (.inl (frlr_46 3)))), (ch, .inr (0, [.ref aq, .ref sm, .ref tb, .ref ck, .ref cm, .ref le, .ref ne, .ref pr, .ref tr, .ref ln, .int trs, .long lpr])), (tb, .inr (10, [.ref tbn, .null, .int 0])), (aq, .inr (5, [.ref aw, .ref ac, .ref ao, .ref am, .int (nI C), .int (nI P), .long tot])), (ao, .inl (cs 0, 4, .inl fao)), (ne, .inl (cs 1, 12, .inr (.inl fne2_88)))] := hD
  refine W.cs (cells' := 0) (slots' := 0) rfl rfl ?_
  refine lv_aload_n hx hb dX0_seekTable_91 rfl (lv_at hl 1 rfl) ?_
  refine lv_iconst (v := 0) hx hb dX0_seekTable_92 (by decide) ?_
  refine va_put (D := D) (ci := 0) (v := .int 0) (ty := .int) (C := RX0) (T := TX0) (N := 12) hx hb hg gwX0 tyX0 tyX0_ok nmX0 hown hK hP hD hS 10 rfl rfl 10 (by decide) (hg _ kw_255) (fun _ h9 => h9) rfl (by decide +kernel) rfl rfl (Nat.le_of_ble_eq_true rfl) dX0_seekTable_93 (fun H locs hP hD hS => ?_)
  have hP : va_P D vwCl [(le, .inl (cs 5, 4, .inr (.inr (.inr (.inr (rowsF 4 lr)))))), (tr, .inl (cs 0, 4, .inl f_69)), (pr, .inl (cs 1, 4, .inr (.inl f_62))), (ln, .inl (cs 0, 4, .inl f_76)), ((lr 0), .inl (cs 1, 12, .inr (.inl (frlr_46 0)))), ((lr 1), .inl (cs 1, 12, .inr (.inl (frlr_46 1)))), ((lr 2), .inl (cs 1, 12, .inr (.inl (frlr_46 2)))), (tbn, .inl (cs 0, 4, .inl f_27)), (am, .inl (cs 1, 16, .inr (.inl fam))), ((lr 3), .inl (cs 1, 12, .inr (.inl (frlr_46 3)))), (ch, .inr (0, [.ref aq, .ref sm, .ref tb, .ref ck, .ref cm, .ref le, .ref ne, .ref pr, .ref tr, .ref ln, .int 0, .long lpr])), (tb, .inr (10, [.ref tbn, .null, .int 0])), (aq, .inr (5, [.ref aw, .ref ac, .ref ao, .ref am, .int (nI C), .int (nI P), .long tot])), (ao, .inl (cs 0, 4, .inl fao)), (ne, .inl (cs 1, 12, .inr (.inl fne2_88)))] H := hP
  have hD : va_D A [(le, .inl (cs 5, 4, .inr (.inr (.inr (.inr (rowsF 4 lr)))))), (tr, .inl (cs 0, 4, .inl f_69)), (pr, .inl (cs 1, 4, .inr (.inl f_62))), (ln, .inl (cs 0, 4, .inl f_76)), ((lr 0), .inl (cs 1, 12, .inr (.inl (frlr_46 0)))), ((lr 1), .inl (cs 1, 12, .inr (.inl (frlr_46 1)))), ((lr 2), .inl (cs 1, 12, .inr (.inl (frlr_46 2)))), (tbn, .inl (cs 0, 4, .inl f_27)), (am, .inl (cs 1, 16, .inr (.inl fam))), ((lr 3), .inl (cs 1, 12, .inr (.inl (frlr_46 3)))), (ch, .inr (0, [.ref aq, .ref sm, .ref tb, .ref ck, .ref cm, .ref le, .ref ne, .ref pr, .ref tr, .ref ln, .int 0, .long lpr])), (tb, .inr (10, [.ref tbn, .null, .int 0])), (aq, .inr (5, [.ref aw, .ref ac, .ref ao, .ref am, .int (nI C), .int (nI P), .long tot])), (ao, .inl (cs 0, 4, .inl fao)), (ne, .inl (cs 1, 12, .inr (.inl fne2_88)))] := hD
  refine lv_iconst (v := 0) hx hb dX0_seekTable_96 (by decide) ?_
  refine lv_istore_n (lv' := [(1, .int 0), (0, .ref ch)]) hx hb dX0_seekTable_97 rfl hl (by decide) rfl (fun ls hl => ?_)
  have LOOP98 : ∀ (n98 : Nat) (k : Nat) (ftr_98 : Nat → Int32) (fln_98 : Nat → Int32) (wch10_98 : Int32) (wch11_98 : Int64), k ≤ 10000 → 10000 - k < n98 → ∀ (H : Heap) (locs : List Loc) (ls : Array Slot), va_P D vwCl [(le, .inl (cs 5, 4, .inr (.inr (.inr (.inr (rowsF 4 lr)))))), (tr, .inl (cs 0, 4, .inl ftr_98)), (pr, .inl (cs 1, 4, .inr (.inl f_62))), (ln, .inl (cs 0, 4, .inl fln_98)), ((lr 0), .inl (cs 1, 12, .inr (.inl (frlr_46 0)))), ((lr 1), .inl (cs 1, 12, .inr (.inl (frlr_46 1)))), ((lr 2), .inl (cs 1, 12, .inr (.inl (frlr_46 2)))), (tbn, .inl (cs 0, 4, .inl f_27)), (am, .inl (cs 1, 16, .inr (.inl fam))), ((lr 3), .inl (cs 1, 12, .inr (.inl (frlr_46 3)))), (ch, .inr (0, [.ref aq, .ref sm, .ref tb, .ref ck, .ref cm, .ref le, .ref ne, .ref pr, .ref tr, .ref ln, .int wch10_98, .long wch11_98])), (tb, .inr (10, [.ref tbn, .null, .int 0])), (aq, .inr (5, [.ref aw, .ref ac, .ref ao, .ref am, .int (nI C), .int (nI P), .long tot])), (ao, .inl (cs 0, 4, .inl fao)), (ne, .inl (cs 1, 12, .inr (.inl fne2_88)))] H → va_D A [(le, .inl (cs 5, 4, .inr (.inr (.inr (.inr (rowsF 4 lr)))))), (tr, .inl (cs 0, 4, .inl ftr_98)), (pr, .inl (cs 1, 4, .inr (.inl f_62))), (ln, .inl (cs 0, 4, .inl fln_98)), ((lr 0), .inl (cs 1, 12, .inr (.inl (frlr_46 0)))), ((lr 1), .inl (cs 1, 12, .inr (.inl (frlr_46 1)))), ((lr 2), .inl (cs 1, 12, .inr (.inl (frlr_46 2)))), (tbn, .inl (cs 0, 4, .inl f_27)), (am, .inl (cs 1, 16, .inr (.inl fam))), ((lr 3), .inl (cs 1, 12, .inr (.inl (frlr_46 3)))), (ch, .inr (0, [.ref aq, .ref sm, .ref tb, .ref ck, .ref cm, .ref le, .ref ne, .ref pr, .ref tr, .ref ln, .int wch10_98, .long wch11_98])), (tb, .inr (10, [.ref tbn, .null, .int 0])), (aq, .inr (5, [.ref aw, .ref ac, .ref ao, .ref am, .int (nI C), .int (nI P), .long tot])), (ao, .inl (cs 0, 4, .inl fao)), (ne, .inl (cs 1, 12, .inr (.inl fne2_88)))] → va_S A s.heap H locs → lv_has ls 2 [(0, .ref ch), (1, .int (nI k))] → W p l e ({ frames := 4, cells := 0, slots := 0, locals := 115 } : Room) s m args below meth c H locs 0 0 Q (F0 m 98 ls []) := by
    intro n98
    induction n98 with
    | zero =>
      intro k ftr_98 fln_98 wch10_98 wch11_98 hk hn98 H locs ls hP hD hS hl
      exact absurd hn98 (Nat.not_lt_zero _)
    | succ n98 ih98 =>
      intro k ftr_98 fln_98 wch10_98 wch11_98 hk hn98 H locs ls hP hD hS hl
      refine lv_iload_n hx hb dX0_seekTable_98 rfl (lv_at hl 1 rfl) ?_
      refine lv_sipush (v := 10000) hx hb dX0_seekTable_99 (by decide) ?_
      refine lv_icmp_ge (tgt := 127) hx hb dX0_seekTable_102 (by decide) (fun c_102 => ?_) (fun c_102 => ?_)
      · have n_102 : 10000 ≤ k := b_le_t (by omega) (by omega) c_102
        refine W_sQ hQ ?_
        refine W.widen (k := 0) (n := 0) (Nat.le_of_ble_eq_true rfl) (Nat.le_of_ble_eq_true rfl) ?_
        have hP9 := hP.sub (ws' := [(ch, .inr (0, [.ref aq, .ref sm, .ref tb, .ref ck, .ref cm, .ref le, .ref ne, .ref pr, .ref tr, .ref ln, .int wch10_98, .long wch11_98])), (tb, .inr (10, [.ref tbn, .null, .int 0])), (tbn, .inl (cs 0, 4, .inl f_27)), (aq, .inr (5, [.ref aw, .ref ac, .ref ao, .ref am, .int (nI C), .int (nI P), .long tot])), (ao, .inl (cs 0, 4, .inl fao)), (am, .inl (cs 1, 16, .inr (.inl fam))), (le, .inl (cs 5, 4, .inr (.inr (.inr (.inr (rowsF 4 lr)))))), ((lr 0), .inl (cs 1, 12, .inr (.inl (frlr_46 0)))), ((lr 1), .inl (cs 1, 12, .inr (.inl (frlr_46 1)))), ((lr 2), .inl (cs 1, 12, .inr (.inl (frlr_46 2)))), ((lr 3), .inl (cs 1, 12, .inr (.inl (frlr_46 3)))), (ne, .inl (cs 1, 12, .inr (.inl fne2_88))), (tr, .inl (cs 0, 4, .inl ftr_98)), (pr, .inl (cs 1, 4, .inr (.inl f_62))), (ln, .inl (cs 0, 4, .inl fln_98))]) [10, 11, 7, 12, 13, 8, 0, 4, 5, 6, 9, 14, 1, 2, 3] rfl
        have hD9 := hD.sub (ws' := [(ch, .inr (0, [.ref aq, .ref sm, .ref tb, .ref ck, .ref cm, .ref le, .ref ne, .ref pr, .ref tr, .ref ln, .int wch10_98, .long wch11_98])), (tb, .inr (10, [.ref tbn, .null, .int 0])), (tbn, .inl (cs 0, 4, .inl f_27)), (aq, .inr (5, [.ref aw, .ref ac, .ref ao, .ref am, .int (nI C), .int (nI P), .long tot])), (ao, .inl (cs 0, 4, .inl fao)), (am, .inl (cs 1, 16, .inr (.inl fam))), (le, .inl (cs 5, 4, .inr (.inr (.inr (.inr (rowsF 4 lr)))))), ((lr 0), .inl (cs 1, 12, .inr (.inl (frlr_46 0)))), ((lr 1), .inl (cs 1, 12, .inr (.inl (frlr_46 1)))), ((lr 2), .inl (cs 1, 12, .inr (.inl (frlr_46 2)))), ((lr 3), .inl (cs 1, 12, .inr (.inl (frlr_46 3)))), (ne, .inl (cs 1, 12, .inr (.inl fne2_88))), (tr, .inl (cs 0, 4, .inl ftr_98)), (pr, .inl (cs 1, 4, .inr (.inl f_62))), (ln, .inl (cs 0, 4, .inl fln_98))]) [10, 11, 7, 12, 13, 8, 0, 4, 5, 6, 9, 14, 1, 2, 3] (by decide) rfl
        exact W.vret hx hb hr (fun t ht hW => ⟨⟨(), rfl, trivial, ⟨wch10_98, wch11_98, f_27, ftr_98, fln_98, fne2_88, f_62, frlr_46, by rw [ht]; exact hP9, hD9⟩⟩, hS.F ht⟩) hS.2.2 dX0_seekTable_127
      · have n_102 : k < 10000 := b_le_f (by omega) (by omega) c_102
        refine lv_aload_n hx hb dX0_seekTable_105 rfl (lv_at hl 0 rfl) ?_
        refine lv_iconst (v := 4) hx hb dX0_seekTable_106 (by decide) ?_
        have hPc := hP.sub (ws' := [(ch, .inr (0, [.ref aq, .ref sm, .ref tb, .ref ck, .ref cm, .ref le, .ref ne, .ref pr, .ref tr, .ref ln, .int wch10_98, .long wch11_98])), (aq, .inr (5, [.ref aw, .ref ac, .ref ao, .ref am, .int (nI C), .int (nI P), .long tot])), (le, .inl (cs 5, 4, .inr (.inr (.inr (.inr (rowsF 4 lr)))))), ((lr 0), .inl (cs 1, 12, .inr (.inl (frlr_46 0)))), ((lr 1), .inl (cs 1, 12, .inr (.inl (frlr_46 1)))), ((lr 2), .inl (cs 1, 12, .inr (.inl (frlr_46 2)))), ((lr 3), .inl (cs 1, 12, .inr (.inl (frlr_46 3)))), (ne, .inl (cs 1, 12, .inr (.inl fne2_88))), (tr, .inl (cs 0, 4, .inl ftr_98))]) [10, 12, 0, 4, 5, 6, 9, 14, 1] rfl
        refine vp_callSi (W.runV (As := [.int 4]) (rest := []) ⟨hx, hb, hml, hown, hg⟩ (h_triedRests_4 l D cs ch sm tb ck cm le ne pr tr ln wch10_98 wch11_98 aq aw ac ao am C (by omega) P (by omega) tot lr frlr_46 fne2_88 ftr_98) (cwV 1 hg (gw_V kw_274 kw_275 kw_276 kw_268 kw_273) rfl rfl rfl (by decide +kernel) ⟨(Nat.le_of_ble_eq_true rfl), (Nat.le_of_ble_eq_true rfl)⟩) (pr_SV (q := (RX0, TX0, 12)) 0 0 hK hPc rfl rfl) rfl rfl hl.1 rfl (lv_room (Nat.le_of_ble_eq_true rfl)) dX0_seekTable_107 ⟨(Nat.le_of_ble_eq_true rfl), (Nat.le_of_ble_eq_true rfl)⟩) (fun r_107 h_107 => ?_)
        rcases h_107 with rfl | rfl
        · refine lv_if_eq (tgt := 117) hx hb dX0_seekTable_110 (by decide) (fun c_110 => ?_) (fun c_110 => absurd c_110 (by decide))
          refine lv_aload_n hx hb dX0_seekTable_117 rfl (lv_at hl 0 rfl) ?_
          have hPc := hP.sub (ws' := [(ch, .inr (0, [.ref aq, .ref sm, .ref tb, .ref ck, .ref cm, .ref le, .ref ne, .ref pr, .ref tr, .ref ln, .int wch10_98, .long wch11_98])), (tr, .inl (cs 0, 4, .inl ftr_98))]) [10, 1] rfl
          have hDc := hD.sub (ws' := [(ch, .inr (0, [.ref aq, .ref sm, .ref tb, .ref ck, .ref cm, .ref le, .ref ne, .ref pr, .ref tr, .ref ln, .int wch10_98, .long wch11_98])), (tr, .inl (cs 0, 4, .inl ftr_98))]) [10, 1] (by decide) rfl
          have hFc := va_free (wc := [(ch, .inr (0, [.ref aq, .ref sm, .ref tb, .ref ck, .ref cm, .ref le, .ref ne, .ref pr, .ref tr, .ref ln, .int wch10_98, .long wch11_98])), (tr, .inl (cs 0, 4, .inl ftr_98))]) hD hS hA [10, 1] rfl
          refine va_callv (va_runV (As := []) (rest := []) ⟨hx, hb, hml, hown, hg⟩ (h_countOn l D cs ch sm tb ck cm le ne pr tr ln wch10_98 wch11_98 aq ftr_98 _) (cwV 0 hg (gw_V kw_292 kw_293 kw_294 kw_268 kw_291) rfl rfl rfl (by decide +kernel) ⟨(Nat.le_of_ble_eq_true rfl), (Nat.le_of_ble_eq_true rfl)⟩) (pr_MV (q := (RX0, TX0, 12)) 0 0 hK hPc hDc rfl rfl) rfl rfl hl.1 rfl (lv_room (Nat.le_of_ble_eq_true rfl)) dX0_seekTable_118 ⟨(Nat.le_of_ble_eq_true rfl), (Nat.le_of_ble_eq_true rfl)⟩) hS (fun q _ h => hFc q h) hFc (fun u t H1 locs ht hvm h_118 hB hz1 hk1 hS => ?_)
          obtain ⟨ftr2_118, hP1, hD1⟩ := hB
          rw [ht] at hP1
          obtain ⟨hP, hD⟩ := va_join (wr := [(le, .inl (cs 5, 4, .inr (.inr (.inr (.inr (rowsF 4 lr)))))), (pr, .inl (cs 1, 4, .inr (.inl f_62))), (ln, .inl (cs 0, 4, .inl fln_98)), ((lr 0), .inl (cs 1, 12, .inr (.inl (frlr_46 0)))), ((lr 1), .inl (cs 1, 12, .inr (.inl (frlr_46 1)))), ((lr 2), .inl (cs 1, 12, .inr (.inl (frlr_46 2)))), (tbn, .inl (cs 0, 4, .inl f_27)), (am, .inl (cs 1, 16, .inr (.inl fam))), ((lr 3), .inl (cs 1, 12, .inr (.inl (frlr_46 3)))), (tb, .inr (10, [.ref tbn, .null, .int 0])), (aq, .inr (5, [.ref aw, .ref ac, .ref ao, .ref am, .int (nI C), .int (nI P), .long tot])), (ao, .inl (cs 0, 4, .inl fao)), (ne, .inl (cs 1, 12, .inr (.inl fne2_88)))]) (w1 := [(ch, .inr (0, [.ref aq, .ref sm, .ref tb, .ref ck, .ref cm, .ref le, .ref ne, .ref pr, .ref tr, .ref ln, .int wch10_98, .long wch11_98])), (tr, .inl (cs 0, 4, .inl ftr2_118))]) hP hD [10, 1] [0, 2, 3, 4, 5, 6, 7, 8, 9, 11, 12, 13, 14] rfl rfl (by decide) (by decide) hk1 hFc hP1 hD1
          generalize H1 = H at hP hS ⊢
          have hP : va_P D vwCl [(le, .inl (cs 5, 4, .inr (.inr (.inr (.inr (rowsF 4 lr)))))), (pr, .inl (cs 1, 4, .inr (.inl f_62))), (ln, .inl (cs 0, 4, .inl fln_98)), ((lr 0), .inl (cs 1, 12, .inr (.inl (frlr_46 0)))), ((lr 1), .inl (cs 1, 12, .inr (.inl (frlr_46 1)))), ((lr 2), .inl (cs 1, 12, .inr (.inl (frlr_46 2)))), (tbn, .inl (cs 0, 4, .inl f_27)), (am, .inl (cs 1, 16, .inr (.inl fam))), ((lr 3), .inl (cs 1, 12, .inr (.inl (frlr_46 3)))), (tb, .inr (10, [.ref tbn, .null, .int 0])), (aq, .inr (5, [.ref aw, .ref ac, .ref ao, .ref am, .int (nI C), .int (nI P), .long tot])), (ao, .inl (cs 0, 4, .inl fao)), (ne, .inl (cs 1, 12, .inr (.inl fne2_88))), (ch, .inr (0, [.ref aq, .ref sm, .ref tb, .ref ck, .ref cm, .ref le, .ref ne, .ref pr, .ref tr, .ref ln, .int wch10_98, .long wch11_98])), (tr, .inl (cs 0, 4, .inl ftr2_118))] H := hP
          have hD : va_D A [(le, .inl (cs 5, 4, .inr (.inr (.inr (.inr (rowsF 4 lr)))))), (pr, .inl (cs 1, 4, .inr (.inl f_62))), (ln, .inl (cs 0, 4, .inl fln_98)), ((lr 0), .inl (cs 1, 12, .inr (.inl (frlr_46 0)))), ((lr 1), .inl (cs 1, 12, .inr (.inl (frlr_46 1)))), ((lr 2), .inl (cs 1, 12, .inr (.inl (frlr_46 2)))), (tbn, .inl (cs 0, 4, .inl f_27)), (am, .inl (cs 1, 16, .inr (.inl fam))), ((lr 3), .inl (cs 1, 12, .inr (.inl (frlr_46 3)))), (tb, .inr (10, [.ref tbn, .null, .int 0])), (aq, .inr (5, [.ref aw, .ref ac, .ref ao, .ref am, .int (nI C), .int (nI P), .long tot])), (ao, .inl (cs 0, 4, .inl fao)), (ne, .inl (cs 1, 12, .inr (.inl fne2_88))), (ch, .inr (0, [.ref aq, .ref sm, .ref tb, .ref ck, .ref cm, .ref le, .ref ne, .ref pr, .ref tr, .ref ln, .int wch10_98, .long wch11_98])), (tr, .inl (cs 0, 4, .inl ftr2_118))] := hD
          refine W.cs (cells' := 0) (slots' := 0) rfl rfl ?_
          refine lv_iinc (v := (nI (k + 1))) (lv' := [(1, .int (nI (k + 1))), (0, .ref ch)]) hx hb dX0_seekTable_121 hl (k := 1) rfl (nI_add k 1) (by decide) rfl (fun ls hl => ?_)
          refine lv_goto (tgt := 98) hx hb dX0_seekTable_124 (by decide) ?_
          exact ih98 (k + 1) ftr2_118 fln_98 wch10_98 wch11_98 (by omega) (by omega) _ _ ls (hP.sub [0, 14, 1, 2, 3, 4, 5, 6, 7, 8, 13, 9, 10, 11, 12] rfl) (hD.sub [0, 14, 1, 2, 3, 4, 5, 6, 7, 8, 13, 9, 10, 11, 12] (by decide) rfl) hS (lv_sub hl [1, 0] rfl)
        · refine lv_if_eq (tgt := 117) hx hb dX0_seekTable_110 (by decide) (fun c_110 => absurd c_110 (by decide)) (fun c_110 => ?_)
          refine lv_aload_n hx hb dX0_seekTable_113 rfl (lv_at hl 0 rfl) ?_
          have hPc := hP.sub (ws' := [(ch, .inr (0, [.ref aq, .ref sm, .ref tb, .ref ck, .ref cm, .ref le, .ref ne, .ref pr, .ref tr, .ref ln, .int wch10_98, .long wch11_98])), (pr, .inl (cs 1, 4, .inr (.inl f_62))), (tr, .inl (cs 0, 4, .inl ftr_98)), (ln, .inl (cs 0, 4, .inl fln_98))]) [10, 2, 1, 3] rfl
          have hDc := hD.sub (ws' := [(ch, .inr (0, [.ref aq, .ref sm, .ref tb, .ref ck, .ref cm, .ref le, .ref ne, .ref pr, .ref tr, .ref ln, .int wch10_98, .long wch11_98])), (pr, .inl (cs 1, 4, .inr (.inl f_62))), (tr, .inl (cs 0, 4, .inl ftr_98)), (ln, .inl (cs 0, 4, .inl fln_98))]) [10, 2, 1, 3] (by decide) rfl
          have hFc := va_free (wc := [(ch, .inr (0, [.ref aq, .ref sm, .ref tb, .ref ck, .ref cm, .ref le, .ref ne, .ref pr, .ref tr, .ref ln, .int wch10_98, .long wch11_98])), (pr, .inl (cs 1, 4, .inr (.inl f_62))), (tr, .inl (cs 0, 4, .inl ftr_98)), (ln, .inl (cs 0, 4, .inl fln_98))]) hD hS hA [10, 2, 1, 3] rfl
          refine va_callv (va_runV (As := []) (rest := []) ⟨hx, hb, hml, hown, hg⟩ (h_keepIfCheaper l D cs ch sm tb ck cm le ne pr tr ln wch10_98 wch11_98 aq f_62 ftr_98 fln_98 _) (cwV 0 hg (gw_V kw_296 kw_297 kw_298 kw_268 kw_295) rfl rfl rfl (by decide +kernel) ⟨(Nat.le_of_ble_eq_true rfl), (Nat.le_of_ble_eq_true rfl)⟩) (pr_MV (q := (RX0, TX0, 12)) 0 0 hK hPc hDc rfl rfl) rfl rfl hl.1 rfl (lv_room (Nat.le_of_ble_eq_true rfl)) dX0_seekTable_114 ⟨(Nat.le_of_ble_eq_true rfl), (Nat.le_of_ble_eq_true rfl)⟩) hS (fun q _ h => hFc q h) hFc (fun u t H1 locs ht hvm h_114 hB hz1 hk1 hS => ?_)
          obtain ⟨trs2_114, lpr2_114, fln2_114, hP1, hD1⟩ := hB
          rw [ht] at hP1
          obtain ⟨hP, hD⟩ := va_join (wr := [(le, .inl (cs 5, 4, .inr (.inr (.inr (.inr (rowsF 4 lr)))))), ((lr 0), .inl (cs 1, 12, .inr (.inl (frlr_46 0)))), ((lr 1), .inl (cs 1, 12, .inr (.inl (frlr_46 1)))), ((lr 2), .inl (cs 1, 12, .inr (.inl (frlr_46 2)))), (tbn, .inl (cs 0, 4, .inl f_27)), (am, .inl (cs 1, 16, .inr (.inl fam))), ((lr 3), .inl (cs 1, 12, .inr (.inl (frlr_46 3)))), (tb, .inr (10, [.ref tbn, .null, .int 0])), (aq, .inr (5, [.ref aw, .ref ac, .ref ao, .ref am, .int (nI C), .int (nI P), .long tot])), (ao, .inl (cs 0, 4, .inl fao)), (ne, .inl (cs 1, 12, .inr (.inl fne2_88)))]) (w1 := [(ch, .inr (0, [.ref aq, .ref sm, .ref tb, .ref ck, .ref cm, .ref le, .ref ne, .ref pr, .ref tr, .ref ln, .int trs2_114, .long lpr2_114])), (pr, .inl (cs 1, 4, .inr (.inl f_62))), (tr, .inl (cs 0, 4, .inl ftr_98)), (ln, .inl (cs 0, 4, .inl fln2_114))]) hP hD [10, 2, 1, 3] [0, 4, 5, 6, 7, 8, 9, 11, 12, 13, 14] rfl rfl (by decide) (by decide) hk1 hFc hP1 hD1
          generalize H1 = H at hP hS ⊢
          have hP : va_P D vwCl [(le, .inl (cs 5, 4, .inr (.inr (.inr (.inr (rowsF 4 lr)))))), ((lr 0), .inl (cs 1, 12, .inr (.inl (frlr_46 0)))), ((lr 1), .inl (cs 1, 12, .inr (.inl (frlr_46 1)))), ((lr 2), .inl (cs 1, 12, .inr (.inl (frlr_46 2)))), (tbn, .inl (cs 0, 4, .inl f_27)), (am, .inl (cs 1, 16, .inr (.inl fam))), ((lr 3), .inl (cs 1, 12, .inr (.inl (frlr_46 3)))), (tb, .inr (10, [.ref tbn, .null, .int 0])), (aq, .inr (5, [.ref aw, .ref ac, .ref ao, .ref am, .int (nI C), .int (nI P), .long tot])), (ao, .inl (cs 0, 4, .inl fao)), (ne, .inl (cs 1, 12, .inr (.inl fne2_88))), (ch, .inr (0, [.ref aq, .ref sm, .ref tb, .ref ck, .ref cm, .ref le, .ref ne, .ref pr, .ref tr, .ref ln, .int trs2_114, .long lpr2_114])), (pr, .inl (cs 1, 4, .inr (.inl f_62))), (tr, .inl (cs 0, 4, .inl ftr_98)), (ln, .inl (cs 0, 4, .inl fln2_114))] H := hP
          have hD : va_D A [(le, .inl (cs 5, 4, .inr (.inr (.inr (.inr (rowsF 4 lr)))))), ((lr 0), .inl (cs 1, 12, .inr (.inl (frlr_46 0)))), ((lr 1), .inl (cs 1, 12, .inr (.inl (frlr_46 1)))), ((lr 2), .inl (cs 1, 12, .inr (.inl (frlr_46 2)))), (tbn, .inl (cs 0, 4, .inl f_27)), (am, .inl (cs 1, 16, .inr (.inl fam))), ((lr 3), .inl (cs 1, 12, .inr (.inl (frlr_46 3)))), (tb, .inr (10, [.ref tbn, .null, .int 0])), (aq, .inr (5, [.ref aw, .ref ac, .ref ao, .ref am, .int (nI C), .int (nI P), .long tot])), (ao, .inl (cs 0, 4, .inl fao)), (ne, .inl (cs 1, 12, .inr (.inl fne2_88))), (ch, .inr (0, [.ref aq, .ref sm, .ref tb, .ref ck, .ref cm, .ref le, .ref ne, .ref pr, .ref tr, .ref ln, .int trs2_114, .long lpr2_114])), (pr, .inl (cs 1, 4, .inr (.inl f_62))), (tr, .inl (cs 0, 4, .inl ftr_98)), (ln, .inl (cs 0, 4, .inl fln2_114))] := hD
          refine W.cs (cells' := 0) (slots' := 0) rfl rfl ?_
          refine lv_aload_n hx hb dX0_seekTable_117 rfl (lv_at hl 0 rfl) ?_
          have hPc := hP.sub (ws' := [(ch, .inr (0, [.ref aq, .ref sm, .ref tb, .ref ck, .ref cm, .ref le, .ref ne, .ref pr, .ref tr, .ref ln, .int trs2_114, .long lpr2_114])), (tr, .inl (cs 0, 4, .inl ftr_98))]) [11, 13] rfl
          have hDc := hD.sub (ws' := [(ch, .inr (0, [.ref aq, .ref sm, .ref tb, .ref ck, .ref cm, .ref le, .ref ne, .ref pr, .ref tr, .ref ln, .int trs2_114, .long lpr2_114])), (tr, .inl (cs 0, 4, .inl ftr_98))]) [11, 13] (by decide) rfl
          have hFc := va_free (wc := [(ch, .inr (0, [.ref aq, .ref sm, .ref tb, .ref ck, .ref cm, .ref le, .ref ne, .ref pr, .ref tr, .ref ln, .int trs2_114, .long lpr2_114])), (tr, .inl (cs 0, 4, .inl ftr_98))]) hD hS hA [11, 13] rfl
          refine va_callv (va_runV (As := []) (rest := []) ⟨hx, hb, hml, hown, hg⟩ (h_countOn l D cs ch sm tb ck cm le ne pr tr ln trs2_114 lpr2_114 aq ftr_98 _) (cwV 0 hg (gw_V kw_292 kw_293 kw_294 kw_268 kw_291) rfl rfl rfl (by decide +kernel) ⟨(Nat.le_of_ble_eq_true rfl), (Nat.le_of_ble_eq_true rfl)⟩) (pr_MV (q := (RX0, TX0, 12)) 0 0 hK hPc hDc rfl rfl) rfl rfl hl.1 rfl (lv_room (Nat.le_of_ble_eq_true rfl)) dX0_seekTable_118 ⟨(Nat.le_of_ble_eq_true rfl), (Nat.le_of_ble_eq_true rfl)⟩) hS (fun q _ h => hFc q h) hFc (fun u t H1 locs ht hvm h_118 hB hz1 hk1 hS => ?_)
          obtain ⟨ftr2_118, hP1, hD1⟩ := hB
          rw [ht] at hP1
          obtain ⟨hP, hD⟩ := va_join (wr := [(le, .inl (cs 5, 4, .inr (.inr (.inr (.inr (rowsF 4 lr)))))), ((lr 0), .inl (cs 1, 12, .inr (.inl (frlr_46 0)))), ((lr 1), .inl (cs 1, 12, .inr (.inl (frlr_46 1)))), ((lr 2), .inl (cs 1, 12, .inr (.inl (frlr_46 2)))), (tbn, .inl (cs 0, 4, .inl f_27)), (am, .inl (cs 1, 16, .inr (.inl fam))), ((lr 3), .inl (cs 1, 12, .inr (.inl (frlr_46 3)))), (tb, .inr (10, [.ref tbn, .null, .int 0])), (aq, .inr (5, [.ref aw, .ref ac, .ref ao, .ref am, .int (nI C), .int (nI P), .long tot])), (ao, .inl (cs 0, 4, .inl fao)), (ne, .inl (cs 1, 12, .inr (.inl fne2_88))), (pr, .inl (cs 1, 4, .inr (.inl f_62))), (ln, .inl (cs 0, 4, .inl fln2_114))]) (w1 := [(ch, .inr (0, [.ref aq, .ref sm, .ref tb, .ref ck, .ref cm, .ref le, .ref ne, .ref pr, .ref tr, .ref ln, .int trs2_114, .long lpr2_114])), (tr, .inl (cs 0, 4, .inl ftr2_118))]) hP hD [11, 13] [0, 1, 2, 3, 4, 5, 6, 7, 8, 9, 10, 12, 14] rfl rfl (by decide) (by decide) hk1 hFc hP1 hD1
          generalize H1 = H at hP hS ⊢
          have hP : va_P D vwCl [(le, .inl (cs 5, 4, .inr (.inr (.inr (.inr (rowsF 4 lr)))))), ((lr 0), .inl (cs 1, 12, .inr (.inl (frlr_46 0)))), ((lr 1), .inl (cs 1, 12, .inr (.inl (frlr_46 1)))), ((lr 2), .inl (cs 1, 12, .inr (.inl (frlr_46 2)))), (tbn, .inl (cs 0, 4, .inl f_27)), (am, .inl (cs 1, 16, .inr (.inl fam))), ((lr 3), .inl (cs 1, 12, .inr (.inl (frlr_46 3)))), (tb, .inr (10, [.ref tbn, .null, .int 0])), (aq, .inr (5, [.ref aw, .ref ac, .ref ao, .ref am, .int (nI C), .int (nI P), .long tot])), (ao, .inl (cs 0, 4, .inl fao)), (ne, .inl (cs 1, 12, .inr (.inl fne2_88))), (pr, .inl (cs 1, 4, .inr (.inl f_62))), (ln, .inl (cs 0, 4, .inl fln2_114)), (ch, .inr (0, [.ref aq, .ref sm, .ref tb, .ref ck, .ref cm, .ref le, .ref ne, .ref pr, .ref tr, .ref ln, .int trs2_114, .long lpr2_114])), (tr, .inl (cs 0, 4, .inl ftr2_118))] H := hP
          have hD : va_D A [(le, .inl (cs 5, 4, .inr (.inr (.inr (.inr (rowsF 4 lr)))))), ((lr 0), .inl (cs 1, 12, .inr (.inl (frlr_46 0)))), ((lr 1), .inl (cs 1, 12, .inr (.inl (frlr_46 1)))), ((lr 2), .inl (cs 1, 12, .inr (.inl (frlr_46 2)))), (tbn, .inl (cs 0, 4, .inl f_27)), (am, .inl (cs 1, 16, .inr (.inl fam))), ((lr 3), .inl (cs 1, 12, .inr (.inl (frlr_46 3)))), (tb, .inr (10, [.ref tbn, .null, .int 0])), (aq, .inr (5, [.ref aw, .ref ac, .ref ao, .ref am, .int (nI C), .int (nI P), .long tot])), (ao, .inl (cs 0, 4, .inl fao)), (ne, .inl (cs 1, 12, .inr (.inl fne2_88))), (pr, .inl (cs 1, 4, .inr (.inl f_62))), (ln, .inl (cs 0, 4, .inl fln2_114)), (ch, .inr (0, [.ref aq, .ref sm, .ref tb, .ref ck, .ref cm, .ref le, .ref ne, .ref pr, .ref tr, .ref ln, .int trs2_114, .long lpr2_114])), (tr, .inl (cs 0, 4, .inl ftr2_118))] := hD
          refine W.cs (cells' := 0) (slots' := 0) rfl rfl ?_
          refine lv_iinc (v := (nI (k + 1))) (lv' := [(1, .int (nI (k + 1))), (0, .ref ch)]) hx hb dX0_seekTable_121 hl (k := 1) rfl (nI_add k 1) (by decide) rfl (fun ls hl => ?_)
          refine lv_goto (tgt := 98) hx hb dX0_seekTable_124 (by decide) ?_
          exact ih98 (k + 1) ftr2_118 fln2_114 trs2_114 lpr2_114 (by omega) (by omega) _ _ ls (hP.sub [0, 14, 11, 12, 1, 2, 3, 4, 5, 6, 13, 7, 8, 9, 10] rfl) (hD.sub [0, 14, 11, 12, 1, 2, 3, 4, 5, 6, 13, 7, 8, 9, 10] (by decide) rfl) hS (lv_sub hl [1, 0] rfl)
  exact LOOP98 (10000 - 0 + 1) 0 f_69 f_76 0 lpr (by omega) (Nat.lt_succ_self _) _ _ ls hP hD hS (lv_sub hl [1, 0] rfl)

theorem dX0_fillChangedMass_0 : decode cX0_fillChangedMass 0 = .ok (.aload_n 0, 1) := by decide +kernel
theorem dX0_fillChangedMass_1 : decode cX0_fillChangedMass 1 = .ok (.getfield 54, 3) := by decide +kernel
theorem dX0_fillChangedMass_4 : decode cX0_fillChangedMass 4 = .ok (.getfield 111, 3) := by decide +kernel
theorem dX0_fillChangedMass_7 : decode cX0_fillChangedMass 7 = .ok (.iload_n 1, 1) := by decide +kernel
theorem dX0_fillChangedMass_8 : decode cX0_fillChangedMass 8 = .ok (.aaload, 1) := by decide +kernel
theorem dX0_fillChangedMass_9 : decode cX0_fillChangedMass 9 = .ok (.iload_n 2, 1) := by decide +kernel
theorem dX0_fillChangedMass_10 : decode cX0_fillChangedMass 10 = .ok (.iaload, 1) := by decide +kernel
theorem dX0_fillChangedMass_11 : decode cX0_fillChangedMass 11 = .ok (.istore 4, 2) := by decide +kernel
theorem dX0_fillChangedMass_13 : decode cX0_fillChangedMass 13 = .ok (.aload_n 0, 1) := by decide +kernel
theorem dX0_fillChangedMass_14 : decode cX0_fillChangedMass 14 = .ok (.getfield 54, 3) := by decide +kernel
theorem dX0_fillChangedMass_17 : decode cX0_fillChangedMass 17 = .ok (.getfield 111, 3) := by decide +kernel
theorem dX0_fillChangedMass_20 : decode cX0_fillChangedMass 20 = .ok (.iload_n 1, 1) := by decide +kernel
theorem dX0_fillChangedMass_21 : decode cX0_fillChangedMass 21 = .ok (.aaload, 1) := by decide +kernel
theorem dX0_fillChangedMass_22 : decode cX0_fillChangedMass 22 = .ok (.iload_n 2, 1) := by decide +kernel
theorem dX0_fillChangedMass_23 : decode cX0_fillChangedMass 23 = .ok (.iload_n 3, 1) := by decide +kernel
theorem dX0_fillChangedMass_24 : decode cX0_fillChangedMass 24 = .ok (.iastore, 1) := by decide +kernel
theorem dX0_fillChangedMass_25 : decode cX0_fillChangedMass 25 = .ok (.aload_n 0, 1) := by decide +kernel
theorem dX0_fillChangedMass_26 : decode cX0_fillChangedMass 26 = .ok (.getfield 54, 3) := by decide +kernel
theorem dX0_fillChangedMass_29 : decode cX0_fillChangedMass 29 = .ok (.aload_n 0, 1) := by decide +kernel
theorem dX0_fillChangedMass_30 : decode cX0_fillChangedMass 30 = .ok (.getfield 32, 3) := by decide +kernel
theorem dX0_fillChangedMass_33 : decode cX0_fillChangedMass 33 = .ok (.invokevirtual 128, 3) := by decide +kernel
theorem dX0_fillChangedMass_36 : decode cX0_fillChangedMass 36 = .ok (.aload_n 0, 1) := by decide +kernel
theorem dX0_fillChangedMass_37 : decode cX0_fillChangedMass 37 = .ok (.getfield 54, 3) := by decide +kernel
theorem dX0_fillChangedMass_40 : decode cX0_fillChangedMass 40 = .ok (.getfield 111, 3) := by decide +kernel
theorem dX0_fillChangedMass_43 : decode cX0_fillChangedMass 43 = .ok (.iload_n 1, 1) := by decide +kernel
theorem dX0_fillChangedMass_44 : decode cX0_fillChangedMass 44 = .ok (.aaload, 1) := by decide +kernel
theorem dX0_fillChangedMass_45 : decode cX0_fillChangedMass 45 = .ok (.iload_n 2, 1) := by decide +kernel
theorem dX0_fillChangedMass_46 : decode cX0_fillChangedMass 46 = .ok (.iload 4, 2) := by decide +kernel
theorem dX0_fillChangedMass_48 : decode cX0_fillChangedMass 48 = .ok (.iastore, 1) := by decide +kernel
theorem dX0_fillChangedMass_49 : decode cX0_fillChangedMass 49 = .ok (.return_, 1) := by decide +kernel
theorem kw_299 : (.fieldLink RX0 111 "NobodyChecks$Question" "chances" "[[I" : Cond) ∈ gw_tbl := gw_in (by decide +kernel) (by decide +kernel)
theorem kw_300 : (.fieldLink RX0 32 "NobodyChecks$Cheapest" "changedMass" "[J" : Cond) ∈ gw_tbl := gw_in (by decide +kernel) (by decide +kernel)
theorem kw_301 : (.methodLink RX0 128 yX5_fillMass : Cond) ∈ gw_tbl := gw_in (by decide +kernel) (by decide +kernel)

set_option maxHeartbeats 4000000 in
set_option maxRecDepth 100000 in
theorem h_fillChangedMass (l : Launch) (D : va_G) (cs : Nat → ClassId) (ch : Nat) (sm : Nat) (tb : Nat) (ck : Nat) (cm : Nat) (le : Nat) (ne : Nat) (pr : Nat) (tr : Nat) (ln : Nat) (trs : Int32) (lpr : Int64) (aq : Nat) (aw : Nat) (ac : Nat) (ao : Nat) (am : Nat) (C : Nat) (hC5 : C ≤ 5) (P : Nat) (hP4 : P ≤ 4) (tot : Int64) (ar : Nat → Nat) (far : Nat → Nat → Int32) (faw : Nat → Int32) (fcm : Nat → Int64) (cc : Nat) (pe : Nat) (hcc : cc < C) (hpe : pe < P) (chg : Int32) (sz : Nat) : Met l yX0_fillChangedMass (Cond.code yX0_fillChangedMass cX0_fillChangedMass 5 none :: gw_tbl) ({ frames := 2, cells := 0, slots := 0, locals := 52 }) (pc_M D cs [(ch, .inr (0, [.ref aq, .ref sm, .ref tb, .ref ck, .ref cm, .ref le, .ref ne, .ref pr, .ref tr, .ref ln, .int trs, .long lpr])), (aq, .inr (5, [.ref aw, .ref ac, .ref ao, .ref am, .int (nI C), .int (nI P), .long tot])), (aw, .inl (cs 0, 5, .inl faw)), (ac, .inl (cs 4, 5, .inr (.inr (.inr (.inr (rowsF 5 ar)))))), ((ar 0), .inl (cs 0, 4, .inl (far 0))), ((ar 1), .inl (cs 0, 4, .inl (far 1))), ((ar 2), .inl (cs 0, 4, .inl (far 2))), ((ar 3), .inl (cs 0, 4, .inl (far 3))), ((ar 4), .inl (cs 0, 4, .inl (far 4))), (cm, .inl (cs 1, 16, .inr (.inl fcm)))] sz [.ref ch, .int (nI cc), .int (nI pe), .int chg]) (va_Qv (fun (u : Unit) => True) (fun u t => ∃ (fcm2 : Nat → Int64), ∃ (far2 : Nat → Nat → Int32), va_P D vwCl [(ch, .inr (0, [.ref aq, .ref sm, .ref tb, .ref ck, .ref cm, .ref le, .ref ne, .ref pr, .ref tr, .ref ln, .int trs, .long lpr])), (aq, .inr (5, [.ref aw, .ref ac, .ref ao, .ref am, .int (nI C), .int (nI P), .long tot])), (aw, .inl (cs 0, 5, .inl faw)), (ac, .inl (cs 4, 5, .inr (.inr (.inr (.inr (rowsF 5 ar)))))), ((ar 0), .inl (cs 0, 4, .inl (far2 0))), ((ar 1), .inl (cs 0, 4, .inl (far2 1))), ((ar 2), .inl (cs 0, 4, .inl (far2 2))), ((ar 3), .inl (cs 0, 4, .inl (far2 3))), ((ar 4), .inl (cs 0, 4, .inl (far2 4))), (cm, .inl (cs 1, 16, .inr (.inl fcm2)))] t.heap ∧ va_D (va_A [(ch, .inr (0, [.ref aq, .ref sm, .ref tb, .ref ck, .ref cm, .ref le, .ref ne, .ref pr, .ref tr, .ref ln, .int trs, .long lpr])), (aq, .inr (5, [.ref aw, .ref ac, .ref ao, .ref am, .int (nI C), .int (nI P), .long tot])), (aw, .inl (cs 0, 5, .inl faw)), (ac, .inl (cs 4, 5, .inr (.inr (.inr (.inr (rowsF 5 ar)))))), ((ar 0), .inl (cs 0, 4, .inl (far 0))), ((ar 1), .inl (cs 0, 4, .inl (far 1))), ((ar 2), .inl (cs 0, 4, .inl (far 2))), ((ar 3), .inl (cs 0, 4, .inl (far 3))), ((ar 4), .inl (cs 0, 4, .inl (far 4))), (cm, .inl (cs 1, 16, .inr (.inl fcm)))] sz) [(ch, .inr (0, [.ref aq, .ref sm, .ref tb, .ref ck, .ref cm, .ref le, .ref ne, .ref pr, .ref tr, .ref ln, .int trs, .long lpr])), (aq, .inr (5, [.ref aw, .ref ac, .ref ao, .ref am, .int (nI C), .int (nI P), .long tot])), (aw, .inl (cs 0, 5, .inl faw)), (ac, .inl (cs 4, 5, .inr (.inr (.inr (.inr (rowsF 5 ar)))))), ((ar 0), .inl (cs 0, 4, .inl (far2 0))), ((ar 1), .inl (cs 0, 4, .inl (far2 1))), ((ar 2), .inl (cs 0, 4, .inl (far2 2))), ((ar 3), .inl (cs 0, 4, .inl (far2 3))), ((ar 4), .inl (cs 0, 4, .inl (far2 4))), (cm, .inl (cs 1, 16, .inr (.inl fcm2)))]) (va_A [(ch, .inr (0, [.ref aq, .ref sm, .ref tb, .ref ck, .ref cm, .ref le, .ref ne, .ref pr, .ref tr, .ref ln, .int trs, .long lpr])), (aq, .inr (5, [.ref aw, .ref ac, .ref ao, .ref am, .int (nI C), .int (nI P), .long tot])), (aw, .inl (cs 0, 5, .inl faw)), (ac, .inl (cs 4, 5, .inr (.inr (.inr (.inr (rowsF 5 ar)))))), ((ar 0), .inl (cs 0, 4, .inl (far 0))), ((ar 1), .inl (cs 0, 4, .inl (far 1))), ((ar 2), .inl (cs 0, 4, .inl (far 2))), ((ar 3), .inl (cs 0, 4, .inl (far 3))), ((ar 4), .inl (cs 0, 4, .inl (far 4))), (cm, .inl (cs 1, 16, .inr (.inl fcm)))] sz)) 0 0 (va_A [(ch, .inr (0, [.ref aq, .ref sm, .ref tb, .ref ck, .ref cm, .ref le, .ref ne, .ref pr, .ref tr, .ref ln, .int trs, .long lpr])), (aq, .inr (5, [.ref aw, .ref ac, .ref ao, .ref am, .int (nI C), .int (nI P), .long tot])), (aw, .inl (cs 0, 5, .inl faw)), (ac, .inl (cs 4, 5, .inr (.inr (.inr (.inr (rowsF 5 ar)))))), ((ar 0), .inl (cs 0, 4, .inl (far 0))), ((ar 1), .inl (cs 0, 4, .inl (far 1))), ((ar 2), .inl (cs 0, 4, .inl (far 2))), ((ar 3), .inl (cs 0, 4, .inl (far 3))), ((ar 4), .inl (cs 0, 4, .inl (far 4))), (cm, .inl (cs 1, 16, .inr (.inl fcm)))] sz) := by
  refine Met.ofW (cc := cX0_fillChangedMass) (maxL := 5) (ret := none) (by decide) rfl ?_
  intro p e s m args below meth c s₁ B hml hv
  obtain ⟨hargs, hsz, hP, hK, hD0⟩ := hv
  have hx := B.exec
  have hb := B.bytes
  have hr := B.returns
  have hts := atoms_spec (ws := Cond.code yX0_fillChangedMass cX0_fillChangedMass 5 none :: gw_tbl) B.pre
  have hg := fun (w : Cond) (h : w ∈ gw_tbl) => hts w (List.mem_cons_of_mem _ h)
  have hown : s.vm.findClass RX0 = some m.cls := findClass_of_methodNamed B.named
  have hlocks := B.notSynchronized
  subst hsz
  have hD := hD0.self (sz := s.heap.size)
  generalize hAe : va_A [(ch, .inr (0, [.ref aq, .ref sm, .ref tb, .ref ck, .ref cm, .ref le, .ref ne, .ref pr, .ref tr, .ref ln, .int trs, .long lpr])), (aq, .inr (5, [.ref aw, .ref ac, .ref ao, .ref am, .int (nI C), .int (nI P), .long tot])), (aw, .inl (cs 0, 5, .inl faw)), (ac, .inl (cs 4, 5, .inr (.inr (.inr (.inr (rowsF 5 ar)))))), ((ar 0), .inl (cs 0, 4, .inl (far 0))), ((ar 1), .inl (cs 0, 4, .inl (far 1))), ((ar 2), .inl (cs 0, 4, .inl (far 2))), ((ar 3), .inl (cs 0, 4, .inl (far 3))), ((ar 4), .inl (cs 0, 4, .inl (far 4))), (cm, .inl (cs 1, 16, .inr (.inl fcm)))] s.heap.size = A at hD ⊢
  have hA : ∀ q : Nat, s.heap.size ≤ q → A q := fun q h => by rw [← hAe]; exact Or.inr h
  have hS : va_S A s.heap s.heap [] := va_S.rf
  have hP : va_P D vwCl [(ch, .inr (0, [.ref aq, .ref sm, .ref tb, .ref ck, .ref cm, .ref le, .ref ne, .ref pr, .ref tr, .ref ln, .int trs, .long lpr])), (aq, .inr (5, [.ref aw, .ref ac, .ref ao, .ref am, .int (nI C), .int (nI P), .long tot])), (aw, .inl (cs 0, 5, .inl faw)), (ac, .inl (cs 4, 5, .inr (.inr (.inr (.inr (rowsF 5 ar)))))), ((ar 0), .inl (cs 0, 4, .inl (far 0))), ((ar 1), .inl (cs 0, 4, .inl (far 1))), ((ar 2), .inl (cs 0, 4, .inl (far 2))), ((ar 3), .inl (cs 0, 4, .inl (far 3))), ((ar 4), .inl (cs 0, 4, .inl (far 4))), (cm, .inl (cs 1, 16, .inr (.inl fcm)))] s.heap := hP
  have hl := lv_entry ([.ref ch, .int (nI cc), .int (nI pe), .int chg]) (n := 5) (Nat.le_of_ble_eq_true rfl)
  rw [show entryFrame m args 5 = F0 m 0 (lg_sl ([.ref ch, .int (nI cc), .int (nI pe), .int chg]) ++ List.replicate (5 - (lg_sl ([.ref ch, .int (nI cc), .int (nI pe), .int chg])).length) Slot.unset).toArray [] from by rw [hargs]; exact lg_entry_eq ..]
  generalize (lg_sl ([.ref ch, .int (nI cc), .int (nI pe), .int chg]) ++ List.replicate (5 - (lg_sl ([.ref ch, .int (nI cc), .int (nI pe), .int chg])).length) Slot.unset).toArray = ls at hl ⊢
  have hl : lv_has ls 5 [(0, .ref ch), (1, .int (nI cc)), (2, .int (nI pe)), (3, .int chg)] := hl
  refine W_genQ (fun Q hQ => ?_)
  have hlm := lim_le hP4
  have hlq := lim_pos P
  have hsg := sgn_le hP4
  refine lv_aload_n hx hb dX0_fillChangedMass_0 rfl (lv_at hl 0 rfl) ?_
  refine va_get (D := D) (ci := 0) (v := .ref aq) (C := RX0) (T := TX0) (N := 12) hx hb hg gwX0 hown hK hP 0 rfl rfl 0 (by decide) (hg _ kw_244) (fun _ h9 => h9) rfl dX0_fillChangedMass_1 ?_
  refine va_get (D := D) (ci := 5) (v := .ref ac) (C := RX5) (T := TX5) (N := 7) hx hb hg gwX5 hown hK hP 1 rfl rfl 1 (by decide) (hg _ kw_299) (fun _ h9 => h9) rfl dX0_fillChangedMass_4 ?_
  refine lv_iload_n hx hb dX0_fillChangedMass_7 rfl (lv_at hl 1 rfl) ?_
  refine va_aldR (k := cc) hx hb hK hP 3 4 rfl rfl (show cc < 5 by omega) (by decide) dX0_fillChangedMass_8 ?_
  refine lv_iload_n hx hb dX0_fillChangedMass_9 rfl (lv_at hl 2 rfl) ?_
  refine va_iald hx hb hK hP (4 + cc) 0 (rat_5 (g := fun j9 => (ar j9, .inl (cs 0, 4, .inl (far j9)))) (show cc < 5 by omega) ⟨rfl, rfl, rfl, rfl, rfl⟩) rfl (vp_in_nI (show pe < 4 by omega) (by decide)) dX0_fillChangedMass_10 ?_
  refine lv_topi (fun z_10 e_10 => ?_)
  refine lv_istore (lv' := [(4, .int z_10), (0, .ref ch), (1, .int (nI cc)), (2, .int (nI pe)), (3, .int chg)]) hx hb dX0_fillChangedMass_11 hl (by decide) rfl (fun ls hl => ?_)
  refine lv_aload_n hx hb dX0_fillChangedMass_13 rfl (lv_at hl 1 rfl) ?_
  refine va_get (D := D) (ci := 0) (v := .ref aq) (C := RX0) (T := TX0) (N := 12) hx hb hg gwX0 hown hK hP 0 rfl rfl 0 (by decide) (hg _ kw_244) (fun _ h9 => h9) rfl dX0_fillChangedMass_14 ?_
  refine va_get (D := D) (ci := 5) (v := .ref ac) (C := RX5) (T := TX5) (N := 7) hx hb hg gwX5 hown hK hP 1 rfl rfl 1 (by decide) (hg _ kw_299) (fun _ h9 => h9) rfl dX0_fillChangedMass_17 ?_
  refine lv_iload_n hx hb dX0_fillChangedMass_20 rfl (lv_at hl 2 rfl) ?_
  refine va_aldR (k := cc) hx hb hK hP 3 4 rfl rfl (show cc < 5 by omega) (by decide) dX0_fillChangedMass_21 ?_
  refine lv_iload_n hx hb dX0_fillChangedMass_22 rfl (lv_at hl 3 rfl) ?_
  refine lv_iload_n hx hb dX0_fillChangedMass_23 rfl (lv_at hl 4 rfl) ?_
  refine va_iast hx hb hK hP hD hS (4 + cc) 0 (rat_5 (g := fun j9 => (ar j9, .inl (cs 0, 4, .inl (far j9)))) (show cc < 5 by omega) ⟨rfl, rfl, rfl, rfl, rfl⟩) rfl (vp_in_nI (show pe < 4 by omega) (by decide)) dX0_fillChangedMass_24 (fun H locs hP hD hS => ?_)
  obtain ⟨f_24, hf_24⟩ : ∃ f9, f9 = va_up far cc (upd (far cc) (nI pe).toNatClampNeg chg) := ⟨_, rfl⟩
  have hP : va_P D vwCl [(ch, .inr (0, [.ref aq, .ref sm, .ref tb, .ref ck, .ref cm, .ref le, .ref ne, .ref pr, .ref tr, .ref ln, .int trs, .long lpr])), (aq, .inr (5, [.ref aw, .ref ac, .ref ao, .ref am, .int (nI C), .int (nI P), .long tot])), (aw, .inl (cs 0, 5, .inl faw)), (ac, .inl (cs 4, 5, .inr (.inr (.inr (.inr (rowsF 5 ar)))))), ((ar 0), .inl (cs 0, 4, .inl (f_24 0))), ((ar 1), .inl (cs 0, 4, .inl (f_24 1))), ((ar 2), .inl (cs 0, 4, .inl (f_24 2))), ((ar 3), .inl (cs 0, 4, .inl (f_24 3))), ((ar 4), .inl (cs 0, 4, .inl (f_24 4))), (cm, .inl (cs 1, 16, .inr (.inl fcm)))] H := by
    have h9 : cc < 5 := by omega
    rw [hf_24]
    rcases lt_5 h9 with rfl | rfl | rfl | rfl | rfl <;> exact hP
  have hD : va_D A [(ch, .inr (0, [.ref aq, .ref sm, .ref tb, .ref ck, .ref cm, .ref le, .ref ne, .ref pr, .ref tr, .ref ln, .int trs, .long lpr])), (aq, .inr (5, [.ref aw, .ref ac, .ref ao, .ref am, .int (nI C), .int (nI P), .long tot])), (aw, .inl (cs 0, 5, .inl faw)), (ac, .inl (cs 4, 5, .inr (.inr (.inr (.inr (rowsF 5 ar)))))), ((ar 0), .inl (cs 0, 4, .inl (f_24 0))), ((ar 1), .inl (cs 0, 4, .inl (f_24 1))), ((ar 2), .inl (cs 0, 4, .inl (f_24 2))), ((ar 3), .inl (cs 0, 4, .inl (f_24 3))), ((ar 4), .inl (cs 0, 4, .inl (f_24 4))), (cm, .inl (cs 1, 16, .inr (.inl fcm)))] := by
    have h9 : cc < 5 := by omega
    rw [hf_24]
    rcases lt_5 h9 with rfl | rfl | rfl | rfl | rfl <;> exact hD
  refine lv_aload_n hx hb dX0_fillChangedMass_25 rfl (lv_at hl 1 rfl) ?_
  refine va_get (D := D) (ci := 0) (v := .ref aq) (C := RX0) (T := TX0) (N := 12) hx hb hg gwX0 hown hK hP 0 rfl rfl 0 (by decide) (hg _ kw_244) (fun _ h9 => h9) rfl dX0_fillChangedMass_26 ?_
  refine lv_aload_n hx hb dX0_fillChangedMass_29 rfl (lv_at hl 1 rfl) ?_
  refine va_get (D := D) (ci := 0) (v := .ref cm) (C := RX0) (T := TX0) (N := 12) hx hb hg gwX0 hown hK hP 0 rfl rfl 4 (by decide) (hg _ kw_300) (fun _ h9 => h9) rfl dX0_fillChangedMass_30 ?_
  have hPc := hP.sub (ws' := [(aq, .inr (5, [.ref aw, .ref ac, .ref ao, .ref am, .int (nI C), .int (nI P), .long tot])), (aw, .inl (cs 0, 5, .inl faw)), (ac, .inl (cs 4, 5, .inr (.inr (.inr (.inr (rowsF 5 ar)))))), ((ar 0), .inl (cs 0, 4, .inl (f_24 0))), ((ar 1), .inl (cs 0, 4, .inl (f_24 1))), ((ar 2), .inl (cs 0, 4, .inl (f_24 2))), ((ar 3), .inl (cs 0, 4, .inl (f_24 3))), ((ar 4), .inl (cs 0, 4, .inl (f_24 4))), (cm, .inl (cs 1, 16, .inr (.inl fcm)))]) [1, 2, 3, 4, 5, 6, 7, 8, 9] rfl
  have hDc := hD.sub (ws' := [(aq, .inr (5, [.ref aw, .ref ac, .ref ao, .ref am, .int (nI C), .int (nI P), .long tot])), (aw, .inl (cs 0, 5, .inl faw)), (ac, .inl (cs 4, 5, .inr (.inr (.inr (.inr (rowsF 5 ar)))))), ((ar 0), .inl (cs 0, 4, .inl (f_24 0))), ((ar 1), .inl (cs 0, 4, .inl (f_24 1))), ((ar 2), .inl (cs 0, 4, .inl (f_24 2))), ((ar 3), .inl (cs 0, 4, .inl (f_24 3))), ((ar 4), .inl (cs 0, 4, .inl (f_24 4))), (cm, .inl (cs 1, 16, .inr (.inl fcm)))]) [1, 2, 3, 4, 5, 6, 7, 8, 9] (by decide) rfl
  have hFc := va_free (wc := [(aq, .inr (5, [.ref aw, .ref ac, .ref ao, .ref am, .int (nI C), .int (nI P), .long tot])), (aw, .inl (cs 0, 5, .inl faw)), (ac, .inl (cs 4, 5, .inr (.inr (.inr (.inr (rowsF 5 ar)))))), ((ar 0), .inl (cs 0, 4, .inl (f_24 0))), ((ar 1), .inl (cs 0, 4, .inl (f_24 1))), ((ar 2), .inl (cs 0, 4, .inl (f_24 2))), ((ar 3), .inl (cs 0, 4, .inl (f_24 3))), ((ar 4), .inl (cs 0, 4, .inl (f_24 4))), (cm, .inl (cs 1, 16, .inr (.inl fcm)))]) hD hS hA [1, 2, 3, 4, 5, 6, 7, 8, 9] rfl
  refine va_callv (va_runV (As := [.ref cm]) (rest := []) ⟨hx, hb, hml, hown, hg⟩ (q_fillMass l D cs aq aw ac ao am C (by omega) P (by omega) tot ar f_24 faw cm fcm _) (cwV 1 hg (gw_V kw_301 kw_37 kw_38 kw_19 kw_35) rfl rfl rfl (by decide +kernel) ⟨(Nat.le_of_ble_eq_true rfl), (Nat.le_of_ble_eq_true rfl)⟩) (pr_MV (q := (RX5, TX5, 7)) 5 0 hK hPc hDc rfl rfl) rfl rfl hl.1 rfl (lv_room (Nat.le_of_ble_eq_true rfl)) dX0_fillChangedMass_33 ⟨(Nat.le_of_ble_eq_true rfl), (Nat.le_of_ble_eq_true rfl)⟩) hS (fun q _ h => hFc q h) hFc (fun u t H1 locs ht hvm h_33 hB hz1 hk1 hS => ?_)
  obtain ⟨ffl2_33, hP1, hD1⟩ := hB
  rw [ht] at hP1
  obtain ⟨hP, hD⟩ := va_join (wr := [(ch, .inr (0, [.ref aq, .ref sm, .ref tb, .ref ck, .ref cm, .ref le, .ref ne, .ref pr, .ref tr, .ref ln, .int trs, .long lpr]))]) (w1 := [(aq, .inr (5, [.ref aw, .ref ac, .ref ao, .ref am, .int (nI C), .int (nI P), .long tot])), (aw, .inl (cs 0, 5, .inl faw)), (ac, .inl (cs 4, 5, .inr (.inr (.inr (.inr (rowsF 5 ar)))))), ((ar 0), .inl (cs 0, 4, .inl (f_24 0))), ((ar 1), .inl (cs 0, 4, .inl (f_24 1))), ((ar 2), .inl (cs 0, 4, .inl (f_24 2))), ((ar 3), .inl (cs 0, 4, .inl (f_24 3))), ((ar 4), .inl (cs 0, 4, .inl (f_24 4))), (cm, .inl (cs 1, 16, .inr (.inl ffl2_33)))]) hP hD [1, 2, 3, 4, 5, 6, 7, 8, 9] [0] rfl rfl (by decide) (by decide) hk1 hFc hP1 hD1
  generalize H1 = H at hP hS ⊢
  have hP : va_P D vwCl [(ch, .inr (0, [.ref aq, .ref sm, .ref tb, .ref ck, .ref cm, .ref le, .ref ne, .ref pr, .ref tr, .ref ln, .int trs, .long lpr])), (aq, .inr (5, [.ref aw, .ref ac, .ref ao, .ref am, .int (nI C), .int (nI P), .long tot])), (aw, .inl (cs 0, 5, .inl faw)), (ac, .inl (cs 4, 5, .inr (.inr (.inr (.inr (rowsF 5 ar)))))), ((ar 0), .inl (cs 0, 4, .inl (f_24 0))), ((ar 1), .inl (cs 0, 4, .inl (f_24 1))), ((ar 2), .inl (cs 0, 4, .inl (f_24 2))), ((ar 3), .inl (cs 0, 4, .inl (f_24 3))), ((ar 4), .inl (cs 0, 4, .inl (f_24 4))), (cm, .inl (cs 1, 16, .inr (.inl ffl2_33)))] H := hP
  have hD : va_D A [(ch, .inr (0, [.ref aq, .ref sm, .ref tb, .ref ck, .ref cm, .ref le, .ref ne, .ref pr, .ref tr, .ref ln, .int trs, .long lpr])), (aq, .inr (5, [.ref aw, .ref ac, .ref ao, .ref am, .int (nI C), .int (nI P), .long tot])), (aw, .inl (cs 0, 5, .inl faw)), (ac, .inl (cs 4, 5, .inr (.inr (.inr (.inr (rowsF 5 ar)))))), ((ar 0), .inl (cs 0, 4, .inl (f_24 0))), ((ar 1), .inl (cs 0, 4, .inl (f_24 1))), ((ar 2), .inl (cs 0, 4, .inl (f_24 2))), ((ar 3), .inl (cs 0, 4, .inl (f_24 3))), ((ar 4), .inl (cs 0, 4, .inl (f_24 4))), (cm, .inl (cs 1, 16, .inr (.inl ffl2_33)))] := hD
  refine W.cs (cells' := 0) (slots' := 0) rfl rfl ?_
  refine lv_aload_n hx hb dX0_fillChangedMass_36 rfl (lv_at hl 1 rfl) ?_
  refine va_get (D := D) (ci := 0) (v := .ref aq) (C := RX0) (T := TX0) (N := 12) hx hb hg gwX0 hown hK hP 0 rfl rfl 0 (by decide) (hg _ kw_244) (fun _ h9 => h9) rfl dX0_fillChangedMass_37 ?_
  refine va_get (D := D) (ci := 5) (v := .ref ac) (C := RX5) (T := TX5) (N := 7) hx hb hg gwX5 hown hK hP 1 rfl rfl 1 (by decide) (hg _ kw_299) (fun _ h9 => h9) rfl dX0_fillChangedMass_40 ?_
  refine lv_iload_n hx hb dX0_fillChangedMass_43 rfl (lv_at hl 2 rfl) ?_
  refine va_aldR (k := cc) hx hb hK hP 3 4 rfl rfl (show cc < 5 by omega) (by decide) dX0_fillChangedMass_44 ?_
  refine lv_iload_n hx hb dX0_fillChangedMass_45 rfl (lv_at hl 3 rfl) ?_
  refine lv_iload hx hb dX0_fillChangedMass_46 (lv_at hl 0 rfl) ?_
  refine va_iast hx hb hK hP hD hS (4 + cc) 0 (rat_5 (g := fun j9 => (ar j9, .inl (cs 0, 4, .inl (f_24 j9)))) (show cc < 5 by omega) ⟨rfl, rfl, rfl, rfl, rfl⟩) rfl (vp_in_nI (show pe < 4 by omega) (by decide)) dX0_fillChangedMass_48 (fun H locs hP hD hS => ?_)
  obtain ⟨f_48, hf_48⟩ : ∃ f9, f9 = va_up f_24 cc (upd (f_24 cc) (nI pe).toNatClampNeg z_10) := ⟨_, rfl⟩
  have hP : va_P D vwCl [(ch, .inr (0, [.ref aq, .ref sm, .ref tb, .ref ck, .ref cm, .ref le, .ref ne, .ref pr, .ref tr, .ref ln, .int trs, .long lpr])), (aq, .inr (5, [.ref aw, .ref ac, .ref ao, .ref am, .int (nI C), .int (nI P), .long tot])), (aw, .inl (cs 0, 5, .inl faw)), (ac, .inl (cs 4, 5, .inr (.inr (.inr (.inr (rowsF 5 ar)))))), ((ar 0), .inl (cs 0, 4, .inl (f_48 0))), ((ar 1), .inl (cs 0, 4, .inl (f_48 1))), ((ar 2), .inl (cs 0, 4, .inl (f_48 2))), ((ar 3), .inl (cs 0, 4, .inl (f_48 3))), ((ar 4), .inl (cs 0, 4, .inl (f_48 4))), (cm, .inl (cs 1, 16, .inr (.inl ffl2_33)))] H := by
    have h9 : cc < 5 := by omega
    rw [hf_48]
    rcases lt_5 h9 with rfl | rfl | rfl | rfl | rfl <;> exact hP
  have hD : va_D A [(ch, .inr (0, [.ref aq, .ref sm, .ref tb, .ref ck, .ref cm, .ref le, .ref ne, .ref pr, .ref tr, .ref ln, .int trs, .long lpr])), (aq, .inr (5, [.ref aw, .ref ac, .ref ao, .ref am, .int (nI C), .int (nI P), .long tot])), (aw, .inl (cs 0, 5, .inl faw)), (ac, .inl (cs 4, 5, .inr (.inr (.inr (.inr (rowsF 5 ar)))))), ((ar 0), .inl (cs 0, 4, .inl (f_48 0))), ((ar 1), .inl (cs 0, 4, .inl (f_48 1))), ((ar 2), .inl (cs 0, 4, .inl (f_48 2))), ((ar 3), .inl (cs 0, 4, .inl (f_48 3))), ((ar 4), .inl (cs 0, 4, .inl (f_48 4))), (cm, .inl (cs 1, 16, .inr (.inl ffl2_33)))] := by
    have h9 : cc < 5 := by omega
    rw [hf_48]
    rcases lt_5 h9 with rfl | rfl | rfl | rfl | rfl <;> exact hD
  refine W_sQ hQ ?_
  refine W.widen (k := 0) (n := 0) (Nat.le_of_ble_eq_true rfl) (Nat.le_of_ble_eq_true rfl) ?_
  have hP9 := hP.sub (ws' := [(ch, .inr (0, [.ref aq, .ref sm, .ref tb, .ref ck, .ref cm, .ref le, .ref ne, .ref pr, .ref tr, .ref ln, .int trs, .long lpr])), (aq, .inr (5, [.ref aw, .ref ac, .ref ao, .ref am, .int (nI C), .int (nI P), .long tot])), (aw, .inl (cs 0, 5, .inl faw)), (ac, .inl (cs 4, 5, .inr (.inr (.inr (.inr (rowsF 5 ar)))))), ((ar 0), .inl (cs 0, 4, .inl (f_48 0))), ((ar 1), .inl (cs 0, 4, .inl (f_48 1))), ((ar 2), .inl (cs 0, 4, .inl (f_48 2))), ((ar 3), .inl (cs 0, 4, .inl (f_48 3))), ((ar 4), .inl (cs 0, 4, .inl (f_48 4))), (cm, .inl (cs 1, 16, .inr (.inl ffl2_33)))]) [0, 1, 2, 3, 4, 5, 6, 7, 8, 9] rfl
  have hD9 := hD.sub (ws' := [(ch, .inr (0, [.ref aq, .ref sm, .ref tb, .ref ck, .ref cm, .ref le, .ref ne, .ref pr, .ref tr, .ref ln, .int trs, .long lpr])), (aq, .inr (5, [.ref aw, .ref ac, .ref ao, .ref am, .int (nI C), .int (nI P), .long tot])), (aw, .inl (cs 0, 5, .inl faw)), (ac, .inl (cs 4, 5, .inr (.inr (.inr (.inr (rowsF 5 ar)))))), ((ar 0), .inl (cs 0, 4, .inl (f_48 0))), ((ar 1), .inl (cs 0, 4, .inl (f_48 1))), ((ar 2), .inl (cs 0, 4, .inl (f_48 2))), ((ar 3), .inl (cs 0, 4, .inl (f_48 3))), ((ar 4), .inl (cs 0, 4, .inl (f_48 4))), (cm, .inl (cs 1, 16, .inr (.inl ffl2_33)))]) [0, 1, 2, 3, 4, 5, 6, 7, 8, 9] (by decide) rfl
  exact W.vret hx hb hr (fun t ht hW => ⟨⟨(), rfl, trivial, ⟨ffl2_33, f_48, by rw [ht]; exact hP9, hD9⟩⟩, hS.F ht⟩) hS.2.2 dX0_fillChangedMass_49

theorem dX0_truthRests_0 : decode cX0_truthRests 0 = .ok (.aload_n 0, 1) := by decide +kernel
theorem dX0_truthRests_1 : decode cX0_truthRests 1 = .ok (.getfield 47, 3) := by decide +kernel
theorem dX0_truthRests_4 : decode cX0_truthRests 4 = .ok (.iconst 0, 1) := by decide +kernel
theorem dX0_truthRests_5 : decode cX0_truthRests 5 = .ok (.iconst 1, 1) := by decide +kernel
theorem dX0_truthRests_6 : decode cX0_truthRests 6 = .ok (.iastore, 1) := by decide +kernel
theorem dX0_truthRests_7 : decode cX0_truthRests 7 = .ok (.aload_n 0, 1) := by decide +kernel
theorem dX0_truthRests_8 : decode cX0_truthRests 8 = .ok (.aload_n 1, 1) := by decide +kernel
theorem dX0_truthRests_9 : decode cX0_truthRests 9 = .ok (.aload_n 2, 1) := by decide +kernel
theorem dX0_truthRests_10 : decode cX0_truthRests 10 = .ok (.aload_n 0, 1) := by decide +kernel
theorem dX0_truthRests_11 : decode cX0_truthRests 11 = .ok (.getfield 38, 3) := by decide +kernel
theorem dX0_truthRests_14 : decode cX0_truthRests 14 = .ok (.iconst 0, 1) := by decide +kernel
theorem dX0_truthRests_15 : decode cX0_truthRests 15 = .ok (.aaload, 1) := by decide +kernel
theorem dX0_truthRests_16 : decode cX0_truthRests 16 = .ok (.invokevirtual 67, 3) := by decide +kernel
theorem dX0_truthRests_19 : decode cX0_truthRests 19 = .ok (.aload_n 0, 1) := by decide +kernel
theorem dX0_truthRests_20 : decode cX0_truthRests 20 = .ok (.iconst 1, 1) := by decide +kernel
theorem dX0_truthRests_21 : decode cX0_truthRests 21 = .ok (.invokevirtual 75, 3) := by decide +kernel
theorem dX0_truthRests_24 : decode cX0_truthRests 24 = .ok (.ifCond .eq 7, 3) := by decide +kernel
theorem dX0_truthRests_27 : decode cX0_truthRests 27 = .ok (.iconst 1, 1) := by decide +kernel
theorem dX0_truthRests_28 : decode cX0_truthRests 28 = .ok (.goto 4, 3) := by decide +kernel
theorem dX0_truthRests_31 : decode cX0_truthRests 31 = .ok (.iconst 0, 1) := by decide +kernel
theorem dX0_truthRests_32 : decode cX0_truthRests 32 = .ok (.ireturn, 1) := by decide +kernel

set_option maxHeartbeats 4000000 in
set_option maxRecDepth 100000 in
theorem h_truthRests (l : Launch) (D : va_G) (cs : Nat → ClassId) (ch : Nat) (sm : Nat) (tb : Nat) (ck : Nat) (cm : Nat) (le : Nat) (ne : Nat) (pr : Nat) (tr : Nat) (ln : Nat) (trs : Int32) (lpr : Int64) (h0 : Nat) (nq : Nat) (av : Value) (rk : Int32) (ci : Nat) (hci : isPy ci) (fq : Nat → Int32) (aq : Nat) (aw : Nat) (ac : Nat) (ao : Nat) (am : Nat) (C : Nat) (hC5 : C ≤ 5) (P : Nat) (hP4 : P ≤ 4) (tot : Int64) (ma : Nat) (fma : Nat → Int64) (lr : Nat → Nat) (flr : Nat → Nat → Int64) (fne : Nat → Int64) (ftr : Nat → Int32) (sz : Nat) : Met l yX0_truthRests (Cond.code yX0_truthRests cX0_truthRests 3 (some .int) :: gw_tbl) ({ frames := 4, cells := 0, slots := 0, locals := 115 }) (pc_M D cs [(ch, .inr (0, [.ref aq, .ref sm, .ref tb, .ref ck, .ref cm, .ref le, .ref ne, .ref pr, .ref tr, .ref ln, .int trs, .long lpr])), (h0, .inr (ci, [.ref nq, av, .int rk])), (nq, .inl (cs 0, 4, .inl fq)), (aq, .inr (5, [.ref aw, .ref ac, .ref ao, .ref am, .int (nI C), .int (nI P), .long tot])), (ma, .inl (cs 1, 16, .inr (.inl fma))), (le, .inl (cs 5, 4, .inr (.inr (.inr (.inr (rowsF 4 lr)))))), ((lr 0), .inl (cs 1, 12, .inr (.inl (flr 0)))), ((lr 1), .inl (cs 1, 12, .inr (.inl (flr 1)))), ((lr 2), .inl (cs 1, 12, .inr (.inl (flr 2)))), ((lr 3), .inl (cs 1, 12, .inr (.inl (flr 3)))), (ne, .inl (cs 1, 12, .inr (.inl fne))), (tr, .inl (cs 0, 4, .inl ftr))] sz [.ref ch, .ref h0, .ref ma]) (va_Qi (fun (r : Int32) (u : Unit) => True) (fun u t => ∃ (ftr2 : Nat → Int32), ∃ (flr2 : Nat → Nat → Int64), va_P D vwCl [(ch, .inr (0, [.ref aq, .ref sm, .ref tb, .ref ck, .ref cm, .ref le, .ref ne, .ref pr, .ref tr, .ref ln, .int trs, .long lpr])), (h0, .inr (ci, [.ref nq, av, .int rk])), (nq, .inl (cs 0, 4, .inl fq)), (aq, .inr (5, [.ref aw, .ref ac, .ref ao, .ref am, .int (nI C), .int (nI P), .long tot])), (ma, .inl (cs 1, 16, .inr (.inl fma))), (le, .inl (cs 5, 4, .inr (.inr (.inr (.inr (rowsF 4 lr)))))), ((lr 0), .inl (cs 1, 12, .inr (.inl (flr2 0)))), ((lr 1), .inl (cs 1, 12, .inr (.inl (flr2 1)))), ((lr 2), .inl (cs 1, 12, .inr (.inl (flr2 2)))), ((lr 3), .inl (cs 1, 12, .inr (.inl (flr2 3)))), (ne, .inl (cs 1, 12, .inr (.inl fne))), (tr, .inl (cs 0, 4, .inl ftr2))] t.heap ∧ va_D (va_A [(ch, .inr (0, [.ref aq, .ref sm, .ref tb, .ref ck, .ref cm, .ref le, .ref ne, .ref pr, .ref tr, .ref ln, .int trs, .long lpr])), (h0, .inr (ci, [.ref nq, av, .int rk])), (nq, .inl (cs 0, 4, .inl fq)), (aq, .inr (5, [.ref aw, .ref ac, .ref ao, .ref am, .int (nI C), .int (nI P), .long tot])), (ma, .inl (cs 1, 16, .inr (.inl fma))), (le, .inl (cs 5, 4, .inr (.inr (.inr (.inr (rowsF 4 lr)))))), ((lr 0), .inl (cs 1, 12, .inr (.inl (flr 0)))), ((lr 1), .inl (cs 1, 12, .inr (.inl (flr 1)))), ((lr 2), .inl (cs 1, 12, .inr (.inl (flr 2)))), ((lr 3), .inl (cs 1, 12, .inr (.inl (flr 3)))), (ne, .inl (cs 1, 12, .inr (.inl fne))), (tr, .inl (cs 0, 4, .inl ftr))] sz) [(ch, .inr (0, [.ref aq, .ref sm, .ref tb, .ref ck, .ref cm, .ref le, .ref ne, .ref pr, .ref tr, .ref ln, .int trs, .long lpr])), (h0, .inr (ci, [.ref nq, av, .int rk])), (nq, .inl (cs 0, 4, .inl fq)), (aq, .inr (5, [.ref aw, .ref ac, .ref ao, .ref am, .int (nI C), .int (nI P), .long tot])), (ma, .inl (cs 1, 16, .inr (.inl fma))), (le, .inl (cs 5, 4, .inr (.inr (.inr (.inr (rowsF 4 lr)))))), ((lr 0), .inl (cs 1, 12, .inr (.inl (flr2 0)))), ((lr 1), .inl (cs 1, 12, .inr (.inl (flr2 1)))), ((lr 2), .inl (cs 1, 12, .inr (.inl (flr2 2)))), ((lr 3), .inl (cs 1, 12, .inr (.inl (flr2 3)))), (ne, .inl (cs 1, 12, .inr (.inl fne))), (tr, .inl (cs 0, 4, .inl ftr2))]) (va_A [(ch, .inr (0, [.ref aq, .ref sm, .ref tb, .ref ck, .ref cm, .ref le, .ref ne, .ref pr, .ref tr, .ref ln, .int trs, .long lpr])), (h0, .inr (ci, [.ref nq, av, .int rk])), (nq, .inl (cs 0, 4, .inl fq)), (aq, .inr (5, [.ref aw, .ref ac, .ref ao, .ref am, .int (nI C), .int (nI P), .long tot])), (ma, .inl (cs 1, 16, .inr (.inl fma))), (le, .inl (cs 5, 4, .inr (.inr (.inr (.inr (rowsF 4 lr)))))), ((lr 0), .inl (cs 1, 12, .inr (.inl (flr 0)))), ((lr 1), .inl (cs 1, 12, .inr (.inl (flr 1)))), ((lr 2), .inl (cs 1, 12, .inr (.inl (flr 2)))), ((lr 3), .inl (cs 1, 12, .inr (.inl (flr 3)))), (ne, .inl (cs 1, 12, .inr (.inl fne))), (tr, .inl (cs 0, 4, .inl ftr))] sz)) 0 0 (va_A [(ch, .inr (0, [.ref aq, .ref sm, .ref tb, .ref ck, .ref cm, .ref le, .ref ne, .ref pr, .ref tr, .ref ln, .int trs, .long lpr])), (h0, .inr (ci, [.ref nq, av, .int rk])), (nq, .inl (cs 0, 4, .inl fq)), (aq, .inr (5, [.ref aw, .ref ac, .ref ao, .ref am, .int (nI C), .int (nI P), .long tot])), (ma, .inl (cs 1, 16, .inr (.inl fma))), (le, .inl (cs 5, 4, .inr (.inr (.inr (.inr (rowsF 4 lr)))))), ((lr 0), .inl (cs 1, 12, .inr (.inl (flr 0)))), ((lr 1), .inl (cs 1, 12, .inr (.inl (flr 1)))), ((lr 2), .inl (cs 1, 12, .inr (.inl (flr 2)))), ((lr 3), .inl (cs 1, 12, .inr (.inl (flr 3)))), (ne, .inl (cs 1, 12, .inr (.inl fne))), (tr, .inl (cs 0, 4, .inl ftr))] sz) := by
  refine Met.ofW (cc := cX0_truthRests) (maxL := 3) (ret := (some .int)) (by decide) rfl ?_
  intro p e s m args below meth c s₁ B hml hv
  obtain ⟨hargs, hsz, hP, hK, hD0⟩ := hv
  have hx := B.exec
  have hb := B.bytes
  have hr := B.returns
  have hts := atoms_spec (ws := Cond.code yX0_truthRests cX0_truthRests 3 (some .int) :: gw_tbl) B.pre
  have hg := fun (w : Cond) (h : w ∈ gw_tbl) => hts w (List.mem_cons_of_mem _ h)
  have hown : s.vm.findClass RX0 = some m.cls := findClass_of_methodNamed B.named
  have hlocks := B.notSynchronized
  subst hsz
  have hD := hD0.self (sz := s.heap.size)
  generalize hAe : va_A [(ch, .inr (0, [.ref aq, .ref sm, .ref tb, .ref ck, .ref cm, .ref le, .ref ne, .ref pr, .ref tr, .ref ln, .int trs, .long lpr])), (h0, .inr (ci, [.ref nq, av, .int rk])), (nq, .inl (cs 0, 4, .inl fq)), (aq, .inr (5, [.ref aw, .ref ac, .ref ao, .ref am, .int (nI C), .int (nI P), .long tot])), (ma, .inl (cs 1, 16, .inr (.inl fma))), (le, .inl (cs 5, 4, .inr (.inr (.inr (.inr (rowsF 4 lr)))))), ((lr 0), .inl (cs 1, 12, .inr (.inl (flr 0)))), ((lr 1), .inl (cs 1, 12, .inr (.inl (flr 1)))), ((lr 2), .inl (cs 1, 12, .inr (.inl (flr 2)))), ((lr 3), .inl (cs 1, 12, .inr (.inl (flr 3)))), (ne, .inl (cs 1, 12, .inr (.inl fne))), (tr, .inl (cs 0, 4, .inl ftr))] s.heap.size = A at hD ⊢
  have hA : ∀ q : Nat, s.heap.size ≤ q → A q := fun q h => by rw [← hAe]; exact Or.inr h
  have hS : va_S A s.heap s.heap [] := va_S.rf
  have hP : va_P D vwCl [(ch, .inr (0, [.ref aq, .ref sm, .ref tb, .ref ck, .ref cm, .ref le, .ref ne, .ref pr, .ref tr, .ref ln, .int trs, .long lpr])), (h0, .inr (ci, [.ref nq, av, .int rk])), (nq, .inl (cs 0, 4, .inl fq)), (aq, .inr (5, [.ref aw, .ref ac, .ref ao, .ref am, .int (nI C), .int (nI P), .long tot])), (ma, .inl (cs 1, 16, .inr (.inl fma))), (le, .inl (cs 5, 4, .inr (.inr (.inr (.inr (rowsF 4 lr)))))), ((lr 0), .inl (cs 1, 12, .inr (.inl (flr 0)))), ((lr 1), .inl (cs 1, 12, .inr (.inl (flr 1)))), ((lr 2), .inl (cs 1, 12, .inr (.inl (flr 2)))), ((lr 3), .inl (cs 1, 12, .inr (.inl (flr 3)))), (ne, .inl (cs 1, 12, .inr (.inl fne))), (tr, .inl (cs 0, 4, .inl ftr))] s.heap := hP
  have hl := lv_entry ([.ref ch, .ref h0, .ref ma]) (n := 3) (Nat.le_of_ble_eq_true rfl)
  rw [show entryFrame m args 3 = F0 m 0 (lg_sl ([.ref ch, .ref h0, .ref ma]) ++ List.replicate (3 - (lg_sl ([.ref ch, .ref h0, .ref ma])).length) Slot.unset).toArray [] from by rw [hargs]; exact lg_entry_eq ..]
  generalize (lg_sl ([.ref ch, .ref h0, .ref ma]) ++ List.replicate (3 - (lg_sl ([.ref ch, .ref h0, .ref ma])).length) Slot.unset).toArray = ls at hl ⊢
  have hl : lv_has ls 3 [(0, .ref ch), (1, .ref h0), (2, .ref ma)] := hl
  refine W_genQ (fun Q hQ => ?_)
  have hlm := lim_le hP4
  have hlq := lim_pos P
  have hsg := sgn_le hP4
  refine lv_aload_n hx hb dX0_truthRests_0 rfl (lv_at hl 0 rfl) ?_
  refine va_get (D := D) (ci := 0) (v := .ref tr) (C := RX0) (T := TX0) (N := 12) hx hb hg gwX0 hown hK hP 0 rfl rfl 8 (by decide) (hg _ kw_251) (fun _ h9 => h9) rfl dX0_truthRests_1 ?_
  refine lv_iconst (v := 0) hx hb dX0_truthRests_4 (by decide) ?_
  refine lv_iconst (v := 1) hx hb dX0_truthRests_5 (by decide) ?_
  refine va_iast hx hb hK hP hD hS 11 0 rfl rfl (show ¬ ((0 : Int32) < 0 ∨ 4 ≤ (0 : Int32).toNatClampNeg) by decide) dX0_truthRests_6 (fun H locs hP hD hS => ?_)
  obtain ⟨f_6, hf_6⟩ : ∃ f9, f9 = (upd ftr (0 : Int32).toNatClampNeg 1) := ⟨_, rfl⟩
  rw [← hf_6] at hP hD
  have hP : va_P D vwCl [(ch, .inr (0, [.ref aq, .ref sm, .ref tb, .ref ck, .ref cm, .ref le, .ref ne, .ref pr, .ref tr, .ref ln, .int trs, .long lpr])), (h0, .inr (ci, [.ref nq, av, .int rk])), (nq, .inl (cs 0, 4, .inl fq)), (aq, .inr (5, [.ref aw, .ref ac, .ref ao, .ref am, .int (nI C), .int (nI P), .long tot])), (ma, .inl (cs 1, 16, .inr (.inl fma))), (le, .inl (cs 5, 4, .inr (.inr (.inr (.inr (rowsF 4 lr)))))), ((lr 0), .inl (cs 1, 12, .inr (.inl (flr 0)))), ((lr 1), .inl (cs 1, 12, .inr (.inl (flr 1)))), ((lr 2), .inl (cs 1, 12, .inr (.inl (flr 2)))), ((lr 3), .inl (cs 1, 12, .inr (.inl (flr 3)))), (ne, .inl (cs 1, 12, .inr (.inl fne))), (tr, .inl (cs 0, 4, .inl f_6))] H := hP
  have hD : va_D A [(ch, .inr (0, [.ref aq, .ref sm, .ref tb, .ref ck, .ref cm, .ref le, .ref ne, .ref pr, .ref tr, .ref ln, .int trs, .long lpr])), (h0, .inr (ci, [.ref nq, av, .int rk])), (nq, .inl (cs 0, 4, .inl fq)), (aq, .inr (5, [.ref aw, .ref ac, .ref ao, .ref am, .int (nI C), .int (nI P), .long tot])), (ma, .inl (cs 1, 16, .inr (.inl fma))), (le, .inl (cs 5, 4, .inr (.inr (.inr (.inr (rowsF 4 lr)))))), ((lr 0), .inl (cs 1, 12, .inr (.inl (flr 0)))), ((lr 1), .inl (cs 1, 12, .inr (.inl (flr 1)))), ((lr 2), .inl (cs 1, 12, .inr (.inl (flr 2)))), ((lr 3), .inl (cs 1, 12, .inr (.inl (flr 3)))), (ne, .inl (cs 1, 12, .inr (.inl fne))), (tr, .inl (cs 0, 4, .inl f_6))] := hD
  refine lv_aload_n hx hb dX0_truthRests_7 rfl (lv_at hl 0 rfl) ?_
  refine lv_aload_n hx hb dX0_truthRests_8 rfl (lv_at hl 1 rfl) ?_
  refine lv_aload_n hx hb dX0_truthRests_9 rfl (lv_at hl 2 rfl) ?_
  refine lv_aload_n hx hb dX0_truthRests_10 rfl (lv_at hl 0 rfl) ?_
  refine va_get (D := D) (ci := 0) (v := .ref le) (C := RX0) (T := TX0) (N := 12) hx hb hg gwX0 hown hK hP 0 rfl rfl 5 (by decide) (hg _ kw_252) (fun _ h9 => h9) rfl dX0_truthRests_11 ?_
  refine lv_iconst (v := 0) hx hb dX0_truthRests_14 (by decide) ?_
  refine va_aldR (k := 0) hx hb hK hP 5 5 rfl rfl (show 0 < 4 by omega) (by decide) dX0_truthRests_15 ?_
  have hPc := hP.sub (ws' := [(ch, .inr (0, [.ref aq, .ref sm, .ref tb, .ref ck, .ref cm, .ref le, .ref ne, .ref pr, .ref tr, .ref ln, .int trs, .long lpr])), (h0, .inr (ci, [.ref nq, av, .int rk])), (nq, .inl (cs 0, 4, .inl fq)), (aq, .inr (5, [.ref aw, .ref ac, .ref ao, .ref am, .int (nI C), .int (nI P), .long tot])), (ma, .inl (cs 1, 16, .inr (.inl fma))), ((lr 0), .inl (cs 1, 12, .inr (.inl (flr 0))))]) [0, 1, 2, 3, 4, 6] rfl
  have hDc := hD.sub (ws' := [(ch, .inr (0, [.ref aq, .ref sm, .ref tb, .ref ck, .ref cm, .ref le, .ref ne, .ref pr, .ref tr, .ref ln, .int trs, .long lpr])), (h0, .inr (ci, [.ref nq, av, .int rk])), (nq, .inl (cs 0, 4, .inl fq)), (aq, .inr (5, [.ref aw, .ref ac, .ref ao, .ref am, .int (nI C), .int (nI P), .long tot])), (ma, .inl (cs 1, 16, .inr (.inl fma))), ((lr 0), .inl (cs 1, 12, .inr (.inl (flr 0))))]) [0, 1, 2, 3, 4, 6] (by decide) rfl
  have hFc := va_free (wc := [(ch, .inr (0, [.ref aq, .ref sm, .ref tb, .ref ck, .ref cm, .ref le, .ref ne, .ref pr, .ref tr, .ref ln, .int trs, .long lpr])), (h0, .inr (ci, [.ref nq, av, .int rk])), (nq, .inl (cs 0, 4, .inl fq)), (aq, .inr (5, [.ref aw, .ref ac, .ref ao, .ref am, .int (nI C), .int (nI P), .long tot])), (ma, .inl (cs 1, 16, .inr (.inl fma))), ((lr 0), .inl (cs 1, 12, .inr (.inl (flr 0))))]) hD hS hA [0, 1, 2, 3, 4, 6] rfl
  refine va_callv (va_runV (As := [.ref h0, .ref ma, .ref (lr 0)]) (rest := []) ⟨hx, hb, hml, hown, hg⟩ (h_fillLeads l D cs ch sm tb ck cm le ne pr tr ln trs lpr h0 nq av rk ci hci fq aq aw ac ao am C (by omega) P (by omega) tot ma (lr 0) fma (flr 0) _) (cwV 3 hg (gw_V kw_265 kw_266 kw_267 kw_268 kw_264) rfl rfl rfl (by decide +kernel) ⟨(Nat.le_of_ble_eq_true rfl), (Nat.le_of_ble_eq_true rfl)⟩) (pr_MV (q := (RX0, TX0, 12)) 0 0 hK hPc hDc rfl rfl) rfl rfl hl.1 rfl (lv_room (Nat.le_of_ble_eq_true rfl)) dX0_truthRests_16 ⟨(Nat.le_of_ble_eq_true rfl), (Nat.le_of_ble_eq_true rfl)⟩) hS (fun q _ h => hFc q h) hFc (fun u t H1 locs ht hvm h_16 hB hz1 hk1 hS => ?_)
  obtain ⟨ffd2_16, hP1, hD1⟩ := hB
  rw [ht] at hP1
  obtain ⟨hP, hD⟩ := va_join (wr := [(le, .inl (cs 5, 4, .inr (.inr (.inr (.inr (rowsF 4 lr)))))), ((lr 1), .inl (cs 1, 12, .inr (.inl (flr 1)))), ((lr 2), .inl (cs 1, 12, .inr (.inl (flr 2)))), ((lr 3), .inl (cs 1, 12, .inr (.inl (flr 3)))), (ne, .inl (cs 1, 12, .inr (.inl fne))), (tr, .inl (cs 0, 4, .inl f_6))]) (w1 := [(ch, .inr (0, [.ref aq, .ref sm, .ref tb, .ref ck, .ref cm, .ref le, .ref ne, .ref pr, .ref tr, .ref ln, .int trs, .long lpr])), (h0, .inr (ci, [.ref nq, av, .int rk])), (nq, .inl (cs 0, 4, .inl fq)), (aq, .inr (5, [.ref aw, .ref ac, .ref ao, .ref am, .int (nI C), .int (nI P), .long tot])), (ma, .inl (cs 1, 16, .inr (.inl fma))), ((lr 0), .inl (cs 1, 12, .inr (.inl ffd2_16)))]) hP hD [0, 1, 2, 3, 4, 6] [5, 7, 8, 9, 10, 11] rfl rfl (by decide) (by decide) hk1 hFc hP1 hD1
  generalize H1 = H at hP hS ⊢
  have hP : va_P D vwCl [(le, .inl (cs 5, 4, .inr (.inr (.inr (.inr (rowsF 4 lr)))))), ((lr 1), .inl (cs 1, 12, .inr (.inl (flr 1)))), ((lr 2), .inl (cs 1, 12, .inr (.inl (flr 2)))), ((lr 3), .inl (cs 1, 12, .inr (.inl (flr 3)))), (ne, .inl (cs 1, 12, .inr (.inl fne))), (tr, .inl (cs 0, 4, .inl f_6)), (ch, .inr (0, [.ref aq, .ref sm, .ref tb, .ref ck, .ref cm, .ref le, .ref ne, .ref pr, .ref tr, .ref ln, .int trs, .long lpr])), (h0, .inr (ci, [.ref nq, av, .int rk])), (nq, .inl (cs 0, 4, .inl fq)), (aq, .inr (5, [.ref aw, .ref ac, .ref ao, .ref am, .int (nI C), .int (nI P), .long tot])), (ma, .inl (cs 1, 16, .inr (.inl fma))), ((lr 0), .inl (cs 1, 12, .inr (.inl ffd2_16)))] H := hP
  have hD : va_D A [(le, .inl (cs 5, 4, .inr (.inr (.inr (.inr (rowsF 4 lr)))))), ((lr 1), .inl (cs 1, 12, .inr (.inl (flr 1)))), ((lr 2), .inl (cs 1, 12, .inr (.inl (flr 2)))), ((lr 3), .inl (cs 1, 12, .inr (.inl (flr 3)))), (ne, .inl (cs 1, 12, .inr (.inl fne))), (tr, .inl (cs 0, 4, .inl f_6)), (ch, .inr (0, [.ref aq, .ref sm, .ref tb, .ref ck, .ref cm, .ref le, .ref ne, .ref pr, .ref tr, .ref ln, .int trs, .long lpr])), (h0, .inr (ci, [.ref nq, av, .int rk])), (nq, .inl (cs 0, 4, .inl fq)), (aq, .inr (5, [.ref aw, .ref ac, .ref ao, .ref am, .int (nI C), .int (nI P), .long tot])), (ma, .inl (cs 1, 16, .inr (.inl fma))), ((lr 0), .inl (cs 1, 12, .inr (.inl ffd2_16)))] := hD
  refine W.cs (cells' := 0) (slots' := 0) rfl rfl ?_
  obtain ⟨frlr_16, hfrlr_16⟩ : ∃ f9, f9 = va_up flr 0 ffd2_16 := ⟨_, rfl⟩
  have hP : va_P D vwCl [(le, .inl (cs 5, 4, .inr (.inr (.inr (.inr (rowsF 4 lr)))))), ((lr 1), .inl (cs 1, 12, .inr (.inl (frlr_16 1)))), ((lr 2), .inl (cs 1, 12, .inr (.inl (frlr_16 2)))), ((lr 3), .inl (cs 1, 12, .inr (.inl (frlr_16 3)))), (ne, .inl (cs 1, 12, .inr (.inl fne))), (tr, .inl (cs 0, 4, .inl f_6)), (ch, .inr (0, [.ref aq, .ref sm, .ref tb, .ref ck, .ref cm, .ref le, .ref ne, .ref pr, .ref tr, .ref ln, .int trs, .long lpr])), (h0, .inr (ci, [.ref nq, av, .int rk])), (nq, .inl (cs 0, 4, .inl fq)), (aq, .inr (5, [.ref aw, .ref ac, .ref ao, .ref am, .int (nI C), .int (nI P), .long tot])), (ma, .inl (cs 1, 16, .inr (.inl fma))), ((lr 0), .inl (cs 1, 12, .inr (.inl (frlr_16 0))))] H := by rw [hfrlr_16]; exact hP
  have hD : va_D A [(le, .inl (cs 5, 4, .inr (.inr (.inr (.inr (rowsF 4 lr)))))), ((lr 1), .inl (cs 1, 12, .inr (.inl (frlr_16 1)))), ((lr 2), .inl (cs 1, 12, .inr (.inl (frlr_16 2)))), ((lr 3), .inl (cs 1, 12, .inr (.inl (frlr_16 3)))), (ne, .inl (cs 1, 12, .inr (.inl fne))), (tr, .inl (cs 0, 4, .inl f_6)), (ch, .inr (0, [.ref aq, .ref sm, .ref tb, .ref ck, .ref cm, .ref le, .ref ne, .ref pr, .ref tr, .ref ln, .int trs, .long lpr])), (h0, .inr (ci, [.ref nq, av, .int rk])), (nq, .inl (cs 0, 4, .inl fq)), (aq, .inr (5, [.ref aw, .ref ac, .ref ao, .ref am, .int (nI C), .int (nI P), .long tot])), (ma, .inl (cs 1, 16, .inr (.inl fma))), ((lr 0), .inl (cs 1, 12, .inr (.inl (frlr_16 0))))] := by rw [hfrlr_16]; exact hD
  refine lv_aload_n hx hb dX0_truthRests_19 rfl (lv_at hl 0 rfl) ?_
  refine lv_iconst (v := 1) hx hb dX0_truthRests_20 (by decide) ?_
  have hPc := hP.sub (ws' := [(ch, .inr (0, [.ref aq, .ref sm, .ref tb, .ref ck, .ref cm, .ref le, .ref ne, .ref pr, .ref tr, .ref ln, .int trs, .long lpr])), (aq, .inr (5, [.ref aw, .ref ac, .ref ao, .ref am, .int (nI C), .int (nI P), .long tot])), (le, .inl (cs 5, 4, .inr (.inr (.inr (.inr (rowsF 4 lr)))))), ((lr 0), .inl (cs 1, 12, .inr (.inl (frlr_16 0)))), ((lr 1), .inl (cs 1, 12, .inr (.inl (frlr_16 1)))), ((lr 2), .inl (cs 1, 12, .inr (.inl (frlr_16 2)))), ((lr 3), .inl (cs 1, 12, .inr (.inl (frlr_16 3)))), (ne, .inl (cs 1, 12, .inr (.inl fne))), (tr, .inl (cs 0, 4, .inl f_6))]) [6, 9, 0, 11, 1, 2, 3, 4, 5] rfl
  refine vp_callSi (W.runV (As := [.int 1]) (rest := []) ⟨hx, hb, hml, hown, hg⟩ (h_triedRests_1 l D cs ch sm tb ck cm le ne pr tr ln trs lpr aq aw ac ao am C (by omega) P (by omega) tot lr frlr_16 fne f_6) (cwV 1 hg (gw_V kw_274 kw_275 kw_276 kw_268 kw_273) rfl rfl rfl (by decide +kernel) ⟨(Nat.le_of_ble_eq_true rfl), (Nat.le_of_ble_eq_true rfl)⟩) (pr_SV (q := (RX0, TX0, 12)) 0 0 hK hPc rfl rfl) rfl rfl hl.1 rfl (lv_room (Nat.le_of_ble_eq_true rfl)) dX0_truthRests_21 ⟨(Nat.le_of_ble_eq_true rfl), (Nat.le_of_ble_eq_true rfl)⟩) (fun r_21 h_21 => ?_)
  rcases h_21 with rfl | rfl
  · refine lv_if_eq (tgt := 31) hx hb dX0_truthRests_24 (by decide) (fun c_24 => ?_) (fun c_24 => absurd c_24 (by decide))
    refine lv_iconst (v := 0) hx hb dX0_truthRests_31 (by decide) ?_
    refine W_sQ hQ ?_
    refine W.widen (k := 0) (n := 0) (Nat.le_of_ble_eq_true rfl) (Nat.le_of_ble_eq_true rfl) ?_
    have hP9 := hP.sub (ws' := [(ch, .inr (0, [.ref aq, .ref sm, .ref tb, .ref ck, .ref cm, .ref le, .ref ne, .ref pr, .ref tr, .ref ln, .int trs, .long lpr])), (h0, .inr (ci, [.ref nq, av, .int rk])), (nq, .inl (cs 0, 4, .inl fq)), (aq, .inr (5, [.ref aw, .ref ac, .ref ao, .ref am, .int (nI C), .int (nI P), .long tot])), (ma, .inl (cs 1, 16, .inr (.inl fma))), (le, .inl (cs 5, 4, .inr (.inr (.inr (.inr (rowsF 4 lr)))))), ((lr 0), .inl (cs 1, 12, .inr (.inl (frlr_16 0)))), ((lr 1), .inl (cs 1, 12, .inr (.inl (frlr_16 1)))), ((lr 2), .inl (cs 1, 12, .inr (.inl (frlr_16 2)))), ((lr 3), .inl (cs 1, 12, .inr (.inl (frlr_16 3)))), (ne, .inl (cs 1, 12, .inr (.inl fne))), (tr, .inl (cs 0, 4, .inl f_6))]) [6, 7, 8, 9, 10, 0, 11, 1, 2, 3, 4, 5] rfl
    have hD9 := hD.sub (ws' := [(ch, .inr (0, [.ref aq, .ref sm, .ref tb, .ref ck, .ref cm, .ref le, .ref ne, .ref pr, .ref tr, .ref ln, .int trs, .long lpr])), (h0, .inr (ci, [.ref nq, av, .int rk])), (nq, .inl (cs 0, 4, .inl fq)), (aq, .inr (5, [.ref aw, .ref ac, .ref ao, .ref am, .int (nI C), .int (nI P), .long tot])), (ma, .inl (cs 1, 16, .inr (.inl fma))), (le, .inl (cs 5, 4, .inr (.inr (.inr (.inr (rowsF 4 lr)))))), ((lr 0), .inl (cs 1, 12, .inr (.inl (frlr_16 0)))), ((lr 1), .inl (cs 1, 12, .inr (.inl (frlr_16 1)))), ((lr 2), .inl (cs 1, 12, .inr (.inl (frlr_16 2)))), ((lr 3), .inl (cs 1, 12, .inr (.inl (frlr_16 3)))), (ne, .inl (cs 1, 12, .inr (.inl fne))), (tr, .inl (cs 0, 4, .inl f_6))]) [6, 7, 8, 9, 10, 0, 11, 1, 2, 3, 4, 5] (by decide) rfl
    exact W.iret (v := 0) hx hb hr (fun t ht hW => ⟨⟨0, (), rfl, trivial, ⟨f_6, frlr_16, by rw [ht]; exact hP9, hD9⟩⟩, hS.F ht⟩) hS.2.2 dX0_truthRests_32
  · refine lv_if_eq (tgt := 31) hx hb dX0_truthRests_24 (by decide) (fun c_24 => absurd c_24 (by decide)) (fun c_24 => ?_)
    refine lv_iconst (v := 1) hx hb dX0_truthRests_27 (by decide) ?_
    refine lv_goto (tgt := 32) hx hb dX0_truthRests_28 (by decide) ?_
    refine W_sQ hQ ?_
    refine W.widen (k := 0) (n := 0) (Nat.le_of_ble_eq_true rfl) (Nat.le_of_ble_eq_true rfl) ?_
    have hP9 := hP.sub (ws' := [(ch, .inr (0, [.ref aq, .ref sm, .ref tb, .ref ck, .ref cm, .ref le, .ref ne, .ref pr, .ref tr, .ref ln, .int trs, .long lpr])), (h0, .inr (ci, [.ref nq, av, .int rk])), (nq, .inl (cs 0, 4, .inl fq)), (aq, .inr (5, [.ref aw, .ref ac, .ref ao, .ref am, .int (nI C), .int (nI P), .long tot])), (ma, .inl (cs 1, 16, .inr (.inl fma))), (le, .inl (cs 5, 4, .inr (.inr (.inr (.inr (rowsF 4 lr)))))), ((lr 0), .inl (cs 1, 12, .inr (.inl (frlr_16 0)))), ((lr 1), .inl (cs 1, 12, .inr (.inl (frlr_16 1)))), ((lr 2), .inl (cs 1, 12, .inr (.inl (frlr_16 2)))), ((lr 3), .inl (cs 1, 12, .inr (.inl (frlr_16 3)))), (ne, .inl (cs 1, 12, .inr (.inl fne))), (tr, .inl (cs 0, 4, .inl f_6))]) [6, 7, 8, 9, 10, 0, 11, 1, 2, 3, 4, 5] rfl
    have hD9 := hD.sub (ws' := [(ch, .inr (0, [.ref aq, .ref sm, .ref tb, .ref ck, .ref cm, .ref le, .ref ne, .ref pr, .ref tr, .ref ln, .int trs, .long lpr])), (h0, .inr (ci, [.ref nq, av, .int rk])), (nq, .inl (cs 0, 4, .inl fq)), (aq, .inr (5, [.ref aw, .ref ac, .ref ao, .ref am, .int (nI C), .int (nI P), .long tot])), (ma, .inl (cs 1, 16, .inr (.inl fma))), (le, .inl (cs 5, 4, .inr (.inr (.inr (.inr (rowsF 4 lr)))))), ((lr 0), .inl (cs 1, 12, .inr (.inl (frlr_16 0)))), ((lr 1), .inl (cs 1, 12, .inr (.inl (frlr_16 1)))), ((lr 2), .inl (cs 1, 12, .inr (.inl (frlr_16 2)))), ((lr 3), .inl (cs 1, 12, .inr (.inl (frlr_16 3)))), (ne, .inl (cs 1, 12, .inr (.inl fne))), (tr, .inl (cs 0, 4, .inl f_6))]) [6, 7, 8, 9, 10, 0, 11, 1, 2, 3, 4, 5] (by decide) rfl
    exact W.iret (v := 1) hx hb hr (fun t ht hW => ⟨⟨1, (), rfl, trivial, ⟨f_6, frlr_16, by rw [ht]; exact hP9, hD9⟩⟩, hS.F ht⟩) hS.2.2 dX0_truthRests_32

theorem dX0_countMayBe_0 : decode cX0_countMayBe 0 = .ok (.aload_n 0, 1) := by decide +kernel
theorem dX0_countMayBe_1 : decode cX0_countMayBe 1 = .ok (.aload_n 1, 1) := by decide +kernel
theorem dX0_countMayBe_2 : decode cX0_countMayBe 2 = .ok (.invokevirtual 71, 3) := by decide +kernel
theorem dX0_countMayBe_5 : decode cX0_countMayBe 5 = .ok (.aload_n 0, 1) := by decide +kernel
theorem dX0_countMayBe_6 : decode cX0_countMayBe 6 = .ok (.aload_n 1, 1) := by decide +kernel
theorem dX0_countMayBe_7 : decode cX0_countMayBe 7 = .ok (.aload_n 0, 1) := by decide +kernel
theorem dX0_countMayBe_8 : decode cX0_countMayBe 8 = .ok (.getfield 54, 3) := by decide +kernel
theorem dX0_countMayBe_11 : decode cX0_countMayBe 11 = .ok (.getfield 62, 3) := by decide +kernel
theorem dX0_countMayBe_14 : decode cX0_countMayBe 14 = .ok (.invokevirtual 101, 3) := by decide +kernel
theorem dX0_countMayBe_17 : decode cX0_countMayBe 17 = .ok (.istore_n 3, 1) := by decide +kernel
theorem dX0_countMayBe_18 : decode cX0_countMayBe 18 = .ok (.iconst 0, 1) := by decide +kernel
theorem dX0_countMayBe_19 : decode cX0_countMayBe 19 = .ok (.istore 4, 2) := by decide +kernel
theorem dX0_countMayBe_21 : decode cX0_countMayBe 21 = .ok (.iload 4, 2) := by decide +kernel
theorem dX0_countMayBe_23 : decode cX0_countMayBe 23 = .ok (.aload_n 0, 1) := by decide +kernel
theorem dX0_countMayBe_24 : decode cX0_countMayBe 24 = .ok (.getfield 54, 3) := by decide +kernel
theorem dX0_countMayBe_27 : decode cX0_countMayBe 27 = .ok (.getfield 105, 3) := by decide +kernel
theorem dX0_countMayBe_30 : decode cX0_countMayBe 30 = .ok (.if_icmp .ge 102, 3) := by decide +kernel
theorem dX0_countMayBe_33 : decode cX0_countMayBe 33 = .ok (.iconst 0, 1) := by decide +kernel
theorem dX0_countMayBe_34 : decode cX0_countMayBe 34 = .ok (.istore 5, 2) := by decide +kernel
theorem dX0_countMayBe_36 : decode cX0_countMayBe 36 = .ok (.iload 5, 2) := by decide +kernel
theorem dX0_countMayBe_38 : decode cX0_countMayBe 38 = .ok (.aload_n 0, 1) := by decide +kernel
theorem dX0_countMayBe_39 : decode cX0_countMayBe 39 = .ok (.getfield 54, 3) := by decide +kernel
theorem dX0_countMayBe_42 : decode cX0_countMayBe 42 = .ok (.getfield 108, 3) := by decide +kernel
theorem dX0_countMayBe_45 : decode cX0_countMayBe 45 = .ok (.if_icmp .ge 81, 3) := by decide +kernel
theorem dX0_countMayBe_48 : decode cX0_countMayBe 48 = .ok (.aload_n 0, 1) := by decide +kernel
theorem dX0_countMayBe_49 : decode cX0_countMayBe 49 = .ok (.getfield 54, 3) := by decide +kernel
theorem dX0_countMayBe_52 : decode cX0_countMayBe 52 = .ok (.getfield 111, 3) := by decide +kernel
theorem dX0_countMayBe_55 : decode cX0_countMayBe 55 = .ok (.iload 4, 2) := by decide +kernel
theorem dX0_countMayBe_57 : decode cX0_countMayBe 57 = .ok (.aaload, 1) := by decide +kernel
theorem dX0_countMayBe_58 : decode cX0_countMayBe 58 = .ok (.iload 5, 2) := by decide +kernel
theorem dX0_countMayBe_60 : decode cX0_countMayBe 60 = .ok (.iaload, 1) := by decide +kernel
theorem dX0_countMayBe_61 : decode cX0_countMayBe 61 = .ok (.istore 6, 2) := by decide +kernel
theorem dX0_countMayBe_63 : decode cX0_countMayBe 63 = .ok (.aload_n 0, 1) := by decide +kernel
theorem dX0_countMayBe_64 : decode cX0_countMayBe 64 = .ok (.iload 4, 2) := by decide +kernel
theorem dX0_countMayBe_66 : decode cX0_countMayBe 66 = .ok (.iload 5, 2) := by decide +kernel
theorem dX0_countMayBe_68 : decode cX0_countMayBe 68 = .ok (.iconst 0, 1) := by decide +kernel
theorem dX0_countMayBe_69 : decode cX0_countMayBe 69 = .ok (.iload 6, 2) := by decide +kernel
theorem dX0_countMayBe_71 : decode cX0_countMayBe 71 = .ok (.iload_n 2, 1) := by decide +kernel
theorem dX0_countMayBe_72 : decode cX0_countMayBe 72 = .ok (.isub, 1) := by decide +kernel
theorem dX0_countMayBe_73 : decode cX0_countMayBe 73 = .ok (.invokestatic 115, 3) := by decide +kernel
theorem dX0_countMayBe_76 : decode cX0_countMayBe 76 = .ok (.invokevirtual 121, 3) := by decide +kernel
theorem dX0_countMayBe_79 : decode cX0_countMayBe 79 = .ok (.iload_n 3, 1) := by decide +kernel
theorem dX0_countMayBe_80 : decode cX0_countMayBe 80 = .ok (.aload_n 0, 1) := by decide +kernel
theorem dX0_countMayBe_81 : decode cX0_countMayBe 81 = .ok (.aload_n 1, 1) := by decide +kernel
theorem dX0_countMayBe_82 : decode cX0_countMayBe 82 = .ok (.aload_n 0, 1) := by decide +kernel
theorem dX0_countMayBe_83 : decode cX0_countMayBe 83 = .ok (.getfield 32, 3) := by decide +kernel
theorem dX0_countMayBe_86 : decode cX0_countMayBe 86 = .ok (.invokevirtual 101, 3) := by decide +kernel
theorem dX0_countMayBe_89 : decode cX0_countMayBe 89 = .ok (.iadd, 1) := by decide +kernel
theorem dX0_countMayBe_90 : decode cX0_countMayBe 90 = .ok (.istore_n 3, 1) := by decide +kernel
theorem dX0_countMayBe_91 : decode cX0_countMayBe 91 = .ok (.aload_n 0, 1) := by decide +kernel
theorem dX0_countMayBe_92 : decode cX0_countMayBe 92 = .ok (.iload 4, 2) := by decide +kernel
theorem dX0_countMayBe_94 : decode cX0_countMayBe 94 = .ok (.iload 5, 2) := by decide +kernel
theorem dX0_countMayBe_96 : decode cX0_countMayBe 96 = .ok (.bipush 100, 2) := by decide +kernel
theorem dX0_countMayBe_98 : decode cX0_countMayBe 98 = .ok (.iload 6, 2) := by decide +kernel
theorem dX0_countMayBe_100 : decode cX0_countMayBe 100 = .ok (.iload_n 2, 1) := by decide +kernel
theorem dX0_countMayBe_101 : decode cX0_countMayBe 101 = .ok (.iadd, 1) := by decide +kernel
theorem dX0_countMayBe_102 : decode cX0_countMayBe 102 = .ok (.invokestatic 125, 3) := by decide +kernel
theorem dX0_countMayBe_105 : decode cX0_countMayBe 105 = .ok (.invokevirtual 121, 3) := by decide +kernel
theorem dX0_countMayBe_108 : decode cX0_countMayBe 108 = .ok (.iload_n 3, 1) := by decide +kernel
theorem dX0_countMayBe_109 : decode cX0_countMayBe 109 = .ok (.aload_n 0, 1) := by decide +kernel
theorem dX0_countMayBe_110 : decode cX0_countMayBe 110 = .ok (.aload_n 1, 1) := by decide +kernel
theorem dX0_countMayBe_111 : decode cX0_countMayBe 111 = .ok (.aload_n 0, 1) := by decide +kernel
theorem dX0_countMayBe_112 : decode cX0_countMayBe 112 = .ok (.getfield 32, 3) := by decide +kernel
theorem dX0_countMayBe_115 : decode cX0_countMayBe 115 = .ok (.invokevirtual 101, 3) := by decide +kernel
theorem dX0_countMayBe_118 : decode cX0_countMayBe 118 = .ok (.iadd, 1) := by decide +kernel
theorem dX0_countMayBe_119 : decode cX0_countMayBe 119 = .ok (.istore_n 3, 1) := by decide +kernel
theorem dX0_countMayBe_120 : decode cX0_countMayBe 120 = .ok (.iinc 5 1, 3) := by decide +kernel
theorem dX0_countMayBe_123 : decode cX0_countMayBe 123 = .ok (.goto (-87), 3) := by decide +kernel
theorem dX0_countMayBe_126 : decode cX0_countMayBe 126 = .ok (.iinc 4 1, 3) := by decide +kernel
theorem dX0_countMayBe_129 : decode cX0_countMayBe 129 = .ok (.goto (-108), 3) := by decide +kernel
theorem dX0_countMayBe_132 : decode cX0_countMayBe 132 = .ok (.iload_n 3, 1) := by decide +kernel
theorem dX0_countMayBe_133 : decode cX0_countMayBe 133 = .ok (.ireturn, 1) := by decide +kernel
theorem kw_302 : (.code yX0_truthRests cX0_truthRests 3 (some .int) : Cond) ∈ gw_tbl := gw_in (by decide +kernel) (by decide +kernel)
theorem kw_303 : (.methodLink RX0 101 yX0_truthRests : Cond) ∈ gw_tbl := gw_in (by decide +kernel) (by decide +kernel)
theorem kw_304 : (.instanceMethod yX0_truthRests : Cond) ∈ gw_tbl := gw_in (by decide +kernel) (by decide +kernel)
theorem kw_305 : (.selects RX0 yX0_truthRests yX0_truthRests : Cond) ∈ gw_tbl := gw_in (by decide +kernel) (by decide +kernel)
theorem kw_306 : (.fieldLink RX0 105 "NobodyChecks$Question" "cases" "I" : Cond) ∈ gw_tbl := gw_in (by decide +kernel) (by decide +kernel)
theorem kw_307 : (.methodLink RX0 115 Lib.Math.max.name : Cond) ∈ gw_tbl := gw_in (by decide +kernel) (by decide +kernel)
theorem kw_308 : (.code yX0_fillChangedMass cX0_fillChangedMass 5 none : Cond) ∈ gw_tbl := gw_in (by decide +kernel) (by decide +kernel)
theorem kw_309 : (.methodLink RX0 121 yX0_fillChangedMass : Cond) ∈ gw_tbl := gw_in (by decide +kernel) (by decide +kernel)
theorem kw_310 : (.instanceMethod yX0_fillChangedMass : Cond) ∈ gw_tbl := gw_in (by decide +kernel) (by decide +kernel)
theorem kw_311 : (.selects RX0 yX0_fillChangedMass yX0_fillChangedMass : Cond) ∈ gw_tbl := gw_in (by decide +kernel) (by decide +kernel)
theorem kw_312 : (.methodLink RX0 125 Lib.Math.min.name : Cond) ∈ gw_tbl := gw_in (by decide +kernel) (by decide +kernel)
theorem kw_313 : (.static Lib.Math.min.name : Cond) ∈ gw_tbl := gw_in (by decide +kernel) (by decide +kernel)
theorem kw_314 : (.code Lib.Math.min.name Lib.Math.min.code 2 (some .int) : Cond) ∈ gw_tbl := gw_in (by decide +kernel) (by decide +kernel)

set_option maxHeartbeats 4000000 in
set_option maxRecDepth 100000 in
theorem h_countMayBe (l : Launch) (D : va_G) (cs : Nat → ClassId) (ch : Nat) (sm : Nat) (tb : Nat) (ck : Nat) (cm : Nat) (le : Nat) (ne : Nat) (pr : Nat) (tr : Nat) (ln : Nat) (trs : Int32) (lpr : Int64) (h0 : Nat) (nq : Nat) (av : Value) (rk : Int32) (ci : Nat) (hci : isPy ci) (fq : Nat → Int32) (aq : Nat) (aw : Nat) (ac : Nat) (ao : Nat) (am : Nat) (C : Nat) (hC5 : C ≤ 5) (P : Nat) (hP4 : P ≤ 4) (tot : Int64) (ar : Nat → Nat) (far : Nat → Nat → Int32) (faw : Nat → Int32) (fao : Nat → Int32) (fam : Nat → Int64) (fcm : Nat → Int64) (lr : Nat → Nat) (flr : Nat → Nat → Int64) (fne : Nat → Int64) (ftr : Nat → Int32) (ee : Int32) (sz : Nat) : Met l yX0_countMayBe (Cond.code yX0_countMayBe cX0_countMayBe 7 (some .int) :: gw_tbl) ({ frames := 5, cells := 0, slots := 0, locals := 137 }) (pc_M D cs [(ch, .inr (0, [.ref aq, .ref sm, .ref tb, .ref ck, .ref cm, .ref le, .ref ne, .ref pr, .ref tr, .ref ln, .int trs, .long lpr])), (h0, .inr (ci, [.ref nq, av, .int rk])), (nq, .inl (cs 0, 4, .inl fq)), (aq, .inr (5, [.ref aw, .ref ac, .ref ao, .ref am, .int (nI C), .int (nI P), .long tot])), (aw, .inl (cs 0, 5, .inl faw)), (ac, .inl (cs 4, 5, .inr (.inr (.inr (.inr (rowsF 5 ar)))))), ((ar 0), .inl (cs 0, 4, .inl (far 0))), ((ar 1), .inl (cs 0, 4, .inl (far 1))), ((ar 2), .inl (cs 0, 4, .inl (far 2))), ((ar 3), .inl (cs 0, 4, .inl (far 3))), ((ar 4), .inl (cs 0, 4, .inl (far 4))), (ao, .inl (cs 0, 4, .inl fao)), (am, .inl (cs 1, 16, .inr (.inl fam))), (cm, .inl (cs 1, 16, .inr (.inl fcm))), (le, .inl (cs 5, 4, .inr (.inr (.inr (.inr (rowsF 4 lr)))))), ((lr 0), .inl (cs 1, 12, .inr (.inl (flr 0)))), ((lr 1), .inl (cs 1, 12, .inr (.inl (flr 1)))), ((lr 2), .inl (cs 1, 12, .inr (.inl (flr 2)))), ((lr 3), .inl (cs 1, 12, .inr (.inl (flr 3)))), (ne, .inl (cs 1, 12, .inr (.inl fne))), (tr, .inl (cs 0, 4, .inl ftr))] sz [.ref ch, .ref h0, .int ee]) (va_Qi (fun (r : Int32) (u : Unit) => True) (fun u t => ∃ (ftr2 : Nat → Int32), ∃ (fcm2 : Nat → Int64), ∃ (fne2 : Nat → Int64), ∃ (far2 : Nat → Nat → Int32), ∃ (flr2 : Nat → Nat → Int64), va_P D vwCl [(ch, .inr (0, [.ref aq, .ref sm, .ref tb, .ref ck, .ref cm, .ref le, .ref ne, .ref pr, .ref tr, .ref ln, .int trs, .long lpr])), (h0, .inr (ci, [.ref nq, av, .int rk])), (nq, .inl (cs 0, 4, .inl fq)), (aq, .inr (5, [.ref aw, .ref ac, .ref ao, .ref am, .int (nI C), .int (nI P), .long tot])), (aw, .inl (cs 0, 5, .inl faw)), (ac, .inl (cs 4, 5, .inr (.inr (.inr (.inr (rowsF 5 ar)))))), ((ar 0), .inl (cs 0, 4, .inl (far2 0))), ((ar 1), .inl (cs 0, 4, .inl (far2 1))), ((ar 2), .inl (cs 0, 4, .inl (far2 2))), ((ar 3), .inl (cs 0, 4, .inl (far2 3))), ((ar 4), .inl (cs 0, 4, .inl (far2 4))), (ao, .inl (cs 0, 4, .inl fao)), (am, .inl (cs 1, 16, .inr (.inl fam))), (cm, .inl (cs 1, 16, .inr (.inl fcm2))), (le, .inl (cs 5, 4, .inr (.inr (.inr (.inr (rowsF 4 lr)))))), ((lr 0), .inl (cs 1, 12, .inr (.inl (flr2 0)))), ((lr 1), .inl (cs 1, 12, .inr (.inl (flr2 1)))), ((lr 2), .inl (cs 1, 12, .inr (.inl (flr2 2)))), ((lr 3), .inl (cs 1, 12, .inr (.inl (flr2 3)))), (ne, .inl (cs 1, 12, .inr (.inl fne2))), (tr, .inl (cs 0, 4, .inl ftr2))] t.heap ∧ va_D (va_A [(ch, .inr (0, [.ref aq, .ref sm, .ref tb, .ref ck, .ref cm, .ref le, .ref ne, .ref pr, .ref tr, .ref ln, .int trs, .long lpr])), (h0, .inr (ci, [.ref nq, av, .int rk])), (nq, .inl (cs 0, 4, .inl fq)), (aq, .inr (5, [.ref aw, .ref ac, .ref ao, .ref am, .int (nI C), .int (nI P), .long tot])), (aw, .inl (cs 0, 5, .inl faw)), (ac, .inl (cs 4, 5, .inr (.inr (.inr (.inr (rowsF 5 ar)))))), ((ar 0), .inl (cs 0, 4, .inl (far 0))), ((ar 1), .inl (cs 0, 4, .inl (far 1))), ((ar 2), .inl (cs 0, 4, .inl (far 2))), ((ar 3), .inl (cs 0, 4, .inl (far 3))), ((ar 4), .inl (cs 0, 4, .inl (far 4))), (ao, .inl (cs 0, 4, .inl fao)), (am, .inl (cs 1, 16, .inr (.inl fam))), (cm, .inl (cs 1, 16, .inr (.inl fcm))), (le, .inl (cs 5, 4, .inr (.inr (.inr (.inr (rowsF 4 lr)))))), ((lr 0), .inl (cs 1, 12, .inr (.inl (flr 0)))), ((lr 1), .inl (cs 1, 12, .inr (.inl (flr 1)))), ((lr 2), .inl (cs 1, 12, .inr (.inl (flr 2)))), ((lr 3), .inl (cs 1, 12, .inr (.inl (flr 3)))), (ne, .inl (cs 1, 12, .inr (.inl fne))), (tr, .inl (cs 0, 4, .inl ftr))] sz) [(ch, .inr (0, [.ref aq, .ref sm, .ref tb, .ref ck, .ref cm, .ref le, .ref ne, .ref pr, .ref tr, .ref ln, .int trs, .long lpr])), (h0, .inr (ci, [.ref nq, av, .int rk])), (nq, .inl (cs 0, 4, .inl fq)), (aq, .inr (5, [.ref aw, .ref ac, .ref ao, .ref am, .int (nI C), .int (nI P), .long tot])), (aw, .inl (cs 0, 5, .inl faw)), (ac, .inl (cs 4, 5, .inr (.inr (.inr (.inr (rowsF 5 ar)))))), ((ar 0), .inl (cs 0, 4, .inl (far2 0))), ((ar 1), .inl (cs 0, 4, .inl (far2 1))), ((ar 2), .inl (cs 0, 4, .inl (far2 2))), ((ar 3), .inl (cs 0, 4, .inl (far2 3))), ((ar 4), .inl (cs 0, 4, .inl (far2 4))), (ao, .inl (cs 0, 4, .inl fao)), (am, .inl (cs 1, 16, .inr (.inl fam))), (cm, .inl (cs 1, 16, .inr (.inl fcm2))), (le, .inl (cs 5, 4, .inr (.inr (.inr (.inr (rowsF 4 lr)))))), ((lr 0), .inl (cs 1, 12, .inr (.inl (flr2 0)))), ((lr 1), .inl (cs 1, 12, .inr (.inl (flr2 1)))), ((lr 2), .inl (cs 1, 12, .inr (.inl (flr2 2)))), ((lr 3), .inl (cs 1, 12, .inr (.inl (flr2 3)))), (ne, .inl (cs 1, 12, .inr (.inl fne2))), (tr, .inl (cs 0, 4, .inl ftr2))]) (va_A [(ch, .inr (0, [.ref aq, .ref sm, .ref tb, .ref ck, .ref cm, .ref le, .ref ne, .ref pr, .ref tr, .ref ln, .int trs, .long lpr])), (h0, .inr (ci, [.ref nq, av, .int rk])), (nq, .inl (cs 0, 4, .inl fq)), (aq, .inr (5, [.ref aw, .ref ac, .ref ao, .ref am, .int (nI C), .int (nI P), .long tot])), (aw, .inl (cs 0, 5, .inl faw)), (ac, .inl (cs 4, 5, .inr (.inr (.inr (.inr (rowsF 5 ar)))))), ((ar 0), .inl (cs 0, 4, .inl (far 0))), ((ar 1), .inl (cs 0, 4, .inl (far 1))), ((ar 2), .inl (cs 0, 4, .inl (far 2))), ((ar 3), .inl (cs 0, 4, .inl (far 3))), ((ar 4), .inl (cs 0, 4, .inl (far 4))), (ao, .inl (cs 0, 4, .inl fao)), (am, .inl (cs 1, 16, .inr (.inl fam))), (cm, .inl (cs 1, 16, .inr (.inl fcm))), (le, .inl (cs 5, 4, .inr (.inr (.inr (.inr (rowsF 4 lr)))))), ((lr 0), .inl (cs 1, 12, .inr (.inl (flr 0)))), ((lr 1), .inl (cs 1, 12, .inr (.inl (flr 1)))), ((lr 2), .inl (cs 1, 12, .inr (.inl (flr 2)))), ((lr 3), .inl (cs 1, 12, .inr (.inl (flr 3)))), (ne, .inl (cs 1, 12, .inr (.inl fne))), (tr, .inl (cs 0, 4, .inl ftr))] sz)) 0 0 (va_A [(ch, .inr (0, [.ref aq, .ref sm, .ref tb, .ref ck, .ref cm, .ref le, .ref ne, .ref pr, .ref tr, .ref ln, .int trs, .long lpr])), (h0, .inr (ci, [.ref nq, av, .int rk])), (nq, .inl (cs 0, 4, .inl fq)), (aq, .inr (5, [.ref aw, .ref ac, .ref ao, .ref am, .int (nI C), .int (nI P), .long tot])), (aw, .inl (cs 0, 5, .inl faw)), (ac, .inl (cs 4, 5, .inr (.inr (.inr (.inr (rowsF 5 ar)))))), ((ar 0), .inl (cs 0, 4, .inl (far 0))), ((ar 1), .inl (cs 0, 4, .inl (far 1))), ((ar 2), .inl (cs 0, 4, .inl (far 2))), ((ar 3), .inl (cs 0, 4, .inl (far 3))), ((ar 4), .inl (cs 0, 4, .inl (far 4))), (ao, .inl (cs 0, 4, .inl fao)), (am, .inl (cs 1, 16, .inr (.inl fam))), (cm, .inl (cs 1, 16, .inr (.inl fcm))), (le, .inl (cs 5, 4, .inr (.inr (.inr (.inr (rowsF 4 lr)))))), ((lr 0), .inl (cs 1, 12, .inr (.inl (flr 0)))), ((lr 1), .inl (cs 1, 12, .inr (.inl (flr 1)))), ((lr 2), .inl (cs 1, 12, .inr (.inl (flr 2)))), ((lr 3), .inl (cs 1, 12, .inr (.inl (flr 3)))), (ne, .inl (cs 1, 12, .inr (.inl fne))), (tr, .inl (cs 0, 4, .inl ftr))] sz) := by
  refine Met.ofW (cc := cX0_countMayBe) (maxL := 7) (ret := (some .int)) (by decide) rfl ?_
  intro p e s m args below meth c s₁ B hml hv
  obtain ⟨hargs, hsz, hP, hK, hD0⟩ := hv
  have hx := B.exec
  have hb := B.bytes
  have hr := B.returns
  have hts := atoms_spec (ws := Cond.code yX0_countMayBe cX0_countMayBe 7 (some .int) :: gw_tbl) B.pre
  have hg := fun (w : Cond) (h : w ∈ gw_tbl) => hts w (List.mem_cons_of_mem _ h)
  have hown : s.vm.findClass RX0 = some m.cls := findClass_of_methodNamed B.named
  have hlocks := B.notSynchronized
  subst hsz
  have hD := hD0.self (sz := s.heap.size)
  generalize hAe : va_A [(ch, .inr (0, [.ref aq, .ref sm, .ref tb, .ref ck, .ref cm, .ref le, .ref ne, .ref pr, .ref tr, .ref ln, .int trs, .long lpr])), (h0, .inr (ci, [.ref nq, av, .int rk])), (nq, .inl (cs 0, 4, .inl fq)), (aq, .inr (5, [.ref aw, .ref ac, .ref ao, .ref am, .int (nI C), .int (nI P), .long tot])), (aw, .inl (cs 0, 5, .inl faw)), (ac, .inl (cs 4, 5, .inr (.inr (.inr (.inr (rowsF 5 ar)))))), ((ar 0), .inl (cs 0, 4, .inl (far 0))), ((ar 1), .inl (cs 0, 4, .inl (far 1))), ((ar 2), .inl (cs 0, 4, .inl (far 2))), ((ar 3), .inl (cs 0, 4, .inl (far 3))), ((ar 4), .inl (cs 0, 4, .inl (far 4))), (ao, .inl (cs 0, 4, .inl fao)), (am, .inl (cs 1, 16, .inr (.inl fam))), (cm, .inl (cs 1, 16, .inr (.inl fcm))), (le, .inl (cs 5, 4, .inr (.inr (.inr (.inr (rowsF 4 lr)))))), ((lr 0), .inl (cs 1, 12, .inr (.inl (flr 0)))), ((lr 1), .inl (cs 1, 12, .inr (.inl (flr 1)))), ((lr 2), .inl (cs 1, 12, .inr (.inl (flr 2)))), ((lr 3), .inl (cs 1, 12, .inr (.inl (flr 3)))), (ne, .inl (cs 1, 12, .inr (.inl fne))), (tr, .inl (cs 0, 4, .inl ftr))] s.heap.size = A at hD ⊢
  have hA : ∀ q : Nat, s.heap.size ≤ q → A q := fun q h => by rw [← hAe]; exact Or.inr h
  have hS : va_S A s.heap s.heap [] := va_S.rf
  have hP : va_P D vwCl [(ch, .inr (0, [.ref aq, .ref sm, .ref tb, .ref ck, .ref cm, .ref le, .ref ne, .ref pr, .ref tr, .ref ln, .int trs, .long lpr])), (h0, .inr (ci, [.ref nq, av, .int rk])), (nq, .inl (cs 0, 4, .inl fq)), (aq, .inr (5, [.ref aw, .ref ac, .ref ao, .ref am, .int (nI C), .int (nI P), .long tot])), (aw, .inl (cs 0, 5, .inl faw)), (ac, .inl (cs 4, 5, .inr (.inr (.inr (.inr (rowsF 5 ar)))))), ((ar 0), .inl (cs 0, 4, .inl (far 0))), ((ar 1), .inl (cs 0, 4, .inl (far 1))), ((ar 2), .inl (cs 0, 4, .inl (far 2))), ((ar 3), .inl (cs 0, 4, .inl (far 3))), ((ar 4), .inl (cs 0, 4, .inl (far 4))), (ao, .inl (cs 0, 4, .inl fao)), (am, .inl (cs 1, 16, .inr (.inl fam))), (cm, .inl (cs 1, 16, .inr (.inl fcm))), (le, .inl (cs 5, 4, .inr (.inr (.inr (.inr (rowsF 4 lr)))))), ((lr 0), .inl (cs 1, 12, .inr (.inl (flr 0)))), ((lr 1), .inl (cs 1, 12, .inr (.inl (flr 1)))), ((lr 2), .inl (cs 1, 12, .inr (.inl (flr 2)))), ((lr 3), .inl (cs 1, 12, .inr (.inl (flr 3)))), (ne, .inl (cs 1, 12, .inr (.inl fne))), (tr, .inl (cs 0, 4, .inl ftr))] s.heap := hP
  have hl := lv_entry ([.ref ch, .ref h0, .int ee]) (n := 7) (Nat.le_of_ble_eq_true rfl)
  rw [show entryFrame m args 7 = F0 m 0 (lg_sl ([.ref ch, .ref h0, .int ee]) ++ List.replicate (7 - (lg_sl ([.ref ch, .ref h0, .int ee])).length) Slot.unset).toArray [] from by rw [hargs]; exact lg_entry_eq ..]
  generalize (lg_sl ([.ref ch, .ref h0, .int ee]) ++ List.replicate (7 - (lg_sl ([.ref ch, .ref h0, .int ee])).length) Slot.unset).toArray = ls at hl ⊢
  have hl : lv_has ls 7 [(0, .ref ch), (1, .ref h0), (2, .int ee)] := hl
  refine W_genQ (fun Q hQ => ?_)
  have hlm := lim_le hP4
  have hlq := lim_pos P
  have hsg := sgn_le hP4
  refine lv_aload_n hx hb dX0_countMayBe_0 rfl (lv_at hl 0 rfl) ?_
  refine lv_aload_n hx hb dX0_countMayBe_1 rfl (lv_at hl 1 rfl) ?_
  have hPc := hP.sub (ws' := [(ch, .inr (0, [.ref aq, .ref sm, .ref tb, .ref ck, .ref cm, .ref le, .ref ne, .ref pr, .ref tr, .ref ln, .int trs, .long lpr])), (h0, .inr (ci, [.ref nq, av, .int rk])), (aq, .inr (5, [.ref aw, .ref ac, .ref ao, .ref am, .int (nI C), .int (nI P), .long tot])), (ao, .inl (cs 0, 4, .inl fao)), (ne, .inl (cs 1, 12, .inr (.inl fne)))]) [0, 1, 3, 11, 19] rfl
  have hDc := hD.sub (ws' := [(ch, .inr (0, [.ref aq, .ref sm, .ref tb, .ref ck, .ref cm, .ref le, .ref ne, .ref pr, .ref tr, .ref ln, .int trs, .long lpr])), (h0, .inr (ci, [.ref nq, av, .int rk])), (aq, .inr (5, [.ref aw, .ref ac, .ref ao, .ref am, .int (nI C), .int (nI P), .long tot])), (ao, .inl (cs 0, 4, .inl fao)), (ne, .inl (cs 1, 12, .inr (.inl fne)))]) [0, 1, 3, 11, 19] (by decide) rfl
  have hFc := va_free (wc := [(ch, .inr (0, [.ref aq, .ref sm, .ref tb, .ref ck, .ref cm, .ref le, .ref ne, .ref pr, .ref tr, .ref ln, .int trs, .long lpr])), (h0, .inr (ci, [.ref nq, av, .int rk])), (aq, .inr (5, [.ref aw, .ref ac, .ref ao, .ref am, .int (nI C), .int (nI P), .long tot])), (ao, .inl (cs 0, 4, .inl fao)), (ne, .inl (cs 1, 12, .inr (.inl fne)))]) hD hS hA [0, 1, 3, 11, 19] rfl
  refine va_callv (va_runV (As := [.ref h0]) (rest := []) ⟨hx, hb, hml, hown, hg⟩ (h_fillNeeds l D cs ch sm tb ck cm le ne pr tr ln trs lpr h0 nq av rk ci hci aq aw ac ao am C (by omega) P (by omega) tot fao fne _) (cwV 1 hg (gw_V kw_270 kw_271 kw_272 kw_268 kw_269) rfl rfl rfl (by decide +kernel) ⟨(Nat.le_of_ble_eq_true rfl), (Nat.le_of_ble_eq_true rfl)⟩) (pr_MV (q := (RX0, TX0, 12)) 0 0 hK hPc hDc rfl rfl) rfl rfl hl.1 rfl (lv_room (Nat.le_of_ble_eq_true rfl)) dX0_countMayBe_2 ⟨(Nat.le_of_ble_eq_true rfl), (Nat.le_of_ble_eq_true rfl)⟩) hS (fun q _ h => hFc q h) hFc (fun u t H1 locs ht hvm h_2 hB hz1 hk1 hS => ?_)
  obtain ⟨fne2_2, hP1, hD1⟩ := hB
  rw [ht] at hP1
  obtain ⟨hP, hD⟩ := va_join (wr := [(nq, .inl (cs 0, 4, .inl fq)), (aw, .inl (cs 0, 5, .inl faw)), (ac, .inl (cs 4, 5, .inr (.inr (.inr (.inr (rowsF 5 ar)))))), ((ar 0), .inl (cs 0, 4, .inl (far 0))), ((ar 1), .inl (cs 0, 4, .inl (far 1))), ((ar 2), .inl (cs 0, 4, .inl (far 2))), ((ar 3), .inl (cs 0, 4, .inl (far 3))), ((ar 4), .inl (cs 0, 4, .inl (far 4))), (am, .inl (cs 1, 16, .inr (.inl fam))), (cm, .inl (cs 1, 16, .inr (.inl fcm))), (le, .inl (cs 5, 4, .inr (.inr (.inr (.inr (rowsF 4 lr)))))), ((lr 0), .inl (cs 1, 12, .inr (.inl (flr 0)))), ((lr 1), .inl (cs 1, 12, .inr (.inl (flr 1)))), ((lr 2), .inl (cs 1, 12, .inr (.inl (flr 2)))), ((lr 3), .inl (cs 1, 12, .inr (.inl (flr 3)))), (tr, .inl (cs 0, 4, .inl ftr))]) (w1 := [(ch, .inr (0, [.ref aq, .ref sm, .ref tb, .ref ck, .ref cm, .ref le, .ref ne, .ref pr, .ref tr, .ref ln, .int trs, .long lpr])), (h0, .inr (ci, [.ref nq, av, .int rk])), (aq, .inr (5, [.ref aw, .ref ac, .ref ao, .ref am, .int (nI C), .int (nI P), .long tot])), (ao, .inl (cs 0, 4, .inl fao)), (ne, .inl (cs 1, 12, .inr (.inl fne2_2)))]) hP hD [0, 1, 3, 11, 19] [2, 4, 5, 6, 7, 8, 9, 10, 12, 13, 14, 15, 16, 17, 18, 20] rfl rfl (by decide) (by decide) hk1 hFc hP1 hD1
  generalize H1 = H at hP hS ⊢
  have hP : va_P D vwCl [(nq, .inl (cs 0, 4, .inl fq)), (aw, .inl (cs 0, 5, .inl faw)), (ac, .inl (cs 4, 5, .inr (.inr (.inr (.inr (rowsF 5 ar)))))), ((ar 0), .inl (cs 0, 4, .inl (far 0))), ((ar 1), .inl (cs 0, 4, .inl (far 1))), ((ar 2), .inl (cs 0, 4, .inl (far 2))), ((ar 3), .inl (cs 0, 4, .inl (far 3))), ((ar 4), .inl (cs 0, 4, .inl (far 4))), (am, .inl (cs 1, 16, .inr (.inl fam))), (cm, .inl (cs 1, 16, .inr (.inl fcm))), (le, .inl (cs 5, 4, .inr (.inr (.inr (.inr (rowsF 4 lr)))))), ((lr 0), .inl (cs 1, 12, .inr (.inl (flr 0)))), ((lr 1), .inl (cs 1, 12, .inr (.inl (flr 1)))), ((lr 2), .inl (cs 1, 12, .inr (.inl (flr 2)))), ((lr 3), .inl (cs 1, 12, .inr (.inl (flr 3)))), (tr, .inl (cs 0, 4, .inl ftr)), (ch, .inr (0, [.ref aq, .ref sm, .ref tb, .ref ck, .ref cm, .ref le, .ref ne, .ref pr, .ref tr, .ref ln, .int trs, .long lpr])), (h0, .inr (ci, [.ref nq, av, .int rk])), (aq, .inr (5, [.ref aw, .ref ac, .ref ao, .ref am, .int (nI C), .int (nI P), .long tot])), (ao, .inl (cs 0, 4, .inl fao)), (ne, .inl (cs 1, 12, .inr (.inl fne2_2)))] H := hP
  have hD : va_D A [(nq, .inl (cs 0, 4, .inl fq)), (aw, .inl (cs 0, 5, .inl faw)), (ac, .inl (cs 4, 5, .inr (.inr (.inr (.inr (rowsF 5 ar)))))), ((ar 0), .inl (cs 0, 4, .inl (far 0))), ((ar 1), .inl (cs 0, 4, .inl (far 1))), ((ar 2), .inl (cs 0, 4, .inl (far 2))), ((ar 3), .inl (cs 0, 4, .inl (far 3))), ((ar 4), .inl (cs 0, 4, .inl (far 4))), (am, .inl (cs 1, 16, .inr (.inl fam))), (cm, .inl (cs 1, 16, .inr (.inl fcm))), (le, .inl (cs 5, 4, .inr (.inr (.inr (.inr (rowsF 4 lr)))))), ((lr 0), .inl (cs 1, 12, .inr (.inl (flr 0)))), ((lr 1), .inl (cs 1, 12, .inr (.inl (flr 1)))), ((lr 2), .inl (cs 1, 12, .inr (.inl (flr 2)))), ((lr 3), .inl (cs 1, 12, .inr (.inl (flr 3)))), (tr, .inl (cs 0, 4, .inl ftr)), (ch, .inr (0, [.ref aq, .ref sm, .ref tb, .ref ck, .ref cm, .ref le, .ref ne, .ref pr, .ref tr, .ref ln, .int trs, .long lpr])), (h0, .inr (ci, [.ref nq, av, .int rk])), (aq, .inr (5, [.ref aw, .ref ac, .ref ao, .ref am, .int (nI C), .int (nI P), .long tot])), (ao, .inl (cs 0, 4, .inl fao)), (ne, .inl (cs 1, 12, .inr (.inl fne2_2)))] := hD
  refine W.cs (cells' := 0) (slots' := 0) rfl rfl ?_
  refine lv_aload_n hx hb dX0_countMayBe_5 rfl (lv_at hl 0 rfl) ?_
  refine lv_aload_n hx hb dX0_countMayBe_6 rfl (lv_at hl 1 rfl) ?_
  refine lv_aload_n hx hb dX0_countMayBe_7 rfl (lv_at hl 0 rfl) ?_
  refine va_get (D := D) (ci := 0) (v := .ref aq) (C := RX0) (T := TX0) (N := 12) hx hb hg gwX0 hown hK hP 16 rfl rfl 0 (by decide) (hg _ kw_244) (fun _ h9 => h9) rfl dX0_countMayBe_8 ?_
  refine va_get (D := D) (ci := 5) (v := .ref am) (C := RX5) (T := TX5) (N := 7) hx hb hg gwX5 hown hK hP 18 rfl rfl 3 (by decide) (hg _ kw_253) (fun _ h9 => h9) rfl dX0_countMayBe_11 ?_
  have hPc := hP.sub (ws' := [(ch, .inr (0, [.ref aq, .ref sm, .ref tb, .ref ck, .ref cm, .ref le, .ref ne, .ref pr, .ref tr, .ref ln, .int trs, .long lpr])), (h0, .inr (ci, [.ref nq, av, .int rk])), (nq, .inl (cs 0, 4, .inl fq)), (aq, .inr (5, [.ref aw, .ref ac, .ref ao, .ref am, .int (nI C), .int (nI P), .long tot])), (am, .inl (cs 1, 16, .inr (.inl fam))), (le, .inl (cs 5, 4, .inr (.inr (.inr (.inr (rowsF 4 lr)))))), ((lr 0), .inl (cs 1, 12, .inr (.inl (flr 0)))), ((lr 1), .inl (cs 1, 12, .inr (.inl (flr 1)))), ((lr 2), .inl (cs 1, 12, .inr (.inl (flr 2)))), ((lr 3), .inl (cs 1, 12, .inr (.inl (flr 3)))), (ne, .inl (cs 1, 12, .inr (.inl fne2_2))), (tr, .inl (cs 0, 4, .inl ftr))]) [16, 17, 0, 18, 8, 10, 11, 12, 13, 14, 20, 15] rfl
  have hDc := hD.sub (ws' := [(ch, .inr (0, [.ref aq, .ref sm, .ref tb, .ref ck, .ref cm, .ref le, .ref ne, .ref pr, .ref tr, .ref ln, .int trs, .long lpr])), (h0, .inr (ci, [.ref nq, av, .int rk])), (nq, .inl (cs 0, 4, .inl fq)), (aq, .inr (5, [.ref aw, .ref ac, .ref ao, .ref am, .int (nI C), .int (nI P), .long tot])), (am, .inl (cs 1, 16, .inr (.inl fam))), (le, .inl (cs 5, 4, .inr (.inr (.inr (.inr (rowsF 4 lr)))))), ((lr 0), .inl (cs 1, 12, .inr (.inl (flr 0)))), ((lr 1), .inl (cs 1, 12, .inr (.inl (flr 1)))), ((lr 2), .inl (cs 1, 12, .inr (.inl (flr 2)))), ((lr 3), .inl (cs 1, 12, .inr (.inl (flr 3)))), (ne, .inl (cs 1, 12, .inr (.inl fne2_2))), (tr, .inl (cs 0, 4, .inl ftr))]) [16, 17, 0, 18, 8, 10, 11, 12, 13, 14, 20, 15] (by decide) rfl
  have hFc := va_free (wc := [(ch, .inr (0, [.ref aq, .ref sm, .ref tb, .ref ck, .ref cm, .ref le, .ref ne, .ref pr, .ref tr, .ref ln, .int trs, .long lpr])), (h0, .inr (ci, [.ref nq, av, .int rk])), (nq, .inl (cs 0, 4, .inl fq)), (aq, .inr (5, [.ref aw, .ref ac, .ref ao, .ref am, .int (nI C), .int (nI P), .long tot])), (am, .inl (cs 1, 16, .inr (.inl fam))), (le, .inl (cs 5, 4, .inr (.inr (.inr (.inr (rowsF 4 lr)))))), ((lr 0), .inl (cs 1, 12, .inr (.inl (flr 0)))), ((lr 1), .inl (cs 1, 12, .inr (.inl (flr 1)))), ((lr 2), .inl (cs 1, 12, .inr (.inl (flr 2)))), ((lr 3), .inl (cs 1, 12, .inr (.inl (flr 3)))), (ne, .inl (cs 1, 12, .inr (.inl fne2_2))), (tr, .inl (cs 0, 4, .inl ftr))]) hD hS hA [16, 17, 0, 18, 8, 10, 11, 12, 13, 14, 20, 15] rfl
  refine va_calli (va_runV (As := [.ref h0, .ref am]) (rest := []) ⟨hx, hb, hml, hown, hg⟩ (h_truthRests l D cs ch sm tb ck cm le ne pr tr ln trs lpr h0 nq av rk ci hci fq aq aw ac ao am C (by omega) P (by omega) tot am fam lr flr fne2_2 ftr _) (cwV 2 hg (gw_V kw_303 kw_304 kw_305 kw_268 kw_302) rfl rfl rfl (by decide +kernel) ⟨(Nat.le_of_ble_eq_true rfl), (Nat.le_of_ble_eq_true rfl)⟩) (pr_MV (q := (RX0, TX0, 12)) 0 0 hK hPc hDc rfl rfl) rfl rfl hl.1 rfl (lv_room (Nat.le_of_ble_eq_true rfl)) dX0_countMayBe_14 ⟨(Nat.le_of_ble_eq_true rfl), (Nat.le_of_ble_eq_true rfl)⟩) hS (fun q _ h => hFc q h) hFc (fun r_14 u t H1 locs ht hvm h_14 hB hz1 hk1 hS => ?_)
  obtain ⟨ftr2_14, flr2_14, hP1, hD1⟩ := hB
  rw [ht] at hP1
  obtain ⟨hP, hD⟩ := va_join (wr := [(aw, .inl (cs 0, 5, .inl faw)), (ac, .inl (cs 4, 5, .inr (.inr (.inr (.inr (rowsF 5 ar)))))), ((ar 0), .inl (cs 0, 4, .inl (far 0))), ((ar 1), .inl (cs 0, 4, .inl (far 1))), ((ar 2), .inl (cs 0, 4, .inl (far 2))), ((ar 3), .inl (cs 0, 4, .inl (far 3))), ((ar 4), .inl (cs 0, 4, .inl (far 4))), (cm, .inl (cs 1, 16, .inr (.inl fcm))), (ao, .inl (cs 0, 4, .inl fao))]) (w1 := [(ch, .inr (0, [.ref aq, .ref sm, .ref tb, .ref ck, .ref cm, .ref le, .ref ne, .ref pr, .ref tr, .ref ln, .int trs, .long lpr])), (h0, .inr (ci, [.ref nq, av, .int rk])), (nq, .inl (cs 0, 4, .inl fq)), (aq, .inr (5, [.ref aw, .ref ac, .ref ao, .ref am, .int (nI C), .int (nI P), .long tot])), (am, .inl (cs 1, 16, .inr (.inl fam))), (le, .inl (cs 5, 4, .inr (.inr (.inr (.inr (rowsF 4 lr)))))), ((lr 0), .inl (cs 1, 12, .inr (.inl (flr2_14 0)))), ((lr 1), .inl (cs 1, 12, .inr (.inl (flr2_14 1)))), ((lr 2), .inl (cs 1, 12, .inr (.inl (flr2_14 2)))), ((lr 3), .inl (cs 1, 12, .inr (.inl (flr2_14 3)))), (ne, .inl (cs 1, 12, .inr (.inl fne2_2))), (tr, .inl (cs 0, 4, .inl ftr2_14))]) hP hD [16, 17, 0, 18, 8, 10, 11, 12, 13, 14, 20, 15] [1, 2, 3, 4, 5, 6, 7, 9, 19] rfl rfl (by decide) (by decide) hk1 hFc hP1 hD1
  generalize H1 = H at hP hS ⊢
  have hP : va_P D vwCl [(aw, .inl (cs 0, 5, .inl faw)), (ac, .inl (cs 4, 5, .inr (.inr (.inr (.inr (rowsF 5 ar)))))), ((ar 0), .inl (cs 0, 4, .inl (far 0))), ((ar 1), .inl (cs 0, 4, .inl (far 1))), ((ar 2), .inl (cs 0, 4, .inl (far 2))), ((ar 3), .inl (cs 0, 4, .inl (far 3))), ((ar 4), .inl (cs 0, 4, .inl (far 4))), (cm, .inl (cs 1, 16, .inr (.inl fcm))), (ao, .inl (cs 0, 4, .inl fao)), (ch, .inr (0, [.ref aq, .ref sm, .ref tb, .ref ck, .ref cm, .ref le, .ref ne, .ref pr, .ref tr, .ref ln, .int trs, .long lpr])), (h0, .inr (ci, [.ref nq, av, .int rk])), (nq, .inl (cs 0, 4, .inl fq)), (aq, .inr (5, [.ref aw, .ref ac, .ref ao, .ref am, .int (nI C), .int (nI P), .long tot])), (am, .inl (cs 1, 16, .inr (.inl fam))), (le, .inl (cs 5, 4, .inr (.inr (.inr (.inr (rowsF 4 lr)))))), ((lr 0), .inl (cs 1, 12, .inr (.inl (flr2_14 0)))), ((lr 1), .inl (cs 1, 12, .inr (.inl (flr2_14 1)))), ((lr 2), .inl (cs 1, 12, .inr (.inl (flr2_14 2)))), ((lr 3), .inl (cs 1, 12, .inr (.inl (flr2_14 3)))), (ne, .inl (cs 1, 12, .inr (.inl fne2_2))), (tr, .inl (cs 0, 4, .inl ftr2_14))] H := hP
  have hD : va_D A [(aw, .inl (cs 0, 5, .inl faw)), (ac, .inl (cs 4, 5, .inr (.inr (.inr (.inr (rowsF 5 ar)))))), ((ar 0), .inl (cs 0, 4, .inl (far 0))), ((ar 1), .inl (cs 0, 4, .inl (far 1))), ((ar 2), .inl (cs 0, 4, .inl (far 2))), ((ar 3), .inl (cs 0, 4, .inl (far 3))), ((ar 4), .inl (cs 0, 4, .inl (far 4))), (cm, .inl (cs 1, 16, .inr (.inl fcm))), (ao, .inl (cs 0, 4, .inl fao)), (ch, .inr (0, [.ref aq, .ref sm, .ref tb, .ref ck, .ref cm, .ref le, .ref ne, .ref pr, .ref tr, .ref ln, .int trs, .long lpr])), (h0, .inr (ci, [.ref nq, av, .int rk])), (nq, .inl (cs 0, 4, .inl fq)), (aq, .inr (5, [.ref aw, .ref ac, .ref ao, .ref am, .int (nI C), .int (nI P), .long tot])), (am, .inl (cs 1, 16, .inr (.inl fam))), (le, .inl (cs 5, 4, .inr (.inr (.inr (.inr (rowsF 4 lr)))))), ((lr 0), .inl (cs 1, 12, .inr (.inl (flr2_14 0)))), ((lr 1), .inl (cs 1, 12, .inr (.inl (flr2_14 1)))), ((lr 2), .inl (cs 1, 12, .inr (.inl (flr2_14 2)))), ((lr 3), .inl (cs 1, 12, .inr (.inl (flr2_14 3)))), (ne, .inl (cs 1, 12, .inr (.inl fne2_2))), (tr, .inl (cs 0, 4, .inl ftr2_14))] := hD
  refine W.cs (cells' := 0) (slots' := 0) rfl rfl ?_
  refine lv_istore_n (lv' := [(3, .int r_14), (0, .ref ch), (1, .ref h0), (2, .int ee)]) hx hb dX0_countMayBe_17 rfl hl (by decide) rfl (fun ls hl => ?_)
  refine lv_iconst (v := 0) hx hb dX0_countMayBe_18 (by decide) ?_
  refine lv_istore (lv' := [(4, .int 0), (3, .int r_14), (0, .ref ch), (1, .ref h0), (2, .int ee)]) hx hb dX0_countMayBe_19 hl (by decide) rfl (fun ls hl => ?_)
  have LOOP21 : ∀ (n21 : Nat) (u3_21 : Int32) (cc : Nat) (far_21 : Nat → Nat → Int32) (fcm_21 : Nat → Int64) (ftr_21 : Nat → Int32) (flr_21 : Nat → Nat → Int64), cc ≤ C → C - cc < n21 → ∀ (H : Heap) (locs : List Loc) (ls : Array Slot), va_P D vwCl [(aw, .inl (cs 0, 5, .inl faw)), (ac, .inl (cs 4, 5, .inr (.inr (.inr (.inr (rowsF 5 ar)))))), ((ar 0), .inl (cs 0, 4, .inl (far_21 0))), ((ar 1), .inl (cs 0, 4, .inl (far_21 1))), ((ar 2), .inl (cs 0, 4, .inl (far_21 2))), ((ar 3), .inl (cs 0, 4, .inl (far_21 3))), ((ar 4), .inl (cs 0, 4, .inl (far_21 4))), (cm, .inl (cs 1, 16, .inr (.inl fcm_21))), (ao, .inl (cs 0, 4, .inl fao)), (ch, .inr (0, [.ref aq, .ref sm, .ref tb, .ref ck, .ref cm, .ref le, .ref ne, .ref pr, .ref tr, .ref ln, .int trs, .long lpr])), (h0, .inr (ci, [.ref nq, av, .int rk])), (nq, .inl (cs 0, 4, .inl fq)), (aq, .inr (5, [.ref aw, .ref ac, .ref ao, .ref am, .int (nI C), .int (nI P), .long tot])), (am, .inl (cs 1, 16, .inr (.inl fam))), (le, .inl (cs 5, 4, .inr (.inr (.inr (.inr (rowsF 4 lr)))))), ((lr 0), .inl (cs 1, 12, .inr (.inl (flr_21 0)))), ((lr 1), .inl (cs 1, 12, .inr (.inl (flr_21 1)))), ((lr 2), .inl (cs 1, 12, .inr (.inl (flr_21 2)))), ((lr 3), .inl (cs 1, 12, .inr (.inl (flr_21 3)))), (ne, .inl (cs 1, 12, .inr (.inl fne2_2))), (tr, .inl (cs 0, 4, .inl ftr_21))] H → va_D A [(aw, .inl (cs 0, 5, .inl faw)), (ac, .inl (cs 4, 5, .inr (.inr (.inr (.inr (rowsF 5 ar)))))), ((ar 0), .inl (cs 0, 4, .inl (far_21 0))), ((ar 1), .inl (cs 0, 4, .inl (far_21 1))), ((ar 2), .inl (cs 0, 4, .inl (far_21 2))), ((ar 3), .inl (cs 0, 4, .inl (far_21 3))), ((ar 4), .inl (cs 0, 4, .inl (far_21 4))), (cm, .inl (cs 1, 16, .inr (.inl fcm_21))), (ao, .inl (cs 0, 4, .inl fao)), (ch, .inr (0, [.ref aq, .ref sm, .ref tb, .ref ck, .ref cm, .ref le, .ref ne, .ref pr, .ref tr, .ref ln, .int trs, .long lpr])), (h0, .inr (ci, [.ref nq, av, .int rk])), (nq, .inl (cs 0, 4, .inl fq)), (aq, .inr (5, [.ref aw, .ref ac, .ref ao, .ref am, .int (nI C), .int (nI P), .long tot])), (am, .inl (cs 1, 16, .inr (.inl fam))), (le, .inl (cs 5, 4, .inr (.inr (.inr (.inr (rowsF 4 lr)))))), ((lr 0), .inl (cs 1, 12, .inr (.inl (flr_21 0)))), ((lr 1), .inl (cs 1, 12, .inr (.inl (flr_21 1)))), ((lr 2), .inl (cs 1, 12, .inr (.inl (flr_21 2)))), ((lr 3), .inl (cs 1, 12, .inr (.inl (flr_21 3)))), (ne, .inl (cs 1, 12, .inr (.inl fne2_2))), (tr, .inl (cs 0, 4, .inl ftr_21))] → va_S A s.heap H locs → lv_has ls 7 [(0, .ref ch), (1, .ref h0), (2, .int ee), (3, .int u3_21), (4, .int (nI cc))] → W p l e ({ frames := 5, cells := 0, slots := 0, locals := 137 } : Room) s m args below meth c H locs 0 0 Q (F0 m 21 ls []) := by
    intro n21
    induction n21 with
    | zero =>
      intro u3_21 cc far_21 fcm_21 ftr_21 flr_21 hcc hn21 H locs ls hP hD hS hl
      exact absurd hn21 (Nat.not_lt_zero _)
    | succ n21 ih21 =>
      intro u3_21 cc far_21 fcm_21 ftr_21 flr_21 hcc hn21 H locs ls hP hD hS hl
      refine lv_iload hx hb dX0_countMayBe_21 (lv_at hl 4 rfl) ?_
      refine lv_aload_n hx hb dX0_countMayBe_23 rfl (lv_at hl 0 rfl) ?_
      refine va_get (D := D) (ci := 0) (v := .ref aq) (C := RX0) (T := TX0) (N := 12) hx hb hg gwX0 hown hK hP 9 rfl rfl 0 (by decide) (hg _ kw_244) (fun _ h9 => h9) rfl dX0_countMayBe_24 ?_
      refine va_get (D := D) (ci := 5) (v := .int (nI C)) (C := RX5) (T := TX5) (N := 7) hx hb hg gwX5 hown hK hP 12 rfl rfl 4 (by decide) (hg _ kw_306) (fun _ h9 => h9) rfl dX0_countMayBe_27 ?_
      refine lv_icmp_ge (tgt := 132) hx hb dX0_countMayBe_30 (by decide) (fun c_30 => ?_) (fun c_30 => ?_)
      · have n_30 : C ≤ cc := b_le_t (by omega) (by omega) c_30
        refine lv_iload_n hx hb dX0_countMayBe_132 rfl (lv_at hl 3 rfl) ?_
        refine W_sQ hQ ?_
        refine W.widen (k := 0) (n := 0) (Nat.le_of_ble_eq_true rfl) (Nat.le_of_ble_eq_true rfl) ?_
        have hP9 := hP.sub (ws' := [(ch, .inr (0, [.ref aq, .ref sm, .ref tb, .ref ck, .ref cm, .ref le, .ref ne, .ref pr, .ref tr, .ref ln, .int trs, .long lpr])), (h0, .inr (ci, [.ref nq, av, .int rk])), (nq, .inl (cs 0, 4, .inl fq)), (aq, .inr (5, [.ref aw, .ref ac, .ref ao, .ref am, .int (nI C), .int (nI P), .long tot])), (aw, .inl (cs 0, 5, .inl faw)), (ac, .inl (cs 4, 5, .inr (.inr (.inr (.inr (rowsF 5 ar)))))), ((ar 0), .inl (cs 0, 4, .inl (far_21 0))), ((ar 1), .inl (cs 0, 4, .inl (far_21 1))), ((ar 2), .inl (cs 0, 4, .inl (far_21 2))), ((ar 3), .inl (cs 0, 4, .inl (far_21 3))), ((ar 4), .inl (cs 0, 4, .inl (far_21 4))), (ao, .inl (cs 0, 4, .inl fao)), (am, .inl (cs 1, 16, .inr (.inl fam))), (cm, .inl (cs 1, 16, .inr (.inl fcm_21))), (le, .inl (cs 5, 4, .inr (.inr (.inr (.inr (rowsF 4 lr)))))), ((lr 0), .inl (cs 1, 12, .inr (.inl (flr_21 0)))), ((lr 1), .inl (cs 1, 12, .inr (.inl (flr_21 1)))), ((lr 2), .inl (cs 1, 12, .inr (.inl (flr_21 2)))), ((lr 3), .inl (cs 1, 12, .inr (.inl (flr_21 3)))), (ne, .inl (cs 1, 12, .inr (.inl fne2_2))), (tr, .inl (cs 0, 4, .inl ftr_21))]) [9, 10, 11, 12, 0, 1, 2, 3, 4, 5, 6, 8, 13, 7, 14, 15, 16, 17, 18, 19, 20] rfl
        have hD9 := hD.sub (ws' := [(ch, .inr (0, [.ref aq, .ref sm, .ref tb, .ref ck, .ref cm, .ref le, .ref ne, .ref pr, .ref tr, .ref ln, .int trs, .long lpr])), (h0, .inr (ci, [.ref nq, av, .int rk])), (nq, .inl (cs 0, 4, .inl fq)), (aq, .inr (5, [.ref aw, .ref ac, .ref ao, .ref am, .int (nI C), .int (nI P), .long tot])), (aw, .inl (cs 0, 5, .inl faw)), (ac, .inl (cs 4, 5, .inr (.inr (.inr (.inr (rowsF 5 ar)))))), ((ar 0), .inl (cs 0, 4, .inl (far_21 0))), ((ar 1), .inl (cs 0, 4, .inl (far_21 1))), ((ar 2), .inl (cs 0, 4, .inl (far_21 2))), ((ar 3), .inl (cs 0, 4, .inl (far_21 3))), ((ar 4), .inl (cs 0, 4, .inl (far_21 4))), (ao, .inl (cs 0, 4, .inl fao)), (am, .inl (cs 1, 16, .inr (.inl fam))), (cm, .inl (cs 1, 16, .inr (.inl fcm_21))), (le, .inl (cs 5, 4, .inr (.inr (.inr (.inr (rowsF 4 lr)))))), ((lr 0), .inl (cs 1, 12, .inr (.inl (flr_21 0)))), ((lr 1), .inl (cs 1, 12, .inr (.inl (flr_21 1)))), ((lr 2), .inl (cs 1, 12, .inr (.inl (flr_21 2)))), ((lr 3), .inl (cs 1, 12, .inr (.inl (flr_21 3)))), (ne, .inl (cs 1, 12, .inr (.inl fne2_2))), (tr, .inl (cs 0, 4, .inl ftr_21))]) [9, 10, 11, 12, 0, 1, 2, 3, 4, 5, 6, 8, 13, 7, 14, 15, 16, 17, 18, 19, 20] (by decide) rfl
        exact W.iret (v := u3_21) hx hb hr (fun t ht hW => ⟨⟨u3_21, (), rfl, trivial, ⟨ftr_21, fcm_21, fne2_2, far_21, flr_21, by rw [ht]; exact hP9, hD9⟩⟩, hS.F ht⟩) hS.2.2 dX0_countMayBe_133
      · have n_30 : cc < C := b_le_f (by omega) (by omega) c_30
        refine lv_iconst (v := 0) hx hb dX0_countMayBe_33 (by decide) ?_
        refine lv_istore (lv' := [(5, .int 0), (0, .ref ch), (1, .ref h0), (2, .int ee), (3, .int u3_21), (4, .int (nI cc))]) hx hb dX0_countMayBe_34 hl (by decide) rfl (fun ls hl => ?_)
        have LOOP36 : ∀ (n36 : Nat) (u3_36 : Int32) (pe : Nat) (far_36 : Nat → Nat → Int32) (fcm_36 : Nat → Int64) (ftr_36 : Nat → Int32) (flr_36 : Nat → Nat → Int64), pe ≤ P → P - pe < n36 → ∀ (H : Heap) (locs : List Loc) (ls : Array Slot), va_P D vwCl [(aw, .inl (cs 0, 5, .inl faw)), (ac, .inl (cs 4, 5, .inr (.inr (.inr (.inr (rowsF 5 ar)))))), ((ar 0), .inl (cs 0, 4, .inl (far_36 0))), ((ar 1), .inl (cs 0, 4, .inl (far_36 1))), ((ar 2), .inl (cs 0, 4, .inl (far_36 2))), ((ar 3), .inl (cs 0, 4, .inl (far_36 3))), ((ar 4), .inl (cs 0, 4, .inl (far_36 4))), (cm, .inl (cs 1, 16, .inr (.inl fcm_36))), (ao, .inl (cs 0, 4, .inl fao)), (ch, .inr (0, [.ref aq, .ref sm, .ref tb, .ref ck, .ref cm, .ref le, .ref ne, .ref pr, .ref tr, .ref ln, .int trs, .long lpr])), (h0, .inr (ci, [.ref nq, av, .int rk])), (nq, .inl (cs 0, 4, .inl fq)), (aq, .inr (5, [.ref aw, .ref ac, .ref ao, .ref am, .int (nI C), .int (nI P), .long tot])), (am, .inl (cs 1, 16, .inr (.inl fam))), (le, .inl (cs 5, 4, .inr (.inr (.inr (.inr (rowsF 4 lr)))))), ((lr 0), .inl (cs 1, 12, .inr (.inl (flr_36 0)))), ((lr 1), .inl (cs 1, 12, .inr (.inl (flr_36 1)))), ((lr 2), .inl (cs 1, 12, .inr (.inl (flr_36 2)))), ((lr 3), .inl (cs 1, 12, .inr (.inl (flr_36 3)))), (ne, .inl (cs 1, 12, .inr (.inl fne2_2))), (tr, .inl (cs 0, 4, .inl ftr_36))] H → va_D A [(aw, .inl (cs 0, 5, .inl faw)), (ac, .inl (cs 4, 5, .inr (.inr (.inr (.inr (rowsF 5 ar)))))), ((ar 0), .inl (cs 0, 4, .inl (far_36 0))), ((ar 1), .inl (cs 0, 4, .inl (far_36 1))), ((ar 2), .inl (cs 0, 4, .inl (far_36 2))), ((ar 3), .inl (cs 0, 4, .inl (far_36 3))), ((ar 4), .inl (cs 0, 4, .inl (far_36 4))), (cm, .inl (cs 1, 16, .inr (.inl fcm_36))), (ao, .inl (cs 0, 4, .inl fao)), (ch, .inr (0, [.ref aq, .ref sm, .ref tb, .ref ck, .ref cm, .ref le, .ref ne, .ref pr, .ref tr, .ref ln, .int trs, .long lpr])), (h0, .inr (ci, [.ref nq, av, .int rk])), (nq, .inl (cs 0, 4, .inl fq)), (aq, .inr (5, [.ref aw, .ref ac, .ref ao, .ref am, .int (nI C), .int (nI P), .long tot])), (am, .inl (cs 1, 16, .inr (.inl fam))), (le, .inl (cs 5, 4, .inr (.inr (.inr (.inr (rowsF 4 lr)))))), ((lr 0), .inl (cs 1, 12, .inr (.inl (flr_36 0)))), ((lr 1), .inl (cs 1, 12, .inr (.inl (flr_36 1)))), ((lr 2), .inl (cs 1, 12, .inr (.inl (flr_36 2)))), ((lr 3), .inl (cs 1, 12, .inr (.inl (flr_36 3)))), (ne, .inl (cs 1, 12, .inr (.inl fne2_2))), (tr, .inl (cs 0, 4, .inl ftr_36))] → va_S A s.heap H locs → lv_has ls 7 [(0, .ref ch), (1, .ref h0), (2, .int ee), (3, .int u3_36), (4, .int (nI cc)), (5, .int (nI pe))] → W p l e ({ frames := 5, cells := 0, slots := 0, locals := 137 } : Room) s m args below meth c H locs 0 0 Q (F0 m 36 ls []) := by
          intro n36
          induction n36 with
          | zero =>
            intro u3_36 pe far_36 fcm_36 ftr_36 flr_36 hpe hn36 H locs ls hP hD hS hl
            exact absurd hn36 (Nat.not_lt_zero _)
          | succ n36 ih36 =>
            intro u3_36 pe far_36 fcm_36 ftr_36 flr_36 hpe hn36 H locs ls hP hD hS hl
            refine lv_iload hx hb dX0_countMayBe_36 (lv_at hl 5 rfl) ?_
            refine lv_aload_n hx hb dX0_countMayBe_38 rfl (lv_at hl 0 rfl) ?_
            refine va_get (D := D) (ci := 0) (v := .ref aq) (C := RX0) (T := TX0) (N := 12) hx hb hg gwX0 hown hK hP 9 rfl rfl 0 (by decide) (hg _ kw_244) (fun _ h9 => h9) rfl dX0_countMayBe_39 ?_
            refine va_get (D := D) (ci := 5) (v := .int (nI P)) (C := RX5) (T := TX5) (N := 7) hx hb hg gwX5 hown hK hP 12 rfl rfl 5 (by decide) (hg _ kw_245) (fun _ h9 => h9) rfl dX0_countMayBe_42 ?_
            refine lv_icmp_ge (tgt := 126) hx hb dX0_countMayBe_45 (by decide) (fun c_45 => ?_) (fun c_45 => ?_)
            · have n_45 : P ≤ pe := b_le_t (by omega) (by omega) c_45
              refine lv_iinc (v := (nI (cc + 1))) (lv' := [(4, .int (nI (cc + 1))), (0, .ref ch), (1, .ref h0), (2, .int ee), (3, .int u3_36), (5, .int (nI pe))]) hx hb dX0_countMayBe_126 hl (k := 4) rfl (nI_add cc 1) (by decide) rfl (fun ls hl => ?_)
              refine lv_goto (tgt := 21) hx hb dX0_countMayBe_129 (by decide) ?_
              exact ih21 u3_36 (cc + 1) far_36 fcm_36 ftr_36 flr_36 (by omega) (by omega) _ _ ls hP hD hS (lv_sub hl [1, 2, 3, 4, 0] rfl)
            · have n_45 : pe < P := b_le_f (by omega) (by omega) c_45
              refine lv_aload_n hx hb dX0_countMayBe_48 rfl (lv_at hl 0 rfl) ?_
              refine va_get (D := D) (ci := 0) (v := .ref aq) (C := RX0) (T := TX0) (N := 12) hx hb hg gwX0 hown hK hP 9 rfl rfl 0 (by decide) (hg _ kw_244) (fun _ h9 => h9) rfl dX0_countMayBe_49 ?_
              refine va_get (D := D) (ci := 5) (v := .ref ac) (C := RX5) (T := TX5) (N := 7) hx hb hg gwX5 hown hK hP 12 rfl rfl 1 (by decide) (hg _ kw_299) (fun _ h9 => h9) rfl dX0_countMayBe_52 ?_
              refine lv_iload hx hb dX0_countMayBe_55 (lv_at hl 4 rfl) ?_
              refine va_aldR (k := cc) hx hb hK hP 1 4 rfl rfl (show cc < 5 by omega) (by decide) dX0_countMayBe_57 ?_
              refine lv_iload hx hb dX0_countMayBe_58 (lv_at hl 5 rfl) ?_
              refine va_iald hx hb hK hP (2 + cc) 0 (rat_5 (g := fun j9 => (ar j9, .inl (cs 0, 4, .inl (far_36 j9)))) (show cc < 5 by omega) ⟨rfl, rfl, rfl, rfl, rfl⟩) rfl (vp_in_nI (show pe < 4 by omega) (by decide)) dX0_countMayBe_60 ?_
              refine lv_topi (fun z_60 e_60 => ?_)
              refine lv_istore (lv' := [(6, .int z_60), (0, .ref ch), (1, .ref h0), (2, .int ee), (3, .int u3_36), (4, .int (nI cc)), (5, .int (nI pe))]) hx hb dX0_countMayBe_61 hl (by decide) rfl (fun ls hl => ?_)
              refine lv_aload_n hx hb dX0_countMayBe_63 rfl (lv_at hl 1 rfl) ?_
              refine lv_iload hx hb dX0_countMayBe_64 (lv_at hl 5 rfl) ?_
              refine lv_iload hx hb dX0_countMayBe_66 (lv_at hl 6 rfl) ?_
              refine lv_iconst (v := 0) hx hb dX0_countMayBe_68 (by decide) ?_
              refine lv_iload hx hb dX0_countMayBe_69 (lv_at hl 0 rfl) ?_
              refine lv_iload_n hx hb dX0_countMayBe_71 rfl (lv_at hl 3 rfl) ?_
              refine lv_isub hx hb dX0_countMayBe_72 ?_
              refine lv_topi (fun z_72 e_72 => ?_)
              refine va_mmax hx hb (hml.trans hl.1.symm) hown (hg _ kw_307) (hg _ kw_136) (hg _ kw_7) (hg _ kw_137) (Nat.le_of_ble_eq_true rfl) (Nat.le_of_ble_eq_true rfl) (Nat.le_of_ble_eq_true rfl) (Nat.le_of_ble_eq_true rfl) dX0_countMayBe_73 ?_
              refine lv_topi (fun z_73 e_73 => ?_)
              have hPc := hP.sub (ws' := [(ch, .inr (0, [.ref aq, .ref sm, .ref tb, .ref ck, .ref cm, .ref le, .ref ne, .ref pr, .ref tr, .ref ln, .int trs, .long lpr])), (aq, .inr (5, [.ref aw, .ref ac, .ref ao, .ref am, .int (nI C), .int (nI P), .long tot])), (aw, .inl (cs 0, 5, .inl faw)), (ac, .inl (cs 4, 5, .inr (.inr (.inr (.inr (rowsF 5 ar)))))), ((ar 0), .inl (cs 0, 4, .inl (far_36 0))), ((ar 1), .inl (cs 0, 4, .inl (far_36 1))), ((ar 2), .inl (cs 0, 4, .inl (far_36 2))), ((ar 3), .inl (cs 0, 4, .inl (far_36 3))), ((ar 4), .inl (cs 0, 4, .inl (far_36 4))), (cm, .inl (cs 1, 16, .inr (.inl fcm_36)))]) [9, 12, 0, 1, 2, 3, 4, 5, 6, 7] rfl
              have hDc := hD.sub (ws' := [(ch, .inr (0, [.ref aq, .ref sm, .ref tb, .ref ck, .ref cm, .ref le, .ref ne, .ref pr, .ref tr, .ref ln, .int trs, .long lpr])), (aq, .inr (5, [.ref aw, .ref ac, .ref ao, .ref am, .int (nI C), .int (nI P), .long tot])), (aw, .inl (cs 0, 5, .inl faw)), (ac, .inl (cs 4, 5, .inr (.inr (.inr (.inr (rowsF 5 ar)))))), ((ar 0), .inl (cs 0, 4, .inl (far_36 0))), ((ar 1), .inl (cs 0, 4, .inl (far_36 1))), ((ar 2), .inl (cs 0, 4, .inl (far_36 2))), ((ar 3), .inl (cs 0, 4, .inl (far_36 3))), ((ar 4), .inl (cs 0, 4, .inl (far_36 4))), (cm, .inl (cs 1, 16, .inr (.inl fcm_36)))]) [9, 12, 0, 1, 2, 3, 4, 5, 6, 7] (by decide) rfl
              have hFc := va_free (wc := [(ch, .inr (0, [.ref aq, .ref sm, .ref tb, .ref ck, .ref cm, .ref le, .ref ne, .ref pr, .ref tr, .ref ln, .int trs, .long lpr])), (aq, .inr (5, [.ref aw, .ref ac, .ref ao, .ref am, .int (nI C), .int (nI P), .long tot])), (aw, .inl (cs 0, 5, .inl faw)), (ac, .inl (cs 4, 5, .inr (.inr (.inr (.inr (rowsF 5 ar)))))), ((ar 0), .inl (cs 0, 4, .inl (far_36 0))), ((ar 1), .inl (cs 0, 4, .inl (far_36 1))), ((ar 2), .inl (cs 0, 4, .inl (far_36 2))), ((ar 3), .inl (cs 0, 4, .inl (far_36 3))), ((ar 4), .inl (cs 0, 4, .inl (far_36 4))), (cm, .inl (cs 1, 16, .inr (.inl fcm_36)))]) hD hS hA [9, 12, 0, 1, 2, 3, 4, 5, 6, 7] rfl
              refine va_callv (va_runV (As := [.int (nI cc), .int (nI pe), .int z_73]) (rest := []) ⟨hx, hb, hml, hown, hg⟩ (h_fillChangedMass l D cs ch sm tb ck cm le ne pr tr ln trs lpr aq aw ac ao am C (by omega) P (by omega) tot ar far_36 faw fcm_36 cc pe (by omega) (by omega) z_73 _) (cwV 3 hg (gw_V kw_309 kw_310 kw_311 kw_268 kw_308) rfl rfl rfl (by decide +kernel) ⟨(Nat.le_of_ble_eq_true rfl), (Nat.le_of_ble_eq_true rfl)⟩) (pr_MV (q := (RX0, TX0, 12)) 0 0 hK hPc hDc rfl rfl) rfl rfl hl.1 rfl (lv_room (Nat.le_of_ble_eq_true rfl)) dX0_countMayBe_76 ⟨(Nat.le_of_ble_eq_true rfl), (Nat.le_of_ble_eq_true rfl)⟩) hS (fun q _ h => hFc q h) hFc (fun u t H1 locs ht hvm h_76 hB hz1 hk1 hS => ?_)
              obtain ⟨fcm2_76, far2_76, hP1, hD1⟩ := hB
              rw [ht] at hP1
              obtain ⟨hP, hD⟩ := va_join (wr := [(ao, .inl (cs 0, 4, .inl fao)), (h0, .inr (ci, [.ref nq, av, .int rk])), (nq, .inl (cs 0, 4, .inl fq)), (am, .inl (cs 1, 16, .inr (.inl fam))), (le, .inl (cs 5, 4, .inr (.inr (.inr (.inr (rowsF 4 lr)))))), ((lr 0), .inl (cs 1, 12, .inr (.inl (flr_36 0)))), ((lr 1), .inl (cs 1, 12, .inr (.inl (flr_36 1)))), ((lr 2), .inl (cs 1, 12, .inr (.inl (flr_36 2)))), ((lr 3), .inl (cs 1, 12, .inr (.inl (flr_36 3)))), (ne, .inl (cs 1, 12, .inr (.inl fne2_2))), (tr, .inl (cs 0, 4, .inl ftr_36))]) (w1 := [(ch, .inr (0, [.ref aq, .ref sm, .ref tb, .ref ck, .ref cm, .ref le, .ref ne, .ref pr, .ref tr, .ref ln, .int trs, .long lpr])), (aq, .inr (5, [.ref aw, .ref ac, .ref ao, .ref am, .int (nI C), .int (nI P), .long tot])), (aw, .inl (cs 0, 5, .inl faw)), (ac, .inl (cs 4, 5, .inr (.inr (.inr (.inr (rowsF 5 ar)))))), ((ar 0), .inl (cs 0, 4, .inl (far2_76 0))), ((ar 1), .inl (cs 0, 4, .inl (far2_76 1))), ((ar 2), .inl (cs 0, 4, .inl (far2_76 2))), ((ar 3), .inl (cs 0, 4, .inl (far2_76 3))), ((ar 4), .inl (cs 0, 4, .inl (far2_76 4))), (cm, .inl (cs 1, 16, .inr (.inl fcm2_76)))]) hP hD [9, 12, 0, 1, 2, 3, 4, 5, 6, 7] [8, 10, 11, 13, 14, 15, 16, 17, 18, 19, 20] rfl rfl (by decide) (by decide) hk1 hFc hP1 hD1
              generalize H1 = H at hP hS ⊢
              have hP : va_P D vwCl [(ao, .inl (cs 0, 4, .inl fao)), (h0, .inr (ci, [.ref nq, av, .int rk])), (nq, .inl (cs 0, 4, .inl fq)), (am, .inl (cs 1, 16, .inr (.inl fam))), (le, .inl (cs 5, 4, .inr (.inr (.inr (.inr (rowsF 4 lr)))))), ((lr 0), .inl (cs 1, 12, .inr (.inl (flr_36 0)))), ((lr 1), .inl (cs 1, 12, .inr (.inl (flr_36 1)))), ((lr 2), .inl (cs 1, 12, .inr (.inl (flr_36 2)))), ((lr 3), .inl (cs 1, 12, .inr (.inl (flr_36 3)))), (ne, .inl (cs 1, 12, .inr (.inl fne2_2))), (tr, .inl (cs 0, 4, .inl ftr_36)), (ch, .inr (0, [.ref aq, .ref sm, .ref tb, .ref ck, .ref cm, .ref le, .ref ne, .ref pr, .ref tr, .ref ln, .int trs, .long lpr])), (aq, .inr (5, [.ref aw, .ref ac, .ref ao, .ref am, .int (nI C), .int (nI P), .long tot])), (aw, .inl (cs 0, 5, .inl faw)), (ac, .inl (cs 4, 5, .inr (.inr (.inr (.inr (rowsF 5 ar)))))), ((ar 0), .inl (cs 0, 4, .inl (far2_76 0))), ((ar 1), .inl (cs 0, 4, .inl (far2_76 1))), ((ar 2), .inl (cs 0, 4, .inl (far2_76 2))), ((ar 3), .inl (cs 0, 4, .inl (far2_76 3))), ((ar 4), .inl (cs 0, 4, .inl (far2_76 4))), (cm, .inl (cs 1, 16, .inr (.inl fcm2_76)))] H := hP
              have hD : va_D A [(ao, .inl (cs 0, 4, .inl fao)), (h0, .inr (ci, [.ref nq, av, .int rk])), (nq, .inl (cs 0, 4, .inl fq)), (am, .inl (cs 1, 16, .inr (.inl fam))), (le, .inl (cs 5, 4, .inr (.inr (.inr (.inr (rowsF 4 lr)))))), ((lr 0), .inl (cs 1, 12, .inr (.inl (flr_36 0)))), ((lr 1), .inl (cs 1, 12, .inr (.inl (flr_36 1)))), ((lr 2), .inl (cs 1, 12, .inr (.inl (flr_36 2)))), ((lr 3), .inl (cs 1, 12, .inr (.inl (flr_36 3)))), (ne, .inl (cs 1, 12, .inr (.inl fne2_2))), (tr, .inl (cs 0, 4, .inl ftr_36)), (ch, .inr (0, [.ref aq, .ref sm, .ref tb, .ref ck, .ref cm, .ref le, .ref ne, .ref pr, .ref tr, .ref ln, .int trs, .long lpr])), (aq, .inr (5, [.ref aw, .ref ac, .ref ao, .ref am, .int (nI C), .int (nI P), .long tot])), (aw, .inl (cs 0, 5, .inl faw)), (ac, .inl (cs 4, 5, .inr (.inr (.inr (.inr (rowsF 5 ar)))))), ((ar 0), .inl (cs 0, 4, .inl (far2_76 0))), ((ar 1), .inl (cs 0, 4, .inl (far2_76 1))), ((ar 2), .inl (cs 0, 4, .inl (far2_76 2))), ((ar 3), .inl (cs 0, 4, .inl (far2_76 3))), ((ar 4), .inl (cs 0, 4, .inl (far2_76 4))), (cm, .inl (cs 1, 16, .inr (.inl fcm2_76)))] := hD
              refine W.cs (cells' := 0) (slots' := 0) rfl rfl ?_
              refine lv_iload_n hx hb dX0_countMayBe_79 rfl (lv_at hl 4 rfl) ?_
              refine lv_aload_n hx hb dX0_countMayBe_80 rfl (lv_at hl 1 rfl) ?_
              refine lv_aload_n hx hb dX0_countMayBe_81 rfl (lv_at hl 2 rfl) ?_
              refine lv_aload_n hx hb dX0_countMayBe_82 rfl (lv_at hl 1 rfl) ?_
              refine va_get (D := D) (ci := 0) (v := .ref cm) (C := RX0) (T := TX0) (N := 12) hx hb hg gwX0 hown hK hP 11 rfl rfl 4 (by decide) (hg _ kw_300) (fun _ h9 => h9) rfl dX0_countMayBe_83 ?_
              have hPc := hP.sub (ws' := [(ch, .inr (0, [.ref aq, .ref sm, .ref tb, .ref ck, .ref cm, .ref le, .ref ne, .ref pr, .ref tr, .ref ln, .int trs, .long lpr])), (h0, .inr (ci, [.ref nq, av, .int rk])), (nq, .inl (cs 0, 4, .inl fq)), (aq, .inr (5, [.ref aw, .ref ac, .ref ao, .ref am, .int (nI C), .int (nI P), .long tot])), (cm, .inl (cs 1, 16, .inr (.inl fcm2_76))), (le, .inl (cs 5, 4, .inr (.inr (.inr (.inr (rowsF 4 lr)))))), ((lr 0), .inl (cs 1, 12, .inr (.inl (flr_36 0)))), ((lr 1), .inl (cs 1, 12, .inr (.inl (flr_36 1)))), ((lr 2), .inl (cs 1, 12, .inr (.inl (flr_36 2)))), ((lr 3), .inl (cs 1, 12, .inr (.inl (flr_36 3)))), (ne, .inl (cs 1, 12, .inr (.inl fne2_2))), (tr, .inl (cs 0, 4, .inl ftr_36))]) [11, 1, 2, 12, 20, 4, 5, 6, 7, 8, 9, 10] rfl
              have hDc := hD.sub (ws' := [(ch, .inr (0, [.ref aq, .ref sm, .ref tb, .ref ck, .ref cm, .ref le, .ref ne, .ref pr, .ref tr, .ref ln, .int trs, .long lpr])), (h0, .inr (ci, [.ref nq, av, .int rk])), (nq, .inl (cs 0, 4, .inl fq)), (aq, .inr (5, [.ref aw, .ref ac, .ref ao, .ref am, .int (nI C), .int (nI P), .long tot])), (cm, .inl (cs 1, 16, .inr (.inl fcm2_76))), (le, .inl (cs 5, 4, .inr (.inr (.inr (.inr (rowsF 4 lr)))))), ((lr 0), .inl (cs 1, 12, .inr (.inl (flr_36 0)))), ((lr 1), .inl (cs 1, 12, .inr (.inl (flr_36 1)))), ((lr 2), .inl (cs 1, 12, .inr (.inl (flr_36 2)))), ((lr 3), .inl (cs 1, 12, .inr (.inl (flr_36 3)))), (ne, .inl (cs 1, 12, .inr (.inl fne2_2))), (tr, .inl (cs 0, 4, .inl ftr_36))]) [11, 1, 2, 12, 20, 4, 5, 6, 7, 8, 9, 10] (by decide) rfl
              have hFc := va_free (wc := [(ch, .inr (0, [.ref aq, .ref sm, .ref tb, .ref ck, .ref cm, .ref le, .ref ne, .ref pr, .ref tr, .ref ln, .int trs, .long lpr])), (h0, .inr (ci, [.ref nq, av, .int rk])), (nq, .inl (cs 0, 4, .inl fq)), (aq, .inr (5, [.ref aw, .ref ac, .ref ao, .ref am, .int (nI C), .int (nI P), .long tot])), (cm, .inl (cs 1, 16, .inr (.inl fcm2_76))), (le, .inl (cs 5, 4, .inr (.inr (.inr (.inr (rowsF 4 lr)))))), ((lr 0), .inl (cs 1, 12, .inr (.inl (flr_36 0)))), ((lr 1), .inl (cs 1, 12, .inr (.inl (flr_36 1)))), ((lr 2), .inl (cs 1, 12, .inr (.inl (flr_36 2)))), ((lr 3), .inl (cs 1, 12, .inr (.inl (flr_36 3)))), (ne, .inl (cs 1, 12, .inr (.inl fne2_2))), (tr, .inl (cs 0, 4, .inl ftr_36))]) hD hS hA [11, 1, 2, 12, 20, 4, 5, 6, 7, 8, 9, 10] rfl
              refine va_calli (va_runV (As := [.ref h0, .ref cm]) (rest := [.int u3_36]) ⟨hx, hb, hml, hown, hg⟩ (h_truthRests l D cs ch sm tb ck cm le ne pr tr ln trs lpr h0 nq av rk ci hci fq aq aw ac ao am C (by omega) P (by omega) tot cm fcm2_76 lr flr_36 fne2_2 ftr_36 _) (cwV 2 hg (gw_V kw_303 kw_304 kw_305 kw_268 kw_302) rfl rfl rfl (by decide +kernel) ⟨(Nat.le_of_ble_eq_true rfl), (Nat.le_of_ble_eq_true rfl)⟩) (pr_MV (q := (RX0, TX0, 12)) 0 0 hK hPc hDc rfl rfl) rfl rfl hl.1 rfl (lv_room (Nat.le_of_ble_eq_true rfl)) dX0_countMayBe_86 ⟨(Nat.le_of_ble_eq_true rfl), (Nat.le_of_ble_eq_true rfl)⟩) hS (fun q _ h => hFc q h) hFc (fun r_86 u t H1 locs ht hvm h_86 hB hz1 hk1 hS => ?_)
              obtain ⟨ftr2_86, flr2_86, hP1, hD1⟩ := hB
              rw [ht] at hP1
              obtain ⟨hP, hD⟩ := va_join (wr := [(ao, .inl (cs 0, 4, .inl fao)), (am, .inl (cs 1, 16, .inr (.inl fam))), (aw, .inl (cs 0, 5, .inl faw)), (ac, .inl (cs 4, 5, .inr (.inr (.inr (.inr (rowsF 5 ar)))))), ((ar 0), .inl (cs 0, 4, .inl (far2_76 0))), ((ar 1), .inl (cs 0, 4, .inl (far2_76 1))), ((ar 2), .inl (cs 0, 4, .inl (far2_76 2))), ((ar 3), .inl (cs 0, 4, .inl (far2_76 3))), ((ar 4), .inl (cs 0, 4, .inl (far2_76 4)))]) (w1 := [(ch, .inr (0, [.ref aq, .ref sm, .ref tb, .ref ck, .ref cm, .ref le, .ref ne, .ref pr, .ref tr, .ref ln, .int trs, .long lpr])), (h0, .inr (ci, [.ref nq, av, .int rk])), (nq, .inl (cs 0, 4, .inl fq)), (aq, .inr (5, [.ref aw, .ref ac, .ref ao, .ref am, .int (nI C), .int (nI P), .long tot])), (cm, .inl (cs 1, 16, .inr (.inl fcm2_76))), (le, .inl (cs 5, 4, .inr (.inr (.inr (.inr (rowsF 4 lr)))))), ((lr 0), .inl (cs 1, 12, .inr (.inl (flr2_86 0)))), ((lr 1), .inl (cs 1, 12, .inr (.inl (flr2_86 1)))), ((lr 2), .inl (cs 1, 12, .inr (.inl (flr2_86 2)))), ((lr 3), .inl (cs 1, 12, .inr (.inl (flr2_86 3)))), (ne, .inl (cs 1, 12, .inr (.inl fne2_2))), (tr, .inl (cs 0, 4, .inl ftr2_86))]) hP hD [11, 1, 2, 12, 20, 4, 5, 6, 7, 8, 9, 10] [0, 3, 13, 14, 15, 16, 17, 18, 19] rfl rfl (by decide) (by decide) hk1 hFc hP1 hD1
              generalize H1 = H at hP hS ⊢
              have hP : va_P D vwCl [(ao, .inl (cs 0, 4, .inl fao)), (am, .inl (cs 1, 16, .inr (.inl fam))), (aw, .inl (cs 0, 5, .inl faw)), (ac, .inl (cs 4, 5, .inr (.inr (.inr (.inr (rowsF 5 ar)))))), ((ar 0), .inl (cs 0, 4, .inl (far2_76 0))), ((ar 1), .inl (cs 0, 4, .inl (far2_76 1))), ((ar 2), .inl (cs 0, 4, .inl (far2_76 2))), ((ar 3), .inl (cs 0, 4, .inl (far2_76 3))), ((ar 4), .inl (cs 0, 4, .inl (far2_76 4))), (ch, .inr (0, [.ref aq, .ref sm, .ref tb, .ref ck, .ref cm, .ref le, .ref ne, .ref pr, .ref tr, .ref ln, .int trs, .long lpr])), (h0, .inr (ci, [.ref nq, av, .int rk])), (nq, .inl (cs 0, 4, .inl fq)), (aq, .inr (5, [.ref aw, .ref ac, .ref ao, .ref am, .int (nI C), .int (nI P), .long tot])), (cm, .inl (cs 1, 16, .inr (.inl fcm2_76))), (le, .inl (cs 5, 4, .inr (.inr (.inr (.inr (rowsF 4 lr)))))), ((lr 0), .inl (cs 1, 12, .inr (.inl (flr2_86 0)))), ((lr 1), .inl (cs 1, 12, .inr (.inl (flr2_86 1)))), ((lr 2), .inl (cs 1, 12, .inr (.inl (flr2_86 2)))), ((lr 3), .inl (cs 1, 12, .inr (.inl (flr2_86 3)))), (ne, .inl (cs 1, 12, .inr (.inl fne2_2))), (tr, .inl (cs 0, 4, .inl ftr2_86))] H := hP
              have hD : va_D A [(ao, .inl (cs 0, 4, .inl fao)), (am, .inl (cs 1, 16, .inr (.inl fam))), (aw, .inl (cs 0, 5, .inl faw)), (ac, .inl (cs 4, 5, .inr (.inr (.inr (.inr (rowsF 5 ar)))))), ((ar 0), .inl (cs 0, 4, .inl (far2_76 0))), ((ar 1), .inl (cs 0, 4, .inl (far2_76 1))), ((ar 2), .inl (cs 0, 4, .inl (far2_76 2))), ((ar 3), .inl (cs 0, 4, .inl (far2_76 3))), ((ar 4), .inl (cs 0, 4, .inl (far2_76 4))), (ch, .inr (0, [.ref aq, .ref sm, .ref tb, .ref ck, .ref cm, .ref le, .ref ne, .ref pr, .ref tr, .ref ln, .int trs, .long lpr])), (h0, .inr (ci, [.ref nq, av, .int rk])), (nq, .inl (cs 0, 4, .inl fq)), (aq, .inr (5, [.ref aw, .ref ac, .ref ao, .ref am, .int (nI C), .int (nI P), .long tot])), (cm, .inl (cs 1, 16, .inr (.inl fcm2_76))), (le, .inl (cs 5, 4, .inr (.inr (.inr (.inr (rowsF 4 lr)))))), ((lr 0), .inl (cs 1, 12, .inr (.inl (flr2_86 0)))), ((lr 1), .inl (cs 1, 12, .inr (.inl (flr2_86 1)))), ((lr 2), .inl (cs 1, 12, .inr (.inl (flr2_86 2)))), ((lr 3), .inl (cs 1, 12, .inr (.inl (flr2_86 3)))), (ne, .inl (cs 1, 12, .inr (.inl fne2_2))), (tr, .inl (cs 0, 4, .inl ftr2_86))] := hD
              refine W.cs (cells' := 0) (slots' := 0) rfl rfl ?_
              refine lv_iadd hx hb dX0_countMayBe_89 ?_
              refine lv_topi (fun z_89 e_89 => ?_)
              refine lv_istore_n (lv' := [(3, .int z_89), (6, .int z_60), (0, .ref ch), (1, .ref h0), (2, .int ee), (4, .int (nI cc)), (5, .int (nI pe))]) hx hb dX0_countMayBe_90 rfl hl (by decide) rfl (fun ls hl => ?_)
              refine lv_aload_n hx hb dX0_countMayBe_91 rfl (lv_at hl 2 rfl) ?_
              refine lv_iload hx hb dX0_countMayBe_92 (lv_at hl 5 rfl) ?_
              refine lv_iload hx hb dX0_countMayBe_94 (lv_at hl 6 rfl) ?_
              refine lv_bipush (v := 100) hx hb dX0_countMayBe_96 (by decide) ?_
              refine lv_iload hx hb dX0_countMayBe_98 (lv_at hl 1 rfl) ?_
              refine lv_iload_n hx hb dX0_countMayBe_100 rfl (lv_at hl 4 rfl) ?_
              refine lv_iadd hx hb dX0_countMayBe_101 ?_
              refine lv_topi (fun z_101 e_101 => ?_)
              refine va_mmin hx hb (hml.trans hl.1.symm) hown (hg _ kw_312) (hg _ kw_313) (hg _ kw_7) (hg _ kw_314) (Nat.le_of_ble_eq_true rfl) (Nat.le_of_ble_eq_true rfl) (Nat.le_of_ble_eq_true rfl) (Nat.le_of_ble_eq_true rfl) dX0_countMayBe_102 ?_
              refine lv_topi (fun z_102 e_102 => ?_)
              have hPc := hP.sub (ws' := [(ch, .inr (0, [.ref aq, .ref sm, .ref tb, .ref ck, .ref cm, .ref le, .ref ne, .ref pr, .ref tr, .ref ln, .int trs, .long lpr])), (aq, .inr (5, [.ref aw, .ref ac, .ref ao, .ref am, .int (nI C), .int (nI P), .long tot])), (aw, .inl (cs 0, 5, .inl faw)), (ac, .inl (cs 4, 5, .inr (.inr (.inr (.inr (rowsF 5 ar)))))), ((ar 0), .inl (cs 0, 4, .inl (far2_76 0))), ((ar 1), .inl (cs 0, 4, .inl (far2_76 1))), ((ar 2), .inl (cs 0, 4, .inl (far2_76 2))), ((ar 3), .inl (cs 0, 4, .inl (far2_76 3))), ((ar 4), .inl (cs 0, 4, .inl (far2_76 4))), (cm, .inl (cs 1, 16, .inr (.inl fcm2_76)))]) [9, 12, 2, 3, 4, 5, 6, 7, 8, 13] rfl
              have hDc := hD.sub (ws' := [(ch, .inr (0, [.ref aq, .ref sm, .ref tb, .ref ck, .ref cm, .ref le, .ref ne, .ref pr, .ref tr, .ref ln, .int trs, .long lpr])), (aq, .inr (5, [.ref aw, .ref ac, .ref ao, .ref am, .int (nI C), .int (nI P), .long tot])), (aw, .inl (cs 0, 5, .inl faw)), (ac, .inl (cs 4, 5, .inr (.inr (.inr (.inr (rowsF 5 ar)))))), ((ar 0), .inl (cs 0, 4, .inl (far2_76 0))), ((ar 1), .inl (cs 0, 4, .inl (far2_76 1))), ((ar 2), .inl (cs 0, 4, .inl (far2_76 2))), ((ar 3), .inl (cs 0, 4, .inl (far2_76 3))), ((ar 4), .inl (cs 0, 4, .inl (far2_76 4))), (cm, .inl (cs 1, 16, .inr (.inl fcm2_76)))]) [9, 12, 2, 3, 4, 5, 6, 7, 8, 13] (by decide) rfl
              have hFc := va_free (wc := [(ch, .inr (0, [.ref aq, .ref sm, .ref tb, .ref ck, .ref cm, .ref le, .ref ne, .ref pr, .ref tr, .ref ln, .int trs, .long lpr])), (aq, .inr (5, [.ref aw, .ref ac, .ref ao, .ref am, .int (nI C), .int (nI P), .long tot])), (aw, .inl (cs 0, 5, .inl faw)), (ac, .inl (cs 4, 5, .inr (.inr (.inr (.inr (rowsF 5 ar)))))), ((ar 0), .inl (cs 0, 4, .inl (far2_76 0))), ((ar 1), .inl (cs 0, 4, .inl (far2_76 1))), ((ar 2), .inl (cs 0, 4, .inl (far2_76 2))), ((ar 3), .inl (cs 0, 4, .inl (far2_76 3))), ((ar 4), .inl (cs 0, 4, .inl (far2_76 4))), (cm, .inl (cs 1, 16, .inr (.inl fcm2_76)))]) hD hS hA [9, 12, 2, 3, 4, 5, 6, 7, 8, 13] rfl
              refine va_callv (va_runV (As := [.int (nI cc), .int (nI pe), .int z_102]) (rest := []) ⟨hx, hb, hml, hown, hg⟩ (h_fillChangedMass l D cs ch sm tb ck cm le ne pr tr ln trs lpr aq aw ac ao am C (by omega) P (by omega) tot ar far2_76 faw fcm2_76 cc pe (by omega) (by omega) z_102 _) (cwV 3 hg (gw_V kw_309 kw_310 kw_311 kw_268 kw_308) rfl rfl rfl (by decide +kernel) ⟨(Nat.le_of_ble_eq_true rfl), (Nat.le_of_ble_eq_true rfl)⟩) (pr_MV (q := (RX0, TX0, 12)) 0 0 hK hPc hDc rfl rfl) rfl rfl hl.1 rfl (lv_room (Nat.le_of_ble_eq_true rfl)) dX0_countMayBe_105 ⟨(Nat.le_of_ble_eq_true rfl), (Nat.le_of_ble_eq_true rfl)⟩) hS (fun q _ h => hFc q h) hFc (fun u t H1 locs ht hvm h_105 hB hz1 hk1 hS => ?_)
              obtain ⟨fcm2_105, far2_105, hP1, hD1⟩ := hB
              rw [ht] at hP1
              obtain ⟨hP, hD⟩ := va_join (wr := [(ao, .inl (cs 0, 4, .inl fao)), (am, .inl (cs 1, 16, .inr (.inl fam))), (h0, .inr (ci, [.ref nq, av, .int rk])), (nq, .inl (cs 0, 4, .inl fq)), (le, .inl (cs 5, 4, .inr (.inr (.inr (.inr (rowsF 4 lr)))))), ((lr 0), .inl (cs 1, 12, .inr (.inl (flr2_86 0)))), ((lr 1), .inl (cs 1, 12, .inr (.inl (flr2_86 1)))), ((lr 2), .inl (cs 1, 12, .inr (.inl (flr2_86 2)))), ((lr 3), .inl (cs 1, 12, .inr (.inl (flr2_86 3)))), (ne, .inl (cs 1, 12, .inr (.inl fne2_2))), (tr, .inl (cs 0, 4, .inl ftr2_86))]) (w1 := [(ch, .inr (0, [.ref aq, .ref sm, .ref tb, .ref ck, .ref cm, .ref le, .ref ne, .ref pr, .ref tr, .ref ln, .int trs, .long lpr])), (aq, .inr (5, [.ref aw, .ref ac, .ref ao, .ref am, .int (nI C), .int (nI P), .long tot])), (aw, .inl (cs 0, 5, .inl faw)), (ac, .inl (cs 4, 5, .inr (.inr (.inr (.inr (rowsF 5 ar)))))), ((ar 0), .inl (cs 0, 4, .inl (far2_105 0))), ((ar 1), .inl (cs 0, 4, .inl (far2_105 1))), ((ar 2), .inl (cs 0, 4, .inl (far2_105 2))), ((ar 3), .inl (cs 0, 4, .inl (far2_105 3))), ((ar 4), .inl (cs 0, 4, .inl (far2_105 4))), (cm, .inl (cs 1, 16, .inr (.inl fcm2_105)))]) hP hD [9, 12, 2, 3, 4, 5, 6, 7, 8, 13] [0, 1, 10, 11, 14, 15, 16, 17, 18, 19, 20] rfl rfl (by decide) (by decide) hk1 hFc hP1 hD1
              generalize H1 = H at hP hS ⊢
              have hP : va_P D vwCl [(ao, .inl (cs 0, 4, .inl fao)), (am, .inl (cs 1, 16, .inr (.inl fam))), (h0, .inr (ci, [.ref nq, av, .int rk])), (nq, .inl (cs 0, 4, .inl fq)), (le, .inl (cs 5, 4, .inr (.inr (.inr (.inr (rowsF 4 lr)))))), ((lr 0), .inl (cs 1, 12, .inr (.inl (flr2_86 0)))), ((lr 1), .inl (cs 1, 12, .inr (.inl (flr2_86 1)))), ((lr 2), .inl (cs 1, 12, .inr (.inl (flr2_86 2)))), ((lr 3), .inl (cs 1, 12, .inr (.inl (flr2_86 3)))), (ne, .inl (cs 1, 12, .inr (.inl fne2_2))), (tr, .inl (cs 0, 4, .inl ftr2_86)), (ch, .inr (0, [.ref aq, .ref sm, .ref tb, .ref ck, .ref cm, .ref le, .ref ne, .ref pr, .ref tr, .ref ln, .int trs, .long lpr])), (aq, .inr (5, [.ref aw, .ref ac, .ref ao, .ref am, .int (nI C), .int (nI P), .long tot])), (aw, .inl (cs 0, 5, .inl faw)), (ac, .inl (cs 4, 5, .inr (.inr (.inr (.inr (rowsF 5 ar)))))), ((ar 0), .inl (cs 0, 4, .inl (far2_105 0))), ((ar 1), .inl (cs 0, 4, .inl (far2_105 1))), ((ar 2), .inl (cs 0, 4, .inl (far2_105 2))), ((ar 3), .inl (cs 0, 4, .inl (far2_105 3))), ((ar 4), .inl (cs 0, 4, .inl (far2_105 4))), (cm, .inl (cs 1, 16, .inr (.inl fcm2_105)))] H := hP
              have hD : va_D A [(ao, .inl (cs 0, 4, .inl fao)), (am, .inl (cs 1, 16, .inr (.inl fam))), (h0, .inr (ci, [.ref nq, av, .int rk])), (nq, .inl (cs 0, 4, .inl fq)), (le, .inl (cs 5, 4, .inr (.inr (.inr (.inr (rowsF 4 lr)))))), ((lr 0), .inl (cs 1, 12, .inr (.inl (flr2_86 0)))), ((lr 1), .inl (cs 1, 12, .inr (.inl (flr2_86 1)))), ((lr 2), .inl (cs 1, 12, .inr (.inl (flr2_86 2)))), ((lr 3), .inl (cs 1, 12, .inr (.inl (flr2_86 3)))), (ne, .inl (cs 1, 12, .inr (.inl fne2_2))), (tr, .inl (cs 0, 4, .inl ftr2_86)), (ch, .inr (0, [.ref aq, .ref sm, .ref tb, .ref ck, .ref cm, .ref le, .ref ne, .ref pr, .ref tr, .ref ln, .int trs, .long lpr])), (aq, .inr (5, [.ref aw, .ref ac, .ref ao, .ref am, .int (nI C), .int (nI P), .long tot])), (aw, .inl (cs 0, 5, .inl faw)), (ac, .inl (cs 4, 5, .inr (.inr (.inr (.inr (rowsF 5 ar)))))), ((ar 0), .inl (cs 0, 4, .inl (far2_105 0))), ((ar 1), .inl (cs 0, 4, .inl (far2_105 1))), ((ar 2), .inl (cs 0, 4, .inl (far2_105 2))), ((ar 3), .inl (cs 0, 4, .inl (far2_105 3))), ((ar 4), .inl (cs 0, 4, .inl (far2_105 4))), (cm, .inl (cs 1, 16, .inr (.inl fcm2_105)))] := hD
              refine W.cs (cells' := 0) (slots' := 0) rfl rfl ?_
              refine lv_iload_n hx hb dX0_countMayBe_108 rfl (lv_at hl 0 rfl) ?_
              refine lv_aload_n hx hb dX0_countMayBe_109 rfl (lv_at hl 2 rfl) ?_
              refine lv_aload_n hx hb dX0_countMayBe_110 rfl (lv_at hl 3 rfl) ?_
              refine lv_aload_n hx hb dX0_countMayBe_111 rfl (lv_at hl 2 rfl) ?_
              refine va_get (D := D) (ci := 0) (v := .ref cm) (C := RX0) (T := TX0) (N := 12) hx hb hg gwX0 hown hK hP 11 rfl rfl 4 (by decide) (hg _ kw_300) (fun _ h9 => h9) rfl dX0_countMayBe_112 ?_
              have hPc := hP.sub (ws' := [(ch, .inr (0, [.ref aq, .ref sm, .ref tb, .ref ck, .ref cm, .ref le, .ref ne, .ref pr, .ref tr, .ref ln, .int trs, .long lpr])), (h0, .inr (ci, [.ref nq, av, .int rk])), (nq, .inl (cs 0, 4, .inl fq)), (aq, .inr (5, [.ref aw, .ref ac, .ref ao, .ref am, .int (nI C), .int (nI P), .long tot])), (cm, .inl (cs 1, 16, .inr (.inl fcm2_105))), (le, .inl (cs 5, 4, .inr (.inr (.inr (.inr (rowsF 4 lr)))))), ((lr 0), .inl (cs 1, 12, .inr (.inl (flr2_86 0)))), ((lr 1), .inl (cs 1, 12, .inr (.inl (flr2_86 1)))), ((lr 2), .inl (cs 1, 12, .inr (.inl (flr2_86 2)))), ((lr 3), .inl (cs 1, 12, .inr (.inl (flr2_86 3)))), (ne, .inl (cs 1, 12, .inr (.inl fne2_2))), (tr, .inl (cs 0, 4, .inl ftr2_86))]) [11, 2, 3, 12, 20, 4, 5, 6, 7, 8, 9, 10] rfl
              have hDc := hD.sub (ws' := [(ch, .inr (0, [.ref aq, .ref sm, .ref tb, .ref ck, .ref cm, .ref le, .ref ne, .ref pr, .ref tr, .ref ln, .int trs, .long lpr])), (h0, .inr (ci, [.ref nq, av, .int rk])), (nq, .inl (cs 0, 4, .inl fq)), (aq, .inr (5, [.ref aw, .ref ac, .ref ao, .ref am, .int (nI C), .int (nI P), .long tot])), (cm, .inl (cs 1, 16, .inr (.inl fcm2_105))), (le, .inl (cs 5, 4, .inr (.inr (.inr (.inr (rowsF 4 lr)))))), ((lr 0), .inl (cs 1, 12, .inr (.inl (flr2_86 0)))), ((lr 1), .inl (cs 1, 12, .inr (.inl (flr2_86 1)))), ((lr 2), .inl (cs 1, 12, .inr (.inl (flr2_86 2)))), ((lr 3), .inl (cs 1, 12, .inr (.inl (flr2_86 3)))), (ne, .inl (cs 1, 12, .inr (.inl fne2_2))), (tr, .inl (cs 0, 4, .inl ftr2_86))]) [11, 2, 3, 12, 20, 4, 5, 6, 7, 8, 9, 10] (by decide) rfl
              have hFc := va_free (wc := [(ch, .inr (0, [.ref aq, .ref sm, .ref tb, .ref ck, .ref cm, .ref le, .ref ne, .ref pr, .ref tr, .ref ln, .int trs, .long lpr])), (h0, .inr (ci, [.ref nq, av, .int rk])), (nq, .inl (cs 0, 4, .inl fq)), (aq, .inr (5, [.ref aw, .ref ac, .ref ao, .ref am, .int (nI C), .int (nI P), .long tot])), (cm, .inl (cs 1, 16, .inr (.inl fcm2_105))), (le, .inl (cs 5, 4, .inr (.inr (.inr (.inr (rowsF 4 lr)))))), ((lr 0), .inl (cs 1, 12, .inr (.inl (flr2_86 0)))), ((lr 1), .inl (cs 1, 12, .inr (.inl (flr2_86 1)))), ((lr 2), .inl (cs 1, 12, .inr (.inl (flr2_86 2)))), ((lr 3), .inl (cs 1, 12, .inr (.inl (flr2_86 3)))), (ne, .inl (cs 1, 12, .inr (.inl fne2_2))), (tr, .inl (cs 0, 4, .inl ftr2_86))]) hD hS hA [11, 2, 3, 12, 20, 4, 5, 6, 7, 8, 9, 10] rfl
              refine va_calli (va_runV (As := [.ref h0, .ref cm]) (rest := [.int z_89]) ⟨hx, hb, hml, hown, hg⟩ (h_truthRests l D cs ch sm tb ck cm le ne pr tr ln trs lpr h0 nq av rk ci hci fq aq aw ac ao am C (by omega) P (by omega) tot cm fcm2_105 lr flr2_86 fne2_2 ftr2_86 _) (cwV 2 hg (gw_V kw_303 kw_304 kw_305 kw_268 kw_302) rfl rfl rfl (by decide +kernel) ⟨(Nat.le_of_ble_eq_true rfl), (Nat.le_of_ble_eq_true rfl)⟩) (pr_MV (q := (RX0, TX0, 12)) 0 0 hK hPc hDc rfl rfl) rfl rfl hl.1 rfl (lv_room (Nat.le_of_ble_eq_true rfl)) dX0_countMayBe_115 ⟨(Nat.le_of_ble_eq_true rfl), (Nat.le_of_ble_eq_true rfl)⟩) hS (fun q _ h => hFc q h) hFc (fun r_115 u t H1 locs ht hvm h_115 hB hz1 hk1 hS => ?_)
              obtain ⟨ftr2_115, flr2_115, hP1, hD1⟩ := hB
              rw [ht] at hP1
              obtain ⟨hP, hD⟩ := va_join (wr := [(ao, .inl (cs 0, 4, .inl fao)), (am, .inl (cs 1, 16, .inr (.inl fam))), (aw, .inl (cs 0, 5, .inl faw)), (ac, .inl (cs 4, 5, .inr (.inr (.inr (.inr (rowsF 5 ar)))))), ((ar 0), .inl (cs 0, 4, .inl (far2_105 0))), ((ar 1), .inl (cs 0, 4, .inl (far2_105 1))), ((ar 2), .inl (cs 0, 4, .inl (far2_105 2))), ((ar 3), .inl (cs 0, 4, .inl (far2_105 3))), ((ar 4), .inl (cs 0, 4, .inl (far2_105 4)))]) (w1 := [(ch, .inr (0, [.ref aq, .ref sm, .ref tb, .ref ck, .ref cm, .ref le, .ref ne, .ref pr, .ref tr, .ref ln, .int trs, .long lpr])), (h0, .inr (ci, [.ref nq, av, .int rk])), (nq, .inl (cs 0, 4, .inl fq)), (aq, .inr (5, [.ref aw, .ref ac, .ref ao, .ref am, .int (nI C), .int (nI P), .long tot])), (cm, .inl (cs 1, 16, .inr (.inl fcm2_105))), (le, .inl (cs 5, 4, .inr (.inr (.inr (.inr (rowsF 4 lr)))))), ((lr 0), .inl (cs 1, 12, .inr (.inl (flr2_115 0)))), ((lr 1), .inl (cs 1, 12, .inr (.inl (flr2_115 1)))), ((lr 2), .inl (cs 1, 12, .inr (.inl (flr2_115 2)))), ((lr 3), .inl (cs 1, 12, .inr (.inl (flr2_115 3)))), (ne, .inl (cs 1, 12, .inr (.inl fne2_2))), (tr, .inl (cs 0, 4, .inl ftr2_115))]) hP hD [11, 2, 3, 12, 20, 4, 5, 6, 7, 8, 9, 10] [0, 1, 13, 14, 15, 16, 17, 18, 19] rfl rfl (by decide) (by decide) hk1 hFc hP1 hD1
              generalize H1 = H at hP hS ⊢
              have hP : va_P D vwCl [(ao, .inl (cs 0, 4, .inl fao)), (am, .inl (cs 1, 16, .inr (.inl fam))), (aw, .inl (cs 0, 5, .inl faw)), (ac, .inl (cs 4, 5, .inr (.inr (.inr (.inr (rowsF 5 ar)))))), ((ar 0), .inl (cs 0, 4, .inl (far2_105 0))), ((ar 1), .inl (cs 0, 4, .inl (far2_105 1))), ((ar 2), .inl (cs 0, 4, .inl (far2_105 2))), ((ar 3), .inl (cs 0, 4, .inl (far2_105 3))), ((ar 4), .inl (cs 0, 4, .inl (far2_105 4))), (ch, .inr (0, [.ref aq, .ref sm, .ref tb, .ref ck, .ref cm, .ref le, .ref ne, .ref pr, .ref tr, .ref ln, .int trs, .long lpr])), (h0, .inr (ci, [.ref nq, av, .int rk])), (nq, .inl (cs 0, 4, .inl fq)), (aq, .inr (5, [.ref aw, .ref ac, .ref ao, .ref am, .int (nI C), .int (nI P), .long tot])), (cm, .inl (cs 1, 16, .inr (.inl fcm2_105))), (le, .inl (cs 5, 4, .inr (.inr (.inr (.inr (rowsF 4 lr)))))), ((lr 0), .inl (cs 1, 12, .inr (.inl (flr2_115 0)))), ((lr 1), .inl (cs 1, 12, .inr (.inl (flr2_115 1)))), ((lr 2), .inl (cs 1, 12, .inr (.inl (flr2_115 2)))), ((lr 3), .inl (cs 1, 12, .inr (.inl (flr2_115 3)))), (ne, .inl (cs 1, 12, .inr (.inl fne2_2))), (tr, .inl (cs 0, 4, .inl ftr2_115))] H := hP
              have hD : va_D A [(ao, .inl (cs 0, 4, .inl fao)), (am, .inl (cs 1, 16, .inr (.inl fam))), (aw, .inl (cs 0, 5, .inl faw)), (ac, .inl (cs 4, 5, .inr (.inr (.inr (.inr (rowsF 5 ar)))))), ((ar 0), .inl (cs 0, 4, .inl (far2_105 0))), ((ar 1), .inl (cs 0, 4, .inl (far2_105 1))), ((ar 2), .inl (cs 0, 4, .inl (far2_105 2))), ((ar 3), .inl (cs 0, 4, .inl (far2_105 3))), ((ar 4), .inl (cs 0, 4, .inl (far2_105 4))), (ch, .inr (0, [.ref aq, .ref sm, .ref tb, .ref ck, .ref cm, .ref le, .ref ne, .ref pr, .ref tr, .ref ln, .int trs, .long lpr])), (h0, .inr (ci, [.ref nq, av, .int rk])), (nq, .inl (cs 0, 4, .inl fq)), (aq, .inr (5, [.ref aw, .ref ac, .ref ao, .ref am, .int (nI C), .int (nI P), .long tot])), (cm, .inl (cs 1, 16, .inr (.inl fcm2_105))), (le, .inl (cs 5, 4, .inr (.inr (.inr (.inr (rowsF 4 lr)))))), ((lr 0), .inl (cs 1, 12, .inr (.inl (flr2_115 0)))), ((lr 1), .inl (cs 1, 12, .inr (.inl (flr2_115 1)))), ((lr 2), .inl (cs 1, 12, .inr (.inl (flr2_115 2)))), ((lr 3), .inl (cs 1, 12, .inr (.inl (flr2_115 3)))), (ne, .inl (cs 1, 12, .inr (.inl fne2_2))), (tr, .inl (cs 0, 4, .inl ftr2_115))] := hD
              refine W.cs (cells' := 0) (slots' := 0) rfl rfl ?_
              refine lv_iadd hx hb dX0_countMayBe_118 ?_
              refine lv_topi (fun z_118 e_118 => ?_)
              refine lv_istore_n (lv' := [(3, .int z_118), (6, .int z_60), (0, .ref ch), (1, .ref h0), (2, .int ee), (4, .int (nI cc)), (5, .int (nI pe))]) hx hb dX0_countMayBe_119 rfl hl (by decide) rfl (fun ls hl => ?_)
              refine lv_iinc (v := (nI (pe + 1))) (lv' := [(5, .int (nI (pe + 1))), (3, .int z_118), (6, .int z_60), (0, .ref ch), (1, .ref h0), (2, .int ee), (4, .int (nI cc))]) hx hb dX0_countMayBe_120 hl (k := 6) rfl (nI_add pe 1) (by decide) rfl (fun ls hl => ?_)
              refine lv_goto (tgt := 36) hx hb dX0_countMayBe_123 (by decide) ?_
              exact ih36 z_118 (pe + 1) far2_105 fcm2_105 ftr2_115 flr2_115 (by omega) (by omega) _ _ ls (hP.sub [2, 3, 4, 5, 6, 7, 8, 13, 0, 9, 10, 11, 12, 1, 14, 15, 16, 17, 18, 19, 20] rfl) (hD.sub [2, 3, 4, 5, 6, 7, 8, 13, 0, 9, 10, 11, 12, 1, 14, 15, 16, 17, 18, 19, 20] (by decide) rfl) hS (lv_sub hl [3, 4, 5, 1, 6, 0] rfl)
        exact LOOP36 (P - 0 + 1) u3_21 0 far_21 fcm_21 ftr_21 flr_21 (by omega) (Nat.lt_succ_self _) _ _ ls hP hD hS (lv_sub hl [1, 2, 3, 4, 5, 0] rfl)
  exact LOOP21 (C - 0 + 1) r_14 0 far fcm ftr2_14 flr2_14 (by omega) (Nat.lt_succ_self _) _ _ ls hP hD hS (lv_sub hl [2, 3, 4, 1, 0] rfl)
