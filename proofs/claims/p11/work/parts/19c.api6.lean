theorem dX11_withQuestion_0 : decode cX11_withQuestion 0 = .ok (.lload_n 1, 1) := by decide +kernel
theorem dX11_withQuestion_1 : decode cX11_withQuestion 1 = .ok (.lstore_n 3, 1) := by decide +kernel
theorem dX11_withQuestion_2 : decode cX11_withQuestion 2 = .ok (.iconst 0, 1) := by decide +kernel
theorem dX11_withQuestion_3 : decode cX11_withQuestion 3 = .ok (.istore 5, 2) := by decide +kernel
theorem dX11_withQuestion_5 : decode cX11_withQuestion 5 = .ok (.iload 5, 2) := by decide +kernel
theorem dX11_withQuestion_7 : decode cX11_withQuestion 7 = .ok (.aload_n 0, 1) := by decide +kernel
theorem dX11_withQuestion_8 : decode cX11_withQuestion 8 = .ok (.getfield 26, 3) := by decide +kernel
theorem dX11_withQuestion_11 : decode cX11_withQuestion 11 = .ok (.getfield 292, 3) := by decide +kernel
theorem dX11_withQuestion_14 : decode cX11_withQuestion 14 = .ok (.if_icmp .ge 65, 3) := by decide +kernel
theorem dX11_withQuestion_17 : decode cX11_withQuestion 17 = .ok (.lload_n 3, 1) := by decide +kernel
theorem dX11_withQuestion_18 : decode cX11_withQuestion 18 = .ok (.aload_n 0, 1) := by decide +kernel
theorem dX11_withQuestion_19 : decode cX11_withQuestion 19 = .ok (.getfield 26, 3) := by decide +kernel
theorem dX11_withQuestion_22 : decode cX11_withQuestion 22 = .ok (.getfield 94, 3) := by decide +kernel
theorem dX11_withQuestion_25 : decode cX11_withQuestion 25 = .ok (.iload 5, 2) := by decide +kernel
theorem dX11_withQuestion_27 : decode cX11_withQuestion 27 = .ok (.iaload, 1) := by decide +kernel
theorem dX11_withQuestion_28 : decode cX11_withQuestion 28 = .ok (.i2l, 1) := by decide +kernel
theorem dX11_withQuestion_29 : decode cX11_withQuestion 29 = .ok (.invokestatic 310, 3) := by decide +kernel
theorem dX11_withQuestion_32 : decode cX11_withQuestion 32 = .ok (.lstore_n 3, 1) := by decide +kernel
theorem dX11_withQuestion_33 : decode cX11_withQuestion 33 = .ok (.iconst 0, 1) := by decide +kernel
theorem dX11_withQuestion_34 : decode cX11_withQuestion 34 = .ok (.istore 6, 2) := by decide +kernel
theorem dX11_withQuestion_36 : decode cX11_withQuestion 36 = .ok (.iload 6, 2) := by decide +kernel
theorem dX11_withQuestion_38 : decode cX11_withQuestion 38 = .ok (.aload_n 0, 1) := by decide +kernel
theorem dX11_withQuestion_39 : decode cX11_withQuestion 39 = .ok (.getfield 26, 3) := by decide +kernel
theorem dX11_withQuestion_42 : decode cX11_withQuestion 42 = .ok (.getfield 87, 3) := by decide +kernel
theorem dX11_withQuestion_45 : decode cX11_withQuestion 45 = .ok (.if_icmp .ge 28, 3) := by decide +kernel
theorem dX11_withQuestion_48 : decode cX11_withQuestion 48 = .ok (.lload_n 3, 1) := by decide +kernel
theorem dX11_withQuestion_49 : decode cX11_withQuestion 49 = .ok (.aload_n 0, 1) := by decide +kernel
theorem dX11_withQuestion_50 : decode cX11_withQuestion 50 = .ok (.getfield 26, 3) := by decide +kernel
theorem dX11_withQuestion_53 : decode cX11_withQuestion 53 = .ok (.getfield 101, 3) := by decide +kernel
theorem dX11_withQuestion_56 : decode cX11_withQuestion 56 = .ok (.iload 5, 2) := by decide +kernel
theorem dX11_withQuestion_58 : decode cX11_withQuestion 58 = .ok (.aaload, 1) := by decide +kernel
theorem dX11_withQuestion_59 : decode cX11_withQuestion 59 = .ok (.iload 6, 2) := by decide +kernel
theorem dX11_withQuestion_61 : decode cX11_withQuestion 61 = .ok (.iaload, 1) := by decide +kernel
theorem dX11_withQuestion_62 : decode cX11_withQuestion 62 = .ok (.i2l, 1) := by decide +kernel
theorem dX11_withQuestion_63 : decode cX11_withQuestion 63 = .ok (.invokestatic 310, 3) := by decide +kernel
theorem dX11_withQuestion_66 : decode cX11_withQuestion 66 = .ok (.lstore_n 3, 1) := by decide +kernel
theorem dX11_withQuestion_67 : decode cX11_withQuestion 67 = .ok (.iinc 6 1, 3) := by decide +kernel
theorem dX11_withQuestion_70 : decode cX11_withQuestion 70 = .ok (.goto (-34), 3) := by decide +kernel
theorem dX11_withQuestion_73 : decode cX11_withQuestion 73 = .ok (.iinc 5 1, 3) := by decide +kernel
theorem dX11_withQuestion_76 : decode cX11_withQuestion 76 = .ok (.goto (-71), 3) := by decide +kernel
theorem dX11_withQuestion_79 : decode cX11_withQuestion 79 = .ok (.iconst 0, 1) := by decide +kernel
theorem dX11_withQuestion_80 : decode cX11_withQuestion 80 = .ok (.istore 5, 2) := by decide +kernel
theorem dX11_withQuestion_82 : decode cX11_withQuestion 82 = .ok (.iload 5, 2) := by decide +kernel
theorem dX11_withQuestion_84 : decode cX11_withQuestion 84 = .ok (.aload_n 0, 1) := by decide +kernel
theorem dX11_withQuestion_85 : decode cX11_withQuestion 85 = .ok (.getfield 26, 3) := by decide +kernel
theorem dX11_withQuestion_88 : decode cX11_withQuestion 88 = .ok (.getfield 87, 3) := by decide +kernel
theorem dX11_withQuestion_91 : decode cX11_withQuestion 91 = .ok (.if_icmp .ge 25, 3) := by decide +kernel
theorem dX11_withQuestion_94 : decode cX11_withQuestion 94 = .ok (.lload_n 3, 1) := by decide +kernel
theorem dX11_withQuestion_95 : decode cX11_withQuestion 95 = .ok (.aload_n 0, 1) := by decide +kernel
theorem dX11_withQuestion_96 : decode cX11_withQuestion 96 = .ok (.getfield 26, 3) := by decide +kernel
theorem dX11_withQuestion_99 : decode cX11_withQuestion 99 = .ok (.getfield 109, 3) := by decide +kernel
theorem dX11_withQuestion_102 : decode cX11_withQuestion 102 = .ok (.iload 5, 2) := by decide +kernel
theorem dX11_withQuestion_104 : decode cX11_withQuestion 104 = .ok (.iaload, 1) := by decide +kernel
theorem dX11_withQuestion_105 : decode cX11_withQuestion 105 = .ok (.i2l, 1) := by decide +kernel
theorem dX11_withQuestion_106 : decode cX11_withQuestion 106 = .ok (.invokestatic 310, 3) := by decide +kernel
theorem dX11_withQuestion_109 : decode cX11_withQuestion 109 = .ok (.lstore_n 3, 1) := by decide +kernel
theorem dX11_withQuestion_110 : decode cX11_withQuestion 110 = .ok (.iinc 5 1, 3) := by decide +kernel
theorem dX11_withQuestion_113 : decode cX11_withQuestion 113 = .ok (.goto (-31), 3) := by decide +kernel
theorem dX11_withQuestion_116 : decode cX11_withQuestion 116 = .ok (.lload_n 3, 1) := by decide +kernel
theorem dX11_withQuestion_117 : decode cX11_withQuestion 117 = .ok (.lreturn, 1) := by decide +kernel
theorem kw_745 : (.code yX11_mixed cX11_mixed 4 (some .long) : Cond) ∈ gw_tbl := gw_in (by decide +kernel) (by decide +kernel)
theorem kw_746 : (.methodLink RX11 310 yX11_mixed : Cond) ∈ gw_tbl := gw_in (by decide +kernel) (by decide +kernel)
theorem kw_747 : (.static yX11_mixed : Cond) ∈ gw_tbl := gw_in (by decide +kernel) (by decide +kernel)

set_option maxHeartbeats 4000000 in
set_option maxRecDepth 100000 in
theorem x_withQuestion (l : Launch) (D : va_G) (cs : Nat → ClassId) (x0 : Nat) (py : Nat) (pn : Nat) (hpn : pn ≤ 8) (td : Int32) (pg : Nat) (rd : Nat) (pl : Nat) (ch : Nat) (ro : Nat) (aq : Nat) (aw : Nat) (ac : Nat) (ao : Nat) (am : Nat) (C : Nat) (hC5 : C ≤ 5) (P : Nat) (hP4 : P ≤ 4) (tot : Int64) (faw : Nat → Int32) (fao : Nat → Int32) (ar : Nat → Nat) (far : Nat → Nat → Int32) (v : Int64) : Met l yX11_withQuestion (Cond.code yX11_withQuestion cX11_withQuestion 7 (some .long) :: gw_tbl) ({ frames := 1, cells := 0, slots := 0, locals := 23 }) (pc_S D cs [(x0, .inr (11, [.ref pg, .ref rd, .ref aq, .ref py, .ref pl, .ref ch, .ref ro, .int (nI pn), .int td])), (aq, .inr (5, [.ref aw, .ref ac, .ref ao, .ref am, .int (nI C), .int (nI P), .long tot])), (aw, .inl (cs 0, 5, .inl faw)), (ac, .inl (cs 4, 5, .inr (.inr (.inr (.inr (rowsF 5 ar)))))), ((ar 0), .inl (cs 0, 4, .inl (far 0))), ((ar 1), .inl (cs 0, 4, .inl (far 1))), ((ar 2), .inl (cs 0, 4, .inl (far 2))), ((ar 3), .inl (cs 0, 4, .inl (far 3))), ((ar 4), .inl (cs 0, 4, .inl (far 4))), (ao, .inl (cs 0, 4, .inl fao))] [.ref x0, .long v]) (vp_Sl (fun r => True)) 0 0 (fun _ => False) := by
  refine Met.ofW (cc := cX11_withQuestion) (maxL := 7) (ret := (some .long)) (by decide) rfl ?_
  intro p e s m args below meth c s₁ B hml hv
  obtain ⟨hargs, hP, hK⟩ := hv
  have hx := B.exec
  have hb := B.bytes
  have hr := B.returns
  have hts := atoms_spec (ws := Cond.code yX11_withQuestion cX11_withQuestion 7 (some .long) :: gw_tbl) B.pre
  have hg := fun (w : Cond) (h : w ∈ gw_tbl) => hts w (List.mem_cons_of_mem _ h)
  have hown : s.vm.findClass RX11 = some m.cls := findClass_of_methodNamed B.named
  have hlocks := B.notSynchronized
  have hl := lv_entry ([.ref x0, .long v]) (n := 7) (Nat.le_of_ble_eq_true rfl)
  rw [show entryFrame m args 7 = F0 m 0 (lg_sl ([.ref x0, .long v]) ++ List.replicate (7 - (lg_sl ([.ref x0, .long v])).length) Slot.unset).toArray [] from by rw [hargs]; exact lg_entry_eq ..]
  generalize (lg_sl ([.ref x0, .long v]) ++ List.replicate (7 - (lg_sl ([.ref x0, .long v])).length) Slot.unset).toArray = ls at hl ⊢
  have hl : lv_has ls 7 [(0, .ref x0), (1, .long v)] := hl
  refine W_genQ (fun Q hQ => ?_)
  have hlm := lim_le hP4
  have hlq := lim_pos P
  have hsg := sgn_le hP4
  refine lv_lload_n hx hb dX11_withQuestion_0 rfl (lv_at hl 1 rfl) ?_
  refine lv_lstore_n (lv' := [(3, .long v), (0, .ref x0), (1, .long v)]) hx hb dX11_withQuestion_1 rfl hl (by decide) rfl (fun ls hl => ?_)
  refine lv_iconst (v := 0) hx hb dX11_withQuestion_2 (by decide) ?_
  refine lv_istore (lv' := [(5, .int 0), (3, .long v), (0, .ref x0), (1, .long v)]) hx hb dX11_withQuestion_3 hl (by decide) rfl (fun ls hl => ?_)
  have LOOP5 : ∀ (n5 : Nat) (u3_5 : Int64) (cx : Nat), cx ≤ C → C - cx < n5 → ∀ (ls : Array Slot), lv_has ls 7 [(0, .ref x0), (1, .long v), (3, .long u3_5), (5, .int (nI cx))] → W p l e ({ frames := 1, cells := 0, slots := 0, locals := 23 } : Room) s m args below meth c s.heap [] 0 0 Q (F0 m 5 ls []) := by
    intro n5
    induction n5 with
    | zero =>
      intro u3_5 cx hcx hn5 ls hl
      exact absurd hn5 (Nat.not_lt_zero _)
    | succ n5 ih5 =>
      intro u3_5 cx hcx hn5 ls hl
      refine lv_iload hx hb dX11_withQuestion_5 (lv_at hl 3 rfl) ?_
      refine lv_aload_n hx hb dX11_withQuestion_7 rfl (lv_at hl 0 rfl) ?_
      refine va_get (D := D) (ci := 11) (v := .ref aq) (C := RX11) (T := TX11) (N := 9) hx hb hg gwX11 hown hK hP 0 rfl rfl 2 (by decide) (hg _ kw_523) (fun _ h9 => h9) rfl dX11_withQuestion_8 ?_
      refine va_get (D := D) (ci := 5) (v := .int (nI C)) (C := RX5) (T := TX5) (N := 7) hx hb hg gwX5 hown hK hP 1 rfl rfl 4 (by decide) (hg _ kw_592) (fun _ h9 => h9) rfl dX11_withQuestion_11 ?_
      refine lv_icmp_ge (tgt := 79) hx hb dX11_withQuestion_14 (by decide) (fun c_14 => ?_) (fun c_14 => ?_)
      · have n_14 : C ≤ cx := b_le_t (by omega) (by omega) c_14
        refine lv_iconst (v := 0) hx hb dX11_withQuestion_79 (by decide) ?_
        refine lv_istore (lv' := [(5, .int 0), (0, .ref x0), (1, .long v), (3, .long u3_5)]) hx hb dX11_withQuestion_80 hl (by decide) rfl (fun ls hl => ?_)
        have LOOP82 : ∀ (n82 : Nat) (u3_82 : Int64) (k3 : Nat), k3 ≤ P → P - k3 < n82 → ∀ (ls : Array Slot), lv_has ls 7 [(0, .ref x0), (1, .long v), (3, .long u3_82), (5, .int (nI k3))] → W p l e ({ frames := 1, cells := 0, slots := 0, locals := 23 } : Room) s m args below meth c s.heap [] 0 0 Q (F0 m 82 ls []) := by
          intro n82
          induction n82 with
          | zero =>
            intro u3_82 k3 hk3 hn82 ls hl
            exact absurd hn82 (Nat.not_lt_zero _)
          | succ n82 ih82 =>
            intro u3_82 k3 hk3 hn82 ls hl
            refine lv_iload hx hb dX11_withQuestion_82 (lv_at hl 3 rfl) ?_
            refine lv_aload_n hx hb dX11_withQuestion_84 rfl (lv_at hl 0 rfl) ?_
            refine va_get (D := D) (ci := 11) (v := .ref aq) (C := RX11) (T := TX11) (N := 9) hx hb hg gwX11 hown hK hP 0 rfl rfl 2 (by decide) (hg _ kw_523) (fun _ h9 => h9) rfl dX11_withQuestion_85 ?_
            refine va_get (D := D) (ci := 5) (v := .int (nI P)) (C := RX5) (T := TX5) (N := 7) hx hb hg gwX5 hown hK hP 1 rfl rfl 5 (by decide) (hg _ kw_556) (fun _ h9 => h9) rfl dX11_withQuestion_88 ?_
            refine lv_icmp_ge (tgt := 116) hx hb dX11_withQuestion_91 (by decide) (fun c_91 => ?_) (fun c_91 => ?_)
            · have n_91 : P ≤ k3 := b_le_t (by omega) (by omega) c_91
              refine lv_lload_n hx hb dX11_withQuestion_116 rfl (lv_at hl 2 rfl) ?_
              refine W_sQ hQ ?_
              exact W.lret (v := u3_82) hx hb hr (fun t ht hW => ⟨u3_82, rfl, trivial, ht⟩) (fun _ h => absurd h List.not_mem_nil) dX11_withQuestion_117
            · have n_91 : k3 < P := b_le_f (by omega) (by omega) c_91
              refine lv_lload_n hx hb dX11_withQuestion_94 rfl (lv_at hl 2 rfl) ?_
              refine lv_aload_n hx hb dX11_withQuestion_95 rfl (lv_at hl 0 rfl) ?_
              refine va_get (D := D) (ci := 11) (v := .ref aq) (C := RX11) (T := TX11) (N := 9) hx hb hg gwX11 hown hK hP 0 rfl rfl 2 (by decide) (hg _ kw_523) (fun _ h9 => h9) rfl dX11_withQuestion_96 ?_
              refine va_get (D := D) (ci := 5) (v := .ref ao) (C := RX5) (T := TX5) (N := 7) hx hb hg gwX5 hown hK hP 1 rfl rfl 2 (by decide) (hg _ kw_537) (fun _ h9 => h9) rfl dX11_withQuestion_99 ?_
              refine lv_iload hx hb dX11_withQuestion_102 (lv_at hl 3 rfl) ?_
              refine va_iald hx hb hK hP 9 0 rfl rfl (vp_in_nI (show k3 < 4 by omega) (by decide)) dX11_withQuestion_104 ?_
              refine lv_topi (fun z_104 e_104 => ?_)
              refine lv_i2l hx hb dX11_withQuestion_105 rfl ?_
              refine lv_topl (fun z_105 e_105 => ?_)
              refine vp_callSl (W.runS (As := [.long u3_82, .long z_105]) (rest := []) ⟨hx, hb, hml, hown, hg⟩ (c_mixed l u3_82 z_105) (va_cwS 2 hg (gw_S kw_746 kw_747 kw_12 kw_745) rfl rfl rfl (by decide +kernel) ⟨(Nat.le_of_ble_eq_true rfl), (Nat.le_of_ble_eq_true rfl)⟩) pr_0 rfl rfl hl.1 rfl (lv_room (Nat.le_of_ble_eq_true rfl)) dX11_withQuestion_106 ⟨(Nat.le_of_ble_eq_true rfl), (Nat.le_of_ble_eq_true rfl)⟩) (fun r_106 h_106 => ?_)
              clear h_106
              refine lv_lstore_n (lv' := [(3, .long r_106), (0, .ref x0), (1, .long v), (5, .int (nI k3))]) hx hb dX11_withQuestion_109 rfl hl (by decide) rfl (fun ls hl => ?_)
              refine lv_iinc (v := (nI (k3 + 1))) (lv' := [(5, .int (nI (k3 + 1))), (3, .long r_106), (0, .ref x0), (1, .long v)]) hx hb dX11_withQuestion_110 hl (k := 3) rfl (nI_add k3 1) (by decide) rfl (fun ls hl => ?_)
              refine lv_goto (tgt := 82) hx hb dX11_withQuestion_113 (by decide) ?_
              exact ih82 r_106 (k3 + 1) (by omega) (by omega) ls (lv_sub hl [2, 3, 1, 0] rfl)
        exact LOOP82 (P - 0 + 1) u3_5 0 (by omega) (Nat.lt_succ_self _) ls (lv_sub hl [1, 2, 3, 0] rfl)
      · have n_14 : cx < C := b_le_f (by omega) (by omega) c_14
        refine lv_lload_n hx hb dX11_withQuestion_17 rfl (lv_at hl 2 rfl) ?_
        refine lv_aload_n hx hb dX11_withQuestion_18 rfl (lv_at hl 0 rfl) ?_
        refine va_get (D := D) (ci := 11) (v := .ref aq) (C := RX11) (T := TX11) (N := 9) hx hb hg gwX11 hown hK hP 0 rfl rfl 2 (by decide) (hg _ kw_523) (fun _ h9 => h9) rfl dX11_withQuestion_19 ?_
        refine va_get (D := D) (ci := 5) (v := .ref aw) (C := RX5) (T := TX5) (N := 7) hx hb hg gwX5 hown hK hP 1 rfl rfl 0 (by decide) (hg _ kw_533) (fun _ h9 => h9) rfl dX11_withQuestion_22 ?_
        refine lv_iload hx hb dX11_withQuestion_25 (lv_at hl 3 rfl) ?_
        refine va_iald hx hb hK hP 2 0 rfl rfl (vp_in_nI (show cx < 5 by omega) (by decide)) dX11_withQuestion_27 ?_
        refine lv_topi (fun z_27 e_27 => ?_)
        refine lv_i2l hx hb dX11_withQuestion_28 rfl ?_
        refine lv_topl (fun z_28 e_28 => ?_)
        refine vp_callSl (W.runS (As := [.long u3_5, .long z_28]) (rest := []) ⟨hx, hb, hml, hown, hg⟩ (c_mixed l u3_5 z_28) (va_cwS 2 hg (gw_S kw_746 kw_747 kw_12 kw_745) rfl rfl rfl (by decide +kernel) ⟨(Nat.le_of_ble_eq_true rfl), (Nat.le_of_ble_eq_true rfl)⟩) pr_0 rfl rfl hl.1 rfl (lv_room (Nat.le_of_ble_eq_true rfl)) dX11_withQuestion_29 ⟨(Nat.le_of_ble_eq_true rfl), (Nat.le_of_ble_eq_true rfl)⟩) (fun r_29 h_29 => ?_)
        clear h_29
        refine lv_lstore_n (lv' := [(3, .long r_29), (0, .ref x0), (1, .long v), (5, .int (nI cx))]) hx hb dX11_withQuestion_32 rfl hl (by decide) rfl (fun ls hl => ?_)
        refine lv_iconst (v := 0) hx hb dX11_withQuestion_33 (by decide) ?_
        refine lv_istore (lv' := [(6, .int 0), (3, .long r_29), (0, .ref x0), (1, .long v), (5, .int (nI cx))]) hx hb dX11_withQuestion_34 hl (by decide) rfl (fun ls hl => ?_)
        have LOOP36 : ∀ (n36 : Nat) (u3_36 : Int64) (pe : Nat), pe ≤ P → P - pe < n36 → ∀ (ls : Array Slot), lv_has ls 7 [(0, .ref x0), (1, .long v), (3, .long u3_36), (5, .int (nI cx)), (6, .int (nI pe))] → W p l e ({ frames := 1, cells := 0, slots := 0, locals := 23 } : Room) s m args below meth c s.heap [] 0 0 Q (F0 m 36 ls []) := by
          intro n36
          induction n36 with
          | zero =>
            intro u3_36 pe hpe hn36 ls hl
            exact absurd hn36 (Nat.not_lt_zero _)
          | succ n36 ih36 =>
            intro u3_36 pe hpe hn36 ls hl
            refine lv_iload hx hb dX11_withQuestion_36 (lv_at hl 4 rfl) ?_
            refine lv_aload_n hx hb dX11_withQuestion_38 rfl (lv_at hl 0 rfl) ?_
            refine va_get (D := D) (ci := 11) (v := .ref aq) (C := RX11) (T := TX11) (N := 9) hx hb hg gwX11 hown hK hP 0 rfl rfl 2 (by decide) (hg _ kw_523) (fun _ h9 => h9) rfl dX11_withQuestion_39 ?_
            refine va_get (D := D) (ci := 5) (v := .int (nI P)) (C := RX5) (T := TX5) (N := 7) hx hb hg gwX5 hown hK hP 1 rfl rfl 5 (by decide) (hg _ kw_556) (fun _ h9 => h9) rfl dX11_withQuestion_42 ?_
            refine lv_icmp_ge (tgt := 73) hx hb dX11_withQuestion_45 (by decide) (fun c_45 => ?_) (fun c_45 => ?_)
            · have n_45 : P ≤ pe := b_le_t (by omega) (by omega) c_45
              refine lv_iinc (v := (nI (cx + 1))) (lv' := [(5, .int (nI (cx + 1))), (0, .ref x0), (1, .long v), (3, .long u3_36), (6, .int (nI pe))]) hx hb dX11_withQuestion_73 hl (k := 3) rfl (nI_add cx 1) (by decide) rfl (fun ls hl => ?_)
              refine lv_goto (tgt := 5) hx hb dX11_withQuestion_76 (by decide) ?_
              exact ih5 u3_36 (cx + 1) (by omega) (by omega) ls (lv_sub hl [1, 2, 3, 0] rfl)
            · have n_45 : pe < P := b_le_f (by omega) (by omega) c_45
              refine lv_lload_n hx hb dX11_withQuestion_48 rfl (lv_at hl 2 rfl) ?_
              refine lv_aload_n hx hb dX11_withQuestion_49 rfl (lv_at hl 0 rfl) ?_
              refine va_get (D := D) (ci := 11) (v := .ref aq) (C := RX11) (T := TX11) (N := 9) hx hb hg gwX11 hown hK hP 0 rfl rfl 2 (by decide) (hg _ kw_523) (fun _ h9 => h9) rfl dX11_withQuestion_50 ?_
              refine va_get (D := D) (ci := 5) (v := .ref ac) (C := RX5) (T := TX5) (N := 7) hx hb hg gwX5 hown hK hP 1 rfl rfl 1 (by decide) (hg _ kw_532) (fun _ h9 => h9) rfl dX11_withQuestion_53 ?_
              refine lv_iload hx hb dX11_withQuestion_56 (lv_at hl 3 rfl) ?_
              refine va_aldR (k := cx) hx hb hK hP 3 4 rfl rfl (show cx < 5 by omega) (by decide) dX11_withQuestion_58 ?_
              refine lv_iload hx hb dX11_withQuestion_59 (lv_at hl 4 rfl) ?_
              refine va_iald hx hb hK hP (4 + cx) 0 (rat_5 (g := fun j9 => (ar j9, .inl (cs 0, 4, .inl (far j9)))) (show cx < 5 by omega) ⟨rfl, rfl, rfl, rfl, rfl⟩) rfl (vp_in_nI (show pe < 4 by omega) (by decide)) dX11_withQuestion_61 ?_
              refine lv_topi (fun z_61 e_61 => ?_)
              refine lv_i2l hx hb dX11_withQuestion_62 rfl ?_
              refine lv_topl (fun z_62 e_62 => ?_)
              refine vp_callSl (W.runS (As := [.long u3_36, .long z_62]) (rest := []) ⟨hx, hb, hml, hown, hg⟩ (c_mixed l u3_36 z_62) (va_cwS 2 hg (gw_S kw_746 kw_747 kw_12 kw_745) rfl rfl rfl (by decide +kernel) ⟨(Nat.le_of_ble_eq_true rfl), (Nat.le_of_ble_eq_true rfl)⟩) pr_0 rfl rfl hl.1 rfl (lv_room (Nat.le_of_ble_eq_true rfl)) dX11_withQuestion_63 ⟨(Nat.le_of_ble_eq_true rfl), (Nat.le_of_ble_eq_true rfl)⟩) (fun r_63 h_63 => ?_)
              clear h_63
              refine lv_lstore_n (lv' := [(3, .long r_63), (0, .ref x0), (1, .long v), (5, .int (nI cx)), (6, .int (nI pe))]) hx hb dX11_withQuestion_66 rfl hl (by decide) rfl (fun ls hl => ?_)
              refine lv_iinc (v := (nI (pe + 1))) (lv' := [(6, .int (nI (pe + 1))), (3, .long r_63), (0, .ref x0), (1, .long v), (5, .int (nI cx))]) hx hb dX11_withQuestion_67 hl (k := 4) rfl (nI_add pe 1) (by decide) rfl (fun ls hl => ?_)
              refine lv_goto (tgt := 36) hx hb dX11_withQuestion_70 (by decide) ?_
              exact ih36 r_63 (pe + 1) (by omega) (by omega) ls (lv_sub hl [2, 3, 1, 4, 0] rfl)
        exact LOOP36 (P - 0 + 1) r_29 0 (by omega) (Nat.lt_succ_self _) ls (lv_sub hl [2, 3, 1, 4, 0] rfl)
  exact LOOP5 (C - 0 + 1) v 0 (by omega) (Nat.lt_succ_self _) ls (lv_sub hl [2, 3, 1, 0] rfl)

theorem dX11_withRows_0 : decode cX11_withRows 0 = .ok (.lload_n 1, 1) := by decide +kernel
theorem dX11_withRows_1 : decode cX11_withRows 1 = .ok (.lstore_n 3, 1) := by decide +kernel
theorem dX11_withRows_2 : decode cX11_withRows 2 = .ok (.iconst 0, 1) := by decide +kernel
theorem dX11_withRows_3 : decode cX11_withRows 3 = .ok (.istore 5, 2) := by decide +kernel
theorem dX11_withRows_5 : decode cX11_withRows 5 = .ok (.iload 5, 2) := by decide +kernel
theorem dX11_withRows_7 : decode cX11_withRows 7 = .ok (.aload_n 0, 1) := by decide +kernel
theorem dX11_withRows_8 : decode cX11_withRows 8 = .ok (.getfield 55, 3) := by decide +kernel
theorem dX11_withRows_11 : decode cX11_withRows 11 = .ok (.getfield 83, 3) := by decide +kernel
theorem dX11_withRows_14 : decode cX11_withRows 14 = .ok (.if_icmp .ge 84, 3) := by decide +kernel
theorem dX11_withRows_17 : decode cX11_withRows 17 = .ok (.lload_n 3, 1) := by decide +kernel
theorem dX11_withRows_18 : decode cX11_withRows 18 = .ok (.aload_n 0, 1) := by decide +kernel
theorem dX11_withRows_19 : decode cX11_withRows 19 = .ok (.getfield 55, 3) := by decide +kernel
theorem dX11_withRows_22 : decode cX11_withRows 22 = .ok (.getfield 321, 3) := by decide +kernel
theorem dX11_withRows_25 : decode cX11_withRows 25 = .ok (.iload 5, 2) := by decide +kernel
theorem dX11_withRows_27 : decode cX11_withRows 27 = .ok (.iaload, 1) := by decide +kernel
theorem dX11_withRows_28 : decode cX11_withRows 28 = .ok (.i2l, 1) := by decide +kernel
theorem dX11_withRows_29 : decode cX11_withRows 29 = .ok (.invokestatic 310, 3) := by decide +kernel
theorem dX11_withRows_32 : decode cX11_withRows 32 = .ok (.lstore_n 3, 1) := by decide +kernel
theorem dX11_withRows_33 : decode cX11_withRows 33 = .ok (.lload_n 3, 1) := by decide +kernel
theorem dX11_withRows_34 : decode cX11_withRows 34 = .ok (.aload_n 0, 1) := by decide +kernel
theorem dX11_withRows_35 : decode cX11_withRows 35 = .ok (.getfield 55, 3) := by decide +kernel
theorem dX11_withRows_38 : decode cX11_withRows 38 = .ok (.getfield 324, 3) := by decide +kernel
theorem dX11_withRows_41 : decode cX11_withRows 41 = .ok (.iload 5, 2) := by decide +kernel
theorem dX11_withRows_43 : decode cX11_withRows 43 = .ok (.laload, 1) := by decide +kernel
theorem dX11_withRows_44 : decode cX11_withRows 44 = .ok (.invokestatic 310, 3) := by decide +kernel
theorem dX11_withRows_47 : decode cX11_withRows 47 = .ok (.lstore_n 3, 1) := by decide +kernel
theorem dX11_withRows_48 : decode cX11_withRows 48 = .ok (.lload_n 3, 1) := by decide +kernel
theorem dX11_withRows_49 : decode cX11_withRows 49 = .ok (.aload_n 0, 1) := by decide +kernel
theorem dX11_withRows_50 : decode cX11_withRows 50 = .ok (.getfield 55, 3) := by decide +kernel
theorem dX11_withRows_53 : decode cX11_withRows 53 = .ok (.iload 5, 2) := by decide +kernel
theorem dX11_withRows_55 : decode cX11_withRows 55 = .ok (.aload_n 0, 1) := by decide +kernel
theorem dX11_withRows_56 : decode cX11_withRows 56 = .ok (.getfield 26, 3) := by decide +kernel
theorem dX11_withRows_59 : decode cX11_withRows 59 = .ok (.getfield 87, 3) := by decide +kernel
theorem dX11_withRows_62 : decode cX11_withRows 62 = .ok (.invokevirtual 286, 3) := by decide +kernel
theorem dX11_withRows_65 : decode cX11_withRows 65 = .ok (.i2l, 1) := by decide +kernel
theorem dX11_withRows_66 : decode cX11_withRows 66 = .ok (.invokestatic 310, 3) := by decide +kernel
theorem dX11_withRows_69 : decode cX11_withRows 69 = .ok (.lstore_n 3, 1) := by decide +kernel
theorem dX11_withRows_70 : decode cX11_withRows 70 = .ok (.lload_n 3, 1) := by decide +kernel
theorem dX11_withRows_71 : decode cX11_withRows 71 = .ok (.aload_n 0, 1) := by decide +kernel
theorem dX11_withRows_72 : decode cX11_withRows 72 = .ok (.getfield 55, 3) := by decide +kernel
theorem dX11_withRows_75 : decode cX11_withRows 75 = .ok (.iload 5, 2) := by decide +kernel
theorem dX11_withRows_77 : decode cX11_withRows 77 = .ok (.aload_n 0, 1) := by decide +kernel
theorem dX11_withRows_78 : decode cX11_withRows 78 = .ok (.getfield 26, 3) := by decide +kernel
theorem dX11_withRows_81 : decode cX11_withRows 81 = .ok (.getfield 87, 3) := by decide +kernel
theorem dX11_withRows_84 : decode cX11_withRows 84 = .ok (.invokevirtual 289, 3) := by decide +kernel
theorem dX11_withRows_87 : decode cX11_withRows 87 = .ok (.i2l, 1) := by decide +kernel
theorem dX11_withRows_88 : decode cX11_withRows 88 = .ok (.invokestatic 310, 3) := by decide +kernel
theorem dX11_withRows_91 : decode cX11_withRows 91 = .ok (.lstore_n 3, 1) := by decide +kernel
theorem dX11_withRows_92 : decode cX11_withRows 92 = .ok (.iinc 5 1, 3) := by decide +kernel
theorem dX11_withRows_95 : decode cX11_withRows 95 = .ok (.goto (-90), 3) := by decide +kernel
theorem dX11_withRows_98 : decode cX11_withRows 98 = .ok (.lload_n 3, 1) := by decide +kernel
theorem dX11_withRows_99 : decode cX11_withRows 99 = .ok (.lreturn, 1) := by decide +kernel
theorem kw_748 : (.fieldLink RX11 321 "NobodyChecks$Rows" "answers" "[I" : Cond) ∈ gw_tbl := gw_in (by decide +kernel) (by decide +kernel)
theorem kw_749 : (.fieldLink RX11 324 "NobodyChecks$Rows" "guesses" "[J" : Cond) ∈ gw_tbl := gw_in (by decide +kernel) (by decide +kernel)

set_option maxHeartbeats 4000000 in
set_option maxRecDepth 100000 in
theorem x_withRows (l : Launch) (D : va_G) (cs : Nat → ClassId) (x0 : Nat) (py : Nat) (pn : Nat) (hpn : pn ≤ 8) (td : Int32) (pg : Nat) (rd : Nat) (pl : Nat) (ch : Nat) (aq : Nat) (aw : Nat) (ac : Nat) (ao : Nat) (am : Nat) (C : Nat) (hC5 : C ≤ 5) (P : Nat) (hP4 : P ≤ 4) (tot : Int64) (ro : Nat) (ra : Nat) (rg : Nat) (rs : Nat) (hrs : rs ≤ 24) (fra : Nat → Int32) (frg : Nat → Int64) (v : Int64) : Met l yX11_withRows (Cond.code yX11_withRows cX11_withRows 6 (some .long) :: gw_tbl) ({ frames := 2, cells := 0, slots := 0, locals := 51 }) (pc_S D cs [(x0, .inr (11, [.ref pg, .ref rd, .ref aq, .ref py, .ref pl, .ref ch, .ref ro, .int (nI pn), .int td])), (aq, .inr (5, [.ref aw, .ref ac, .ref ao, .ref am, .int (nI C), .int (nI P), .long tot])), (ro, .inr (8, [.ref ra, .ref rg, .int (nI rs)])), (ra, .inl (cs 0, 24, .inl fra)), (rg, .inl (cs 1, 24, .inr (.inl frg)))] [.ref x0, .long v]) (vp_Sl (fun r => True)) 0 0 (fun _ => False) := by
  refine Met.ofW (cc := cX11_withRows) (maxL := 6) (ret := (some .long)) (by decide) rfl ?_
  intro p e s m args below meth c s₁ B hml hv
  obtain ⟨hargs, hP, hK⟩ := hv
  have hx := B.exec
  have hb := B.bytes
  have hr := B.returns
  have hts := atoms_spec (ws := Cond.code yX11_withRows cX11_withRows 6 (some .long) :: gw_tbl) B.pre
  have hg := fun (w : Cond) (h : w ∈ gw_tbl) => hts w (List.mem_cons_of_mem _ h)
  have hown : s.vm.findClass RX11 = some m.cls := findClass_of_methodNamed B.named
  have hlocks := B.notSynchronized
  have hl := lv_entry ([.ref x0, .long v]) (n := 6) (Nat.le_of_ble_eq_true rfl)
  rw [show entryFrame m args 6 = F0 m 0 (lg_sl ([.ref x0, .long v]) ++ List.replicate (6 - (lg_sl ([.ref x0, .long v])).length) Slot.unset).toArray [] from by rw [hargs]; exact lg_entry_eq ..]
  generalize (lg_sl ([.ref x0, .long v]) ++ List.replicate (6 - (lg_sl ([.ref x0, .long v])).length) Slot.unset).toArray = ls at hl ⊢
  have hl : lv_has ls 6 [(0, .ref x0), (1, .long v)] := hl
  refine W_genQ (fun Q hQ => ?_)
  have hlm := lim_le hP4
  have hlq := lim_pos P
  have hsg := sgn_le hP4
  refine lv_lload_n hx hb dX11_withRows_0 rfl (lv_at hl 1 rfl) ?_
  refine lv_lstore_n (lv' := [(3, .long v), (0, .ref x0), (1, .long v)]) hx hb dX11_withRows_1 rfl hl (by decide) rfl (fun ls hl => ?_)
  refine lv_iconst (v := 0) hx hb dX11_withRows_2 (by decide) ?_
  refine lv_istore (lv' := [(5, .int 0), (3, .long v), (0, .ref x0), (1, .long v)]) hx hb dX11_withRows_3 hl (by decide) rfl (fun ls hl => ?_)
  have LOOP5 : ∀ (n5 : Nat) (u3_5 : Int64) (k : Nat), k ≤ rs → rs - k < n5 → ∀ (ls : Array Slot), lv_has ls 6 [(0, .ref x0), (1, .long v), (3, .long u3_5), (5, .int (nI k))] → W p l e ({ frames := 2, cells := 0, slots := 0, locals := 51 } : Room) s m args below meth c s.heap [] 0 0 Q (F0 m 5 ls []) := by
    intro n5
    induction n5 with
    | zero =>
      intro u3_5 k hk hn5 ls hl
      exact absurd hn5 (Nat.not_lt_zero _)
    | succ n5 ih5 =>
      intro u3_5 k hk hn5 ls hl
      refine lv_iload hx hb dX11_withRows_5 (lv_at hl 3 rfl) ?_
      refine lv_aload_n hx hb dX11_withRows_7 rfl (lv_at hl 0 rfl) ?_
      refine va_get (D := D) (ci := 11) (v := .ref ro) (C := RX11) (T := TX11) (N := 9) hx hb hg gwX11 hown hK hP 0 rfl rfl 6 (by decide) (hg _ kw_563) (fun _ h9 => h9) rfl dX11_withRows_8 ?_
      refine va_get (D := D) (ci := 8) (v := .int (nI rs)) (C := RX8) (T := TX8) (N := 3) hx hb hg gwX8 hown hK hP 2 rfl rfl 2 (by decide) (hg _ kw_564) (fun _ h9 => h9) rfl dX11_withRows_11 ?_
      refine lv_icmp_ge (tgt := 98) hx hb dX11_withRows_14 (by decide) (fun c_14 => ?_) (fun c_14 => ?_)
      · have n_14 : rs ≤ k := b_le_t (by omega) (by omega) c_14
        refine lv_lload_n hx hb dX11_withRows_98 rfl (lv_at hl 2 rfl) ?_
        refine W_sQ hQ ?_
        exact W.lret (v := u3_5) hx hb hr (fun t ht hW => ⟨u3_5, rfl, trivial, ht⟩) (fun _ h => absurd h List.not_mem_nil) dX11_withRows_99
      · have n_14 : k < rs := b_le_f (by omega) (by omega) c_14
        refine lv_lload_n hx hb dX11_withRows_17 rfl (lv_at hl 2 rfl) ?_
        refine lv_aload_n hx hb dX11_withRows_18 rfl (lv_at hl 0 rfl) ?_
        refine va_get (D := D) (ci := 11) (v := .ref ro) (C := RX11) (T := TX11) (N := 9) hx hb hg gwX11 hown hK hP 0 rfl rfl 6 (by decide) (hg _ kw_563) (fun _ h9 => h9) rfl dX11_withRows_19 ?_
        refine va_get (D := D) (ci := 8) (v := .ref ra) (C := RX8) (T := TX8) (N := 3) hx hb hg gwX8 hown hK hP 2 rfl rfl 0 (by decide) (hg _ kw_748) (fun _ h9 => h9) rfl dX11_withRows_22 ?_
        refine lv_iload hx hb dX11_withRows_25 (lv_at hl 3 rfl) ?_
        refine va_iald hx hb hK hP 3 0 rfl rfl (vp_in_nI (show k < 24 by omega) (by decide)) dX11_withRows_27 ?_
        refine lv_topi (fun z_27 e_27 => ?_)
        refine lv_i2l hx hb dX11_withRows_28 rfl ?_
        refine lv_topl (fun z_28 e_28 => ?_)
        refine vp_callSl (W.runS (As := [.long u3_5, .long z_28]) (rest := []) ⟨hx, hb, hml, hown, hg⟩ (c_mixed l u3_5 z_28) (va_cwS 2 hg (gw_S kw_746 kw_747 kw_12 kw_745) rfl rfl rfl (by decide +kernel) ⟨(Nat.le_of_ble_eq_true rfl), (Nat.le_of_ble_eq_true rfl)⟩) pr_0 rfl rfl hl.1 rfl (lv_room (Nat.le_of_ble_eq_true rfl)) dX11_withRows_29 ⟨(Nat.le_of_ble_eq_true rfl), (Nat.le_of_ble_eq_true rfl)⟩) (fun r_29 h_29 => ?_)
        clear h_29
        refine lv_lstore_n (lv' := [(3, .long r_29), (0, .ref x0), (1, .long v), (5, .int (nI k))]) hx hb dX11_withRows_32 rfl hl (by decide) rfl (fun ls hl => ?_)
        refine lv_lload_n hx hb dX11_withRows_33 rfl (lv_at hl 0 rfl) ?_
        refine lv_aload_n hx hb dX11_withRows_34 rfl (lv_at hl 1 rfl) ?_
        refine va_get (D := D) (ci := 11) (v := .ref ro) (C := RX11) (T := TX11) (N := 9) hx hb hg gwX11 hown hK hP 0 rfl rfl 6 (by decide) (hg _ kw_563) (fun _ h9 => h9) rfl dX11_withRows_35 ?_
        refine va_get (D := D) (ci := 8) (v := .ref rg) (C := RX8) (T := TX8) (N := 3) hx hb hg gwX8 hown hK hP 2 rfl rfl 1 (by decide) (hg _ kw_749) (fun _ h9 => h9) rfl dX11_withRows_38 ?_
        refine lv_iload hx hb dX11_withRows_41 (lv_at hl 3 rfl) ?_
        refine va_lald hx hb hK hP 4 1 rfl rfl (vp_in_nI (show k < 24 by omega) (by decide)) dX11_withRows_43 ?_
        refine lv_topl (fun z_43 e_43 => ?_)
        refine vp_callSl (W.runS (As := [.long r_29, .long z_43]) (rest := []) ⟨hx, hb, hml, hown, hg⟩ (c_mixed l r_29 z_43) (va_cwS 2 hg (gw_S kw_746 kw_747 kw_12 kw_745) rfl rfl rfl (by decide +kernel) ⟨(Nat.le_of_ble_eq_true rfl), (Nat.le_of_ble_eq_true rfl)⟩) pr_0 rfl rfl hl.1 rfl (lv_room (Nat.le_of_ble_eq_true rfl)) dX11_withRows_44 ⟨(Nat.le_of_ble_eq_true rfl), (Nat.le_of_ble_eq_true rfl)⟩) (fun r_44 h_44 => ?_)
        clear h_44
        refine lv_lstore_n (lv' := [(3, .long r_44), (0, .ref x0), (1, .long v), (5, .int (nI k))]) hx hb dX11_withRows_47 rfl hl (by decide) rfl (fun ls hl => ?_)
        refine lv_lload_n hx hb dX11_withRows_48 rfl (lv_at hl 0 rfl) ?_
        refine lv_aload_n hx hb dX11_withRows_49 rfl (lv_at hl 1 rfl) ?_
        refine va_get (D := D) (ci := 11) (v := .ref ro) (C := RX11) (T := TX11) (N := 9) hx hb hg gwX11 hown hK hP 0 rfl rfl 6 (by decide) (hg _ kw_563) (fun _ h9 => h9) rfl dX11_withRows_50 ?_
        refine lv_iload hx hb dX11_withRows_53 (lv_at hl 3 rfl) ?_
        refine lv_aload_n hx hb dX11_withRows_55 rfl (lv_at hl 1 rfl) ?_
        refine va_get (D := D) (ci := 11) (v := .ref aq) (C := RX11) (T := TX11) (N := 9) hx hb hg gwX11 hown hK hP 0 rfl rfl 2 (by decide) (hg _ kw_523) (fun _ h9 => h9) rfl dX11_withRows_56 ?_
        refine va_get (D := D) (ci := 5) (v := .int (nI P)) (C := RX5) (T := TX5) (N := 7) hx hb hg gwX5 hown hK hP 1 rfl rfl 5 (by decide) (hg _ kw_556) (fun _ h9 => h9) rfl dX11_withRows_59 ?_
        have hPc := hP.sub (ws' := [(ro, .inr (8, [.ref ra, .ref rg, .int (nI rs)])), (ra, .inl (cs 0, 24, .inl fra))]) [2, 3] rfl
        refine vp_callSi (W.runV (As := [.int (nI k), .int (nI P)]) (rest := [.long r_44]) ⟨hx, hb, hml, hown, hg⟩ (w_says l D cs ro ra rg rs (by omega) fra k (by omega) P (by omega)) (cwV 2 hg (gw_V kw_589 kw_590 kw_591 kw_105 kw_588) rfl rfl rfl (by decide +kernel) ⟨(Nat.le_of_ble_eq_true rfl), (Nat.le_of_ble_eq_true rfl)⟩) (pr_SV (q := (RX8, TX8, 3)) 8 0 hK hPc rfl rfl) rfl rfl hl.1 rfl (lv_room (Nat.le_of_ble_eq_true rfl)) dX11_withRows_62 ⟨(Nat.le_of_ble_eq_true rfl), (Nat.le_of_ble_eq_true rfl)⟩) (fun r_62 h_62 => ?_)
        clear h_62
        refine lv_i2l hx hb dX11_withRows_65 rfl ?_
        refine lv_topl (fun z_65 e_65 => ?_)
        refine vp_callSl (W.runS (As := [.long r_44, .long z_65]) (rest := []) ⟨hx, hb, hml, hown, hg⟩ (c_mixed l r_44 z_65) (va_cwS 2 hg (gw_S kw_746 kw_747 kw_12 kw_745) rfl rfl rfl (by decide +kernel) ⟨(Nat.le_of_ble_eq_true rfl), (Nat.le_of_ble_eq_true rfl)⟩) pr_0 rfl rfl hl.1 rfl (lv_room (Nat.le_of_ble_eq_true rfl)) dX11_withRows_66 ⟨(Nat.le_of_ble_eq_true rfl), (Nat.le_of_ble_eq_true rfl)⟩) (fun r_66 h_66 => ?_)
        clear h_66
        refine lv_lstore_n (lv' := [(3, .long r_66), (0, .ref x0), (1, .long v), (5, .int (nI k))]) hx hb dX11_withRows_69 rfl hl (by decide) rfl (fun ls hl => ?_)
        refine lv_lload_n hx hb dX11_withRows_70 rfl (lv_at hl 0 rfl) ?_
        refine lv_aload_n hx hb dX11_withRows_71 rfl (lv_at hl 1 rfl) ?_
        refine va_get (D := D) (ci := 11) (v := .ref ro) (C := RX11) (T := TX11) (N := 9) hx hb hg gwX11 hown hK hP 0 rfl rfl 6 (by decide) (hg _ kw_563) (fun _ h9 => h9) rfl dX11_withRows_72 ?_
        refine lv_iload hx hb dX11_withRows_75 (lv_at hl 3 rfl) ?_
        refine lv_aload_n hx hb dX11_withRows_77 rfl (lv_at hl 1 rfl) ?_
        refine va_get (D := D) (ci := 11) (v := .ref aq) (C := RX11) (T := TX11) (N := 9) hx hb hg gwX11 hown hK hP 0 rfl rfl 2 (by decide) (hg _ kw_523) (fun _ h9 => h9) rfl dX11_withRows_78 ?_
        refine va_get (D := D) (ci := 5) (v := .int (nI P)) (C := RX5) (T := TX5) (N := 7) hx hb hg gwX5 hown hK hP 1 rfl rfl 5 (by decide) (hg _ kw_556) (fun _ h9 => h9) rfl dX11_withRows_81 ?_
        have hPc := hP.sub (ws' := [(ro, .inr (8, [.ref ra, .ref rg, .int (nI rs)])), (ra, .inl (cs 0, 24, .inl fra)), (rg, .inl (cs 1, 24, .inr (.inl frg)))]) [2, 3, 4] rfl
        refine vp_callSi (W.runV (As := [.int (nI k), .int (nI P)]) (rest := [.long r_66]) ⟨hx, hb, hml, hown, hg⟩ (w_surprisedAt l D cs ro ra rg rs (by omega) fra frg k (by omega) P (by omega)) (cwV 2 hg (gw_V kw_585 kw_586 kw_587 kw_105 kw_584) rfl rfl rfl (by decide +kernel) ⟨(Nat.le_of_ble_eq_true rfl), (Nat.le_of_ble_eq_true rfl)⟩) (pr_SV (q := (RX8, TX8, 3)) 8 0 hK hPc rfl rfl) rfl rfl hl.1 rfl (lv_room (Nat.le_of_ble_eq_true rfl)) dX11_withRows_84 ⟨(Nat.le_of_ble_eq_true rfl), (Nat.le_of_ble_eq_true rfl)⟩) (fun r_84 h_84 => ?_)
        clear h_84
        refine lv_i2l hx hb dX11_withRows_87 rfl ?_
        refine lv_topl (fun z_87 e_87 => ?_)
        refine vp_callSl (W.runS (As := [.long r_66, .long z_87]) (rest := []) ⟨hx, hb, hml, hown, hg⟩ (c_mixed l r_66 z_87) (va_cwS 2 hg (gw_S kw_746 kw_747 kw_12 kw_745) rfl rfl rfl (by decide +kernel) ⟨(Nat.le_of_ble_eq_true rfl), (Nat.le_of_ble_eq_true rfl)⟩) pr_0 rfl rfl hl.1 rfl (lv_room (Nat.le_of_ble_eq_true rfl)) dX11_withRows_88 ⟨(Nat.le_of_ble_eq_true rfl), (Nat.le_of_ble_eq_true rfl)⟩) (fun r_88 h_88 => ?_)
        clear h_88
        refine lv_lstore_n (lv' := [(3, .long r_88), (0, .ref x0), (1, .long v), (5, .int (nI k))]) hx hb dX11_withRows_91 rfl hl (by decide) rfl (fun ls hl => ?_)
        refine lv_iinc (v := (nI (k + 1))) (lv' := [(5, .int (nI (k + 1))), (3, .long r_88), (0, .ref x0), (1, .long v)]) hx hb dX11_withRows_92 hl (k := 3) rfl (nI_add k 1) (by decide) rfl (fun ls hl => ?_)
        refine lv_goto (tgt := 5) hx hb dX11_withRows_95 (by decide) ?_
        exact ih5 r_88 (k + 1) (by omega) (by omega) ls (lv_sub hl [2, 3, 1, 0] rfl)
  exact LOOP5 (rs - 0 + 1) v 0 (by omega) (Nat.lt_succ_self _) ls (lv_sub hl [2, 3, 1, 0] rfl)
