theorem dX12_go_0 : decode cX12_go 0 = .ok (.iload_n 1, 1) := by decide +kernel
theorem dX12_go_1 : decode cX12_go 1 = .ok (.i2l, 1) := by decide +kernel
theorem dX12_go_2 : decode cX12_go 2 = .ok (.ldc2_w 66, 3) := by decide +kernel
theorem dX12_go_5 : decode cX12_go 5 = .ok (.ldc2_w 68, 3) := by decide +kernel
theorem dX12_go_8 : decode cX12_go 8 = .ok (.invokestatic 70, 3) := by decide +kernel
theorem dX12_go_11 : decode cX12_go 11 = .ok (.istore_n 2, 1) := by decide +kernel
theorem dX12_go_12 : decode cX12_go 12 = .ok (.aload_n 0, 1) := by decide +kernel
theorem dX12_go_13 : decode cX12_go 13 = .ok (.getfield 86, 3) := by decide +kernel
theorem dX12_go_16 : decode cX12_go 16 = .ok (.tableswitch 151 0 3 #[32, 66, 66, 131], 32) := by decide +kernel
theorem dX12_go_48 : decode cX12_go 48 = .ok (.aload_n 0, 1) := by decide +kernel
theorem dX12_go_49 : decode cX12_go 49 = .ok (.iconst 0, 1) := by decide +kernel
theorem dX12_go_50 : decode cX12_go 50 = .ok (.putfield 83, 3) := by decide +kernel
theorem dX12_go_53 : decode cX12_go 53 = .ok (.aload_n 0, 1) := by decide +kernel
theorem dX12_go_54 : decode cX12_go 54 = .ok (.iload_n 1, 1) := by decide +kernel
theorem dX12_go_55 : decode cX12_go 55 = .ok (.bipush 48, 2) := by decide +kernel
theorem dX12_go_57 : decode cX12_go 57 = .ok (.isub, 1) := by decide +kernel
theorem dX12_go_58 : decode cX12_go 58 = .ok (.putfield 77, 3) := by decide +kernel
theorem dX12_go_61 : decode cX12_go 61 = .ok (.aload_n 0, 1) := by decide +kernel
theorem dX12_go_62 : decode cX12_go 62 = .ok (.iconst 1, 1) := by decide +kernel
theorem dX12_go_63 : decode cX12_go 63 = .ok (.putfield 86, 3) := by decide +kernel
theorem dX12_go_66 : decode cX12_go 66 = .ok (.iload_n 2, 1) := by decide +kernel
theorem dX12_go_67 : decode cX12_go 67 = .ok (.ifCond .eq 13, 3) := by decide +kernel
theorem dX12_go_70 : decode cX12_go 70 = .ok (.iload_n 1, 1) := by decide +kernel
theorem dX12_go_71 : decode cX12_go 71 = .ok (.bipush 48, 2) := by decide +kernel
theorem dX12_go_73 : decode cX12_go 73 = .ok (.if_icmp .eq 7, 3) := by decide +kernel
theorem dX12_go_76 : decode cX12_go 76 = .ok (.iconst 1, 1) := by decide +kernel
theorem dX12_go_77 : decode cX12_go 77 = .ok (.goto 4, 3) := by decide +kernel
theorem dX12_go_80 : decode cX12_go 80 = .ok (.iconst 0, 1) := by decide +kernel
theorem dX12_go_81 : decode cX12_go 81 = .ok (.ireturn, 1) := by decide +kernel
theorem dX12_go_82 : decode cX12_go 82 = .ok (.iload_n 2, 1) := by decide +kernel
theorem dX12_go_83 : decode cX12_go 83 = .ok (.ifCond .eq 34, 3) := by decide +kernel
theorem dX12_go_86 : decode cX12_go 86 = .ok (.aload_n 0, 1) := by decide +kernel
theorem dX12_go_87 : decode cX12_go 87 = .ok (.getfield 86, 3) := by decide +kernel
theorem dX12_go_90 : decode cX12_go 90 = .ok (.iconst 1, 1) := by decide +kernel
theorem dX12_go_91 : decode cX12_go 91 = .ok (.if_icmp .ne 26, 3) := by decide +kernel
theorem dX12_go_94 : decode cX12_go 94 = .ok (.aload_n 0, 1) := by decide +kernel
theorem dX12_go_95 : decode cX12_go 95 = .ok (.bipush 10, 2) := by decide +kernel
theorem dX12_go_97 : decode cX12_go 97 = .ok (.aload_n 0, 1) := by decide +kernel
theorem dX12_go_98 : decode cX12_go 98 = .ok (.getfield 77, 3) := by decide +kernel
theorem dX12_go_101 : decode cX12_go 101 = .ok (.imul, 1) := by decide +kernel
theorem dX12_go_102 : decode cX12_go 102 = .ok (.iload_n 1, 1) := by decide +kernel
theorem dX12_go_103 : decode cX12_go 103 = .ok (.iadd, 1) := by decide +kernel
theorem dX12_go_104 : decode cX12_go 104 = .ok (.bipush 48, 2) := by decide +kernel
theorem dX12_go_106 : decode cX12_go 106 = .ok (.isub, 1) := by decide +kernel
theorem dX12_go_107 : decode cX12_go 107 = .ok (.putfield 77, 3) := by decide +kernel
theorem dX12_go_110 : decode cX12_go 110 = .ok (.aload_n 0, 1) := by decide +kernel
theorem dX12_go_111 : decode cX12_go 111 = .ok (.iconst 2, 1) := by decide +kernel
theorem dX12_go_112 : decode cX12_go 112 = .ok (.putfield 86, 3) := by decide +kernel
theorem dX12_go_115 : decode cX12_go 115 = .ok (.iconst 1, 1) := by decide +kernel
theorem dX12_go_116 : decode cX12_go 116 = .ok (.ireturn, 1) := by decide +kernel
theorem dX12_go_117 : decode cX12_go 117 = .ok (.aload_n 0, 1) := by decide +kernel
theorem dX12_go_118 : decode cX12_go 118 = .ok (.getfield 22, 3) := by decide +kernel
theorem dX12_go_121 : decode cX12_go 121 = .ok (.aload_n 0, 1) := by decide +kernel
theorem dX12_go_122 : decode cX12_go 122 = .ok (.getfield 80, 3) := by decide +kernel
theorem dX12_go_125 : decode cX12_go 125 = .ok (.aload_n 0, 1) := by decide +kernel
theorem dX12_go_126 : decode cX12_go 126 = .ok (.getfield 77, 3) := by decide +kernel
theorem dX12_go_129 : decode cX12_go 129 = .ok (.iastore, 1) := by decide +kernel
theorem dX12_go_130 : decode cX12_go 130 = .ok (.aload_n 0, 1) := by decide +kernel
theorem dX12_go_131 : decode cX12_go 131 = .ok (.iconst 3, 1) := by decide +kernel
theorem dX12_go_132 : decode cX12_go 132 = .ok (.putfield 86, 3) := by decide +kernel
theorem dX12_go_135 : decode cX12_go 135 = .ok (.iload_n 1, 1) := by decide +kernel
theorem dX12_go_136 : decode cX12_go 136 = .ok (.bipush 58, 2) := by decide +kernel
theorem dX12_go_138 : decode cX12_go 138 = .ok (.if_icmp .ne 7, 3) := by decide +kernel
theorem dX12_go_141 : decode cX12_go 141 = .ok (.iconst 1, 1) := by decide +kernel
theorem dX12_go_142 : decode cX12_go 142 = .ok (.goto 4, 3) := by decide +kernel
theorem dX12_go_145 : decode cX12_go 145 = .ok (.iconst 0, 1) := by decide +kernel
theorem dX12_go_146 : decode cX12_go 146 = .ok (.ireturn, 1) := by decide +kernel
theorem dX12_go_147 : decode cX12_go 147 = .ok (.aload_n 0, 1) := by decide +kernel
theorem dX12_go_148 : decode cX12_go 148 = .ok (.iload_n 1, 1) := by decide +kernel
theorem dX12_go_149 : decode cX12_go 149 = .ok (.bipush 48, 2) := by decide +kernel
theorem dX12_go_151 : decode cX12_go 151 = .ok (.isub, 1) := by decide +kernel
theorem dX12_go_152 : decode cX12_go 152 = .ok (.putfield 77, 3) := by decide +kernel
theorem dX12_go_155 : decode cX12_go 155 = .ok (.aload_n 0, 1) := by decide +kernel
theorem dX12_go_156 : decode cX12_go 156 = .ok (.iconst 1, 1) := by decide +kernel
theorem dX12_go_157 : decode cX12_go 157 = .ok (.putfield 74, 3) := by decide +kernel
theorem dX12_go_160 : decode cX12_go 160 = .ok (.aload_n 0, 1) := by decide +kernel
theorem dX12_go_161 : decode cX12_go 161 = .ok (.iconst 4, 1) := by decide +kernel
theorem dX12_go_162 : decode cX12_go 162 = .ok (.putfield 86, 3) := by decide +kernel
theorem dX12_go_165 : decode cX12_go 165 = .ok (.iload_n 2, 1) := by decide +kernel
theorem dX12_go_166 : decode cX12_go 166 = .ok (.ireturn, 1) := by decide +kernel
theorem dX12_go_167 : decode cX12_go 167 = .ok (.aload_n 0, 1) := by decide +kernel
theorem dX12_go_168 : decode cX12_go 168 = .ok (.iload_n 1, 1) := by decide +kernel
theorem dX12_go_169 : decode cX12_go 169 = .ok (.invokevirtual 92, 3) := by decide +kernel
theorem dX12_go_172 : decode cX12_go 172 = .ok (.ireturn, 1) := by decide +kernel

set_option maxHeartbeats 4000000 in
set_option maxRecDepth 100000 in
theorem m_go_0 (l : Launch) (D : va_G) (cs : Nat → ClassId) (m0 : Nat) (mp : Nat) (mw : Nat) (mh : Nat) (mo : Nat) (m5 : Nat) (m6 : Nat) (m7 : Nat) (mk : Nat) (mn : Nat) (mq : Nat) (m8 : Nat) (m9 : Nat) (mz : Nat) (mb : Nat) (md : Nat) (ms : Nat) (C : Nat) (P : Nat) (mpn : Nat) (mrs : Nat) (rc : Nat) (rp : Nat) (ic : Nat) (hms : ms ≤ 90) (hC5 : C ≤ 5) (hP4 : P ≤ 4) (hmpn : mpn ≤ 8) (hmrs : mrs ≤ 24) (hrc : rc ≤ 5) (hrp : rp ≤ 4) (hic : ic ≤ 4) (x_value : Int32) (x_digits : Int32) (x_all : Int64) (x_kind : Int32) (x_last : Int32) (x_steps : Int32) (x_isRound : Int32) (x_tablesDone : Int32) (x_hash : Int64) (fm5 : Nat → Int32) (fm6 : Nat → Int32) (cd_ : Int32) (hrc4 : rc ≤ 4) (hwr : wI fm5 rc) (sz : Nat) : Met l yX12_go (Cond.code yX12_go cX12_go 3 (some .boolean) :: gw_tbl) ({ frames := 1, cells := 0, slots := 0, locals := 25 }) (pc_M D cs [(m0, .inr (12, [.ref mp, .int (nI ms), .int (nI C), .int (nI P), .ref mw, .ref mh, .ref mo, .int 0, .int x_value, .int x_digits, .int (nI rc), .int (nI rp), .int (nI ic), .ref m5, .ref m6, .ref m7, .long x_all, .int (nI mpn), .ref mk, .ref mn, .int x_kind, .ref mq, .ref m8, .ref m9, .int x_last, .int x_steps, .int x_isRound, .int x_tablesDone, .ref mz, .int (nI mrs), .ref mb, .ref md, .long x_hash])), (m5, .inl (cs 0, 5, .inl fm5)), (m6, .inl (cs 0, 20, .inl fm6))] sz [.ref m0, .int cd_]) (va_Qi (fun (r : Int32) (u : Int32) => u = r ∧ (r = 0 ∨ r = 1)) (fun u t => ∃ (s2 : Nat), ∃ (v2 : Int32), ∃ (dg2 : Int32), ∃ (rc2 : Nat), ∃ (rp2 : Nat), ∃ (ic2 : Nat), ∃ (fm52 : Nat → Int32), ∃ (fm62 : Nat → Int32), (s2 ≤ 4) ∧ (rc2 ≤ 5) ∧ (rp2 ≤ 4) ∧ (ic2 ≤ 4) ∧ (u = 1 → gvI fm52 s2 rc2 ic2 v2) ∧ va_P D vwCl [(m0, .inr (12, [.ref mp, .int (nI ms), .int (nI C), .int (nI P), .ref mw, .ref mh, .ref mo, .int (nI s2), .int v2, .int dg2, .int (nI rc2), .int (nI rp2), .int (nI ic2), .ref m5, .ref m6, .ref m7, .long x_all, .int (nI mpn), .ref mk, .ref mn, .int x_kind, .ref mq, .ref m8, .ref m9, .int x_last, .int x_steps, .int x_isRound, .int x_tablesDone, .ref mz, .int (nI mrs), .ref mb, .ref md, .long x_hash])), (m5, .inl (cs 0, 5, .inl fm52)), (m6, .inl (cs 0, 20, .inl fm62))] t.heap ∧ va_D (va_A [(m0, .inr (12, [.ref mp, .int (nI ms), .int (nI C), .int (nI P), .ref mw, .ref mh, .ref mo, .int 0, .int x_value, .int x_digits, .int (nI rc), .int (nI rp), .int (nI ic), .ref m5, .ref m6, .ref m7, .long x_all, .int (nI mpn), .ref mk, .ref mn, .int x_kind, .ref mq, .ref m8, .ref m9, .int x_last, .int x_steps, .int x_isRound, .int x_tablesDone, .ref mz, .int (nI mrs), .ref mb, .ref md, .long x_hash])), (m5, .inl (cs 0, 5, .inl fm5)), (m6, .inl (cs 0, 20, .inl fm6))] sz) [(m0, .inr (12, [.ref mp, .int (nI ms), .int (nI C), .int (nI P), .ref mw, .ref mh, .ref mo, .int (nI s2), .int v2, .int dg2, .int (nI rc2), .int (nI rp2), .int (nI ic2), .ref m5, .ref m6, .ref m7, .long x_all, .int (nI mpn), .ref mk, .ref mn, .int x_kind, .ref mq, .ref m8, .ref m9, .int x_last, .int x_steps, .int x_isRound, .int x_tablesDone, .ref mz, .int (nI mrs), .ref mb, .ref md, .long x_hash])), (m5, .inl (cs 0, 5, .inl fm52)), (m6, .inl (cs 0, 20, .inl fm62))]) (va_A [(m0, .inr (12, [.ref mp, .int (nI ms), .int (nI C), .int (nI P), .ref mw, .ref mh, .ref mo, .int 0, .int x_value, .int x_digits, .int (nI rc), .int (nI rp), .int (nI ic), .ref m5, .ref m6, .ref m7, .long x_all, .int (nI mpn), .ref mk, .ref mn, .int x_kind, .ref mq, .ref m8, .ref m9, .int x_last, .int x_steps, .int x_isRound, .int x_tablesDone, .ref mz, .int (nI mrs), .ref mb, .ref md, .long x_hash])), (m5, .inl (cs 0, 5, .inl fm5)), (m6, .inl (cs 0, 20, .inl fm6))] sz)) 0 0 (va_A [(m0, .inr (12, [.ref mp, .int (nI ms), .int (nI C), .int (nI P), .ref mw, .ref mh, .ref mo, .int 0, .int x_value, .int x_digits, .int (nI rc), .int (nI rp), .int (nI ic), .ref m5, .ref m6, .ref m7, .long x_all, .int (nI mpn), .ref mk, .ref mn, .int x_kind, .ref mq, .ref m8, .ref m9, .int x_last, .int x_steps, .int x_isRound, .int x_tablesDone, .ref mz, .int (nI mrs), .ref mb, .ref md, .long x_hash])), (m5, .inl (cs 0, 5, .inl fm5)), (m6, .inl (cs 0, 20, .inl fm6))] sz) := by
  refine Met.ofW (cc := cX12_go) (maxL := 3) (ret := (some .boolean)) (by decide) rfl ?_
  intro p e s m args below meth c s₁ B hml hv
  obtain ⟨hargs, hsz, hP, hK, hD0⟩ := hv
  have hx := B.exec
  have hb := B.bytes
  have hr := B.returns
  have hts := atoms_spec (ws := Cond.code yX12_go cX12_go 3 (some .boolean) :: gw_tbl) B.pre
  have hg := fun (w : Cond) (h : w ∈ gw_tbl) => hts w (List.mem_cons_of_mem _ h)
  have hown : s.vm.findClass RX12 = some m.cls := findClass_of_methodNamed B.named
  have hlocks := B.notSynchronized
  subst hsz
  have hD := hD0.self (sz := s.heap.size)
  generalize hAe : va_A [(m0, .inr (12, [.ref mp, .int (nI ms), .int (nI C), .int (nI P), .ref mw, .ref mh, .ref mo, .int 0, .int x_value, .int x_digits, .int (nI rc), .int (nI rp), .int (nI ic), .ref m5, .ref m6, .ref m7, .long x_all, .int (nI mpn), .ref mk, .ref mn, .int x_kind, .ref mq, .ref m8, .ref m9, .int x_last, .int x_steps, .int x_isRound, .int x_tablesDone, .ref mz, .int (nI mrs), .ref mb, .ref md, .long x_hash])), (m5, .inl (cs 0, 5, .inl fm5)), (m6, .inl (cs 0, 20, .inl fm6))] s.heap.size = A at hD ⊢
  have hA : ∀ q : Nat, s.heap.size ≤ q → A q := fun q h => by rw [← hAe]; exact Or.inr h
  have hS : va_S A s.heap s.heap [] := va_S.rf
  have hP : va_P D vwCl [(m0, .inr (12, [.ref mp, .int (nI ms), .int (nI C), .int (nI P), .ref mw, .ref mh, .ref mo, .int 0, .int x_value, .int x_digits, .int (nI rc), .int (nI rp), .int (nI ic), .ref m5, .ref m6, .ref m7, .long x_all, .int (nI mpn), .ref mk, .ref mn, .int x_kind, .ref mq, .ref m8, .ref m9, .int x_last, .int x_steps, .int x_isRound, .int x_tablesDone, .ref mz, .int (nI mrs), .ref mb, .ref md, .long x_hash])), (m5, .inl (cs 0, 5, .inl fm5)), (m6, .inl (cs 0, 20, .inl fm6))] s.heap := hP
  have hl := lv_entry ([.ref m0, .int cd_]) (n := 3) (Nat.le_of_ble_eq_true rfl)
  rw [show entryFrame m args 3 = F0 m 0 (lg_sl ([.ref m0, .int cd_]) ++ List.replicate (3 - (lg_sl ([.ref m0, .int cd_])).length) Slot.unset).toArray [] from by rw [hargs]; exact lg_entry_eq ..]
  generalize (lg_sl ([.ref m0, .int cd_]) ++ List.replicate (3 - (lg_sl ([.ref m0, .int cd_])).length) Slot.unset).toArray = ls at hl ⊢
  have hl : lv_has ls 3 [(0, .ref m0), (1, .int cd_)] := hl
  refine W_genQ (fun Q hQ => ?_)
  have hlm := lim_le hP4
  have hlq := lim_pos P
  have hsg := sgn_le hP4
  refine lv_iload_n hx hb dX12_go_0 rfl (lv_at hl 1 rfl) ?_
  refine lv_i2l hx hb dX12_go_1 rfl ?_
  refine lv_topl (fun z_1 e_1 => ?_)
  refine lv_ldc2 hx hb hown (hg _ kw_478) dX12_go_2 ?_
  refine lv_ldc2 hx hb hown (hg _ kw_479) dX12_go_5 ?_
  refine vp_callSi (W.runS (As := [.long z_1, .long 48, .long 57]) (rest := []) ⟨hx, hb, hml, hown, hg⟩ (c_in l z_1 48 57) (va_cwS 3 hg (gw_S kw_317 kw_318 kw_319 kw_316) rfl rfl rfl (by decide +kernel) ⟨(Nat.le_of_ble_eq_true rfl), (Nat.le_of_ble_eq_true rfl)⟩) pr_0 rfl rfl hl.1 rfl (lv_room (Nat.le_of_ble_eq_true rfl)) dX12_go_8 ⟨(Nat.le_of_ble_eq_true rfl), (Nat.le_of_ble_eq_true rfl)⟩) (fun r_8 h_8 => ?_)
  rcases dg_1 e_1 h_8 with rfl | ⟨rfl, d_8, hd_8, rfl⟩
  · refine lv_istore_n (lv' := [(2, .int 0), (0, .ref m0), (1, .int cd_)]) hx hb dX12_go_11 rfl hl (by decide) rfl (fun ls hl => ?_)
    refine lv_aload_n hx hb dX12_go_12 rfl (lv_at hl 1 rfl) ?_
    refine va_get (D := D) (ci := 12) (v := .int 0) (C := RX12) (T := TX12) (N := 33) hx hb hg gwX12 hown hK hP 0 rfl rfl 7 (by decide) (hg _ kw_485) (fun _ h9 => h9) rfl dX12_go_13 ?_
    refine lv_tableIn (tgt := 48) hx hb dX12_go_16 (by decide) (by decide) rfl (by decide) ?_
    refine lv_aload_n hx hb dX12_go_48 rfl (lv_at hl 1 rfl) ?_
    refine lv_iconst (v := 0) hx hb dX12_go_49 (by decide) ?_
    refine va_put (D := D) (ci := 12) (v := .int 0) (ty := .int) (C := RX12) (T := TX12) (N := 33) hx hb hg gwX12 tyX12 tyX12_ok nmX12 hown hK hP hD hS 0 rfl rfl 12 (by decide) (hg _ kw_482) (fun _ h9 => h9) rfl (by decide +kernel) rfl rfl (Nat.le_of_ble_eq_true rfl) dX12_go_50 (fun H locs hP hD hS => ?_)
    have hP : va_P D vwCl [(m0, .inr (12, [.ref mp, .int (nI ms), .int (nI C), .int (nI P), .ref mw, .ref mh, .ref mo, .int 0, .int x_value, .int x_digits, .int (nI rc), .int (nI rp), .int 0, .ref m5, .ref m6, .ref m7, .long x_all, .int (nI mpn), .ref mk, .ref mn, .int x_kind, .ref mq, .ref m8, .ref m9, .int x_last, .int x_steps, .int x_isRound, .int x_tablesDone, .ref mz, .int (nI mrs), .ref mb, .ref md, .long x_hash])), (m5, .inl (cs 0, 5, .inl fm5)), (m6, .inl (cs 0, 20, .inl fm6))] H := hP
    have hD : va_D A [(m0, .inr (12, [.ref mp, .int (nI ms), .int (nI C), .int (nI P), .ref mw, .ref mh, .ref mo, .int 0, .int x_value, .int x_digits, .int (nI rc), .int (nI rp), .int 0, .ref m5, .ref m6, .ref m7, .long x_all, .int (nI mpn), .ref mk, .ref mn, .int x_kind, .ref mq, .ref m8, .ref m9, .int x_last, .int x_steps, .int x_isRound, .int x_tablesDone, .ref mz, .int (nI mrs), .ref mb, .ref md, .long x_hash])), (m5, .inl (cs 0, 5, .inl fm5)), (m6, .inl (cs 0, 20, .inl fm6))] := hD
    refine lv_aload_n hx hb dX12_go_53 rfl (lv_at hl 1 rfl) ?_
    refine lv_iload_n hx hb dX12_go_54 rfl (lv_at hl 2 rfl) ?_
    refine lv_bipush (v := 48) hx hb dX12_go_55 (by decide) ?_
    refine lv_isub hx hb dX12_go_57 ?_
    refine lv_topi (fun z_57 e_57 => ?_)
    refine va_put (D := D) (ci := 12) (v := .int z_57) (ty := .int) (C := RX12) (T := TX12) (N := 33) hx hb hg gwX12 tyX12 tyX12_ok nmX12 hown hK hP hD hS 0 rfl rfl 8 (by decide) (hg _ kw_483) (fun _ h9 => h9) rfl (by decide +kernel) rfl rfl (Nat.le_of_ble_eq_true rfl) dX12_go_58 (fun H locs hP hD hS => ?_)
    have hP : va_P D vwCl [(m0, .inr (12, [.ref mp, .int (nI ms), .int (nI C), .int (nI P), .ref mw, .ref mh, .ref mo, .int 0, .int z_57, .int x_digits, .int (nI rc), .int (nI rp), .int 0, .ref m5, .ref m6, .ref m7, .long x_all, .int (nI mpn), .ref mk, .ref mn, .int x_kind, .ref mq, .ref m8, .ref m9, .int x_last, .int x_steps, .int x_isRound, .int x_tablesDone, .ref mz, .int (nI mrs), .ref mb, .ref md, .long x_hash])), (m5, .inl (cs 0, 5, .inl fm5)), (m6, .inl (cs 0, 20, .inl fm6))] H := hP
    have hD : va_D A [(m0, .inr (12, [.ref mp, .int (nI ms), .int (nI C), .int (nI P), .ref mw, .ref mh, .ref mo, .int 0, .int z_57, .int x_digits, .int (nI rc), .int (nI rp), .int 0, .ref m5, .ref m6, .ref m7, .long x_all, .int (nI mpn), .ref mk, .ref mn, .int x_kind, .ref mq, .ref m8, .ref m9, .int x_last, .int x_steps, .int x_isRound, .int x_tablesDone, .ref mz, .int (nI mrs), .ref mb, .ref md, .long x_hash])), (m5, .inl (cs 0, 5, .inl fm5)), (m6, .inl (cs 0, 20, .inl fm6))] := hD
    refine lv_aload_n hx hb dX12_go_61 rfl (lv_at hl 1 rfl) ?_
    refine lv_iconst (v := 1) hx hb dX12_go_62 (by decide) ?_
    refine va_put (D := D) (ci := 12) (v := .int 1) (ty := .int) (C := RX12) (T := TX12) (N := 33) hx hb hg gwX12 tyX12 tyX12_ok nmX12 hown hK hP hD hS 0 rfl rfl 7 (by decide) (hg _ kw_485) (fun _ h9 => h9) rfl (by decide +kernel) rfl rfl (Nat.le_of_ble_eq_true rfl) dX12_go_63 (fun H locs hP hD hS => ?_)
    have hP : va_P D vwCl [(m0, .inr (12, [.ref mp, .int (nI ms), .int (nI C), .int (nI P), .ref mw, .ref mh, .ref mo, .int 1, .int z_57, .int x_digits, .int (nI rc), .int (nI rp), .int 0, .ref m5, .ref m6, .ref m7, .long x_all, .int (nI mpn), .ref mk, .ref mn, .int x_kind, .ref mq, .ref m8, .ref m9, .int x_last, .int x_steps, .int x_isRound, .int x_tablesDone, .ref mz, .int (nI mrs), .ref mb, .ref md, .long x_hash])), (m5, .inl (cs 0, 5, .inl fm5)), (m6, .inl (cs 0, 20, .inl fm6))] H := hP
    have hD : va_D A [(m0, .inr (12, [.ref mp, .int (nI ms), .int (nI C), .int (nI P), .ref mw, .ref mh, .ref mo, .int 1, .int z_57, .int x_digits, .int (nI rc), .int (nI rp), .int 0, .ref m5, .ref m6, .ref m7, .long x_all, .int (nI mpn), .ref mk, .ref mn, .int x_kind, .ref mq, .ref m8, .ref m9, .int x_last, .int x_steps, .int x_isRound, .int x_tablesDone, .ref mz, .int (nI mrs), .ref mb, .ref md, .long x_hash])), (m5, .inl (cs 0, 5, .inl fm5)), (m6, .inl (cs 0, 20, .inl fm6))] := hD
    refine lv_iload_n hx hb dX12_go_66 rfl (lv_at hl 0 rfl) ?_
    refine lv_if_eq (tgt := 80) hx hb dX12_go_67 (by decide) (fun c_67 => ?_) (fun c_67 => absurd c_67 (by decide))
    refine lv_iconst (v := 0) hx hb dX12_go_80 (by decide) ?_
    refine W_sQ hQ ?_
    refine W.widen (k := 0) (n := 0) (Nat.le_of_ble_eq_true rfl) (Nat.le_of_ble_eq_true rfl) ?_
    have hP9 := hP.sub (ws' := [(m0, .inr (12, [.ref mp, .int (nI ms), .int (nI C), .int (nI P), .ref mw, .ref mh, .ref mo, .int 1, .int z_57, .int x_digits, .int (nI rc), .int (nI rp), .int 0, .ref m5, .ref m6, .ref m7, .long x_all, .int (nI mpn), .ref mk, .ref mn, .int x_kind, .ref mq, .ref m8, .ref m9, .int x_last, .int x_steps, .int x_isRound, .int x_tablesDone, .ref mz, .int (nI mrs), .ref mb, .ref md, .long x_hash])), (m5, .inl (cs 0, 5, .inl fm5)), (m6, .inl (cs 0, 20, .inl fm6))]) [0, 1, 2] rfl
    have hD9 := hD.sub (ws' := [(m0, .inr (12, [.ref mp, .int (nI ms), .int (nI C), .int (nI P), .ref mw, .ref mh, .ref mo, .int 1, .int z_57, .int x_digits, .int (nI rc), .int (nI rp), .int 0, .ref m5, .ref m6, .ref m7, .long x_all, .int (nI mpn), .ref mk, .ref mn, .int x_kind, .ref mq, .ref m8, .ref m9, .int x_last, .int x_steps, .int x_isRound, .int x_tablesDone, .ref mz, .int (nI mrs), .ref mb, .ref md, .long x_hash])), (m5, .inl (cs 0, 5, .inl fm5)), (m6, .inl (cs 0, 20, .inl fm6))]) [0, 1, 2] (by decide) rfl
    exact W.zret (v := 0) hx hb hr (by decide) (fun t ht hW => ⟨⟨0, 0, rfl, ⟨rfl, Or.inl rfl⟩, ⟨1, z_57, x_digits, rc, rp, 0, fm5, fm6, (by omega), (by omega), (by omega), (by omega), (fun q9 => absurd q9 (by decide)), by rw [ht]; exact hP9, hD9⟩⟩, hS.F ht⟩) hS.2.2 dX12_go_81
  · refine lv_istore_n (lv' := [(2, .int 1), (0, .ref m0), (1, .int (nI (48 + d_8)))]) hx hb dX12_go_11 rfl hl (by decide) rfl (fun ls hl => ?_)
    refine lv_aload_n hx hb dX12_go_12 rfl (lv_at hl 1 rfl) ?_
    refine va_get (D := D) (ci := 12) (v := .int 0) (C := RX12) (T := TX12) (N := 33) hx hb hg gwX12 hown hK hP 0 rfl rfl 7 (by decide) (hg _ kw_485) (fun _ h9 => h9) rfl dX12_go_13 ?_
    refine lv_tableIn (tgt := 48) hx hb dX12_go_16 (by decide) (by decide) rfl (by decide) ?_
    refine lv_aload_n hx hb dX12_go_48 rfl (lv_at hl 1 rfl) ?_
    refine lv_iconst (v := 0) hx hb dX12_go_49 (by decide) ?_
    refine va_put (D := D) (ci := 12) (v := .int 0) (ty := .int) (C := RX12) (T := TX12) (N := 33) hx hb hg gwX12 tyX12 tyX12_ok nmX12 hown hK hP hD hS 0 rfl rfl 12 (by decide) (hg _ kw_482) (fun _ h9 => h9) rfl (by decide +kernel) rfl rfl (Nat.le_of_ble_eq_true rfl) dX12_go_50 (fun H locs hP hD hS => ?_)
    have hP : va_P D vwCl [(m0, .inr (12, [.ref mp, .int (nI ms), .int (nI C), .int (nI P), .ref mw, .ref mh, .ref mo, .int 0, .int x_value, .int x_digits, .int (nI rc), .int (nI rp), .int 0, .ref m5, .ref m6, .ref m7, .long x_all, .int (nI mpn), .ref mk, .ref mn, .int x_kind, .ref mq, .ref m8, .ref m9, .int x_last, .int x_steps, .int x_isRound, .int x_tablesDone, .ref mz, .int (nI mrs), .ref mb, .ref md, .long x_hash])), (m5, .inl (cs 0, 5, .inl fm5)), (m6, .inl (cs 0, 20, .inl fm6))] H := hP
    have hD : va_D A [(m0, .inr (12, [.ref mp, .int (nI ms), .int (nI C), .int (nI P), .ref mw, .ref mh, .ref mo, .int 0, .int x_value, .int x_digits, .int (nI rc), .int (nI rp), .int 0, .ref m5, .ref m6, .ref m7, .long x_all, .int (nI mpn), .ref mk, .ref mn, .int x_kind, .ref mq, .ref m8, .ref m9, .int x_last, .int x_steps, .int x_isRound, .int x_tablesDone, .ref mz, .int (nI mrs), .ref mb, .ref md, .long x_hash])), (m5, .inl (cs 0, 5, .inl fm5)), (m6, .inl (cs 0, 20, .inl fm6))] := hD
    refine lv_aload_n hx hb dX12_go_53 rfl (lv_at hl 1 rfl) ?_
    refine lv_iload_n hx hb dX12_go_54 rfl (lv_at hl 2 rfl) ?_
    refine lv_bipush (v := 48) hx hb dX12_go_55 (by decide) ?_
    refine lv_isub hx hb dX12_go_57 ?_
    refine lv_topi (fun z_57 e_57 => ?_)
    obtain rfl : z_57 = nI ((48 + d_8) - 48) := e_57.trans (pk_sub (b := 48) (by omega))
    refine va_put (D := D) (ci := 12) (v := .int (nI ((48 + d_8) - 48))) (ty := .int) (C := RX12) (T := TX12) (N := 33) hx hb hg gwX12 tyX12 tyX12_ok nmX12 hown hK hP hD hS 0 rfl rfl 8 (by decide) (hg _ kw_483) (fun _ h9 => h9) rfl (by decide +kernel) rfl rfl (Nat.le_of_ble_eq_true rfl) dX12_go_58 (fun H locs hP hD hS => ?_)
    have hP : va_P D vwCl [(m0, .inr (12, [.ref mp, .int (nI ms), .int (nI C), .int (nI P), .ref mw, .ref mh, .ref mo, .int 0, .int (nI ((48 + d_8) - 48)), .int x_digits, .int (nI rc), .int (nI rp), .int 0, .ref m5, .ref m6, .ref m7, .long x_all, .int (nI mpn), .ref mk, .ref mn, .int x_kind, .ref mq, .ref m8, .ref m9, .int x_last, .int x_steps, .int x_isRound, .int x_tablesDone, .ref mz, .int (nI mrs), .ref mb, .ref md, .long x_hash])), (m5, .inl (cs 0, 5, .inl fm5)), (m6, .inl (cs 0, 20, .inl fm6))] H := hP
    have hD : va_D A [(m0, .inr (12, [.ref mp, .int (nI ms), .int (nI C), .int (nI P), .ref mw, .ref mh, .ref mo, .int 0, .int (nI ((48 + d_8) - 48)), .int x_digits, .int (nI rc), .int (nI rp), .int 0, .ref m5, .ref m6, .ref m7, .long x_all, .int (nI mpn), .ref mk, .ref mn, .int x_kind, .ref mq, .ref m8, .ref m9, .int x_last, .int x_steps, .int x_isRound, .int x_tablesDone, .ref mz, .int (nI mrs), .ref mb, .ref md, .long x_hash])), (m5, .inl (cs 0, 5, .inl fm5)), (m6, .inl (cs 0, 20, .inl fm6))] := hD
    refine lv_aload_n hx hb dX12_go_61 rfl (lv_at hl 1 rfl) ?_
    refine lv_iconst (v := 1) hx hb dX12_go_62 (by decide) ?_
    refine va_put (D := D) (ci := 12) (v := .int 1) (ty := .int) (C := RX12) (T := TX12) (N := 33) hx hb hg gwX12 tyX12 tyX12_ok nmX12 hown hK hP hD hS 0 rfl rfl 7 (by decide) (hg _ kw_485) (fun _ h9 => h9) rfl (by decide +kernel) rfl rfl (Nat.le_of_ble_eq_true rfl) dX12_go_63 (fun H locs hP hD hS => ?_)
    have hP : va_P D vwCl [(m0, .inr (12, [.ref mp, .int (nI ms), .int (nI C), .int (nI P), .ref mw, .ref mh, .ref mo, .int 1, .int (nI ((48 + d_8) - 48)), .int x_digits, .int (nI rc), .int (nI rp), .int 0, .ref m5, .ref m6, .ref m7, .long x_all, .int (nI mpn), .ref mk, .ref mn, .int x_kind, .ref mq, .ref m8, .ref m9, .int x_last, .int x_steps, .int x_isRound, .int x_tablesDone, .ref mz, .int (nI mrs), .ref mb, .ref md, .long x_hash])), (m5, .inl (cs 0, 5, .inl fm5)), (m6, .inl (cs 0, 20, .inl fm6))] H := hP
    have hD : va_D A [(m0, .inr (12, [.ref mp, .int (nI ms), .int (nI C), .int (nI P), .ref mw, .ref mh, .ref mo, .int 1, .int (nI ((48 + d_8) - 48)), .int x_digits, .int (nI rc), .int (nI rp), .int 0, .ref m5, .ref m6, .ref m7, .long x_all, .int (nI mpn), .ref mk, .ref mn, .int x_kind, .ref mq, .ref m8, .ref m9, .int x_last, .int x_steps, .int x_isRound, .int x_tablesDone, .ref mz, .int (nI mrs), .ref mb, .ref md, .long x_hash])), (m5, .inl (cs 0, 5, .inl fm5)), (m6, .inl (cs 0, 20, .inl fm6))] := hD
    refine lv_iload_n hx hb dX12_go_66 rfl (lv_at hl 0 rfl) ?_
    refine lv_if_eq (tgt := 80) hx hb dX12_go_67 (by decide) (fun c_67 => absurd c_67 (by decide)) (fun c_67 => ?_)
    refine lv_iload_n hx hb dX12_go_70 rfl (lv_at hl 2 rfl) ?_
    refine lv_bipush (v := 48) hx hb dX12_go_71 (by decide) ?_
    refine lv_icmp_eq (tgt := 80) hx hb dX12_go_73 (by decide) (fun c_73 => ?_) (fun c_73 => ?_)
    · have n_73 : 48 + d_8 = 48 := b_eq_t (by omega) (by omega) c_73
      refine lv_iconst (v := 0) hx hb dX12_go_80 (by decide) ?_
      refine W_sQ hQ ?_
      refine W.widen (k := 0) (n := 0) (Nat.le_of_ble_eq_true rfl) (Nat.le_of_ble_eq_true rfl) ?_
      have hP9 := hP.sub (ws' := [(m0, .inr (12, [.ref mp, .int (nI ms), .int (nI C), .int (nI P), .ref mw, .ref mh, .ref mo, .int 1, .int (nI ((48 + d_8) - 48)), .int x_digits, .int (nI rc), .int (nI rp), .int 0, .ref m5, .ref m6, .ref m7, .long x_all, .int (nI mpn), .ref mk, .ref mn, .int x_kind, .ref mq, .ref m8, .ref m9, .int x_last, .int x_steps, .int x_isRound, .int x_tablesDone, .ref mz, .int (nI mrs), .ref mb, .ref md, .long x_hash])), (m5, .inl (cs 0, 5, .inl fm5)), (m6, .inl (cs 0, 20, .inl fm6))]) [0, 1, 2] rfl
      have hD9 := hD.sub (ws' := [(m0, .inr (12, [.ref mp, .int (nI ms), .int (nI C), .int (nI P), .ref mw, .ref mh, .ref mo, .int 1, .int (nI ((48 + d_8) - 48)), .int x_digits, .int (nI rc), .int (nI rp), .int 0, .ref m5, .ref m6, .ref m7, .long x_all, .int (nI mpn), .ref mk, .ref mn, .int x_kind, .ref mq, .ref m8, .ref m9, .int x_last, .int x_steps, .int x_isRound, .int x_tablesDone, .ref mz, .int (nI mrs), .ref mb, .ref md, .long x_hash])), (m5, .inl (cs 0, 5, .inl fm5)), (m6, .inl (cs 0, 20, .inl fm6))]) [0, 1, 2] (by decide) rfl
      exact W.zret (v := 0) hx hb hr (by decide) (fun t ht hW => ⟨⟨0, 0, rfl, ⟨rfl, Or.inl rfl⟩, ⟨1, (nI ((48 + d_8) - 48)), x_digits, rc, rp, 0, fm5, fm6, (by omega), (by omega), (by omega), (by omega), (fun q9 => absurd q9 (by decide)), by rw [ht]; exact hP9, hD9⟩⟩, hS.F ht⟩) hS.2.2 dX12_go_81
    · have n_73 : ¬ 48 + d_8 = 48 := b_eq_f (by omega) (by omega) c_73
      refine lv_iconst (v := 1) hx hb dX12_go_76 (by decide) ?_
      refine lv_goto (tgt := 81) hx hb dX12_go_77 (by decide) ?_
      refine W_sQ hQ ?_
      refine W.widen (k := 0) (n := 0) (Nat.le_of_ble_eq_true rfl) (Nat.le_of_ble_eq_true rfl) ?_
      have hP9 := hP.sub (ws' := [(m0, .inr (12, [.ref mp, .int (nI ms), .int (nI C), .int (nI P), .ref mw, .ref mh, .ref mo, .int 1, .int (nI ((48 + d_8) - 48)), .int x_digits, .int (nI rc), .int (nI rp), .int 0, .ref m5, .ref m6, .ref m7, .long x_all, .int (nI mpn), .ref mk, .ref mn, .int x_kind, .ref mq, .ref m8, .ref m9, .int x_last, .int x_steps, .int x_isRound, .int x_tablesDone, .ref mz, .int (nI mrs), .ref mb, .ref md, .long x_hash])), (m5, .inl (cs 0, 5, .inl fm5)), (m6, .inl (cs 0, 20, .inl fm6))]) [0, 1, 2] rfl
      have hD9 := hD.sub (ws' := [(m0, .inr (12, [.ref mp, .int (nI ms), .int (nI C), .int (nI P), .ref mw, .ref mh, .ref mo, .int 1, .int (nI ((48 + d_8) - 48)), .int x_digits, .int (nI rc), .int (nI rp), .int 0, .ref m5, .ref m6, .ref m7, .long x_all, .int (nI mpn), .ref mk, .ref mn, .int x_kind, .ref mq, .ref m8, .ref m9, .int x_last, .int x_steps, .int x_isRound, .int x_tablesDone, .ref mz, .int (nI mrs), .ref mb, .ref md, .long x_hash])), (m5, .inl (cs 0, 5, .inl fm5)), (m6, .inl (cs 0, 20, .inl fm6))]) [0, 1, 2] (by decide) rfl
      exact W.zret (v := 1) hx hb hr (by decide) (fun t ht hW => ⟨⟨1, 1, rfl, ⟨rfl, Or.inr rfl⟩, ⟨1, (nI ((48 + d_8) - 48)), x_digits, rc, rp, 0, fm5, fm6, (by omega), (by omega), (by omega), (by omega), (fun _ => gv_1 hrc4 hwr (by omega) (by omega) (by omega)), by rw [ht]; exact hP9, hD9⟩⟩, hS.F ht⟩) hS.2.2 dX12_go_81

theorem kw_487 : (.fieldLink RX12 22 "NobodyChecksModel" "readWeights" "[I" : Cond) ∈ gw_tbl := gw_in (by decide +kernel) (by decide +kernel)

set_option maxHeartbeats 4000000 in
set_option maxRecDepth 100000 in
theorem m_go_1 (l : Launch) (D : va_G) (cs : Nat → ClassId) (m0 : Nat) (mp : Nat) (mw : Nat) (mh : Nat) (mo : Nat) (m5 : Nat) (m6 : Nat) (m7 : Nat) (mk : Nat) (mn : Nat) (mq : Nat) (m8 : Nat) (m9 : Nat) (mz : Nat) (mb : Nat) (md : Nat) (ms : Nat) (C : Nat) (P : Nat) (mpn : Nat) (mrs : Nat) (rc : Nat) (rp : Nat) (ic : Nat) (hms : ms ≤ 90) (hC5 : C ≤ 5) (hP4 : P ≤ 4) (hmpn : mpn ≤ 8) (hmrs : mrs ≤ 24) (hrc : rc ≤ 5) (hrp : rp ≤ 4) (hic : ic ≤ 4) (x_digits : Int32) (x_all : Int64) (x_kind : Int32) (x_last : Int32) (x_steps : Int32) (x_isRound : Int32) (x_tablesDone : Int32) (x_hash : Int64) (fm5 : Nat → Int32) (fm6 : Nat → Int32) (cd_ : Int32) (hrc4 : rc ≤ 4) (hwr : wI fm5 rc) (hic3 : ic ≤ 3) (vl : Nat) (hv1 : 1 ≤ vl) (hv2 : vl ≤ 9) (sz : Nat) : Met l yX12_go (Cond.code yX12_go cX12_go 3 (some .boolean) :: gw_tbl) ({ frames := 1, cells := 0, slots := 0, locals := 25 }) (pc_M D cs [(m0, .inr (12, [.ref mp, .int (nI ms), .int (nI C), .int (nI P), .ref mw, .ref mh, .ref mo, .int 1, .int (nI vl), .int x_digits, .int (nI rc), .int (nI rp), .int (nI ic), .ref m5, .ref m6, .ref m7, .long x_all, .int (nI mpn), .ref mk, .ref mn, .int x_kind, .ref mq, .ref m8, .ref m9, .int x_last, .int x_steps, .int x_isRound, .int x_tablesDone, .ref mz, .int (nI mrs), .ref mb, .ref md, .long x_hash])), (m5, .inl (cs 0, 5, .inl fm5)), (m6, .inl (cs 0, 20, .inl fm6))] sz [.ref m0, .int cd_]) (va_Qi (fun (r : Int32) (u : Int32) => u = r ∧ (r = 0 ∨ r = 1)) (fun u t => ∃ (s2 : Nat), ∃ (v2 : Int32), ∃ (dg2 : Int32), ∃ (rc2 : Nat), ∃ (rp2 : Nat), ∃ (ic2 : Nat), ∃ (fm52 : Nat → Int32), ∃ (fm62 : Nat → Int32), (s2 ≤ 4) ∧ (rc2 ≤ 5) ∧ (rp2 ≤ 4) ∧ (ic2 ≤ 4) ∧ (u = 1 → gvI fm52 s2 rc2 ic2 v2) ∧ va_P D vwCl [(m0, .inr (12, [.ref mp, .int (nI ms), .int (nI C), .int (nI P), .ref mw, .ref mh, .ref mo, .int (nI s2), .int v2, .int dg2, .int (nI rc2), .int (nI rp2), .int (nI ic2), .ref m5, .ref m6, .ref m7, .long x_all, .int (nI mpn), .ref mk, .ref mn, .int x_kind, .ref mq, .ref m8, .ref m9, .int x_last, .int x_steps, .int x_isRound, .int x_tablesDone, .ref mz, .int (nI mrs), .ref mb, .ref md, .long x_hash])), (m5, .inl (cs 0, 5, .inl fm52)), (m6, .inl (cs 0, 20, .inl fm62))] t.heap ∧ va_D (va_A [(m0, .inr (12, [.ref mp, .int (nI ms), .int (nI C), .int (nI P), .ref mw, .ref mh, .ref mo, .int 1, .int (nI vl), .int x_digits, .int (nI rc), .int (nI rp), .int (nI ic), .ref m5, .ref m6, .ref m7, .long x_all, .int (nI mpn), .ref mk, .ref mn, .int x_kind, .ref mq, .ref m8, .ref m9, .int x_last, .int x_steps, .int x_isRound, .int x_tablesDone, .ref mz, .int (nI mrs), .ref mb, .ref md, .long x_hash])), (m5, .inl (cs 0, 5, .inl fm5)), (m6, .inl (cs 0, 20, .inl fm6))] sz) [(m0, .inr (12, [.ref mp, .int (nI ms), .int (nI C), .int (nI P), .ref mw, .ref mh, .ref mo, .int (nI s2), .int v2, .int dg2, .int (nI rc2), .int (nI rp2), .int (nI ic2), .ref m5, .ref m6, .ref m7, .long x_all, .int (nI mpn), .ref mk, .ref mn, .int x_kind, .ref mq, .ref m8, .ref m9, .int x_last, .int x_steps, .int x_isRound, .int x_tablesDone, .ref mz, .int (nI mrs), .ref mb, .ref md, .long x_hash])), (m5, .inl (cs 0, 5, .inl fm52)), (m6, .inl (cs 0, 20, .inl fm62))]) (va_A [(m0, .inr (12, [.ref mp, .int (nI ms), .int (nI C), .int (nI P), .ref mw, .ref mh, .ref mo, .int 1, .int (nI vl), .int x_digits, .int (nI rc), .int (nI rp), .int (nI ic), .ref m5, .ref m6, .ref m7, .long x_all, .int (nI mpn), .ref mk, .ref mn, .int x_kind, .ref mq, .ref m8, .ref m9, .int x_last, .int x_steps, .int x_isRound, .int x_tablesDone, .ref mz, .int (nI mrs), .ref mb, .ref md, .long x_hash])), (m5, .inl (cs 0, 5, .inl fm5)), (m6, .inl (cs 0, 20, .inl fm6))] sz)) 0 0 (va_A [(m0, .inr (12, [.ref mp, .int (nI ms), .int (nI C), .int (nI P), .ref mw, .ref mh, .ref mo, .int 1, .int (nI vl), .int x_digits, .int (nI rc), .int (nI rp), .int (nI ic), .ref m5, .ref m6, .ref m7, .long x_all, .int (nI mpn), .ref mk, .ref mn, .int x_kind, .ref mq, .ref m8, .ref m9, .int x_last, .int x_steps, .int x_isRound, .int x_tablesDone, .ref mz, .int (nI mrs), .ref mb, .ref md, .long x_hash])), (m5, .inl (cs 0, 5, .inl fm5)), (m6, .inl (cs 0, 20, .inl fm6))] sz) := by
  refine Met.ofW (cc := cX12_go) (maxL := 3) (ret := (some .boolean)) (by decide) rfl ?_
  intro p e s m args below meth c s₁ B hml hv
  obtain ⟨hargs, hsz, hP, hK, hD0⟩ := hv
  have hx := B.exec
  have hb := B.bytes
  have hr := B.returns
  have hts := atoms_spec (ws := Cond.code yX12_go cX12_go 3 (some .boolean) :: gw_tbl) B.pre
  have hg := fun (w : Cond) (h : w ∈ gw_tbl) => hts w (List.mem_cons_of_mem _ h)
  have hown : s.vm.findClass RX12 = some m.cls := findClass_of_methodNamed B.named
  have hlocks := B.notSynchronized
  subst hsz
  have hD := hD0.self (sz := s.heap.size)
  generalize hAe : va_A [(m0, .inr (12, [.ref mp, .int (nI ms), .int (nI C), .int (nI P), .ref mw, .ref mh, .ref mo, .int 1, .int (nI vl), .int x_digits, .int (nI rc), .int (nI rp), .int (nI ic), .ref m5, .ref m6, .ref m7, .long x_all, .int (nI mpn), .ref mk, .ref mn, .int x_kind, .ref mq, .ref m8, .ref m9, .int x_last, .int x_steps, .int x_isRound, .int x_tablesDone, .ref mz, .int (nI mrs), .ref mb, .ref md, .long x_hash])), (m5, .inl (cs 0, 5, .inl fm5)), (m6, .inl (cs 0, 20, .inl fm6))] s.heap.size = A at hD ⊢
  have hA : ∀ q : Nat, s.heap.size ≤ q → A q := fun q h => by rw [← hAe]; exact Or.inr h
  have hS : va_S A s.heap s.heap [] := va_S.rf
  have hP : va_P D vwCl [(m0, .inr (12, [.ref mp, .int (nI ms), .int (nI C), .int (nI P), .ref mw, .ref mh, .ref mo, .int 1, .int (nI vl), .int x_digits, .int (nI rc), .int (nI rp), .int (nI ic), .ref m5, .ref m6, .ref m7, .long x_all, .int (nI mpn), .ref mk, .ref mn, .int x_kind, .ref mq, .ref m8, .ref m9, .int x_last, .int x_steps, .int x_isRound, .int x_tablesDone, .ref mz, .int (nI mrs), .ref mb, .ref md, .long x_hash])), (m5, .inl (cs 0, 5, .inl fm5)), (m6, .inl (cs 0, 20, .inl fm6))] s.heap := hP
  have hl := lv_entry ([.ref m0, .int cd_]) (n := 3) (Nat.le_of_ble_eq_true rfl)
  rw [show entryFrame m args 3 = F0 m 0 (lg_sl ([.ref m0, .int cd_]) ++ List.replicate (3 - (lg_sl ([.ref m0, .int cd_])).length) Slot.unset).toArray [] from by rw [hargs]; exact lg_entry_eq ..]
  generalize (lg_sl ([.ref m0, .int cd_]) ++ List.replicate (3 - (lg_sl ([.ref m0, .int cd_])).length) Slot.unset).toArray = ls at hl ⊢
  have hl : lv_has ls 3 [(0, .ref m0), (1, .int cd_)] := hl
  refine W_genQ (fun Q hQ => ?_)
  have hlm := lim_le hP4
  have hlq := lim_pos P
  have hsg := sgn_le hP4
  refine lv_iload_n hx hb dX12_go_0 rfl (lv_at hl 1 rfl) ?_
  refine lv_i2l hx hb dX12_go_1 rfl ?_
  refine lv_topl (fun z_1 e_1 => ?_)
  refine lv_ldc2 hx hb hown (hg _ kw_478) dX12_go_2 ?_
  refine lv_ldc2 hx hb hown (hg _ kw_479) dX12_go_5 ?_
  refine vp_callSi (W.runS (As := [.long z_1, .long 48, .long 57]) (rest := []) ⟨hx, hb, hml, hown, hg⟩ (c_in l z_1 48 57) (va_cwS 3 hg (gw_S kw_317 kw_318 kw_319 kw_316) rfl rfl rfl (by decide +kernel) ⟨(Nat.le_of_ble_eq_true rfl), (Nat.le_of_ble_eq_true rfl)⟩) pr_0 rfl rfl hl.1 rfl (lv_room (Nat.le_of_ble_eq_true rfl)) dX12_go_8 ⟨(Nat.le_of_ble_eq_true rfl), (Nat.le_of_ble_eq_true rfl)⟩) (fun r_8 h_8 => ?_)
  rcases dg_1 e_1 h_8 with rfl | ⟨rfl, d_8, hd_8, rfl⟩
  · refine lv_istore_n (lv' := [(2, .int 0), (0, .ref m0), (1, .int cd_)]) hx hb dX12_go_11 rfl hl (by decide) rfl (fun ls hl => ?_)
    refine lv_aload_n hx hb dX12_go_12 rfl (lv_at hl 1 rfl) ?_
    refine va_get (D := D) (ci := 12) (v := .int 1) (C := RX12) (T := TX12) (N := 33) hx hb hg gwX12 hown hK hP 0 rfl rfl 7 (by decide) (hg _ kw_485) (fun _ h9 => h9) rfl dX12_go_13 ?_
    refine lv_tableIn (tgt := 82) hx hb dX12_go_16 (by decide) (by decide) rfl (by decide) ?_
    refine lv_iload_n hx hb dX12_go_82 rfl (lv_at hl 0 rfl) ?_
    refine lv_if_eq (tgt := 117) hx hb dX12_go_83 (by decide) (fun c_83 => ?_) (fun c_83 => absurd c_83 (by decide))
    refine lv_aload_n hx hb dX12_go_117 rfl (lv_at hl 1 rfl) ?_
    refine va_get (D := D) (ci := 12) (v := .ref m5) (C := RX12) (T := TX12) (N := 33) hx hb hg gwX12 hown hK hP 0 rfl rfl 13 (by decide) (hg _ kw_487) (fun _ h9 => h9) rfl dX12_go_118 ?_
    refine lv_aload_n hx hb dX12_go_121 rfl (lv_at hl 1 rfl) ?_
    refine va_get (D := D) (ci := 12) (v := .int (nI rc)) (C := RX12) (T := TX12) (N := 33) hx hb hg gwX12 hown hK hP 0 rfl rfl 10 (by decide) (hg _ kw_481) (fun _ h9 => h9) rfl dX12_go_122 ?_
    refine lv_aload_n hx hb dX12_go_125 rfl (lv_at hl 1 rfl) ?_
    refine va_get (D := D) (ci := 12) (v := .int (nI vl)) (C := RX12) (T := TX12) (N := 33) hx hb hg gwX12 hown hK hP 0 rfl rfl 8 (by decide) (hg _ kw_483) (fun _ h9 => h9) rfl dX12_go_126 ?_
    refine va_iast hx hb hK hP hD hS 1 0 rfl rfl (vp_in_nI (show rc < 5 by omega) (by decide)) dX12_go_129 (fun H locs hP hD hS => ?_)
    obtain ⟨f_129, hf_129⟩ : ∃ f9, f9 = (upd fm5 (nI rc).toNatClampNeg (nI vl)) := ⟨_, rfl⟩
    rw [← hf_129] at hP hD
    have hP : va_P D vwCl [(m0, .inr (12, [.ref mp, .int (nI ms), .int (nI C), .int (nI P), .ref mw, .ref mh, .ref mo, .int 1, .int (nI vl), .int x_digits, .int (nI rc), .int (nI rp), .int (nI ic), .ref m5, .ref m6, .ref m7, .long x_all, .int (nI mpn), .ref mk, .ref mn, .int x_kind, .ref mq, .ref m8, .ref m9, .int x_last, .int x_steps, .int x_isRound, .int x_tablesDone, .ref mz, .int (nI mrs), .ref mb, .ref md, .long x_hash])), (m5, .inl (cs 0, 5, .inl f_129)), (m6, .inl (cs 0, 20, .inl fm6))] H := hP
    have hD : va_D A [(m0, .inr (12, [.ref mp, .int (nI ms), .int (nI C), .int (nI P), .ref mw, .ref mh, .ref mo, .int 1, .int (nI vl), .int x_digits, .int (nI rc), .int (nI rp), .int (nI ic), .ref m5, .ref m6, .ref m7, .long x_all, .int (nI mpn), .ref mk, .ref mn, .int x_kind, .ref mq, .ref m8, .ref m9, .int x_last, .int x_steps, .int x_isRound, .int x_tablesDone, .ref mz, .int (nI mrs), .ref mb, .ref md, .long x_hash])), (m5, .inl (cs 0, 5, .inl f_129)), (m6, .inl (cs 0, 20, .inl fm6))] := hD
    refine lv_aload_n hx hb dX12_go_130 rfl (lv_at hl 1 rfl) ?_
    refine lv_iconst (v := 3) hx hb dX12_go_131 (by decide) ?_
    refine va_put (D := D) (ci := 12) (v := .int 3) (ty := .int) (C := RX12) (T := TX12) (N := 33) hx hb hg gwX12 tyX12 tyX12_ok nmX12 hown hK hP hD hS 0 rfl rfl 7 (by decide) (hg _ kw_485) (fun _ h9 => h9) rfl (by decide +kernel) rfl rfl (Nat.le_of_ble_eq_true rfl) dX12_go_132 (fun H locs hP hD hS => ?_)
    have hP : va_P D vwCl [(m0, .inr (12, [.ref mp, .int (nI ms), .int (nI C), .int (nI P), .ref mw, .ref mh, .ref mo, .int 3, .int (nI vl), .int x_digits, .int (nI rc), .int (nI rp), .int (nI ic), .ref m5, .ref m6, .ref m7, .long x_all, .int (nI mpn), .ref mk, .ref mn, .int x_kind, .ref mq, .ref m8, .ref m9, .int x_last, .int x_steps, .int x_isRound, .int x_tablesDone, .ref mz, .int (nI mrs), .ref mb, .ref md, .long x_hash])), (m5, .inl (cs 0, 5, .inl f_129)), (m6, .inl (cs 0, 20, .inl fm6))] H := hP
    have hD : va_D A [(m0, .inr (12, [.ref mp, .int (nI ms), .int (nI C), .int (nI P), .ref mw, .ref mh, .ref mo, .int 3, .int (nI vl), .int x_digits, .int (nI rc), .int (nI rp), .int (nI ic), .ref m5, .ref m6, .ref m7, .long x_all, .int (nI mpn), .ref mk, .ref mn, .int x_kind, .ref mq, .ref m8, .ref m9, .int x_last, .int x_steps, .int x_isRound, .int x_tablesDone, .ref mz, .int (nI mrs), .ref mb, .ref md, .long x_hash])), (m5, .inl (cs 0, 5, .inl f_129)), (m6, .inl (cs 0, 20, .inl fm6))] := hD
    refine lv_iload_n hx hb dX12_go_135 rfl (lv_at hl 2 rfl) ?_
    refine lv_bipush (v := 58) hx hb dX12_go_136 (by decide) ?_
    refine lv_icmp_ne (tgt := 145) hx hb dX12_go_138 (by decide) (fun c_138 => ?_) (fun c_138 => ?_)
    · refine lv_iconst (v := 0) hx hb dX12_go_145 (by decide) ?_
      refine W_sQ hQ ?_
      refine W.widen (k := 0) (n := 0) (Nat.le_of_ble_eq_true rfl) (Nat.le_of_ble_eq_true rfl) ?_
      have hP9 := hP.sub (ws' := [(m0, .inr (12, [.ref mp, .int (nI ms), .int (nI C), .int (nI P), .ref mw, .ref mh, .ref mo, .int 3, .int (nI vl), .int x_digits, .int (nI rc), .int (nI rp), .int (nI ic), .ref m5, .ref m6, .ref m7, .long x_all, .int (nI mpn), .ref mk, .ref mn, .int x_kind, .ref mq, .ref m8, .ref m9, .int x_last, .int x_steps, .int x_isRound, .int x_tablesDone, .ref mz, .int (nI mrs), .ref mb, .ref md, .long x_hash])), (m5, .inl (cs 0, 5, .inl f_129)), (m6, .inl (cs 0, 20, .inl fm6))]) [0, 1, 2] rfl
      have hD9 := hD.sub (ws' := [(m0, .inr (12, [.ref mp, .int (nI ms), .int (nI C), .int (nI P), .ref mw, .ref mh, .ref mo, .int 3, .int (nI vl), .int x_digits, .int (nI rc), .int (nI rp), .int (nI ic), .ref m5, .ref m6, .ref m7, .long x_all, .int (nI mpn), .ref mk, .ref mn, .int x_kind, .ref mq, .ref m8, .ref m9, .int x_last, .int x_steps, .int x_isRound, .int x_tablesDone, .ref mz, .int (nI mrs), .ref mb, .ref md, .long x_hash])), (m5, .inl (cs 0, 5, .inl f_129)), (m6, .inl (cs 0, 20, .inl fm6))]) [0, 1, 2] (by decide) rfl
      exact W.zret (v := 0) hx hb hr (by decide) (fun t ht hW => ⟨⟨0, 0, rfl, ⟨rfl, Or.inl rfl⟩, ⟨3, (nI vl), x_digits, rc, rp, ic, f_129, fm6, (by omega), (by omega), (by omega), (by omega), (fun q9 => absurd q9 (by decide)), by rw [ht]; exact hP9, hD9⟩⟩, hS.F ht⟩) hS.2.2 dX12_go_146
    · refine lv_iconst (v := 1) hx hb dX12_go_141 (by decide) ?_
      refine lv_goto (tgt := 146) hx hb dX12_go_142 (by decide) ?_
      refine W_sQ hQ ?_
      refine W.widen (k := 0) (n := 0) (Nat.le_of_ble_eq_true rfl) (Nat.le_of_ble_eq_true rfl) ?_
      have hP9 := hP.sub (ws' := [(m0, .inr (12, [.ref mp, .int (nI ms), .int (nI C), .int (nI P), .ref mw, .ref mh, .ref mo, .int 3, .int (nI vl), .int x_digits, .int (nI rc), .int (nI rp), .int (nI ic), .ref m5, .ref m6, .ref m7, .long x_all, .int (nI mpn), .ref mk, .ref mn, .int x_kind, .ref mq, .ref m8, .ref m9, .int x_last, .int x_steps, .int x_isRound, .int x_tablesDone, .ref mz, .int (nI mrs), .ref mb, .ref md, .long x_hash])), (m5, .inl (cs 0, 5, .inl f_129)), (m6, .inl (cs 0, 20, .inl fm6))]) [0, 1, 2] rfl
      have hD9 := hD.sub (ws' := [(m0, .inr (12, [.ref mp, .int (nI ms), .int (nI C), .int (nI P), .ref mw, .ref mh, .ref mo, .int 3, .int (nI vl), .int x_digits, .int (nI rc), .int (nI rp), .int (nI ic), .ref m5, .ref m6, .ref m7, .long x_all, .int (nI mpn), .ref mk, .ref mn, .int x_kind, .ref mq, .ref m8, .ref m9, .int x_last, .int x_steps, .int x_isRound, .int x_tablesDone, .ref mz, .int (nI mrs), .ref mb, .ref md, .long x_hash])), (m5, .inl (cs 0, 5, .inl f_129)), (m6, .inl (cs 0, 20, .inl fm6))]) [0, 1, 2] (by decide) rfl
      exact W.zret (v := 1) hx hb hr (by decide) (fun t ht hW => ⟨⟨1, 1, rfl, ⟨rfl, Or.inr rfl⟩, ⟨3, (nI vl), x_digits, rc, rp, ic, f_129, fm6, (by omega), (by omega), (by omega), (by omega), (fun _ => gv_3 hrc4 (wI_up hwr hrc4 hv1 (by omega) hf_129) hic3), by rw [ht]; exact hP9, hD9⟩⟩, hS.F ht⟩) hS.2.2 dX12_go_146
  · refine lv_istore_n (lv' := [(2, .int 1), (0, .ref m0), (1, .int (nI (48 + d_8)))]) hx hb dX12_go_11 rfl hl (by decide) rfl (fun ls hl => ?_)
    refine lv_aload_n hx hb dX12_go_12 rfl (lv_at hl 1 rfl) ?_
    refine va_get (D := D) (ci := 12) (v := .int 1) (C := RX12) (T := TX12) (N := 33) hx hb hg gwX12 hown hK hP 0 rfl rfl 7 (by decide) (hg _ kw_485) (fun _ h9 => h9) rfl dX12_go_13 ?_
    refine lv_tableIn (tgt := 82) hx hb dX12_go_16 (by decide) (by decide) rfl (by decide) ?_
    refine lv_iload_n hx hb dX12_go_82 rfl (lv_at hl 0 rfl) ?_
    refine lv_if_eq (tgt := 117) hx hb dX12_go_83 (by decide) (fun c_83 => absurd c_83 (by decide)) (fun c_83 => ?_)
    refine lv_aload_n hx hb dX12_go_86 rfl (lv_at hl 1 rfl) ?_
    refine va_get (D := D) (ci := 12) (v := .int 1) (C := RX12) (T := TX12) (N := 33) hx hb hg gwX12 hown hK hP 0 rfl rfl 7 (by decide) (hg _ kw_485) (fun _ h9 => h9) rfl dX12_go_87 ?_
    refine lv_iconst (v := 1) hx hb dX12_go_90 (by decide) ?_
    refine lv_icmp_ne (tgt := 117) hx hb dX12_go_91 (by decide) (fun c_91 => absurd c_91 (by decide)) (fun c_91 => ?_)
    refine lv_aload_n hx hb dX12_go_94 rfl (lv_at hl 1 rfl) ?_
    refine lv_bipush (v := 10) hx hb dX12_go_95 (by decide) ?_
    refine lv_aload_n hx hb dX12_go_97 rfl (lv_at hl 1 rfl) ?_
    refine va_get (D := D) (ci := 12) (v := .int (nI vl)) (C := RX12) (T := TX12) (N := 33) hx hb hg gwX12 hown hK hP 0 rfl rfl 8 (by decide) (hg _ kw_483) (fun _ h9 => h9) rfl dX12_go_98 ?_
    refine lv_imul hx hb dX12_go_101 ?_
    refine lv_topi (fun z_101 e_101 => ?_)
    obtain rfl : z_101 = nI (10 * vl) := e_101.trans (pk_mul _ _)
    refine lv_iload_n hx hb dX12_go_102 rfl (lv_at hl 2 rfl) ?_
    refine lv_iadd hx hb dX12_go_103 ?_
    refine lv_topi (fun z_103 e_103 => ?_)
    obtain rfl : z_103 = nI (10 * vl + (48 + d_8)) := e_103.trans (nI_add _ _)
    refine lv_bipush (v := 48) hx hb dX12_go_104 (by decide) ?_
    refine lv_isub hx hb dX12_go_106 ?_
    refine lv_topi (fun z_106 e_106 => ?_)
    obtain rfl : z_106 = nI ((10 * vl + (48 + d_8)) - 48) := e_106.trans (pk_sub (b := 48) (by omega))
    refine va_put (D := D) (ci := 12) (v := .int (nI ((10 * vl + (48 + d_8)) - 48))) (ty := .int) (C := RX12) (T := TX12) (N := 33) hx hb hg gwX12 tyX12 tyX12_ok nmX12 hown hK hP hD hS 0 rfl rfl 8 (by decide) (hg _ kw_483) (fun _ h9 => h9) rfl (by decide +kernel) rfl rfl (Nat.le_of_ble_eq_true rfl) dX12_go_107 (fun H locs hP hD hS => ?_)
    have hP : va_P D vwCl [(m0, .inr (12, [.ref mp, .int (nI ms), .int (nI C), .int (nI P), .ref mw, .ref mh, .ref mo, .int 1, .int (nI ((10 * vl + (48 + d_8)) - 48)), .int x_digits, .int (nI rc), .int (nI rp), .int (nI ic), .ref m5, .ref m6, .ref m7, .long x_all, .int (nI mpn), .ref mk, .ref mn, .int x_kind, .ref mq, .ref m8, .ref m9, .int x_last, .int x_steps, .int x_isRound, .int x_tablesDone, .ref mz, .int (nI mrs), .ref mb, .ref md, .long x_hash])), (m5, .inl (cs 0, 5, .inl fm5)), (m6, .inl (cs 0, 20, .inl fm6))] H := hP
    have hD : va_D A [(m0, .inr (12, [.ref mp, .int (nI ms), .int (nI C), .int (nI P), .ref mw, .ref mh, .ref mo, .int 1, .int (nI ((10 * vl + (48 + d_8)) - 48)), .int x_digits, .int (nI rc), .int (nI rp), .int (nI ic), .ref m5, .ref m6, .ref m7, .long x_all, .int (nI mpn), .ref mk, .ref mn, .int x_kind, .ref mq, .ref m8, .ref m9, .int x_last, .int x_steps, .int x_isRound, .int x_tablesDone, .ref mz, .int (nI mrs), .ref mb, .ref md, .long x_hash])), (m5, .inl (cs 0, 5, .inl fm5)), (m6, .inl (cs 0, 20, .inl fm6))] := hD
    refine lv_aload_n hx hb dX12_go_110 rfl (lv_at hl 1 rfl) ?_
    refine lv_iconst (v := 2) hx hb dX12_go_111 (by decide) ?_
    refine va_put (D := D) (ci := 12) (v := .int 2) (ty := .int) (C := RX12) (T := TX12) (N := 33) hx hb hg gwX12 tyX12 tyX12_ok nmX12 hown hK hP hD hS 0 rfl rfl 7 (by decide) (hg _ kw_485) (fun _ h9 => h9) rfl (by decide +kernel) rfl rfl (Nat.le_of_ble_eq_true rfl) dX12_go_112 (fun H locs hP hD hS => ?_)
    have hP : va_P D vwCl [(m0, .inr (12, [.ref mp, .int (nI ms), .int (nI C), .int (nI P), .ref mw, .ref mh, .ref mo, .int 2, .int (nI ((10 * vl + (48 + d_8)) - 48)), .int x_digits, .int (nI rc), .int (nI rp), .int (nI ic), .ref m5, .ref m6, .ref m7, .long x_all, .int (nI mpn), .ref mk, .ref mn, .int x_kind, .ref mq, .ref m8, .ref m9, .int x_last, .int x_steps, .int x_isRound, .int x_tablesDone, .ref mz, .int (nI mrs), .ref mb, .ref md, .long x_hash])), (m5, .inl (cs 0, 5, .inl fm5)), (m6, .inl (cs 0, 20, .inl fm6))] H := hP
    have hD : va_D A [(m0, .inr (12, [.ref mp, .int (nI ms), .int (nI C), .int (nI P), .ref mw, .ref mh, .ref mo, .int 2, .int (nI ((10 * vl + (48 + d_8)) - 48)), .int x_digits, .int (nI rc), .int (nI rp), .int (nI ic), .ref m5, .ref m6, .ref m7, .long x_all, .int (nI mpn), .ref mk, .ref mn, .int x_kind, .ref mq, .ref m8, .ref m9, .int x_last, .int x_steps, .int x_isRound, .int x_tablesDone, .ref mz, .int (nI mrs), .ref mb, .ref md, .long x_hash])), (m5, .inl (cs 0, 5, .inl fm5)), (m6, .inl (cs 0, 20, .inl fm6))] := hD
    refine lv_iconst (v := 1) hx hb dX12_go_115 (by decide) ?_
    refine W_sQ hQ ?_
    refine W.widen (k := 0) (n := 0) (Nat.le_of_ble_eq_true rfl) (Nat.le_of_ble_eq_true rfl) ?_
    have hP9 := hP.sub (ws' := [(m0, .inr (12, [.ref mp, .int (nI ms), .int (nI C), .int (nI P), .ref mw, .ref mh, .ref mo, .int 2, .int (nI ((10 * vl + (48 + d_8)) - 48)), .int x_digits, .int (nI rc), .int (nI rp), .int (nI ic), .ref m5, .ref m6, .ref m7, .long x_all, .int (nI mpn), .ref mk, .ref mn, .int x_kind, .ref mq, .ref m8, .ref m9, .int x_last, .int x_steps, .int x_isRound, .int x_tablesDone, .ref mz, .int (nI mrs), .ref mb, .ref md, .long x_hash])), (m5, .inl (cs 0, 5, .inl fm5)), (m6, .inl (cs 0, 20, .inl fm6))]) [0, 1, 2] rfl
    have hD9 := hD.sub (ws' := [(m0, .inr (12, [.ref mp, .int (nI ms), .int (nI C), .int (nI P), .ref mw, .ref mh, .ref mo, .int 2, .int (nI ((10 * vl + (48 + d_8)) - 48)), .int x_digits, .int (nI rc), .int (nI rp), .int (nI ic), .ref m5, .ref m6, .ref m7, .long x_all, .int (nI mpn), .ref mk, .ref mn, .int x_kind, .ref mq, .ref m8, .ref m9, .int x_last, .int x_steps, .int x_isRound, .int x_tablesDone, .ref mz, .int (nI mrs), .ref mb, .ref md, .long x_hash])), (m5, .inl (cs 0, 5, .inl fm5)), (m6, .inl (cs 0, 20, .inl fm6))]) [0, 1, 2] (by decide) rfl
    exact W.zret (v := 1) hx hb hr (by decide) (fun t ht hW => ⟨⟨1, 1, rfl, ⟨rfl, Or.inr rfl⟩, ⟨2, (nI ((10 * vl + (48 + d_8)) - 48)), x_digits, rc, rp, ic, fm5, fm6, (by omega), (by omega), (by omega), (by omega), (fun _ => gv_2 hrc4 hwr (by omega) (by omega) (by omega)), by rw [ht]; exact hP9, hD9⟩⟩, hS.F ht⟩) hS.2.2 dX12_go_116

set_option maxHeartbeats 4000000 in
set_option maxRecDepth 100000 in
theorem m_go_2 (l : Launch) (D : va_G) (cs : Nat → ClassId) (m0 : Nat) (mp : Nat) (mw : Nat) (mh : Nat) (mo : Nat) (m5 : Nat) (m6 : Nat) (m7 : Nat) (mk : Nat) (mn : Nat) (mq : Nat) (m8 : Nat) (m9 : Nat) (mz : Nat) (mb : Nat) (md : Nat) (ms : Nat) (C : Nat) (P : Nat) (mpn : Nat) (mrs : Nat) (rc : Nat) (rp : Nat) (ic : Nat) (hms : ms ≤ 90) (hC5 : C ≤ 5) (hP4 : P ≤ 4) (hmpn : mpn ≤ 8) (hmrs : mrs ≤ 24) (hrc : rc ≤ 5) (hrp : rp ≤ 4) (hic : ic ≤ 4) (x_digits : Int32) (x_all : Int64) (x_kind : Int32) (x_last : Int32) (x_steps : Int32) (x_isRound : Int32) (x_tablesDone : Int32) (x_hash : Int64) (fm5 : Nat → Int32) (fm6 : Nat → Int32) (cd_ : Int32) (hrc4 : rc ≤ 4) (hwr : wI fm5 rc) (hic3 : ic ≤ 3) (vl : Nat) (hv1 : 1 ≤ vl) (hv2 : vl ≤ 99) (sz : Nat) : Met l yX12_go (Cond.code yX12_go cX12_go 3 (some .boolean) :: gw_tbl) ({ frames := 1, cells := 0, slots := 0, locals := 25 }) (pc_M D cs [(m0, .inr (12, [.ref mp, .int (nI ms), .int (nI C), .int (nI P), .ref mw, .ref mh, .ref mo, .int 2, .int (nI vl), .int x_digits, .int (nI rc), .int (nI rp), .int (nI ic), .ref m5, .ref m6, .ref m7, .long x_all, .int (nI mpn), .ref mk, .ref mn, .int x_kind, .ref mq, .ref m8, .ref m9, .int x_last, .int x_steps, .int x_isRound, .int x_tablesDone, .ref mz, .int (nI mrs), .ref mb, .ref md, .long x_hash])), (m5, .inl (cs 0, 5, .inl fm5)), (m6, .inl (cs 0, 20, .inl fm6))] sz [.ref m0, .int cd_]) (va_Qi (fun (r : Int32) (u : Int32) => u = r ∧ (r = 0 ∨ r = 1)) (fun u t => ∃ (s2 : Nat), ∃ (v2 : Int32), ∃ (dg2 : Int32), ∃ (rc2 : Nat), ∃ (rp2 : Nat), ∃ (ic2 : Nat), ∃ (fm52 : Nat → Int32), ∃ (fm62 : Nat → Int32), (s2 ≤ 4) ∧ (rc2 ≤ 5) ∧ (rp2 ≤ 4) ∧ (ic2 ≤ 4) ∧ (u = 1 → gvI fm52 s2 rc2 ic2 v2) ∧ va_P D vwCl [(m0, .inr (12, [.ref mp, .int (nI ms), .int (nI C), .int (nI P), .ref mw, .ref mh, .ref mo, .int (nI s2), .int v2, .int dg2, .int (nI rc2), .int (nI rp2), .int (nI ic2), .ref m5, .ref m6, .ref m7, .long x_all, .int (nI mpn), .ref mk, .ref mn, .int x_kind, .ref mq, .ref m8, .ref m9, .int x_last, .int x_steps, .int x_isRound, .int x_tablesDone, .ref mz, .int (nI mrs), .ref mb, .ref md, .long x_hash])), (m5, .inl (cs 0, 5, .inl fm52)), (m6, .inl (cs 0, 20, .inl fm62))] t.heap ∧ va_D (va_A [(m0, .inr (12, [.ref mp, .int (nI ms), .int (nI C), .int (nI P), .ref mw, .ref mh, .ref mo, .int 2, .int (nI vl), .int x_digits, .int (nI rc), .int (nI rp), .int (nI ic), .ref m5, .ref m6, .ref m7, .long x_all, .int (nI mpn), .ref mk, .ref mn, .int x_kind, .ref mq, .ref m8, .ref m9, .int x_last, .int x_steps, .int x_isRound, .int x_tablesDone, .ref mz, .int (nI mrs), .ref mb, .ref md, .long x_hash])), (m5, .inl (cs 0, 5, .inl fm5)), (m6, .inl (cs 0, 20, .inl fm6))] sz) [(m0, .inr (12, [.ref mp, .int (nI ms), .int (nI C), .int (nI P), .ref mw, .ref mh, .ref mo, .int (nI s2), .int v2, .int dg2, .int (nI rc2), .int (nI rp2), .int (nI ic2), .ref m5, .ref m6, .ref m7, .long x_all, .int (nI mpn), .ref mk, .ref mn, .int x_kind, .ref mq, .ref m8, .ref m9, .int x_last, .int x_steps, .int x_isRound, .int x_tablesDone, .ref mz, .int (nI mrs), .ref mb, .ref md, .long x_hash])), (m5, .inl (cs 0, 5, .inl fm52)), (m6, .inl (cs 0, 20, .inl fm62))]) (va_A [(m0, .inr (12, [.ref mp, .int (nI ms), .int (nI C), .int (nI P), .ref mw, .ref mh, .ref mo, .int 2, .int (nI vl), .int x_digits, .int (nI rc), .int (nI rp), .int (nI ic), .ref m5, .ref m6, .ref m7, .long x_all, .int (nI mpn), .ref mk, .ref mn, .int x_kind, .ref mq, .ref m8, .ref m9, .int x_last, .int x_steps, .int x_isRound, .int x_tablesDone, .ref mz, .int (nI mrs), .ref mb, .ref md, .long x_hash])), (m5, .inl (cs 0, 5, .inl fm5)), (m6, .inl (cs 0, 20, .inl fm6))] sz)) 0 0 (va_A [(m0, .inr (12, [.ref mp, .int (nI ms), .int (nI C), .int (nI P), .ref mw, .ref mh, .ref mo, .int 2, .int (nI vl), .int x_digits, .int (nI rc), .int (nI rp), .int (nI ic), .ref m5, .ref m6, .ref m7, .long x_all, .int (nI mpn), .ref mk, .ref mn, .int x_kind, .ref mq, .ref m8, .ref m9, .int x_last, .int x_steps, .int x_isRound, .int x_tablesDone, .ref mz, .int (nI mrs), .ref mb, .ref md, .long x_hash])), (m5, .inl (cs 0, 5, .inl fm5)), (m6, .inl (cs 0, 20, .inl fm6))] sz) := by
  refine Met.ofW (cc := cX12_go) (maxL := 3) (ret := (some .boolean)) (by decide) rfl ?_
  intro p e s m args below meth c s₁ B hml hv
  obtain ⟨hargs, hsz, hP, hK, hD0⟩ := hv
  have hx := B.exec
  have hb := B.bytes
  have hr := B.returns
  have hts := atoms_spec (ws := Cond.code yX12_go cX12_go 3 (some .boolean) :: gw_tbl) B.pre
  have hg := fun (w : Cond) (h : w ∈ gw_tbl) => hts w (List.mem_cons_of_mem _ h)
  have hown : s.vm.findClass RX12 = some m.cls := findClass_of_methodNamed B.named
  have hlocks := B.notSynchronized
  subst hsz
  have hD := hD0.self (sz := s.heap.size)
  generalize hAe : va_A [(m0, .inr (12, [.ref mp, .int (nI ms), .int (nI C), .int (nI P), .ref mw, .ref mh, .ref mo, .int 2, .int (nI vl), .int x_digits, .int (nI rc), .int (nI rp), .int (nI ic), .ref m5, .ref m6, .ref m7, .long x_all, .int (nI mpn), .ref mk, .ref mn, .int x_kind, .ref mq, .ref m8, .ref m9, .int x_last, .int x_steps, .int x_isRound, .int x_tablesDone, .ref mz, .int (nI mrs), .ref mb, .ref md, .long x_hash])), (m5, .inl (cs 0, 5, .inl fm5)), (m6, .inl (cs 0, 20, .inl fm6))] s.heap.size = A at hD ⊢
  have hA : ∀ q : Nat, s.heap.size ≤ q → A q := fun q h => by rw [← hAe]; exact Or.inr h
  have hS : va_S A s.heap s.heap [] := va_S.rf
  have hP : va_P D vwCl [(m0, .inr (12, [.ref mp, .int (nI ms), .int (nI C), .int (nI P), .ref mw, .ref mh, .ref mo, .int 2, .int (nI vl), .int x_digits, .int (nI rc), .int (nI rp), .int (nI ic), .ref m5, .ref m6, .ref m7, .long x_all, .int (nI mpn), .ref mk, .ref mn, .int x_kind, .ref mq, .ref m8, .ref m9, .int x_last, .int x_steps, .int x_isRound, .int x_tablesDone, .ref mz, .int (nI mrs), .ref mb, .ref md, .long x_hash])), (m5, .inl (cs 0, 5, .inl fm5)), (m6, .inl (cs 0, 20, .inl fm6))] s.heap := hP
  have hl := lv_entry ([.ref m0, .int cd_]) (n := 3) (Nat.le_of_ble_eq_true rfl)
  rw [show entryFrame m args 3 = F0 m 0 (lg_sl ([.ref m0, .int cd_]) ++ List.replicate (3 - (lg_sl ([.ref m0, .int cd_])).length) Slot.unset).toArray [] from by rw [hargs]; exact lg_entry_eq ..]
  generalize (lg_sl ([.ref m0, .int cd_]) ++ List.replicate (3 - (lg_sl ([.ref m0, .int cd_])).length) Slot.unset).toArray = ls at hl ⊢
  have hl : lv_has ls 3 [(0, .ref m0), (1, .int cd_)] := hl
  refine W_genQ (fun Q hQ => ?_)
  have hlm := lim_le hP4
  have hlq := lim_pos P
  have hsg := sgn_le hP4
  refine lv_iload_n hx hb dX12_go_0 rfl (lv_at hl 1 rfl) ?_
  refine lv_i2l hx hb dX12_go_1 rfl ?_
  refine lv_topl (fun z_1 e_1 => ?_)
  refine lv_ldc2 hx hb hown (hg _ kw_478) dX12_go_2 ?_
  refine lv_ldc2 hx hb hown (hg _ kw_479) dX12_go_5 ?_
  refine vp_callSi (W.runS (As := [.long z_1, .long 48, .long 57]) (rest := []) ⟨hx, hb, hml, hown, hg⟩ (c_in l z_1 48 57) (va_cwS 3 hg (gw_S kw_317 kw_318 kw_319 kw_316) rfl rfl rfl (by decide +kernel) ⟨(Nat.le_of_ble_eq_true rfl), (Nat.le_of_ble_eq_true rfl)⟩) pr_0 rfl rfl hl.1 rfl (lv_room (Nat.le_of_ble_eq_true rfl)) dX12_go_8 ⟨(Nat.le_of_ble_eq_true rfl), (Nat.le_of_ble_eq_true rfl)⟩) (fun r_8 h_8 => ?_)
  rcases dg_1 e_1 h_8 with rfl | ⟨rfl, d_8, hd_8, rfl⟩
  · refine lv_istore_n (lv' := [(2, .int 0), (0, .ref m0), (1, .int cd_)]) hx hb dX12_go_11 rfl hl (by decide) rfl (fun ls hl => ?_)
    refine lv_aload_n hx hb dX12_go_12 rfl (lv_at hl 1 rfl) ?_
    refine va_get (D := D) (ci := 12) (v := .int 2) (C := RX12) (T := TX12) (N := 33) hx hb hg gwX12 hown hK hP 0 rfl rfl 7 (by decide) (hg _ kw_485) (fun _ h9 => h9) rfl dX12_go_13 ?_
    refine lv_tableIn (tgt := 82) hx hb dX12_go_16 (by decide) (by decide) rfl (by decide) ?_
    refine lv_iload_n hx hb dX12_go_82 rfl (lv_at hl 0 rfl) ?_
    refine lv_if_eq (tgt := 117) hx hb dX12_go_83 (by decide) (fun c_83 => ?_) (fun c_83 => absurd c_83 (by decide))
    refine lv_aload_n hx hb dX12_go_117 rfl (lv_at hl 1 rfl) ?_
    refine va_get (D := D) (ci := 12) (v := .ref m5) (C := RX12) (T := TX12) (N := 33) hx hb hg gwX12 hown hK hP 0 rfl rfl 13 (by decide) (hg _ kw_487) (fun _ h9 => h9) rfl dX12_go_118 ?_
    refine lv_aload_n hx hb dX12_go_121 rfl (lv_at hl 1 rfl) ?_
    refine va_get (D := D) (ci := 12) (v := .int (nI rc)) (C := RX12) (T := TX12) (N := 33) hx hb hg gwX12 hown hK hP 0 rfl rfl 10 (by decide) (hg _ kw_481) (fun _ h9 => h9) rfl dX12_go_122 ?_
    refine lv_aload_n hx hb dX12_go_125 rfl (lv_at hl 1 rfl) ?_
    refine va_get (D := D) (ci := 12) (v := .int (nI vl)) (C := RX12) (T := TX12) (N := 33) hx hb hg gwX12 hown hK hP 0 rfl rfl 8 (by decide) (hg _ kw_483) (fun _ h9 => h9) rfl dX12_go_126 ?_
    refine va_iast hx hb hK hP hD hS 1 0 rfl rfl (vp_in_nI (show rc < 5 by omega) (by decide)) dX12_go_129 (fun H locs hP hD hS => ?_)
    obtain ⟨f_129, hf_129⟩ : ∃ f9, f9 = (upd fm5 (nI rc).toNatClampNeg (nI vl)) := ⟨_, rfl⟩
    rw [← hf_129] at hP hD
    have hP : va_P D vwCl [(m0, .inr (12, [.ref mp, .int (nI ms), .int (nI C), .int (nI P), .ref mw, .ref mh, .ref mo, .int 2, .int (nI vl), .int x_digits, .int (nI rc), .int (nI rp), .int (nI ic), .ref m5, .ref m6, .ref m7, .long x_all, .int (nI mpn), .ref mk, .ref mn, .int x_kind, .ref mq, .ref m8, .ref m9, .int x_last, .int x_steps, .int x_isRound, .int x_tablesDone, .ref mz, .int (nI mrs), .ref mb, .ref md, .long x_hash])), (m5, .inl (cs 0, 5, .inl f_129)), (m6, .inl (cs 0, 20, .inl fm6))] H := hP
    have hD : va_D A [(m0, .inr (12, [.ref mp, .int (nI ms), .int (nI C), .int (nI P), .ref mw, .ref mh, .ref mo, .int 2, .int (nI vl), .int x_digits, .int (nI rc), .int (nI rp), .int (nI ic), .ref m5, .ref m6, .ref m7, .long x_all, .int (nI mpn), .ref mk, .ref mn, .int x_kind, .ref mq, .ref m8, .ref m9, .int x_last, .int x_steps, .int x_isRound, .int x_tablesDone, .ref mz, .int (nI mrs), .ref mb, .ref md, .long x_hash])), (m5, .inl (cs 0, 5, .inl f_129)), (m6, .inl (cs 0, 20, .inl fm6))] := hD
    refine lv_aload_n hx hb dX12_go_130 rfl (lv_at hl 1 rfl) ?_
    refine lv_iconst (v := 3) hx hb dX12_go_131 (by decide) ?_
    refine va_put (D := D) (ci := 12) (v := .int 3) (ty := .int) (C := RX12) (T := TX12) (N := 33) hx hb hg gwX12 tyX12 tyX12_ok nmX12 hown hK hP hD hS 0 rfl rfl 7 (by decide) (hg _ kw_485) (fun _ h9 => h9) rfl (by decide +kernel) rfl rfl (Nat.le_of_ble_eq_true rfl) dX12_go_132 (fun H locs hP hD hS => ?_)
    have hP : va_P D vwCl [(m0, .inr (12, [.ref mp, .int (nI ms), .int (nI C), .int (nI P), .ref mw, .ref mh, .ref mo, .int 3, .int (nI vl), .int x_digits, .int (nI rc), .int (nI rp), .int (nI ic), .ref m5, .ref m6, .ref m7, .long x_all, .int (nI mpn), .ref mk, .ref mn, .int x_kind, .ref mq, .ref m8, .ref m9, .int x_last, .int x_steps, .int x_isRound, .int x_tablesDone, .ref mz, .int (nI mrs), .ref mb, .ref md, .long x_hash])), (m5, .inl (cs 0, 5, .inl f_129)), (m6, .inl (cs 0, 20, .inl fm6))] H := hP
    have hD : va_D A [(m0, .inr (12, [.ref mp, .int (nI ms), .int (nI C), .int (nI P), .ref mw, .ref mh, .ref mo, .int 3, .int (nI vl), .int x_digits, .int (nI rc), .int (nI rp), .int (nI ic), .ref m5, .ref m6, .ref m7, .long x_all, .int (nI mpn), .ref mk, .ref mn, .int x_kind, .ref mq, .ref m8, .ref m9, .int x_last, .int x_steps, .int x_isRound, .int x_tablesDone, .ref mz, .int (nI mrs), .ref mb, .ref md, .long x_hash])), (m5, .inl (cs 0, 5, .inl f_129)), (m6, .inl (cs 0, 20, .inl fm6))] := hD
    refine lv_iload_n hx hb dX12_go_135 rfl (lv_at hl 2 rfl) ?_
    refine lv_bipush (v := 58) hx hb dX12_go_136 (by decide) ?_
    refine lv_icmp_ne (tgt := 145) hx hb dX12_go_138 (by decide) (fun c_138 => ?_) (fun c_138 => ?_)
    · refine lv_iconst (v := 0) hx hb dX12_go_145 (by decide) ?_
      refine W_sQ hQ ?_
      refine W.widen (k := 0) (n := 0) (Nat.le_of_ble_eq_true rfl) (Nat.le_of_ble_eq_true rfl) ?_
      have hP9 := hP.sub (ws' := [(m0, .inr (12, [.ref mp, .int (nI ms), .int (nI C), .int (nI P), .ref mw, .ref mh, .ref mo, .int 3, .int (nI vl), .int x_digits, .int (nI rc), .int (nI rp), .int (nI ic), .ref m5, .ref m6, .ref m7, .long x_all, .int (nI mpn), .ref mk, .ref mn, .int x_kind, .ref mq, .ref m8, .ref m9, .int x_last, .int x_steps, .int x_isRound, .int x_tablesDone, .ref mz, .int (nI mrs), .ref mb, .ref md, .long x_hash])), (m5, .inl (cs 0, 5, .inl f_129)), (m6, .inl (cs 0, 20, .inl fm6))]) [0, 1, 2] rfl
      have hD9 := hD.sub (ws' := [(m0, .inr (12, [.ref mp, .int (nI ms), .int (nI C), .int (nI P), .ref mw, .ref mh, .ref mo, .int 3, .int (nI vl), .int x_digits, .int (nI rc), .int (nI rp), .int (nI ic), .ref m5, .ref m6, .ref m7, .long x_all, .int (nI mpn), .ref mk, .ref mn, .int x_kind, .ref mq, .ref m8, .ref m9, .int x_last, .int x_steps, .int x_isRound, .int x_tablesDone, .ref mz, .int (nI mrs), .ref mb, .ref md, .long x_hash])), (m5, .inl (cs 0, 5, .inl f_129)), (m6, .inl (cs 0, 20, .inl fm6))]) [0, 1, 2] (by decide) rfl
      exact W.zret (v := 0) hx hb hr (by decide) (fun t ht hW => ⟨⟨0, 0, rfl, ⟨rfl, Or.inl rfl⟩, ⟨3, (nI vl), x_digits, rc, rp, ic, f_129, fm6, (by omega), (by omega), (by omega), (by omega), (fun q9 => absurd q9 (by decide)), by rw [ht]; exact hP9, hD9⟩⟩, hS.F ht⟩) hS.2.2 dX12_go_146
    · refine lv_iconst (v := 1) hx hb dX12_go_141 (by decide) ?_
      refine lv_goto (tgt := 146) hx hb dX12_go_142 (by decide) ?_
      refine W_sQ hQ ?_
      refine W.widen (k := 0) (n := 0) (Nat.le_of_ble_eq_true rfl) (Nat.le_of_ble_eq_true rfl) ?_
      have hP9 := hP.sub (ws' := [(m0, .inr (12, [.ref mp, .int (nI ms), .int (nI C), .int (nI P), .ref mw, .ref mh, .ref mo, .int 3, .int (nI vl), .int x_digits, .int (nI rc), .int (nI rp), .int (nI ic), .ref m5, .ref m6, .ref m7, .long x_all, .int (nI mpn), .ref mk, .ref mn, .int x_kind, .ref mq, .ref m8, .ref m9, .int x_last, .int x_steps, .int x_isRound, .int x_tablesDone, .ref mz, .int (nI mrs), .ref mb, .ref md, .long x_hash])), (m5, .inl (cs 0, 5, .inl f_129)), (m6, .inl (cs 0, 20, .inl fm6))]) [0, 1, 2] rfl
      have hD9 := hD.sub (ws' := [(m0, .inr (12, [.ref mp, .int (nI ms), .int (nI C), .int (nI P), .ref mw, .ref mh, .ref mo, .int 3, .int (nI vl), .int x_digits, .int (nI rc), .int (nI rp), .int (nI ic), .ref m5, .ref m6, .ref m7, .long x_all, .int (nI mpn), .ref mk, .ref mn, .int x_kind, .ref mq, .ref m8, .ref m9, .int x_last, .int x_steps, .int x_isRound, .int x_tablesDone, .ref mz, .int (nI mrs), .ref mb, .ref md, .long x_hash])), (m5, .inl (cs 0, 5, .inl f_129)), (m6, .inl (cs 0, 20, .inl fm6))]) [0, 1, 2] (by decide) rfl
      exact W.zret (v := 1) hx hb hr (by decide) (fun t ht hW => ⟨⟨1, 1, rfl, ⟨rfl, Or.inr rfl⟩, ⟨3, (nI vl), x_digits, rc, rp, ic, f_129, fm6, (by omega), (by omega), (by omega), (by omega), (fun _ => gv_3 hrc4 (wI_up hwr hrc4 hv1 (by omega) hf_129) hic3), by rw [ht]; exact hP9, hD9⟩⟩, hS.F ht⟩) hS.2.2 dX12_go_146
  · refine lv_istore_n (lv' := [(2, .int 1), (0, .ref m0), (1, .int (nI (48 + d_8)))]) hx hb dX12_go_11 rfl hl (by decide) rfl (fun ls hl => ?_)
    refine lv_aload_n hx hb dX12_go_12 rfl (lv_at hl 1 rfl) ?_
    refine va_get (D := D) (ci := 12) (v := .int 2) (C := RX12) (T := TX12) (N := 33) hx hb hg gwX12 hown hK hP 0 rfl rfl 7 (by decide) (hg _ kw_485) (fun _ h9 => h9) rfl dX12_go_13 ?_
    refine lv_tableIn (tgt := 82) hx hb dX12_go_16 (by decide) (by decide) rfl (by decide) ?_
    refine lv_iload_n hx hb dX12_go_82 rfl (lv_at hl 0 rfl) ?_
    refine lv_if_eq (tgt := 117) hx hb dX12_go_83 (by decide) (fun c_83 => absurd c_83 (by decide)) (fun c_83 => ?_)
    refine lv_aload_n hx hb dX12_go_86 rfl (lv_at hl 1 rfl) ?_
    refine va_get (D := D) (ci := 12) (v := .int 2) (C := RX12) (T := TX12) (N := 33) hx hb hg gwX12 hown hK hP 0 rfl rfl 7 (by decide) (hg _ kw_485) (fun _ h9 => h9) rfl dX12_go_87 ?_
    refine lv_iconst (v := 1) hx hb dX12_go_90 (by decide) ?_
    refine lv_icmp_ne (tgt := 117) hx hb dX12_go_91 (by decide) (fun c_91 => ?_) (fun c_91 => absurd c_91 (by decide))
    refine lv_aload_n hx hb dX12_go_117 rfl (lv_at hl 1 rfl) ?_
    refine va_get (D := D) (ci := 12) (v := .ref m5) (C := RX12) (T := TX12) (N := 33) hx hb hg gwX12 hown hK hP 0 rfl rfl 13 (by decide) (hg _ kw_487) (fun _ h9 => h9) rfl dX12_go_118 ?_
    refine lv_aload_n hx hb dX12_go_121 rfl (lv_at hl 1 rfl) ?_
    refine va_get (D := D) (ci := 12) (v := .int (nI rc)) (C := RX12) (T := TX12) (N := 33) hx hb hg gwX12 hown hK hP 0 rfl rfl 10 (by decide) (hg _ kw_481) (fun _ h9 => h9) rfl dX12_go_122 ?_
    refine lv_aload_n hx hb dX12_go_125 rfl (lv_at hl 1 rfl) ?_
    refine va_get (D := D) (ci := 12) (v := .int (nI vl)) (C := RX12) (T := TX12) (N := 33) hx hb hg gwX12 hown hK hP 0 rfl rfl 8 (by decide) (hg _ kw_483) (fun _ h9 => h9) rfl dX12_go_126 ?_
    refine va_iast hx hb hK hP hD hS 1 0 rfl rfl (vp_in_nI (show rc < 5 by omega) (by decide)) dX12_go_129 (fun H locs hP hD hS => ?_)
    obtain ⟨f_129, hf_129⟩ : ∃ f9, f9 = (upd fm5 (nI rc).toNatClampNeg (nI vl)) := ⟨_, rfl⟩
    rw [← hf_129] at hP hD
    have hP : va_P D vwCl [(m0, .inr (12, [.ref mp, .int (nI ms), .int (nI C), .int (nI P), .ref mw, .ref mh, .ref mo, .int 2, .int (nI vl), .int x_digits, .int (nI rc), .int (nI rp), .int (nI ic), .ref m5, .ref m6, .ref m7, .long x_all, .int (nI mpn), .ref mk, .ref mn, .int x_kind, .ref mq, .ref m8, .ref m9, .int x_last, .int x_steps, .int x_isRound, .int x_tablesDone, .ref mz, .int (nI mrs), .ref mb, .ref md, .long x_hash])), (m5, .inl (cs 0, 5, .inl f_129)), (m6, .inl (cs 0, 20, .inl fm6))] H := hP
    have hD : va_D A [(m0, .inr (12, [.ref mp, .int (nI ms), .int (nI C), .int (nI P), .ref mw, .ref mh, .ref mo, .int 2, .int (nI vl), .int x_digits, .int (nI rc), .int (nI rp), .int (nI ic), .ref m5, .ref m6, .ref m7, .long x_all, .int (nI mpn), .ref mk, .ref mn, .int x_kind, .ref mq, .ref m8, .ref m9, .int x_last, .int x_steps, .int x_isRound, .int x_tablesDone, .ref mz, .int (nI mrs), .ref mb, .ref md, .long x_hash])), (m5, .inl (cs 0, 5, .inl f_129)), (m6, .inl (cs 0, 20, .inl fm6))] := hD
    refine lv_aload_n hx hb dX12_go_130 rfl (lv_at hl 1 rfl) ?_
    refine lv_iconst (v := 3) hx hb dX12_go_131 (by decide) ?_
    refine va_put (D := D) (ci := 12) (v := .int 3) (ty := .int) (C := RX12) (T := TX12) (N := 33) hx hb hg gwX12 tyX12 tyX12_ok nmX12 hown hK hP hD hS 0 rfl rfl 7 (by decide) (hg _ kw_485) (fun _ h9 => h9) rfl (by decide +kernel) rfl rfl (Nat.le_of_ble_eq_true rfl) dX12_go_132 (fun H locs hP hD hS => ?_)
    have hP : va_P D vwCl [(m0, .inr (12, [.ref mp, .int (nI ms), .int (nI C), .int (nI P), .ref mw, .ref mh, .ref mo, .int 3, .int (nI vl), .int x_digits, .int (nI rc), .int (nI rp), .int (nI ic), .ref m5, .ref m6, .ref m7, .long x_all, .int (nI mpn), .ref mk, .ref mn, .int x_kind, .ref mq, .ref m8, .ref m9, .int x_last, .int x_steps, .int x_isRound, .int x_tablesDone, .ref mz, .int (nI mrs), .ref mb, .ref md, .long x_hash])), (m5, .inl (cs 0, 5, .inl f_129)), (m6, .inl (cs 0, 20, .inl fm6))] H := hP
    have hD : va_D A [(m0, .inr (12, [.ref mp, .int (nI ms), .int (nI C), .int (nI P), .ref mw, .ref mh, .ref mo, .int 3, .int (nI vl), .int x_digits, .int (nI rc), .int (nI rp), .int (nI ic), .ref m5, .ref m6, .ref m7, .long x_all, .int (nI mpn), .ref mk, .ref mn, .int x_kind, .ref mq, .ref m8, .ref m9, .int x_last, .int x_steps, .int x_isRound, .int x_tablesDone, .ref mz, .int (nI mrs), .ref mb, .ref md, .long x_hash])), (m5, .inl (cs 0, 5, .inl f_129)), (m6, .inl (cs 0, 20, .inl fm6))] := hD
    refine lv_iload_n hx hb dX12_go_135 rfl (lv_at hl 2 rfl) ?_
    refine lv_bipush (v := 58) hx hb dX12_go_136 (by decide) ?_
    refine lv_icmp_ne (tgt := 145) hx hb dX12_go_138 (by decide) (fun c_138 => ?_) (fun c_138 => ?_)
    · have n_138 : ¬ 48 + d_8 = 58 := b_eq_f (by omega) (by omega) c_138
      refine lv_iconst (v := 0) hx hb dX12_go_145 (by decide) ?_
      refine W_sQ hQ ?_
      refine W.widen (k := 0) (n := 0) (Nat.le_of_ble_eq_true rfl) (Nat.le_of_ble_eq_true rfl) ?_
      have hP9 := hP.sub (ws' := [(m0, .inr (12, [.ref mp, .int (nI ms), .int (nI C), .int (nI P), .ref mw, .ref mh, .ref mo, .int 3, .int (nI vl), .int x_digits, .int (nI rc), .int (nI rp), .int (nI ic), .ref m5, .ref m6, .ref m7, .long x_all, .int (nI mpn), .ref mk, .ref mn, .int x_kind, .ref mq, .ref m8, .ref m9, .int x_last, .int x_steps, .int x_isRound, .int x_tablesDone, .ref mz, .int (nI mrs), .ref mb, .ref md, .long x_hash])), (m5, .inl (cs 0, 5, .inl f_129)), (m6, .inl (cs 0, 20, .inl fm6))]) [0, 1, 2] rfl
      have hD9 := hD.sub (ws' := [(m0, .inr (12, [.ref mp, .int (nI ms), .int (nI C), .int (nI P), .ref mw, .ref mh, .ref mo, .int 3, .int (nI vl), .int x_digits, .int (nI rc), .int (nI rp), .int (nI ic), .ref m5, .ref m6, .ref m7, .long x_all, .int (nI mpn), .ref mk, .ref mn, .int x_kind, .ref mq, .ref m8, .ref m9, .int x_last, .int x_steps, .int x_isRound, .int x_tablesDone, .ref mz, .int (nI mrs), .ref mb, .ref md, .long x_hash])), (m5, .inl (cs 0, 5, .inl f_129)), (m6, .inl (cs 0, 20, .inl fm6))]) [0, 1, 2] (by decide) rfl
      exact W.zret (v := 0) hx hb hr (by decide) (fun t ht hW => ⟨⟨0, 0, rfl, ⟨rfl, Or.inl rfl⟩, ⟨3, (nI vl), x_digits, rc, rp, ic, f_129, fm6, (by omega), (by omega), (by omega), (by omega), (fun q9 => absurd q9 (by decide)), by rw [ht]; exact hP9, hD9⟩⟩, hS.F ht⟩) hS.2.2 dX12_go_146
    · have n_138 : 48 + d_8 = 58 := b_eq_t (by omega) (by omega) c_138
      refine lv_iconst (v := 1) hx hb dX12_go_141 (by decide) ?_
      refine lv_goto (tgt := 146) hx hb dX12_go_142 (by decide) ?_
      refine W_sQ hQ ?_
      refine W.widen (k := 0) (n := 0) (Nat.le_of_ble_eq_true rfl) (Nat.le_of_ble_eq_true rfl) ?_
      have hP9 := hP.sub (ws' := [(m0, .inr (12, [.ref mp, .int (nI ms), .int (nI C), .int (nI P), .ref mw, .ref mh, .ref mo, .int 3, .int (nI vl), .int x_digits, .int (nI rc), .int (nI rp), .int (nI ic), .ref m5, .ref m6, .ref m7, .long x_all, .int (nI mpn), .ref mk, .ref mn, .int x_kind, .ref mq, .ref m8, .ref m9, .int x_last, .int x_steps, .int x_isRound, .int x_tablesDone, .ref mz, .int (nI mrs), .ref mb, .ref md, .long x_hash])), (m5, .inl (cs 0, 5, .inl f_129)), (m6, .inl (cs 0, 20, .inl fm6))]) [0, 1, 2] rfl
      have hD9 := hD.sub (ws' := [(m0, .inr (12, [.ref mp, .int (nI ms), .int (nI C), .int (nI P), .ref mw, .ref mh, .ref mo, .int 3, .int (nI vl), .int x_digits, .int (nI rc), .int (nI rp), .int (nI ic), .ref m5, .ref m6, .ref m7, .long x_all, .int (nI mpn), .ref mk, .ref mn, .int x_kind, .ref mq, .ref m8, .ref m9, .int x_last, .int x_steps, .int x_isRound, .int x_tablesDone, .ref mz, .int (nI mrs), .ref mb, .ref md, .long x_hash])), (m5, .inl (cs 0, 5, .inl f_129)), (m6, .inl (cs 0, 20, .inl fm6))]) [0, 1, 2] (by decide) rfl
      exact W.zret (v := 1) hx hb hr (by decide) (fun t ht hW => ⟨⟨1, 1, rfl, ⟨rfl, Or.inr rfl⟩, ⟨3, (nI vl), x_digits, rc, rp, ic, f_129, fm6, (by omega), (by omega), (by omega), (by omega), (fun _ => gv_3 hrc4 (wI_up hwr hrc4 hv1 (by omega) hf_129) hic3), by rw [ht]; exact hP9, hD9⟩⟩, hS.F ht⟩) hS.2.2 dX12_go_146

set_option maxHeartbeats 4000000 in
set_option maxRecDepth 100000 in
theorem m_go_3 (l : Launch) (D : va_G) (cs : Nat → ClassId) (m0 : Nat) (mp : Nat) (mw : Nat) (mh : Nat) (mo : Nat) (m5 : Nat) (m6 : Nat) (m7 : Nat) (mk : Nat) (mn : Nat) (mq : Nat) (m8 : Nat) (m9 : Nat) (mz : Nat) (mb : Nat) (md : Nat) (ms : Nat) (C : Nat) (P : Nat) (mpn : Nat) (mrs : Nat) (rc : Nat) (rp : Nat) (ic : Nat) (hms : ms ≤ 90) (hC5 : C ≤ 5) (hP4 : P ≤ 4) (hmpn : mpn ≤ 8) (hmrs : mrs ≤ 24) (hrc : rc ≤ 5) (hrp : rp ≤ 4) (hic : ic ≤ 4) (x_value : Int32) (x_digits : Int32) (x_all : Int64) (x_kind : Int32) (x_last : Int32) (x_steps : Int32) (x_isRound : Int32) (x_tablesDone : Int32) (x_hash : Int64) (fm5 : Nat → Int32) (fm6 : Nat → Int32) (cd_ : Int32) (hrc4 : rc ≤ 4) (hwr : wI fm5 (rc + 1)) (hic3 : ic ≤ 3) (sz : Nat) : Met l yX12_go (Cond.code yX12_go cX12_go 3 (some .boolean) :: gw_tbl) ({ frames := 1, cells := 0, slots := 0, locals := 25 }) (pc_M D cs [(m0, .inr (12, [.ref mp, .int (nI ms), .int (nI C), .int (nI P), .ref mw, .ref mh, .ref mo, .int 3, .int x_value, .int x_digits, .int (nI rc), .int (nI rp), .int (nI ic), .ref m5, .ref m6, .ref m7, .long x_all, .int (nI mpn), .ref mk, .ref mn, .int x_kind, .ref mq, .ref m8, .ref m9, .int x_last, .int x_steps, .int x_isRound, .int x_tablesDone, .ref mz, .int (nI mrs), .ref mb, .ref md, .long x_hash])), (m5, .inl (cs 0, 5, .inl fm5)), (m6, .inl (cs 0, 20, .inl fm6))] sz [.ref m0, .int cd_]) (va_Qi (fun (r : Int32) (u : Int32) => u = r ∧ (r = 0 ∨ r = 1)) (fun u t => ∃ (s2 : Nat), ∃ (v2 : Int32), ∃ (dg2 : Int32), ∃ (rc2 : Nat), ∃ (rp2 : Nat), ∃ (ic2 : Nat), ∃ (fm52 : Nat → Int32), ∃ (fm62 : Nat → Int32), (s2 ≤ 4) ∧ (rc2 ≤ 5) ∧ (rp2 ≤ 4) ∧ (ic2 ≤ 4) ∧ (u = 1 → gvI fm52 s2 rc2 ic2 v2) ∧ va_P D vwCl [(m0, .inr (12, [.ref mp, .int (nI ms), .int (nI C), .int (nI P), .ref mw, .ref mh, .ref mo, .int (nI s2), .int v2, .int dg2, .int (nI rc2), .int (nI rp2), .int (nI ic2), .ref m5, .ref m6, .ref m7, .long x_all, .int (nI mpn), .ref mk, .ref mn, .int x_kind, .ref mq, .ref m8, .ref m9, .int x_last, .int x_steps, .int x_isRound, .int x_tablesDone, .ref mz, .int (nI mrs), .ref mb, .ref md, .long x_hash])), (m5, .inl (cs 0, 5, .inl fm52)), (m6, .inl (cs 0, 20, .inl fm62))] t.heap ∧ va_D (va_A [(m0, .inr (12, [.ref mp, .int (nI ms), .int (nI C), .int (nI P), .ref mw, .ref mh, .ref mo, .int 3, .int x_value, .int x_digits, .int (nI rc), .int (nI rp), .int (nI ic), .ref m5, .ref m6, .ref m7, .long x_all, .int (nI mpn), .ref mk, .ref mn, .int x_kind, .ref mq, .ref m8, .ref m9, .int x_last, .int x_steps, .int x_isRound, .int x_tablesDone, .ref mz, .int (nI mrs), .ref mb, .ref md, .long x_hash])), (m5, .inl (cs 0, 5, .inl fm5)), (m6, .inl (cs 0, 20, .inl fm6))] sz) [(m0, .inr (12, [.ref mp, .int (nI ms), .int (nI C), .int (nI P), .ref mw, .ref mh, .ref mo, .int (nI s2), .int v2, .int dg2, .int (nI rc2), .int (nI rp2), .int (nI ic2), .ref m5, .ref m6, .ref m7, .long x_all, .int (nI mpn), .ref mk, .ref mn, .int x_kind, .ref mq, .ref m8, .ref m9, .int x_last, .int x_steps, .int x_isRound, .int x_tablesDone, .ref mz, .int (nI mrs), .ref mb, .ref md, .long x_hash])), (m5, .inl (cs 0, 5, .inl fm52)), (m6, .inl (cs 0, 20, .inl fm62))]) (va_A [(m0, .inr (12, [.ref mp, .int (nI ms), .int (nI C), .int (nI P), .ref mw, .ref mh, .ref mo, .int 3, .int x_value, .int x_digits, .int (nI rc), .int (nI rp), .int (nI ic), .ref m5, .ref m6, .ref m7, .long x_all, .int (nI mpn), .ref mk, .ref mn, .int x_kind, .ref mq, .ref m8, .ref m9, .int x_last, .int x_steps, .int x_isRound, .int x_tablesDone, .ref mz, .int (nI mrs), .ref mb, .ref md, .long x_hash])), (m5, .inl (cs 0, 5, .inl fm5)), (m6, .inl (cs 0, 20, .inl fm6))] sz)) 0 0 (va_A [(m0, .inr (12, [.ref mp, .int (nI ms), .int (nI C), .int (nI P), .ref mw, .ref mh, .ref mo, .int 3, .int x_value, .int x_digits, .int (nI rc), .int (nI rp), .int (nI ic), .ref m5, .ref m6, .ref m7, .long x_all, .int (nI mpn), .ref mk, .ref mn, .int x_kind, .ref mq, .ref m8, .ref m9, .int x_last, .int x_steps, .int x_isRound, .int x_tablesDone, .ref mz, .int (nI mrs), .ref mb, .ref md, .long x_hash])), (m5, .inl (cs 0, 5, .inl fm5)), (m6, .inl (cs 0, 20, .inl fm6))] sz) := by
  refine Met.ofW (cc := cX12_go) (maxL := 3) (ret := (some .boolean)) (by decide) rfl ?_
  intro p e s m args below meth c s₁ B hml hv
  obtain ⟨hargs, hsz, hP, hK, hD0⟩ := hv
  have hx := B.exec
  have hb := B.bytes
  have hr := B.returns
  have hts := atoms_spec (ws := Cond.code yX12_go cX12_go 3 (some .boolean) :: gw_tbl) B.pre
  have hg := fun (w : Cond) (h : w ∈ gw_tbl) => hts w (List.mem_cons_of_mem _ h)
  have hown : s.vm.findClass RX12 = some m.cls := findClass_of_methodNamed B.named
  have hlocks := B.notSynchronized
  subst hsz
  have hD := hD0.self (sz := s.heap.size)
  generalize hAe : va_A [(m0, .inr (12, [.ref mp, .int (nI ms), .int (nI C), .int (nI P), .ref mw, .ref mh, .ref mo, .int 3, .int x_value, .int x_digits, .int (nI rc), .int (nI rp), .int (nI ic), .ref m5, .ref m6, .ref m7, .long x_all, .int (nI mpn), .ref mk, .ref mn, .int x_kind, .ref mq, .ref m8, .ref m9, .int x_last, .int x_steps, .int x_isRound, .int x_tablesDone, .ref mz, .int (nI mrs), .ref mb, .ref md, .long x_hash])), (m5, .inl (cs 0, 5, .inl fm5)), (m6, .inl (cs 0, 20, .inl fm6))] s.heap.size = A at hD ⊢
  have hA : ∀ q : Nat, s.heap.size ≤ q → A q := fun q h => by rw [← hAe]; exact Or.inr h
  have hS : va_S A s.heap s.heap [] := va_S.rf
  have hP : va_P D vwCl [(m0, .inr (12, [.ref mp, .int (nI ms), .int (nI C), .int (nI P), .ref mw, .ref mh, .ref mo, .int 3, .int x_value, .int x_digits, .int (nI rc), .int (nI rp), .int (nI ic), .ref m5, .ref m6, .ref m7, .long x_all, .int (nI mpn), .ref mk, .ref mn, .int x_kind, .ref mq, .ref m8, .ref m9, .int x_last, .int x_steps, .int x_isRound, .int x_tablesDone, .ref mz, .int (nI mrs), .ref mb, .ref md, .long x_hash])), (m5, .inl (cs 0, 5, .inl fm5)), (m6, .inl (cs 0, 20, .inl fm6))] s.heap := hP
  have hl := lv_entry ([.ref m0, .int cd_]) (n := 3) (Nat.le_of_ble_eq_true rfl)
  rw [show entryFrame m args 3 = F0 m 0 (lg_sl ([.ref m0, .int cd_]) ++ List.replicate (3 - (lg_sl ([.ref m0, .int cd_])).length) Slot.unset).toArray [] from by rw [hargs]; exact lg_entry_eq ..]
  generalize (lg_sl ([.ref m0, .int cd_]) ++ List.replicate (3 - (lg_sl ([.ref m0, .int cd_])).length) Slot.unset).toArray = ls at hl ⊢
  have hl : lv_has ls 3 [(0, .ref m0), (1, .int cd_)] := hl
  refine W_genQ (fun Q hQ => ?_)
  have hlm := lim_le hP4
  have hlq := lim_pos P
  have hsg := sgn_le hP4
  refine lv_iload_n hx hb dX12_go_0 rfl (lv_at hl 1 rfl) ?_
  refine lv_i2l hx hb dX12_go_1 rfl ?_
  refine lv_topl (fun z_1 e_1 => ?_)
  refine lv_ldc2 hx hb hown (hg _ kw_478) dX12_go_2 ?_
  refine lv_ldc2 hx hb hown (hg _ kw_479) dX12_go_5 ?_
  refine vp_callSi (W.runS (As := [.long z_1, .long 48, .long 57]) (rest := []) ⟨hx, hb, hml, hown, hg⟩ (c_in l z_1 48 57) (va_cwS 3 hg (gw_S kw_317 kw_318 kw_319 kw_316) rfl rfl rfl (by decide +kernel) ⟨(Nat.le_of_ble_eq_true rfl), (Nat.le_of_ble_eq_true rfl)⟩) pr_0 rfl rfl hl.1 rfl (lv_room (Nat.le_of_ble_eq_true rfl)) dX12_go_8 ⟨(Nat.le_of_ble_eq_true rfl), (Nat.le_of_ble_eq_true rfl)⟩) (fun r_8 h_8 => ?_)
  rcases dg_1 e_1 h_8 with rfl | ⟨rfl, d_8, hd_8, rfl⟩
  · refine lv_istore_n (lv' := [(2, .int 0), (0, .ref m0), (1, .int cd_)]) hx hb dX12_go_11 rfl hl (by decide) rfl (fun ls hl => ?_)
    refine lv_aload_n hx hb dX12_go_12 rfl (lv_at hl 1 rfl) ?_
    refine va_get (D := D) (ci := 12) (v := .int 3) (C := RX12) (T := TX12) (N := 33) hx hb hg gwX12 hown hK hP 0 rfl rfl 7 (by decide) (hg _ kw_485) (fun _ h9 => h9) rfl dX12_go_13 ?_
    refine lv_tableIn (tgt := 147) hx hb dX12_go_16 (by decide) (by decide) rfl (by decide) ?_
    refine lv_aload_n hx hb dX12_go_147 rfl (lv_at hl 1 rfl) ?_
    refine lv_iload_n hx hb dX12_go_148 rfl (lv_at hl 2 rfl) ?_
    refine lv_bipush (v := 48) hx hb dX12_go_149 (by decide) ?_
    refine lv_isub hx hb dX12_go_151 ?_
    refine lv_topi (fun z_151 e_151 => ?_)
    refine va_put (D := D) (ci := 12) (v := .int z_151) (ty := .int) (C := RX12) (T := TX12) (N := 33) hx hb hg gwX12 tyX12 tyX12_ok nmX12 hown hK hP hD hS 0 rfl rfl 8 (by decide) (hg _ kw_483) (fun _ h9 => h9) rfl (by decide +kernel) rfl rfl (Nat.le_of_ble_eq_true rfl) dX12_go_152 (fun H locs hP hD hS => ?_)
    have hP : va_P D vwCl [(m0, .inr (12, [.ref mp, .int (nI ms), .int (nI C), .int (nI P), .ref mw, .ref mh, .ref mo, .int 3, .int z_151, .int x_digits, .int (nI rc), .int (nI rp), .int (nI ic), .ref m5, .ref m6, .ref m7, .long x_all, .int (nI mpn), .ref mk, .ref mn, .int x_kind, .ref mq, .ref m8, .ref m9, .int x_last, .int x_steps, .int x_isRound, .int x_tablesDone, .ref mz, .int (nI mrs), .ref mb, .ref md, .long x_hash])), (m5, .inl (cs 0, 5, .inl fm5)), (m6, .inl (cs 0, 20, .inl fm6))] H := hP
    have hD : va_D A [(m0, .inr (12, [.ref mp, .int (nI ms), .int (nI C), .int (nI P), .ref mw, .ref mh, .ref mo, .int 3, .int z_151, .int x_digits, .int (nI rc), .int (nI rp), .int (nI ic), .ref m5, .ref m6, .ref m7, .long x_all, .int (nI mpn), .ref mk, .ref mn, .int x_kind, .ref mq, .ref m8, .ref m9, .int x_last, .int x_steps, .int x_isRound, .int x_tablesDone, .ref mz, .int (nI mrs), .ref mb, .ref md, .long x_hash])), (m5, .inl (cs 0, 5, .inl fm5)), (m6, .inl (cs 0, 20, .inl fm6))] := hD
    refine lv_aload_n hx hb dX12_go_155 rfl (lv_at hl 1 rfl) ?_
    refine lv_iconst (v := 1) hx hb dX12_go_156 (by decide) ?_
    refine va_put (D := D) (ci := 12) (v := .int 1) (ty := .int) (C := RX12) (T := TX12) (N := 33) hx hb hg gwX12 tyX12 tyX12_ok nmX12 hown hK hP hD hS 0 rfl rfl 9 (by decide) (hg _ kw_486) (fun _ h9 => h9) rfl (by decide +kernel) rfl rfl (Nat.le_of_ble_eq_true rfl) dX12_go_157 (fun H locs hP hD hS => ?_)
    have hP : va_P D vwCl [(m0, .inr (12, [.ref mp, .int (nI ms), .int (nI C), .int (nI P), .ref mw, .ref mh, .ref mo, .int 3, .int z_151, .int 1, .int (nI rc), .int (nI rp), .int (nI ic), .ref m5, .ref m6, .ref m7, .long x_all, .int (nI mpn), .ref mk, .ref mn, .int x_kind, .ref mq, .ref m8, .ref m9, .int x_last, .int x_steps, .int x_isRound, .int x_tablesDone, .ref mz, .int (nI mrs), .ref mb, .ref md, .long x_hash])), (m5, .inl (cs 0, 5, .inl fm5)), (m6, .inl (cs 0, 20, .inl fm6))] H := hP
    have hD : va_D A [(m0, .inr (12, [.ref mp, .int (nI ms), .int (nI C), .int (nI P), .ref mw, .ref mh, .ref mo, .int 3, .int z_151, .int 1, .int (nI rc), .int (nI rp), .int (nI ic), .ref m5, .ref m6, .ref m7, .long x_all, .int (nI mpn), .ref mk, .ref mn, .int x_kind, .ref mq, .ref m8, .ref m9, .int x_last, .int x_steps, .int x_isRound, .int x_tablesDone, .ref mz, .int (nI mrs), .ref mb, .ref md, .long x_hash])), (m5, .inl (cs 0, 5, .inl fm5)), (m6, .inl (cs 0, 20, .inl fm6))] := hD
    refine lv_aload_n hx hb dX12_go_160 rfl (lv_at hl 1 rfl) ?_
    refine lv_iconst (v := 4) hx hb dX12_go_161 (by decide) ?_
    refine va_put (D := D) (ci := 12) (v := .int 4) (ty := .int) (C := RX12) (T := TX12) (N := 33) hx hb hg gwX12 tyX12 tyX12_ok nmX12 hown hK hP hD hS 0 rfl rfl 7 (by decide) (hg _ kw_485) (fun _ h9 => h9) rfl (by decide +kernel) rfl rfl (Nat.le_of_ble_eq_true rfl) dX12_go_162 (fun H locs hP hD hS => ?_)
    have hP : va_P D vwCl [(m0, .inr (12, [.ref mp, .int (nI ms), .int (nI C), .int (nI P), .ref mw, .ref mh, .ref mo, .int 4, .int z_151, .int 1, .int (nI rc), .int (nI rp), .int (nI ic), .ref m5, .ref m6, .ref m7, .long x_all, .int (nI mpn), .ref mk, .ref mn, .int x_kind, .ref mq, .ref m8, .ref m9, .int x_last, .int x_steps, .int x_isRound, .int x_tablesDone, .ref mz, .int (nI mrs), .ref mb, .ref md, .long x_hash])), (m5, .inl (cs 0, 5, .inl fm5)), (m6, .inl (cs 0, 20, .inl fm6))] H := hP
    have hD : va_D A [(m0, .inr (12, [.ref mp, .int (nI ms), .int (nI C), .int (nI P), .ref mw, .ref mh, .ref mo, .int 4, .int z_151, .int 1, .int (nI rc), .int (nI rp), .int (nI ic), .ref m5, .ref m6, .ref m7, .long x_all, .int (nI mpn), .ref mk, .ref mn, .int x_kind, .ref mq, .ref m8, .ref m9, .int x_last, .int x_steps, .int x_isRound, .int x_tablesDone, .ref mz, .int (nI mrs), .ref mb, .ref md, .long x_hash])), (m5, .inl (cs 0, 5, .inl fm5)), (m6, .inl (cs 0, 20, .inl fm6))] := hD
    refine lv_iload_n hx hb dX12_go_165 rfl (lv_at hl 0 rfl) ?_
    refine W_sQ hQ ?_
    refine W.widen (k := 0) (n := 0) (Nat.le_of_ble_eq_true rfl) (Nat.le_of_ble_eq_true rfl) ?_
    have hP9 := hP.sub (ws' := [(m0, .inr (12, [.ref mp, .int (nI ms), .int (nI C), .int (nI P), .ref mw, .ref mh, .ref mo, .int 4, .int z_151, .int 1, .int (nI rc), .int (nI rp), .int (nI ic), .ref m5, .ref m6, .ref m7, .long x_all, .int (nI mpn), .ref mk, .ref mn, .int x_kind, .ref mq, .ref m8, .ref m9, .int x_last, .int x_steps, .int x_isRound, .int x_tablesDone, .ref mz, .int (nI mrs), .ref mb, .ref md, .long x_hash])), (m5, .inl (cs 0, 5, .inl fm5)), (m6, .inl (cs 0, 20, .inl fm6))]) [0, 1, 2] rfl
    have hD9 := hD.sub (ws' := [(m0, .inr (12, [.ref mp, .int (nI ms), .int (nI C), .int (nI P), .ref mw, .ref mh, .ref mo, .int 4, .int z_151, .int 1, .int (nI rc), .int (nI rp), .int (nI ic), .ref m5, .ref m6, .ref m7, .long x_all, .int (nI mpn), .ref mk, .ref mn, .int x_kind, .ref mq, .ref m8, .ref m9, .int x_last, .int x_steps, .int x_isRound, .int x_tablesDone, .ref mz, .int (nI mrs), .ref mb, .ref md, .long x_hash])), (m5, .inl (cs 0, 5, .inl fm5)), (m6, .inl (cs 0, 20, .inl fm6))]) [0, 1, 2] (by decide) rfl
    exact W.zret (v := 0) hx hb hr (by decide) (fun t ht hW => ⟨⟨0, 0, rfl, ⟨rfl, Or.inl rfl⟩, ⟨4, z_151, 1, rc, rp, ic, fm5, fm6, (by omega), (by omega), (by omega), (by omega), (fun q9 => absurd q9 (by decide)), by rw [ht]; exact hP9, hD9⟩⟩, hS.F ht⟩) hS.2.2 dX12_go_166
  · refine lv_istore_n (lv' := [(2, .int 1), (0, .ref m0), (1, .int (nI (48 + d_8)))]) hx hb dX12_go_11 rfl hl (by decide) rfl (fun ls hl => ?_)
    refine lv_aload_n hx hb dX12_go_12 rfl (lv_at hl 1 rfl) ?_
    refine va_get (D := D) (ci := 12) (v := .int 3) (C := RX12) (T := TX12) (N := 33) hx hb hg gwX12 hown hK hP 0 rfl rfl 7 (by decide) (hg _ kw_485) (fun _ h9 => h9) rfl dX12_go_13 ?_
    refine lv_tableIn (tgt := 147) hx hb dX12_go_16 (by decide) (by decide) rfl (by decide) ?_
    refine lv_aload_n hx hb dX12_go_147 rfl (lv_at hl 1 rfl) ?_
    refine lv_iload_n hx hb dX12_go_148 rfl (lv_at hl 2 rfl) ?_
    refine lv_bipush (v := 48) hx hb dX12_go_149 (by decide) ?_
    refine lv_isub hx hb dX12_go_151 ?_
    refine lv_topi (fun z_151 e_151 => ?_)
    obtain rfl : z_151 = nI ((48 + d_8) - 48) := e_151.trans (pk_sub (b := 48) (by omega))
    refine va_put (D := D) (ci := 12) (v := .int (nI ((48 + d_8) - 48))) (ty := .int) (C := RX12) (T := TX12) (N := 33) hx hb hg gwX12 tyX12 tyX12_ok nmX12 hown hK hP hD hS 0 rfl rfl 8 (by decide) (hg _ kw_483) (fun _ h9 => h9) rfl (by decide +kernel) rfl rfl (Nat.le_of_ble_eq_true rfl) dX12_go_152 (fun H locs hP hD hS => ?_)
    have hP : va_P D vwCl [(m0, .inr (12, [.ref mp, .int (nI ms), .int (nI C), .int (nI P), .ref mw, .ref mh, .ref mo, .int 3, .int (nI ((48 + d_8) - 48)), .int x_digits, .int (nI rc), .int (nI rp), .int (nI ic), .ref m5, .ref m6, .ref m7, .long x_all, .int (nI mpn), .ref mk, .ref mn, .int x_kind, .ref mq, .ref m8, .ref m9, .int x_last, .int x_steps, .int x_isRound, .int x_tablesDone, .ref mz, .int (nI mrs), .ref mb, .ref md, .long x_hash])), (m5, .inl (cs 0, 5, .inl fm5)), (m6, .inl (cs 0, 20, .inl fm6))] H := hP
    have hD : va_D A [(m0, .inr (12, [.ref mp, .int (nI ms), .int (nI C), .int (nI P), .ref mw, .ref mh, .ref mo, .int 3, .int (nI ((48 + d_8) - 48)), .int x_digits, .int (nI rc), .int (nI rp), .int (nI ic), .ref m5, .ref m6, .ref m7, .long x_all, .int (nI mpn), .ref mk, .ref mn, .int x_kind, .ref mq, .ref m8, .ref m9, .int x_last, .int x_steps, .int x_isRound, .int x_tablesDone, .ref mz, .int (nI mrs), .ref mb, .ref md, .long x_hash])), (m5, .inl (cs 0, 5, .inl fm5)), (m6, .inl (cs 0, 20, .inl fm6))] := hD
    refine lv_aload_n hx hb dX12_go_155 rfl (lv_at hl 1 rfl) ?_
    refine lv_iconst (v := 1) hx hb dX12_go_156 (by decide) ?_
    refine va_put (D := D) (ci := 12) (v := .int 1) (ty := .int) (C := RX12) (T := TX12) (N := 33) hx hb hg gwX12 tyX12 tyX12_ok nmX12 hown hK hP hD hS 0 rfl rfl 9 (by decide) (hg _ kw_486) (fun _ h9 => h9) rfl (by decide +kernel) rfl rfl (Nat.le_of_ble_eq_true rfl) dX12_go_157 (fun H locs hP hD hS => ?_)
    have hP : va_P D vwCl [(m0, .inr (12, [.ref mp, .int (nI ms), .int (nI C), .int (nI P), .ref mw, .ref mh, .ref mo, .int 3, .int (nI ((48 + d_8) - 48)), .int 1, .int (nI rc), .int (nI rp), .int (nI ic), .ref m5, .ref m6, .ref m7, .long x_all, .int (nI mpn), .ref mk, .ref mn, .int x_kind, .ref mq, .ref m8, .ref m9, .int x_last, .int x_steps, .int x_isRound, .int x_tablesDone, .ref mz, .int (nI mrs), .ref mb, .ref md, .long x_hash])), (m5, .inl (cs 0, 5, .inl fm5)), (m6, .inl (cs 0, 20, .inl fm6))] H := hP
    have hD : va_D A [(m0, .inr (12, [.ref mp, .int (nI ms), .int (nI C), .int (nI P), .ref mw, .ref mh, .ref mo, .int 3, .int (nI ((48 + d_8) - 48)), .int 1, .int (nI rc), .int (nI rp), .int (nI ic), .ref m5, .ref m6, .ref m7, .long x_all, .int (nI mpn), .ref mk, .ref mn, .int x_kind, .ref mq, .ref m8, .ref m9, .int x_last, .int x_steps, .int x_isRound, .int x_tablesDone, .ref mz, .int (nI mrs), .ref mb, .ref md, .long x_hash])), (m5, .inl (cs 0, 5, .inl fm5)), (m6, .inl (cs 0, 20, .inl fm6))] := hD
    refine lv_aload_n hx hb dX12_go_160 rfl (lv_at hl 1 rfl) ?_
    refine lv_iconst (v := 4) hx hb dX12_go_161 (by decide) ?_
    refine va_put (D := D) (ci := 12) (v := .int 4) (ty := .int) (C := RX12) (T := TX12) (N := 33) hx hb hg gwX12 tyX12 tyX12_ok nmX12 hown hK hP hD hS 0 rfl rfl 7 (by decide) (hg _ kw_485) (fun _ h9 => h9) rfl (by decide +kernel) rfl rfl (Nat.le_of_ble_eq_true rfl) dX12_go_162 (fun H locs hP hD hS => ?_)
    have hP : va_P D vwCl [(m0, .inr (12, [.ref mp, .int (nI ms), .int (nI C), .int (nI P), .ref mw, .ref mh, .ref mo, .int 4, .int (nI ((48 + d_8) - 48)), .int 1, .int (nI rc), .int (nI rp), .int (nI ic), .ref m5, .ref m6, .ref m7, .long x_all, .int (nI mpn), .ref mk, .ref mn, .int x_kind, .ref mq, .ref m8, .ref m9, .int x_last, .int x_steps, .int x_isRound, .int x_tablesDone, .ref mz, .int (nI mrs), .ref mb, .ref md, .long x_hash])), (m5, .inl (cs 0, 5, .inl fm5)), (m6, .inl (cs 0, 20, .inl fm6))] H := hP
    have hD : va_D A [(m0, .inr (12, [.ref mp, .int (nI ms), .int (nI C), .int (nI P), .ref mw, .ref mh, .ref mo, .int 4, .int (nI ((48 + d_8) - 48)), .int 1, .int (nI rc), .int (nI rp), .int (nI ic), .ref m5, .ref m6, .ref m7, .long x_all, .int (nI mpn), .ref mk, .ref mn, .int x_kind, .ref mq, .ref m8, .ref m9, .int x_last, .int x_steps, .int x_isRound, .int x_tablesDone, .ref mz, .int (nI mrs), .ref mb, .ref md, .long x_hash])), (m5, .inl (cs 0, 5, .inl fm5)), (m6, .inl (cs 0, 20, .inl fm6))] := hD
    refine lv_iload_n hx hb dX12_go_165 rfl (lv_at hl 0 rfl) ?_
    refine W_sQ hQ ?_
    refine W.widen (k := 0) (n := 0) (Nat.le_of_ble_eq_true rfl) (Nat.le_of_ble_eq_true rfl) ?_
    have hP9 := hP.sub (ws' := [(m0, .inr (12, [.ref mp, .int (nI ms), .int (nI C), .int (nI P), .ref mw, .ref mh, .ref mo, .int 4, .int (nI ((48 + d_8) - 48)), .int 1, .int (nI rc), .int (nI rp), .int (nI ic), .ref m5, .ref m6, .ref m7, .long x_all, .int (nI mpn), .ref mk, .ref mn, .int x_kind, .ref mq, .ref m8, .ref m9, .int x_last, .int x_steps, .int x_isRound, .int x_tablesDone, .ref mz, .int (nI mrs), .ref mb, .ref md, .long x_hash])), (m5, .inl (cs 0, 5, .inl fm5)), (m6, .inl (cs 0, 20, .inl fm6))]) [0, 1, 2] rfl
    have hD9 := hD.sub (ws' := [(m0, .inr (12, [.ref mp, .int (nI ms), .int (nI C), .int (nI P), .ref mw, .ref mh, .ref mo, .int 4, .int (nI ((48 + d_8) - 48)), .int 1, .int (nI rc), .int (nI rp), .int (nI ic), .ref m5, .ref m6, .ref m7, .long x_all, .int (nI mpn), .ref mk, .ref mn, .int x_kind, .ref mq, .ref m8, .ref m9, .int x_last, .int x_steps, .int x_isRound, .int x_tablesDone, .ref mz, .int (nI mrs), .ref mb, .ref md, .long x_hash])), (m5, .inl (cs 0, 5, .inl fm5)), (m6, .inl (cs 0, 20, .inl fm6))]) [0, 1, 2] (by decide) rfl
    exact W.zret (v := 1) hx hb hr (by decide) (fun t ht hW => ⟨⟨1, 1, rfl, ⟨rfl, Or.inr rfl⟩, ⟨4, (nI ((48 + d_8) - 48)), 1, rc, rp, ic, fm5, fm6, (by omega), (by omega), (by omega), (by omega), (fun _ => gv_4 hrc4 hwr hic3), by rw [ht]; exact hP9, hD9⟩⟩, hS.F ht⟩) hS.2.2 dX12_go_166

theorem kw_488 : (.code yX12_goChance cX12_goChance 4 (some .boolean) : Cond) ∈ gw_tbl := gw_in (by decide +kernel) (by decide +kernel)
theorem kw_489 : (.methodLink RX12 92 yX12_goChance : Cond) ∈ gw_tbl := gw_in (by decide +kernel) (by decide +kernel)
theorem kw_490 : (.instanceMethod yX12_goChance : Cond) ∈ gw_tbl := gw_in (by decide +kernel) (by decide +kernel)
theorem kw_491 : (.selects RX12 yX12_goChance yX12_goChance : Cond) ∈ gw_tbl := gw_in (by decide +kernel) (by decide +kernel)

set_option maxHeartbeats 4000000 in
set_option maxRecDepth 100000 in
theorem m_go_4 (l : Launch) (D : va_G) (cs : Nat → ClassId) (m0 : Nat) (mp : Nat) (mw : Nat) (mh : Nat) (mo : Nat) (m5 : Nat) (m6 : Nat) (m7 : Nat) (mk : Nat) (mn : Nat) (mq : Nat) (m8 : Nat) (m9 : Nat) (mz : Nat) (mb : Nat) (md : Nat) (ms : Nat) (C : Nat) (P : Nat) (mpn : Nat) (mrs : Nat) (rc : Nat) (rp : Nat) (ic : Nat) (hms : ms ≤ 90) (hC5 : C ≤ 5) (hP4 : P ≤ 4) (hmpn : mpn ≤ 8) (hmrs : mrs ≤ 24) (hrc : rc ≤ 5) (hrp : rp ≤ 4) (hic : ic ≤ 4) (x_value : Int32) (x_digits : Int32) (x_all : Int64) (x_kind : Int32) (x_last : Int32) (x_steps : Int32) (x_isRound : Int32) (x_tablesDone : Int32) (x_hash : Int64) (fm5 : Nat → Int32) (fm6 : Nat → Int32) (cd_ : Int32) (hrc4 : rc ≤ 4) (hwr : wI fm5 (rc + 1)) (hic3 : ic ≤ 3) (sz : Nat) : Met l yX12_go (Cond.code yX12_go cX12_go 3 (some .boolean) :: gw_tbl) ({ frames := 2, cells := 0, slots := 0, locals := 48 }) (pc_M D cs [(m0, .inr (12, [.ref mp, .int (nI ms), .int (nI C), .int (nI P), .ref mw, .ref mh, .ref mo, .int 4, .int x_value, .int x_digits, .int (nI rc), .int (nI rp), .int (nI ic), .ref m5, .ref m6, .ref m7, .long x_all, .int (nI mpn), .ref mk, .ref mn, .int x_kind, .ref mq, .ref m8, .ref m9, .int x_last, .int x_steps, .int x_isRound, .int x_tablesDone, .ref mz, .int (nI mrs), .ref mb, .ref md, .long x_hash])), (m5, .inl (cs 0, 5, .inl fm5)), (m6, .inl (cs 0, 20, .inl fm6))] sz [.ref m0, .int cd_]) (va_Qi (fun (r : Int32) (u : Int32) => u = r ∧ (r = 0 ∨ r = 1)) (fun u t => ∃ (s2 : Nat), ∃ (v2 : Int32), ∃ (dg2 : Int32), ∃ (rc2 : Nat), ∃ (rp2 : Nat), ∃ (ic2 : Nat), ∃ (fm52 : Nat → Int32), ∃ (fm62 : Nat → Int32), (s2 ≤ 4) ∧ (rc2 ≤ 5) ∧ (rp2 ≤ 4) ∧ (ic2 ≤ 4) ∧ (u = 1 → gvI fm52 s2 rc2 ic2 v2) ∧ va_P D vwCl [(m0, .inr (12, [.ref mp, .int (nI ms), .int (nI C), .int (nI P), .ref mw, .ref mh, .ref mo, .int (nI s2), .int v2, .int dg2, .int (nI rc2), .int (nI rp2), .int (nI ic2), .ref m5, .ref m6, .ref m7, .long x_all, .int (nI mpn), .ref mk, .ref mn, .int x_kind, .ref mq, .ref m8, .ref m9, .int x_last, .int x_steps, .int x_isRound, .int x_tablesDone, .ref mz, .int (nI mrs), .ref mb, .ref md, .long x_hash])), (m5, .inl (cs 0, 5, .inl fm52)), (m6, .inl (cs 0, 20, .inl fm62))] t.heap ∧ va_D (va_A [(m0, .inr (12, [.ref mp, .int (nI ms), .int (nI C), .int (nI P), .ref mw, .ref mh, .ref mo, .int 4, .int x_value, .int x_digits, .int (nI rc), .int (nI rp), .int (nI ic), .ref m5, .ref m6, .ref m7, .long x_all, .int (nI mpn), .ref mk, .ref mn, .int x_kind, .ref mq, .ref m8, .ref m9, .int x_last, .int x_steps, .int x_isRound, .int x_tablesDone, .ref mz, .int (nI mrs), .ref mb, .ref md, .long x_hash])), (m5, .inl (cs 0, 5, .inl fm5)), (m6, .inl (cs 0, 20, .inl fm6))] sz) [(m0, .inr (12, [.ref mp, .int (nI ms), .int (nI C), .int (nI P), .ref mw, .ref mh, .ref mo, .int (nI s2), .int v2, .int dg2, .int (nI rc2), .int (nI rp2), .int (nI ic2), .ref m5, .ref m6, .ref m7, .long x_all, .int (nI mpn), .ref mk, .ref mn, .int x_kind, .ref mq, .ref m8, .ref m9, .int x_last, .int x_steps, .int x_isRound, .int x_tablesDone, .ref mz, .int (nI mrs), .ref mb, .ref md, .long x_hash])), (m5, .inl (cs 0, 5, .inl fm52)), (m6, .inl (cs 0, 20, .inl fm62))]) (va_A [(m0, .inr (12, [.ref mp, .int (nI ms), .int (nI C), .int (nI P), .ref mw, .ref mh, .ref mo, .int 4, .int x_value, .int x_digits, .int (nI rc), .int (nI rp), .int (nI ic), .ref m5, .ref m6, .ref m7, .long x_all, .int (nI mpn), .ref mk, .ref mn, .int x_kind, .ref mq, .ref m8, .ref m9, .int x_last, .int x_steps, .int x_isRound, .int x_tablesDone, .ref mz, .int (nI mrs), .ref mb, .ref md, .long x_hash])), (m5, .inl (cs 0, 5, .inl fm5)), (m6, .inl (cs 0, 20, .inl fm6))] sz)) 0 0 (va_A [(m0, .inr (12, [.ref mp, .int (nI ms), .int (nI C), .int (nI P), .ref mw, .ref mh, .ref mo, .int 4, .int x_value, .int x_digits, .int (nI rc), .int (nI rp), .int (nI ic), .ref m5, .ref m6, .ref m7, .long x_all, .int (nI mpn), .ref mk, .ref mn, .int x_kind, .ref mq, .ref m8, .ref m9, .int x_last, .int x_steps, .int x_isRound, .int x_tablesDone, .ref mz, .int (nI mrs), .ref mb, .ref md, .long x_hash])), (m5, .inl (cs 0, 5, .inl fm5)), (m6, .inl (cs 0, 20, .inl fm6))] sz) := by
  refine Met.ofW (cc := cX12_go) (maxL := 3) (ret := (some .boolean)) (by decide) rfl ?_
  intro p e s m args below meth c s₁ B hml hv
  obtain ⟨hargs, hsz, hP, hK, hD0⟩ := hv
  have hx := B.exec
  have hb := B.bytes
  have hr := B.returns
  have hts := atoms_spec (ws := Cond.code yX12_go cX12_go 3 (some .boolean) :: gw_tbl) B.pre
  have hg := fun (w : Cond) (h : w ∈ gw_tbl) => hts w (List.mem_cons_of_mem _ h)
  have hown : s.vm.findClass RX12 = some m.cls := findClass_of_methodNamed B.named
  have hlocks := B.notSynchronized
  subst hsz
  have hD := hD0.self (sz := s.heap.size)
  generalize hAe : va_A [(m0, .inr (12, [.ref mp, .int (nI ms), .int (nI C), .int (nI P), .ref mw, .ref mh, .ref mo, .int 4, .int x_value, .int x_digits, .int (nI rc), .int (nI rp), .int (nI ic), .ref m5, .ref m6, .ref m7, .long x_all, .int (nI mpn), .ref mk, .ref mn, .int x_kind, .ref mq, .ref m8, .ref m9, .int x_last, .int x_steps, .int x_isRound, .int x_tablesDone, .ref mz, .int (nI mrs), .ref mb, .ref md, .long x_hash])), (m5, .inl (cs 0, 5, .inl fm5)), (m6, .inl (cs 0, 20, .inl fm6))] s.heap.size = A at hD ⊢
  have hA : ∀ q : Nat, s.heap.size ≤ q → A q := fun q h => by rw [← hAe]; exact Or.inr h
  have hS : va_S A s.heap s.heap [] := va_S.rf
  have hP : va_P D vwCl [(m0, .inr (12, [.ref mp, .int (nI ms), .int (nI C), .int (nI P), .ref mw, .ref mh, .ref mo, .int 4, .int x_value, .int x_digits, .int (nI rc), .int (nI rp), .int (nI ic), .ref m5, .ref m6, .ref m7, .long x_all, .int (nI mpn), .ref mk, .ref mn, .int x_kind, .ref mq, .ref m8, .ref m9, .int x_last, .int x_steps, .int x_isRound, .int x_tablesDone, .ref mz, .int (nI mrs), .ref mb, .ref md, .long x_hash])), (m5, .inl (cs 0, 5, .inl fm5)), (m6, .inl (cs 0, 20, .inl fm6))] s.heap := hP
  have hl := lv_entry ([.ref m0, .int cd_]) (n := 3) (Nat.le_of_ble_eq_true rfl)
  rw [show entryFrame m args 3 = F0 m 0 (lg_sl ([.ref m0, .int cd_]) ++ List.replicate (3 - (lg_sl ([.ref m0, .int cd_])).length) Slot.unset).toArray [] from by rw [hargs]; exact lg_entry_eq ..]
  generalize (lg_sl ([.ref m0, .int cd_]) ++ List.replicate (3 - (lg_sl ([.ref m0, .int cd_])).length) Slot.unset).toArray = ls at hl ⊢
  have hl : lv_has ls 3 [(0, .ref m0), (1, .int cd_)] := hl
  refine W_genQ (fun Q hQ => ?_)
  have hlm := lim_le hP4
  have hlq := lim_pos P
  have hsg := sgn_le hP4
  refine lv_iload_n hx hb dX12_go_0 rfl (lv_at hl 1 rfl) ?_
  refine lv_i2l hx hb dX12_go_1 rfl ?_
  refine lv_topl (fun z_1 e_1 => ?_)
  refine lv_ldc2 hx hb hown (hg _ kw_478) dX12_go_2 ?_
  refine lv_ldc2 hx hb hown (hg _ kw_479) dX12_go_5 ?_
  refine vp_callSi (W.runS (As := [.long z_1, .long 48, .long 57]) (rest := []) ⟨hx, hb, hml, hown, hg⟩ (c_in l z_1 48 57) (va_cwS 3 hg (gw_S kw_317 kw_318 kw_319 kw_316) rfl rfl rfl (by decide +kernel) ⟨(Nat.le_of_ble_eq_true rfl), (Nat.le_of_ble_eq_true rfl)⟩) pr_0 rfl rfl hl.1 rfl (lv_room (Nat.le_of_ble_eq_true rfl)) dX12_go_8 ⟨(Nat.le_of_ble_eq_true rfl), (Nat.le_of_ble_eq_true rfl)⟩) (fun r_8 h_8 => ?_)
  rcases dg_1 e_1 h_8 with rfl | ⟨rfl, d_8, hd_8, rfl⟩
  · refine lv_istore_n (lv' := [(2, .int 0), (0, .ref m0), (1, .int cd_)]) hx hb dX12_go_11 rfl hl (by decide) rfl (fun ls hl => ?_)
    refine lv_aload_n hx hb dX12_go_12 rfl (lv_at hl 1 rfl) ?_
    refine va_get (D := D) (ci := 12) (v := .int 4) (C := RX12) (T := TX12) (N := 33) hx hb hg gwX12 hown hK hP 0 rfl rfl 7 (by decide) (hg _ kw_485) (fun _ h9 => h9) rfl dX12_go_13 ?_
    refine lv_tableOut (tgt := 167) hx hb dX12_go_16 (by decide) (by decide) ?_
    refine lv_aload_n hx hb dX12_go_167 rfl (lv_at hl 1 rfl) ?_
    refine lv_iload_n hx hb dX12_go_168 rfl (lv_at hl 2 rfl) ?_
    have hPc := hP.sub (ws' := [(m0, .inr (12, [.ref mp, .int (nI ms), .int (nI C), .int (nI P), .ref mw, .ref mh, .ref mo, .int 4, .int x_value, .int x_digits, .int (nI rc), .int (nI rp), .int (nI ic), .ref m5, .ref m6, .ref m7, .long x_all, .int (nI mpn), .ref mk, .ref mn, .int x_kind, .ref mq, .ref m8, .ref m9, .int x_last, .int x_steps, .int x_isRound, .int x_tablesDone, .ref mz, .int (nI mrs), .ref mb, .ref md, .long x_hash])), (m6, .inl (cs 0, 20, .inl fm6))]) [0, 2] rfl
    have hDc := hD.sub (ws' := [(m0, .inr (12, [.ref mp, .int (nI ms), .int (nI C), .int (nI P), .ref mw, .ref mh, .ref mo, .int 4, .int x_value, .int x_digits, .int (nI rc), .int (nI rp), .int (nI ic), .ref m5, .ref m6, .ref m7, .long x_all, .int (nI mpn), .ref mk, .ref mn, .int x_kind, .ref mq, .ref m8, .ref m9, .int x_last, .int x_steps, .int x_isRound, .int x_tablesDone, .ref mz, .int (nI mrs), .ref mb, .ref md, .long x_hash])), (m6, .inl (cs 0, 20, .inl fm6))]) [0, 2] (by decide) rfl
    have hFc := va_free (wc := [(m0, .inr (12, [.ref mp, .int (nI ms), .int (nI C), .int (nI P), .ref mw, .ref mh, .ref mo, .int 4, .int x_value, .int x_digits, .int (nI rc), .int (nI rp), .int (nI ic), .ref m5, .ref m6, .ref m7, .long x_all, .int (nI mpn), .ref mk, .ref mn, .int x_kind, .ref mq, .ref m8, .ref m9, .int x_last, .int x_steps, .int x_isRound, .int x_tablesDone, .ref mz, .int (nI mrs), .ref mb, .ref md, .long x_hash])), (m6, .inl (cs 0, 20, .inl fm6))]) hD hS hA [0, 2] rfl
    refine va_calli (va_runV (As := [.int cd_]) (rest := []) ⟨hx, hb, hml, hown, hg⟩ (m_goChance l D cs m0 mp mw mh mo m5 m6 m7 mk mn mq m8 m9 mz mb md ms C P mpn mrs rc rp ic (by omega) (by omega) (by omega) (by omega) (by omega) (by omega) (by omega) (by omega) x_value x_digits x_all x_kind x_last x_steps x_isRound x_tablesDone x_hash fm6 cd_ (by omega) (by omega) _) (cwV 1 hg (gw_V kw_489 kw_490 kw_491 kw_319 kw_488) rfl rfl rfl (by decide +kernel) ⟨(Nat.le_of_ble_eq_true rfl), (Nat.le_of_ble_eq_true rfl)⟩) (pr_MV (q := (RX12, TX12, 33)) 12 0 hK hPc hDc rfl rfl) rfl rfl hl.1 rfl (lv_room (Nat.le_of_ble_eq_true rfl)) dX12_go_169 ⟨(Nat.le_of_ble_eq_true rfl), (Nat.le_of_ble_eq_true rfl)⟩) hS (fun q _ h => hFc q h) hFc (fun r_169 u t H1 locs ht hvm h_169 hB hz1 hk1 hS => ?_)
    obtain ⟨s2_169, v2_169, dg2_169, rc2_169, rp2_169, ic2_169, fm62_169, hs2_169, hrc2_169, hrp2_169, hic2_169, hg2_169, hP1, hD1⟩ := hB
    rw [ht] at hP1
    obtain ⟨hP, hD⟩ := va_join (wr := [(m5, .inl (cs 0, 5, .inl fm5))]) (w1 := [(m0, .inr (12, [.ref mp, .int (nI ms), .int (nI C), .int (nI P), .ref mw, .ref mh, .ref mo, .int (nI s2_169), .int v2_169, .int dg2_169, .int (nI rc2_169), .int (nI rp2_169), .int (nI ic2_169), .ref m5, .ref m6, .ref m7, .long x_all, .int (nI mpn), .ref mk, .ref mn, .int x_kind, .ref mq, .ref m8, .ref m9, .int x_last, .int x_steps, .int x_isRound, .int x_tablesDone, .ref mz, .int (nI mrs), .ref mb, .ref md, .long x_hash])), (m6, .inl (cs 0, 20, .inl fm62_169))]) hP hD [0, 2] [1] rfl rfl (by decide) (by decide) hk1 hFc hP1 hD1
    generalize H1 = H at hP hS ⊢
    have hP : va_P D vwCl [(m5, .inl (cs 0, 5, .inl fm5)), (m0, .inr (12, [.ref mp, .int (nI ms), .int (nI C), .int (nI P), .ref mw, .ref mh, .ref mo, .int (nI s2_169), .int v2_169, .int dg2_169, .int (nI rc2_169), .int (nI rp2_169), .int (nI ic2_169), .ref m5, .ref m6, .ref m7, .long x_all, .int (nI mpn), .ref mk, .ref mn, .int x_kind, .ref mq, .ref m8, .ref m9, .int x_last, .int x_steps, .int x_isRound, .int x_tablesDone, .ref mz, .int (nI mrs), .ref mb, .ref md, .long x_hash])), (m6, .inl (cs 0, 20, .inl fm62_169))] H := hP
    have hD : va_D A [(m5, .inl (cs 0, 5, .inl fm5)), (m0, .inr (12, [.ref mp, .int (nI ms), .int (nI C), .int (nI P), .ref mw, .ref mh, .ref mo, .int (nI s2_169), .int v2_169, .int dg2_169, .int (nI rc2_169), .int (nI rp2_169), .int (nI ic2_169), .ref m5, .ref m6, .ref m7, .long x_all, .int (nI mpn), .ref mk, .ref mn, .int x_kind, .ref mq, .ref m8, .ref m9, .int x_last, .int x_steps, .int x_isRound, .int x_tablesDone, .ref mz, .int (nI mrs), .ref mb, .ref md, .long x_hash])), (m6, .inl (cs 0, 20, .inl fm62_169))] := hD
    refine W.cs (cells' := 0) (slots' := 0) rfl rfl ?_
    obtain ⟨rfl, hz_169⟩ := h_169
    rcases hz_169 with rfl | rfl
    · refine W_sQ hQ ?_
      refine W.widen (k := 0) (n := 0) (Nat.le_of_ble_eq_true rfl) (Nat.le_of_ble_eq_true rfl) ?_
      have hP9 := hP.sub (ws' := [(m0, .inr (12, [.ref mp, .int (nI ms), .int (nI C), .int (nI P), .ref mw, .ref mh, .ref mo, .int (nI s2_169), .int v2_169, .int dg2_169, .int (nI rc2_169), .int (nI rp2_169), .int (nI ic2_169), .ref m5, .ref m6, .ref m7, .long x_all, .int (nI mpn), .ref mk, .ref mn, .int x_kind, .ref mq, .ref m8, .ref m9, .int x_last, .int x_steps, .int x_isRound, .int x_tablesDone, .ref mz, .int (nI mrs), .ref mb, .ref md, .long x_hash])), (m5, .inl (cs 0, 5, .inl fm5)), (m6, .inl (cs 0, 20, .inl fm62_169))]) [1, 0, 2] rfl
      have hD9 := hD.sub (ws' := [(m0, .inr (12, [.ref mp, .int (nI ms), .int (nI C), .int (nI P), .ref mw, .ref mh, .ref mo, .int (nI s2_169), .int v2_169, .int dg2_169, .int (nI rc2_169), .int (nI rp2_169), .int (nI ic2_169), .ref m5, .ref m6, .ref m7, .long x_all, .int (nI mpn), .ref mk, .ref mn, .int x_kind, .ref mq, .ref m8, .ref m9, .int x_last, .int x_steps, .int x_isRound, .int x_tablesDone, .ref mz, .int (nI mrs), .ref mb, .ref md, .long x_hash])), (m5, .inl (cs 0, 5, .inl fm5)), (m6, .inl (cs 0, 20, .inl fm62_169))]) [1, 0, 2] (by decide) rfl
      exact W.zret (v := 0) hx hb hr (by decide) (fun t ht hW => ⟨⟨0, 0, rfl, ⟨rfl, Or.inl rfl⟩, ⟨s2_169, v2_169, dg2_169, rc2_169, rp2_169, ic2_169, fm5, fm62_169, (by omega), (by omega), (by omega), (by omega), (fun q9 => absurd q9 (by decide)), by rw [ht]; exact hP9, hD9⟩⟩, hS.F ht⟩) hS.2.2 dX12_go_172
    · refine W_sQ hQ ?_
      refine W.widen (k := 0) (n := 0) (Nat.le_of_ble_eq_true rfl) (Nat.le_of_ble_eq_true rfl) ?_
      have hP9 := hP.sub (ws' := [(m0, .inr (12, [.ref mp, .int (nI ms), .int (nI C), .int (nI P), .ref mw, .ref mh, .ref mo, .int (nI s2_169), .int v2_169, .int dg2_169, .int (nI rc2_169), .int (nI rp2_169), .int (nI ic2_169), .ref m5, .ref m6, .ref m7, .long x_all, .int (nI mpn), .ref mk, .ref mn, .int x_kind, .ref mq, .ref m8, .ref m9, .int x_last, .int x_steps, .int x_isRound, .int x_tablesDone, .ref mz, .int (nI mrs), .ref mb, .ref md, .long x_hash])), (m5, .inl (cs 0, 5, .inl fm5)), (m6, .inl (cs 0, 20, .inl fm62_169))]) [1, 0, 2] rfl
      have hD9 := hD.sub (ws' := [(m0, .inr (12, [.ref mp, .int (nI ms), .int (nI C), .int (nI P), .ref mw, .ref mh, .ref mo, .int (nI s2_169), .int v2_169, .int dg2_169, .int (nI rc2_169), .int (nI rp2_169), .int (nI ic2_169), .ref m5, .ref m6, .ref m7, .long x_all, .int (nI mpn), .ref mk, .ref mn, .int x_kind, .ref mq, .ref m8, .ref m9, .int x_last, .int x_steps, .int x_isRound, .int x_tablesDone, .ref mz, .int (nI mrs), .ref mb, .ref md, .long x_hash])), (m5, .inl (cs 0, 5, .inl fm5)), (m6, .inl (cs 0, 20, .inl fm62_169))]) [1, 0, 2] (by decide) rfl
      exact W.zret (v := 1) hx hb hr (by decide) (fun t ht hW => ⟨⟨1, 1, rfl, ⟨rfl, Or.inr rfl⟩, ⟨s2_169, v2_169, dg2_169, rc2_169, rp2_169, ic2_169, fm5, fm62_169, (by omega), (by omega), (by omega), (by omega), (fun _ => gv_c hrc4 hwr hic3 (hg2_169 rfl)), by rw [ht]; exact hP9, hD9⟩⟩, hS.F ht⟩) hS.2.2 dX12_go_172
  · refine lv_istore_n (lv' := [(2, .int 1), (0, .ref m0), (1, .int (nI (48 + d_8)))]) hx hb dX12_go_11 rfl hl (by decide) rfl (fun ls hl => ?_)
    refine lv_aload_n hx hb dX12_go_12 rfl (lv_at hl 1 rfl) ?_
    refine va_get (D := D) (ci := 12) (v := .int 4) (C := RX12) (T := TX12) (N := 33) hx hb hg gwX12 hown hK hP 0 rfl rfl 7 (by decide) (hg _ kw_485) (fun _ h9 => h9) rfl dX12_go_13 ?_
    refine lv_tableOut (tgt := 167) hx hb dX12_go_16 (by decide) (by decide) ?_
    refine lv_aload_n hx hb dX12_go_167 rfl (lv_at hl 1 rfl) ?_
    refine lv_iload_n hx hb dX12_go_168 rfl (lv_at hl 2 rfl) ?_
    have hPc := hP.sub (ws' := [(m0, .inr (12, [.ref mp, .int (nI ms), .int (nI C), .int (nI P), .ref mw, .ref mh, .ref mo, .int 4, .int x_value, .int x_digits, .int (nI rc), .int (nI rp), .int (nI ic), .ref m5, .ref m6, .ref m7, .long x_all, .int (nI mpn), .ref mk, .ref mn, .int x_kind, .ref mq, .ref m8, .ref m9, .int x_last, .int x_steps, .int x_isRound, .int x_tablesDone, .ref mz, .int (nI mrs), .ref mb, .ref md, .long x_hash])), (m6, .inl (cs 0, 20, .inl fm6))]) [0, 2] rfl
    have hDc := hD.sub (ws' := [(m0, .inr (12, [.ref mp, .int (nI ms), .int (nI C), .int (nI P), .ref mw, .ref mh, .ref mo, .int 4, .int x_value, .int x_digits, .int (nI rc), .int (nI rp), .int (nI ic), .ref m5, .ref m6, .ref m7, .long x_all, .int (nI mpn), .ref mk, .ref mn, .int x_kind, .ref mq, .ref m8, .ref m9, .int x_last, .int x_steps, .int x_isRound, .int x_tablesDone, .ref mz, .int (nI mrs), .ref mb, .ref md, .long x_hash])), (m6, .inl (cs 0, 20, .inl fm6))]) [0, 2] (by decide) rfl
    have hFc := va_free (wc := [(m0, .inr (12, [.ref mp, .int (nI ms), .int (nI C), .int (nI P), .ref mw, .ref mh, .ref mo, .int 4, .int x_value, .int x_digits, .int (nI rc), .int (nI rp), .int (nI ic), .ref m5, .ref m6, .ref m7, .long x_all, .int (nI mpn), .ref mk, .ref mn, .int x_kind, .ref mq, .ref m8, .ref m9, .int x_last, .int x_steps, .int x_isRound, .int x_tablesDone, .ref mz, .int (nI mrs), .ref mb, .ref md, .long x_hash])), (m6, .inl (cs 0, 20, .inl fm6))]) hD hS hA [0, 2] rfl
    refine va_calli (va_runV (As := [.int (nI (48 + d_8))]) (rest := []) ⟨hx, hb, hml, hown, hg⟩ (m_goChance l D cs m0 mp mw mh mo m5 m6 m7 mk mn mq m8 m9 mz mb md ms C P mpn mrs rc rp ic (by omega) (by omega) (by omega) (by omega) (by omega) (by omega) (by omega) (by omega) x_value x_digits x_all x_kind x_last x_steps x_isRound x_tablesDone x_hash fm6 (nI (48 + d_8)) (by omega) (by omega) _) (cwV 1 hg (gw_V kw_489 kw_490 kw_491 kw_319 kw_488) rfl rfl rfl (by decide +kernel) ⟨(Nat.le_of_ble_eq_true rfl), (Nat.le_of_ble_eq_true rfl)⟩) (pr_MV (q := (RX12, TX12, 33)) 12 0 hK hPc hDc rfl rfl) rfl rfl hl.1 rfl (lv_room (Nat.le_of_ble_eq_true rfl)) dX12_go_169 ⟨(Nat.le_of_ble_eq_true rfl), (Nat.le_of_ble_eq_true rfl)⟩) hS (fun q _ h => hFc q h) hFc (fun r_169 u t H1 locs ht hvm h_169 hB hz1 hk1 hS => ?_)
    obtain ⟨s2_169, v2_169, dg2_169, rc2_169, rp2_169, ic2_169, fm62_169, hs2_169, hrc2_169, hrp2_169, hic2_169, hg2_169, hP1, hD1⟩ := hB
    rw [ht] at hP1
    obtain ⟨hP, hD⟩ := va_join (wr := [(m5, .inl (cs 0, 5, .inl fm5))]) (w1 := [(m0, .inr (12, [.ref mp, .int (nI ms), .int (nI C), .int (nI P), .ref mw, .ref mh, .ref mo, .int (nI s2_169), .int v2_169, .int dg2_169, .int (nI rc2_169), .int (nI rp2_169), .int (nI ic2_169), .ref m5, .ref m6, .ref m7, .long x_all, .int (nI mpn), .ref mk, .ref mn, .int x_kind, .ref mq, .ref m8, .ref m9, .int x_last, .int x_steps, .int x_isRound, .int x_tablesDone, .ref mz, .int (nI mrs), .ref mb, .ref md, .long x_hash])), (m6, .inl (cs 0, 20, .inl fm62_169))]) hP hD [0, 2] [1] rfl rfl (by decide) (by decide) hk1 hFc hP1 hD1
    generalize H1 = H at hP hS ⊢
    have hP : va_P D vwCl [(m5, .inl (cs 0, 5, .inl fm5)), (m0, .inr (12, [.ref mp, .int (nI ms), .int (nI C), .int (nI P), .ref mw, .ref mh, .ref mo, .int (nI s2_169), .int v2_169, .int dg2_169, .int (nI rc2_169), .int (nI rp2_169), .int (nI ic2_169), .ref m5, .ref m6, .ref m7, .long x_all, .int (nI mpn), .ref mk, .ref mn, .int x_kind, .ref mq, .ref m8, .ref m9, .int x_last, .int x_steps, .int x_isRound, .int x_tablesDone, .ref mz, .int (nI mrs), .ref mb, .ref md, .long x_hash])), (m6, .inl (cs 0, 20, .inl fm62_169))] H := hP
    have hD : va_D A [(m5, .inl (cs 0, 5, .inl fm5)), (m0, .inr (12, [.ref mp, .int (nI ms), .int (nI C), .int (nI P), .ref mw, .ref mh, .ref mo, .int (nI s2_169), .int v2_169, .int dg2_169, .int (nI rc2_169), .int (nI rp2_169), .int (nI ic2_169), .ref m5, .ref m6, .ref m7, .long x_all, .int (nI mpn), .ref mk, .ref mn, .int x_kind, .ref mq, .ref m8, .ref m9, .int x_last, .int x_steps, .int x_isRound, .int x_tablesDone, .ref mz, .int (nI mrs), .ref mb, .ref md, .long x_hash])), (m6, .inl (cs 0, 20, .inl fm62_169))] := hD
    refine W.cs (cells' := 0) (slots' := 0) rfl rfl ?_
    obtain ⟨rfl, hz_169⟩ := h_169
    rcases hz_169 with rfl | rfl
    · refine W_sQ hQ ?_
      refine W.widen (k := 0) (n := 0) (Nat.le_of_ble_eq_true rfl) (Nat.le_of_ble_eq_true rfl) ?_
      have hP9 := hP.sub (ws' := [(m0, .inr (12, [.ref mp, .int (nI ms), .int (nI C), .int (nI P), .ref mw, .ref mh, .ref mo, .int (nI s2_169), .int v2_169, .int dg2_169, .int (nI rc2_169), .int (nI rp2_169), .int (nI ic2_169), .ref m5, .ref m6, .ref m7, .long x_all, .int (nI mpn), .ref mk, .ref mn, .int x_kind, .ref mq, .ref m8, .ref m9, .int x_last, .int x_steps, .int x_isRound, .int x_tablesDone, .ref mz, .int (nI mrs), .ref mb, .ref md, .long x_hash])), (m5, .inl (cs 0, 5, .inl fm5)), (m6, .inl (cs 0, 20, .inl fm62_169))]) [1, 0, 2] rfl
      have hD9 := hD.sub (ws' := [(m0, .inr (12, [.ref mp, .int (nI ms), .int (nI C), .int (nI P), .ref mw, .ref mh, .ref mo, .int (nI s2_169), .int v2_169, .int dg2_169, .int (nI rc2_169), .int (nI rp2_169), .int (nI ic2_169), .ref m5, .ref m6, .ref m7, .long x_all, .int (nI mpn), .ref mk, .ref mn, .int x_kind, .ref mq, .ref m8, .ref m9, .int x_last, .int x_steps, .int x_isRound, .int x_tablesDone, .ref mz, .int (nI mrs), .ref mb, .ref md, .long x_hash])), (m5, .inl (cs 0, 5, .inl fm5)), (m6, .inl (cs 0, 20, .inl fm62_169))]) [1, 0, 2] (by decide) rfl
      exact W.zret (v := 0) hx hb hr (by decide) (fun t ht hW => ⟨⟨0, 0, rfl, ⟨rfl, Or.inl rfl⟩, ⟨s2_169, v2_169, dg2_169, rc2_169, rp2_169, ic2_169, fm5, fm62_169, (by omega), (by omega), (by omega), (by omega), (fun q9 => absurd q9 (by decide)), by rw [ht]; exact hP9, hD9⟩⟩, hS.F ht⟩) hS.2.2 dX12_go_172
    · refine W_sQ hQ ?_
      refine W.widen (k := 0) (n := 0) (Nat.le_of_ble_eq_true rfl) (Nat.le_of_ble_eq_true rfl) ?_
      have hP9 := hP.sub (ws' := [(m0, .inr (12, [.ref mp, .int (nI ms), .int (nI C), .int (nI P), .ref mw, .ref mh, .ref mo, .int (nI s2_169), .int v2_169, .int dg2_169, .int (nI rc2_169), .int (nI rp2_169), .int (nI ic2_169), .ref m5, .ref m6, .ref m7, .long x_all, .int (nI mpn), .ref mk, .ref mn, .int x_kind, .ref mq, .ref m8, .ref m9, .int x_last, .int x_steps, .int x_isRound, .int x_tablesDone, .ref mz, .int (nI mrs), .ref mb, .ref md, .long x_hash])), (m5, .inl (cs 0, 5, .inl fm5)), (m6, .inl (cs 0, 20, .inl fm62_169))]) [1, 0, 2] rfl
      have hD9 := hD.sub (ws' := [(m0, .inr (12, [.ref mp, .int (nI ms), .int (nI C), .int (nI P), .ref mw, .ref mh, .ref mo, .int (nI s2_169), .int v2_169, .int dg2_169, .int (nI rc2_169), .int (nI rp2_169), .int (nI ic2_169), .ref m5, .ref m6, .ref m7, .long x_all, .int (nI mpn), .ref mk, .ref mn, .int x_kind, .ref mq, .ref m8, .ref m9, .int x_last, .int x_steps, .int x_isRound, .int x_tablesDone, .ref mz, .int (nI mrs), .ref mb, .ref md, .long x_hash])), (m5, .inl (cs 0, 5, .inl fm5)), (m6, .inl (cs 0, 20, .inl fm62_169))]) [1, 0, 2] (by decide) rfl
      exact W.zret (v := 1) hx hb hr (by decide) (fun t ht hW => ⟨⟨1, 1, rfl, ⟨rfl, Or.inr rfl⟩, ⟨s2_169, v2_169, dg2_169, rc2_169, rp2_169, ic2_169, fm5, fm62_169, (by omega), (by omega), (by omega), (by omega), (fun _ => gv_c hrc4 hwr hic3 (hg2_169 rfl)), by rw [ht]; exact hP9, hD9⟩⟩, hS.F ht⟩) hS.2.2 dX12_go_172
