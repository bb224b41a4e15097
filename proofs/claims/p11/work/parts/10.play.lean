theorem dX4_average_0 : decode cX4_average 0 = .ok (.iconst 0, 1) := by decide +kernel
theorem dX4_average_1 : decode cX4_average 1 = .ok (.istore 5, 2) := by decide +kernel
theorem dX4_average_3 : decode cX4_average 3 = .ok (.iconst 0, 1) := by decide +kernel
theorem dX4_average_4 : decode cX4_average 4 = .ok (.istore 6, 2) := by decide +kernel
theorem dX4_average_6 : decode cX4_average 6 = .ok (.iconst 0, 1) := by decide +kernel
theorem dX4_average_7 : decode cX4_average 7 = .ok (.istore 7, 2) := by decide +kernel
theorem dX4_average_9 : decode cX4_average 9 = .ok (.iload 7, 2) := by decide +kernel
theorem dX4_average_11 : decode cX4_average 11 = .ok (.aload_n 1, 1) := by decide +kernel
theorem dX4_average_12 : decode cX4_average 12 = .ok (.getfield 49, 3) := by decide +kernel
theorem dX4_average_15 : decode cX4_average 15 = .ok (.if_icmp .ge 43, 3) := by decide +kernel
theorem dX4_average_18 : decode cX4_average 18 = .ok (.iload 6, 2) := by decide +kernel
theorem dX4_average_20 : decode cX4_average 20 = .ok (.iload_n 3, 1) := by decide +kernel
theorem dX4_average_21 : decode cX4_average 21 = .ok (.iconst 2, 1) := by decide +kernel
theorem dX4_average_22 : decode cX4_average 22 = .ok (.iload 7, 2) := by decide +kernel
theorem dX4_average_24 : decode cX4_average 24 = .ok (.imul, 1) := by decide +kernel
theorem dX4_average_25 : decode cX4_average 25 = .ok (.ishr, 1) := by decide +kernel
theorem dX4_average_26 : decode cX4_average 26 = .ok (.iconst 1, 1) := by decide +kernel
theorem dX4_average_27 : decode cX4_average 27 = .ok (.iand, 1) := by decide +kernel
theorem dX4_average_28 : decode cX4_average 28 = .ok (.iload 7, 2) := by decide +kernel
theorem dX4_average_30 : decode cX4_average 30 = .ok (.ishl, 1) := by decide +kernel
theorem dX4_average_31 : decode cX4_average 31 = .ok (.ior, 1) := by decide +kernel
theorem dX4_average_32 : decode cX4_average 32 = .ok (.istore 6, 2) := by decide +kernel
theorem dX4_average_34 : decode cX4_average 34 = .ok (.iload 5, 2) := by decide +kernel
theorem dX4_average_36 : decode cX4_average 36 = .ok (.iload_n 3, 1) := by decide +kernel
theorem dX4_average_37 : decode cX4_average 37 = .ok (.iconst 2, 1) := by decide +kernel
theorem dX4_average_38 : decode cX4_average 38 = .ok (.iload 7, 2) := by decide +kernel
theorem dX4_average_40 : decode cX4_average 40 = .ok (.imul, 1) := by decide +kernel
theorem dX4_average_41 : decode cX4_average 41 = .ok (.iconst 1, 1) := by decide +kernel
theorem dX4_average_42 : decode cX4_average 42 = .ok (.iadd, 1) := by decide +kernel
theorem dX4_average_43 : decode cX4_average 43 = .ok (.ishr, 1) := by decide +kernel
theorem dX4_average_44 : decode cX4_average 44 = .ok (.iconst 1, 1) := by decide +kernel
theorem dX4_average_45 : decode cX4_average 45 = .ok (.iand, 1) := by decide +kernel
theorem dX4_average_46 : decode cX4_average 46 = .ok (.iload 7, 2) := by decide +kernel
theorem dX4_average_48 : decode cX4_average 48 = .ok (.ishl, 1) := by decide +kernel
theorem dX4_average_49 : decode cX4_average 49 = .ok (.ior, 1) := by decide +kernel
theorem dX4_average_50 : decode cX4_average 50 = .ok (.istore 5, 2) := by decide +kernel
theorem dX4_average_52 : decode cX4_average 52 = .ok (.iinc 7 1, 3) := by decide +kernel
theorem dX4_average_55 : decode cX4_average 55 = .ok (.goto (-46), 3) := by decide +kernel
theorem dX4_average_58 : decode cX4_average 58 = .ok (.aload_n 1, 1) := by decide +kernel
theorem dX4_average_59 : decode cX4_average 59 = .ok (.invokevirtual 64, 3) := by decide +kernel
theorem dX4_average_62 : decode cX4_average 62 = .ok (.istore 7, 2) := by decide +kernel
theorem dX4_average_64 : decode cX4_average 64 = .ok (.aload_n 0, 1) := by decide +kernel
theorem dX4_average_65 : decode cX4_average 65 = .ok (.invokevirtual 29, 3) := by decide +kernel
theorem dX4_average_68 : decode cX4_average 68 = .ok (.i2l, 1) := by decide +kernel
theorem dX4_average_69 : decode cX4_average 69 = .ok (.lstore 8, 2) := by decide +kernel
theorem dX4_average_71 : decode cX4_average 71 = .ok (.lconst 0, 1) := by decide +kernel
theorem dX4_average_72 : decode cX4_average 72 = .ok (.lstore 10, 2) := by decide +kernel
theorem dX4_average_74 : decode cX4_average 74 = .ok (.iconst 0, 1) := by decide +kernel
theorem dX4_average_75 : decode cX4_average 75 = .ok (.istore 12, 2) := by decide +kernel
theorem dX4_average_77 : decode cX4_average 77 = .ok (.iload 12, 2) := by decide +kernel
theorem dX4_average_79 : decode cX4_average 79 = .ok (.iload 7, 2) := by decide +kernel
theorem dX4_average_81 : decode cX4_average 81 = .ok (.if_icmp .ge 106, 3) := by decide +kernel
theorem dX4_average_84 : decode cX4_average 84 = .ok (.iload 12, 2) := by decide +kernel
theorem dX4_average_86 : decode cX4_average 86 = .ok (.iload 5, 2) := by decide +kernel
theorem dX4_average_88 : decode cX4_average 88 = .ok (.iconst (-1), 1) := by decide +kernel
theorem dX4_average_89 : decode cX4_average 89 = .ok (.ixor, 1) := by decide +kernel
theorem dX4_average_90 : decode cX4_average 90 = .ok (.iand, 1) := by decide +kernel
theorem dX4_average_91 : decode cX4_average 91 = .ok (.iload 6, 2) := by decide +kernel
theorem dX4_average_93 : decode cX4_average 93 = .ok (.ixor, 1) := by decide +kernel
theorem dX4_average_94 : decode cX4_average 94 = .ok (.istore 13, 2) := by decide +kernel
theorem dX4_average_96 : decode cX4_average 96 = .ok (.iload 13, 2) := by decide +kernel
theorem dX4_average_98 : decode cX4_average 98 = .ok (.iload 4, 2) := by decide +kernel
theorem dX4_average_100 : decode cX4_average 100 = .ok (.ishr, 1) := by decide +kernel
theorem dX4_average_101 : decode cX4_average 101 = .ok (.iconst 1, 1) := by decide +kernel
theorem dX4_average_102 : decode cX4_average 102 = .ok (.iand, 1) := by decide +kernel
theorem dX4_average_103 : decode cX4_average 103 = .ok (.istore 14, 2) := by decide +kernel
theorem dX4_average_105 : decode cX4_average 105 = .ok (.iload 13, 2) := by decide +kernel
theorem dX4_average_107 : decode cX4_average 107 = .ok (.invokestatic 67, 3) := by decide +kernel
theorem dX4_average_110 : decode cX4_average 110 = .ok (.iload 14, 2) := by decide +kernel
theorem dX4_average_112 : decode cX4_average 112 = .ok (.isub, 1) := by decide +kernel
theorem dX4_average_113 : decode cX4_average 113 = .ok (.istore 15, 2) := by decide +kernel
theorem dX4_average_115 : decode cX4_average 115 = .ok (.iconst 2, 1) := by decide +kernel
theorem dX4_average_116 : decode cX4_average 116 = .ok (.iload 12, 2) := by decide +kernel
theorem dX4_average_118 : decode cX4_average 118 = .ok (.invokestatic 67, 3) := by decide +kernel
theorem dX4_average_121 : decode cX4_average 121 = .ok (.imul, 1) := by decide +kernel
theorem dX4_average_122 : decode cX4_average 122 = .ok (.aload_n 1, 1) := by decide +kernel
theorem dX4_average_123 : decode cX4_average 123 = .ok (.getfield 49, 3) := by decide +kernel
theorem dX4_average_126 : decode cX4_average 126 = .ok (.if_icmp .le 7, 3) := by decide +kernel
theorem dX4_average_129 : decode cX4_average 129 = .ok (.iconst 1, 1) := by decide +kernel
theorem dX4_average_130 : decode cX4_average 130 = .ok (.goto 4, 3) := by decide +kernel
theorem dX4_average_133 : decode cX4_average 133 = .ok (.iconst 0, 1) := by decide +kernel
theorem dX4_average_134 : decode cX4_average 134 = .ok (.istore 16, 2) := by decide +kernel
theorem dX4_average_136 : decode cX4_average 136 = .ok (.lload 8, 2) := by decide +kernel
theorem dX4_average_138 : decode cX4_average 138 = .ok (.aload_n 0, 1) := by decide +kernel
theorem dX4_average_139 : decode cX4_average 139 = .ok (.iload 14, 2) := by decide +kernel
theorem dX4_average_141 : decode cX4_average 141 = .ok (.aload_n 1, 1) := by decide +kernel
theorem dX4_average_142 : decode cX4_average 142 = .ok (.getfield 49, 3) := by decide +kernel
theorem dX4_average_145 : decode cX4_average 145 = .ok (.iconst 1, 1) := by decide +kernel
theorem dX4_average_146 : decode cX4_average 146 = .ok (.isub, 1) := by decide +kernel
theorem dX4_average_147 : decode cX4_average 147 = .ok (.iload 15, 2) := by decide +kernel
theorem dX4_average_149 : decode cX4_average 149 = .ok (.isub, 1) := by decide +kernel
theorem dX4_average_150 : decode cX4_average 150 = .ok (.iload 15, 2) := by decide +kernel
theorem dX4_average_152 : decode cX4_average 152 = .ok (.invokevirtual 73, 3) := by decide +kernel
theorem dX4_average_155 : decode cX4_average 155 = .ok (.i2l, 1) := by decide +kernel
theorem dX4_average_156 : decode cX4_average 156 = .ok (.lmul, 1) := by decide +kernel
theorem dX4_average_157 : decode cX4_average 157 = .ok (.aload_n 0, 1) := by decide +kernel
theorem dX4_average_158 : decode cX4_average 158 = .ok (.iload 14, 2) := by decide +kernel
theorem dX4_average_160 : decode cX4_average 160 = .ok (.iload 16, 2) := by decide +kernel
theorem dX4_average_162 : decode cX4_average 162 = .ok (.invokevirtual 77, 3) := by decide +kernel
theorem dX4_average_165 : decode cX4_average 165 = .ok (.i2l, 1) := by decide +kernel
theorem dX4_average_166 : decode cX4_average 166 = .ok (.ladd, 1) := by decide +kernel
theorem dX4_average_167 : decode cX4_average 167 = .ok (.lstore 17, 2) := by decide +kernel
theorem dX4_average_169 : decode cX4_average 169 = .ok (.lload 10, 2) := by decide +kernel
theorem dX4_average_171 : decode cX4_average 171 = .ok (.aload_n 2, 1) := by decide +kernel
theorem dX4_average_172 : decode cX4_average 172 = .ok (.iload 12, 2) := by decide +kernel
theorem dX4_average_174 : decode cX4_average 174 = .ok (.laload, 1) := by decide +kernel
theorem dX4_average_175 : decode cX4_average 175 = .ok (.lload 17, 2) := by decide +kernel
theorem dX4_average_177 : decode cX4_average 177 = .ok (.lmul, 1) := by decide +kernel
theorem dX4_average_178 : decode cX4_average 178 = .ok (.ladd, 1) := by decide +kernel
theorem dX4_average_179 : decode cX4_average 179 = .ok (.lstore 10, 2) := by decide +kernel
theorem dX4_average_181 : decode cX4_average 181 = .ok (.iinc 12 1, 3) := by decide +kernel
theorem dX4_average_184 : decode cX4_average 184 = .ok (.goto (-107), 3) := by decide +kernel
theorem dX4_average_187 : decode cX4_average 187 = .ok (.lload 10, 2) := by decide +kernel
theorem dX4_average_189 : decode cX4_average 189 = .ok (.lreturn, 1) := by decide +kernel
theorem kw_140 : (.fieldLink RX4 49 "NobodyChecks$Question" "persons" "I" : Cond) ∈ gw_tbl := gw_in (by decide +kernel) (by decide +kernel)
theorem kw_141 : (.methodLink RX4 64 yX5_signLimit : Cond) ∈ gw_tbl := gw_in (by decide +kernel) (by decide +kernel)
theorem kw_142 : (.code yX1_unit cX1_unit 1 (some .int) : Cond) ∈ gw_tbl := gw_in (by decide +kernel) (by decide +kernel)
theorem kw_143 : (.methodLink RX4 29 yX3_unit : Cond) ∈ gw_tbl := gw_in (by decide +kernel) (by decide +kernel)
theorem kw_144 : (.sameMethod yX3_unit.cls "NobodyChecks$Pay" yX3_unit.name yX3_unit.desc : Cond) ∈ gw_tbl := gw_in (by decide +kernel) (by decide +kernel)
theorem kw_145 : (.selects RX1 yX3_unit yX1_unit : Cond) ∈ gw_tbl := gw_in (by decide +kernel) (by decide +kernel)
theorem kw_146 : (.instanceMethod yX1_unit : Cond) ∈ gw_tbl := gw_in (by decide +kernel) (by decide +kernel)
theorem kw_147 : (.initialized RX1 : Cond) ∈ gw_tbl := gw_in (by decide +kernel) (by decide +kernel)
theorem kw_148 : (.instanceMethod yX3_unit : Cond) ∈ gw_tbl := gw_in (by decide +kernel) (by decide +kernel)
theorem kw_149 : (.code yX3_unit cX3_unit 1 (some .int) : Cond) ∈ gw_tbl := gw_in (by decide +kernel) (by decide +kernel)
theorem kw_150 : (.selects RX3 yX3_unit yX3_unit : Cond) ∈ gw_tbl := gw_in (by decide +kernel) (by decide +kernel)
theorem kw_151 : (.initialized RX3 : Cond) ∈ gw_tbl := gw_in (by decide +kernel) (by decide +kernel)
theorem kw_152 : (.selects RX6 yX3_unit yX3_unit : Cond) ∈ gw_tbl := gw_in (by decide +kernel) (by decide +kernel)
theorem kw_153 : (.selects RX9 yX3_unit yX3_unit : Cond) ∈ gw_tbl := gw_in (by decide +kernel) (by decide +kernel)
theorem kw_154 : (.selects RX10 yX3_unit yX3_unit : Cond) ∈ gw_tbl := gw_in (by decide +kernel) (by decide +kernel)
theorem kw_155 : (.code yJ6_bitCount_0f7a4 cJ6_bitCount_0f7a4 1 (some .int) : Cond) ∈ gw_tbl := gw_in (by decide +kernel) (by decide +kernel)
theorem kw_156 : (.methodLink RX4 67 yJ6_bitCount_0f7a4 : Cond) ∈ gw_tbl := gw_in (by decide +kernel) (by decide +kernel)
theorem kw_157 : (.static yJ6_bitCount_0f7a4 : Cond) ∈ gw_tbl := gw_in (by decide +kernel) (by decide +kernel)
theorem kw_158 : (.initialized RJ6 : Cond) ∈ gw_tbl := gw_in (by decide +kernel) (by decide +kernel)
theorem kw_159 : (.code yX9_amount cX9_amount 4 (some .int) : Cond) ∈ gw_tbl := gw_in (by decide +kernel) (by decide +kernel)
theorem kw_160 : (.methodLink RX4 73 yX3_amount : Cond) ∈ gw_tbl := gw_in (by decide +kernel) (by decide +kernel)
theorem kw_161 : (.sameMethod yX3_amount.cls "NobodyChecks$Pay" yX3_amount.name yX3_amount.desc : Cond) ∈ gw_tbl := gw_in (by decide +kernel) (by decide +kernel)
theorem kw_162 : (.selects RX1 yX3_amount yX9_amount : Cond) ∈ gw_tbl := gw_in (by decide +kernel) (by decide +kernel)
theorem kw_163 : (.instanceMethod yX9_amount : Cond) ∈ gw_tbl := gw_in (by decide +kernel) (by decide +kernel)
theorem kw_164 : (.initialized RX9 : Cond) ∈ gw_tbl := gw_in (by decide +kernel) (by decide +kernel)
theorem kw_165 : (.instanceMethod yX3_amount : Cond) ∈ gw_tbl := gw_in (by decide +kernel) (by decide +kernel)
theorem kw_166 : (.code yX3_amount cX3_amount 4 (some .int) : Cond) ∈ gw_tbl := gw_in (by decide +kernel) (by decide +kernel)
theorem kw_167 : (.selects RX3 yX3_amount yX3_amount : Cond) ∈ gw_tbl := gw_in (by decide +kernel) (by decide +kernel)
theorem kw_168 : (.code yX6_amount cX6_amount 6 (some .int) : Cond) ∈ gw_tbl := gw_in (by decide +kernel) (by decide +kernel)
theorem kw_169 : (.selects RX6 yX3_amount yX6_amount : Cond) ∈ gw_tbl := gw_in (by decide +kernel) (by decide +kernel)
theorem kw_170 : (.instanceMethod yX6_amount : Cond) ∈ gw_tbl := gw_in (by decide +kernel) (by decide +kernel)
theorem kw_171 : (.initialized RX6 : Cond) ∈ gw_tbl := gw_in (by decide +kernel) (by decide +kernel)
theorem kw_172 : (.selects RX9 yX3_amount yX9_amount : Cond) ∈ gw_tbl := gw_in (by decide +kernel) (by decide +kernel)
theorem kw_173 : (.selects RX10 yX3_amount yX10_amount : Cond) ∈ gw_tbl := gw_in (by decide +kernel) (by decide +kernel)
theorem kw_174 : (.code yX1_added cX1_added 4 (some .int) : Cond) ∈ gw_tbl := gw_in (by decide +kernel) (by decide +kernel)
theorem kw_175 : (.methodLink RX4 77 yX3_added : Cond) ∈ gw_tbl := gw_in (by decide +kernel) (by decide +kernel)
theorem kw_176 : (.sameMethod yX3_added.cls "NobodyChecks$Pay" yX3_added.name yX3_added.desc : Cond) ∈ gw_tbl := gw_in (by decide +kernel) (by decide +kernel)
theorem kw_177 : (.selects RX1 yX3_added yX1_added : Cond) ∈ gw_tbl := gw_in (by decide +kernel) (by decide +kernel)
theorem kw_178 : (.instanceMethod yX1_added : Cond) ∈ gw_tbl := gw_in (by decide +kernel) (by decide +kernel)
theorem kw_179 : (.instanceMethod yX3_added : Cond) ∈ gw_tbl := gw_in (by decide +kernel) (by decide +kernel)
theorem kw_180 : (.code yX3_added cX3_added 3 (some .int) : Cond) ∈ gw_tbl := gw_in (by decide +kernel) (by decide +kernel)
theorem kw_181 : (.selects RX3 yX3_added yX3_added : Cond) ∈ gw_tbl := gw_in (by decide +kernel) (by decide +kernel)
theorem kw_182 : (.selects RX6 yX3_added yX3_added : Cond) ∈ gw_tbl := gw_in (by decide +kernel) (by decide +kernel)
theorem kw_183 : (.selects RX9 yX3_added yX3_added : Cond) ∈ gw_tbl := gw_in (by decide +kernel) (by decide +kernel)
theorem kw_184 : (.selects RX10 yX3_added yX3_added : Cond) ∈ gw_tbl := gw_in (by decide +kernel) (by decide +kernel)

set_option maxHeartbeats 4000000 in
set_option maxRecDepth 100000 in
theorem y_average (l : Launch) (D : va_G) (cs : Nat → ClassId) (h0 : Nat) (nq : Nat) (av : Value) (rk : Int32) (ci : Nat) (hci : isPy ci) (fq : Nat → Int32) (aq : Nat) (aw : Nat) (ac : Nat) (ao : Nat) (am : Nat) (C : Nat) (hC5 : C ≤ 5) (P : Nat) (hP4 : P ≤ 4) (tot : Int64) (ma : Nat) (fma : Nat → Int64) (prf : Int32) (prs : Int32) : Met l yX4_average (Cond.code yX4_average cX4_average 19 (some .long) :: gw_tbl) ({ frames := 2, cells := 0, slots := 0, locals := 48 }) (pc_S D cs [(h0, .inr (ci, [.ref nq, av, .int rk])), (nq, .inl (cs 0, 4, .inl fq)), (aq, .inr (5, [.ref aw, .ref ac, .ref ao, .ref am, .int (nI C), .int (nI P), .long tot])), (ma, .inl (cs 1, 16, .inr (.inl fma)))] [.ref h0, .ref aq, .ref ma, .int prf, .int prs]) (vp_Sl (fun r => True)) 0 0 (fun _ => False) := by
  refine Met.ofW (cc := cX4_average) (maxL := 19) (ret := (some .long)) (by decide) rfl ?_
  intro p e s m args below meth c s₁ B hml hv
  obtain ⟨hargs, hP, hK⟩ := hv
  have hx := B.exec
  have hb := B.bytes
  have hr := B.returns
  have hts := atoms_spec (ws := Cond.code yX4_average cX4_average 19 (some .long) :: gw_tbl) B.pre
  have hg := fun (w : Cond) (h : w ∈ gw_tbl) => hts w (List.mem_cons_of_mem _ h)
  have hown : s.vm.findClass RX4 = some m.cls := findClass_of_methodNamed B.named
  have hlocks := B.notSynchronized
  have hl := lv_entry ([.ref h0, .ref aq, .ref ma, .int prf, .int prs]) (n := 19) (Nat.le_of_ble_eq_true rfl)
  rw [show entryFrame m args 19 = F0 m 0 (lg_sl ([.ref h0, .ref aq, .ref ma, .int prf, .int prs]) ++ List.replicate (19 - (lg_sl ([.ref h0, .ref aq, .ref ma, .int prf, .int prs])).length) Slot.unset).toArray [] from by rw [hargs]; exact lg_entry_eq ..]
  generalize (lg_sl ([.ref h0, .ref aq, .ref ma, .int prf, .int prs]) ++ List.replicate (19 - (lg_sl ([.ref h0, .ref aq, .ref ma, .int prf, .int prs])).length) Slot.unset).toArray = ls at hl ⊢
  have hl : lv_has ls 19 [(0, .ref h0), (1, .ref aq), (2, .ref ma), (3, .int prf), (4, .int prs)] := hl
  refine W_genQ (fun Q hQ => ?_)
  have hlm := lim_le hP4
  have hlq := lim_pos P
  have hsg := sgn_le hP4
  refine lv_iconst (v := 0) hx hb dX4_average_0 (by decide) ?_
  refine lv_istore (lv' := [(5, .int 0), (0, .ref h0), (1, .ref aq), (2, .ref ma), (3, .int prf), (4, .int prs)]) hx hb dX4_average_1 hl (by decide) rfl (fun ls hl => ?_)
  refine lv_iconst (v := 0) hx hb dX4_average_3 (by decide) ?_
  refine lv_istore (lv' := [(6, .int 0), (5, .int 0), (0, .ref h0), (1, .ref aq), (2, .ref ma), (3, .int prf), (4, .int prs)]) hx hb dX4_average_4 hl (by decide) rfl (fun ls hl => ?_)
  refine lv_iconst (v := 0) hx hb dX4_average_6 (by decide) ?_
  refine lv_istore (lv' := [(7, .int 0), (6, .int 0), (5, .int 0), (0, .ref h0), (1, .ref aq), (2, .ref ma), (3, .int prf), (4, .int prs)]) hx hb dX4_average_7 hl (by decide) rfl (fun ls hl => ?_)
  have LOOP9 : ∀ (n9 : Nat) (u5_9 : Int32) (u6_9 : Int32) (k : Nat), k ≤ P → P - k < n9 → ∀ (ls : Array Slot), lv_has ls 19 [(0, .ref h0), (1, .ref aq), (2, .ref ma), (3, .int prf), (4, .int prs), (5, .int u5_9), (6, .int u6_9), (7, .int (nI k))] → W p l e ({ frames := 2, cells := 0, slots := 0, locals := 48 } : Room) s m args below meth c s.heap [] 0 0 Q (F0 m 9 ls []) := by
    intro n9
    induction n9 with
    | zero =>
      intro u5_9 u6_9 k hk hn9 ls hl
      exact absurd hn9 (Nat.not_lt_zero _)
    | succ n9 ih9 =>
      intro u5_9 u6_9 k hk hn9 ls hl
      refine lv_iload hx hb dX4_average_9 (lv_at hl 7 rfl) ?_
      refine lv_aload_n hx hb dX4_average_11 rfl (lv_at hl 1 rfl) ?_
      refine va_get (D := D) (ci := 5) (v := .int (nI P)) (C := RX5) (T := TX5) (N := 7) hx hb hg gwX5 hown hK hP 2 rfl rfl 5 (by decide) (hg _ kw_140) (fun _ h9 => h9) rfl dX4_average_12 ?_
      refine lv_icmp_ge (tgt := 58) hx hb dX4_average_15 (by decide) (fun c_15 => ?_) (fun c_15 => ?_)
      · have n_15 : P ≤ k := b_le_t (by omega) (by omega) c_15
        refine lv_aload_n hx hb dX4_average_58 rfl (lv_at hl 1 rfl) ?_
        have hPc := hP.sub (ws' := [(aq, .inr (5, [.ref aw, .ref ac, .ref ao, .ref am, .int (nI C), .int (nI P), .long tot]))]) [2] rfl
        refine vp_callSi (W.runV (As := []) (rest := []) ⟨hx, hb, hml, hown, hg⟩ (q_signLimit l D cs aq aw ac ao am C (by omega) P (by omega) tot) (cwV 0 hg (gw_V kw_141 kw_29 kw_30 kw_19 kw_27) rfl rfl rfl (by decide +kernel) ⟨(Nat.le_of_ble_eq_true rfl), (Nat.le_of_ble_eq_true rfl)⟩) (pr_SV (q := (RX5, TX5, 7)) 5 0 hK hPc rfl rfl) rfl rfl hl.1 rfl (lv_room (Nat.le_of_ble_eq_true rfl)) dX4_average_59 ⟨(Nat.le_of_ble_eq_true rfl), (Nat.le_of_ble_eq_true rfl)⟩) (fun r_59 h_59 => ?_)
        obtain rfl : r_59 = nI (sgn P) := h_59
        refine lv_istore (lv' := [(7, .int (nI (sgn P))), (0, .ref h0), (1, .ref aq), (2, .ref ma), (3, .int prf), (4, .int prs), (5, .int u5_9), (6, .int u6_9)]) hx hb dX4_average_62 hl (by decide) rfl (fun ls hl => ?_)
        refine lv_aload_n hx hb dX4_average_64 rfl (lv_at hl 1 rfl) ?_
        have R0_65 : CallRun p l e ({ frames := 2, cells := 0, slots := 0, locals := 48 } : Room) s m args below meth c s.heap [] 0 0 0 0 (F0 m 65 ls [.ref h0]) [] (vp_Si (fun r => True) (Value.ref h0 :: []).toArray) (fun _ => False) := by
          rcases hci with rfl | rfl | rfl | rfl | rfl
          · exact va_Run.run (va_runU (As := []) (rest := []) ⟨hx, hb, hml, hown, hg⟩ (p_unit_X1_1 l D cs h0 nq av rk) (va_cwO (owner := "NobodyChecks$Pay") (x := yX3_unit) 0 hg (gw_O kw_143 kw_144 kw_148 kw_145 kw_146 kw_147 kw_142) rfl rfl rfl kw_149 (by decide +kernel) ⟨(Nat.le_of_ble_eq_true rfl), (Nat.le_of_ble_eq_true rfl)⟩) (pr_SV (q := (RX1, TX1, 3)) 1 0 hK (hP.sub (ws' := [(h0, .inr (1, [.ref nq, av, .int rk]))]) [0] rfl) rfl rfl) rfl rfl hl.1 rfl (lv_room (Nat.le_of_ble_eq_true rfl)) dX4_average_65 ⟨(Nat.le_of_ble_eq_true rfl), (Nat.le_of_ble_eq_true rfl)⟩)
          · exact W.runV (As := []) (rest := []) ⟨hx, hb, hml, hown, hg⟩ (p_unit_X3_3 l D cs h0 nq av rk) (cwV 0 hg (gw_V kw_143 kw_148 kw_150 kw_151 kw_149) rfl rfl rfl (by decide +kernel) ⟨(Nat.le_of_ble_eq_true rfl), (Nat.le_of_ble_eq_true rfl)⟩) (pr_SV (q := (RX3, TX3, 3)) 3 0 hK (hP.sub (ws' := [(h0, .inr (3, [.ref nq, av, .int rk]))]) [0] rfl) rfl rfl) rfl rfl hl.1 rfl (lv_room (Nat.le_of_ble_eq_true rfl)) dX4_average_65 ⟨(Nat.le_of_ble_eq_true rfl), (Nat.le_of_ble_eq_true rfl)⟩
          · exact va_Run.run (va_runU (As := []) (rest := []) ⟨hx, hb, hml, hown, hg⟩ (p_unit_X3_6 l D cs h0 nq av rk) (va_cwU (owner := "NobodyChecks$Pay") (x := yX3_unit) 0 hg (gw_U kw_143 kw_144 kw_152 kw_148 kw_151 kw_149) rfl rfl rfl rfl (by decide +kernel) ⟨(Nat.le_of_ble_eq_true rfl), (Nat.le_of_ble_eq_true rfl)⟩) (pr_SV (q := (RX6, TX6, 3)) 6 0 hK (hP.sub (ws' := [(h0, .inr (6, [.ref nq, av, .int rk]))]) [0] rfl) rfl rfl) rfl rfl hl.1 rfl (lv_room (Nat.le_of_ble_eq_true rfl)) dX4_average_65 ⟨(Nat.le_of_ble_eq_true rfl), (Nat.le_of_ble_eq_true rfl)⟩)
          · exact va_Run.run (va_runU (As := []) (rest := []) ⟨hx, hb, hml, hown, hg⟩ (p_unit_X3_9 l D cs h0 nq av rk) (va_cwU (owner := "NobodyChecks$Pay") (x := yX3_unit) 0 hg (gw_U kw_143 kw_144 kw_153 kw_148 kw_151 kw_149) rfl rfl rfl rfl (by decide +kernel) ⟨(Nat.le_of_ble_eq_true rfl), (Nat.le_of_ble_eq_true rfl)⟩) (pr_SV (q := (RX9, TX9, 3)) 9 0 hK (hP.sub (ws' := [(h0, .inr (9, [.ref nq, av, .int rk]))]) [0] rfl) rfl rfl) rfl rfl hl.1 rfl (lv_room (Nat.le_of_ble_eq_true rfl)) dX4_average_65 ⟨(Nat.le_of_ble_eq_true rfl), (Nat.le_of_ble_eq_true rfl)⟩)
          · exact va_Run.run (va_runU (As := []) (rest := []) ⟨hx, hb, hml, hown, hg⟩ (p_unit_X3_10 l D cs h0 nq av rk) (va_cwU (owner := "NobodyChecks$Pay") (x := yX3_unit) 0 hg (gw_U kw_143 kw_144 kw_154 kw_148 kw_151 kw_149) rfl rfl rfl rfl (by decide +kernel) ⟨(Nat.le_of_ble_eq_true rfl), (Nat.le_of_ble_eq_true rfl)⟩) (pr_SV (q := (RX10, TX10, 3)) 10 0 hK (hP.sub (ws' := [(h0, .inr (10, [.ref nq, av, .int rk]))]) [0] rfl) rfl rfl) rfl rfl hl.1 rfl (lv_room (Nat.le_of_ble_eq_true rfl)) dX4_average_65 ⟨(Nat.le_of_ble_eq_true rfl), (Nat.le_of_ble_eq_true rfl)⟩)
        refine vp_callSi R0_65 (fun r_65 h_65 => ?_)
        clear h_65
        refine lv_i2l hx hb dX4_average_68 rfl ?_
        refine lv_topl (fun z_68 e_68 => ?_)
        refine lv_lstore (lv' := [(8, .long z_68), (7, .int (nI (sgn P))), (0, .ref h0), (1, .ref aq), (2, .ref ma), (3, .int prf), (4, .int prs), (5, .int u5_9), (6, .int u6_9)]) hx hb dX4_average_69 hl (by decide) rfl (fun ls hl => ?_)
        refine lv_lconst (v := 0) hx hb dX4_average_71 (by decide) ?_
        refine lv_lstore (lv' := [(10, .long 0), (8, .long z_68), (7, .int (nI (sgn P))), (0, .ref h0), (1, .ref aq), (2, .ref ma), (3, .int prf), (4, .int prs), (5, .int u5_9), (6, .int u6_9)]) hx hb dX4_average_72 hl (by decide) rfl (fun ls hl => ?_)
        refine lv_iconst (v := 0) hx hb dX4_average_74 (by decide) ?_
        refine lv_istore (lv' := [(12, .int 0), (10, .long 0), (8, .long z_68), (7, .int (nI (sgn P))), (0, .ref h0), (1, .ref aq), (2, .ref ma), (3, .int prf), (4, .int prs), (5, .int u5_9), (6, .int u6_9)]) hx hb dX4_average_75 hl (by decide) rfl (fun ls hl => ?_)
        have LOOP77 : ∀ (n77 : Nat) (u10_77 : Int64) (sg : Nat), sg ≤ sgn P → sgn P - sg < n77 → ∀ (ls : Array Slot), lv_has ls 19 [(0, .ref h0), (1, .ref aq), (2, .ref ma), (3, .int prf), (4, .int prs), (5, .int u5_9), (6, .int u6_9), (7, .int (nI (sgn P))), (8, .long z_68), (10, .long u10_77), (12, .int (nI sg))] → W p l e ({ frames := 2, cells := 0, slots := 0, locals := 48 } : Room) s m args below meth c s.heap [] 0 0 Q (F0 m 77 ls []) := by
          intro n77
          induction n77 with
          | zero =>
            intro u10_77 sg hsg2 hn77 ls hl
            exact absurd hn77 (Nat.not_lt_zero _)
          | succ n77 ih77 =>
            intro u10_77 sg hsg2 hn77 ls hl
            refine lv_iload hx hb dX4_average_77 (lv_at hl 10 rfl) ?_
            refine lv_iload hx hb dX4_average_79 (lv_at hl 7 rfl) ?_
            refine lv_icmp_ge (tgt := 187) hx hb dX4_average_81 (by decide) (fun c_81 => ?_) (fun c_81 => ?_)
            · have n_81 : sgn P ≤ sg := b_le_t (by omega) (by omega) c_81
              refine lv_lload hx hb dX4_average_187 (lv_at hl 9 rfl) ?_
              refine W_sQ hQ ?_
              exact W.lret (v := u10_77) hx hb hr (fun t ht hW => ⟨u10_77, rfl, trivial, ht⟩) (fun _ h => absurd h List.not_mem_nil) dX4_average_189
            · have n_81 : sg < sgn P := b_le_f (by omega) (by omega) c_81
              refine lv_iload hx hb dX4_average_84 (lv_at hl 10 rfl) ?_
              refine lv_iload hx hb dX4_average_86 (lv_at hl 5 rfl) ?_
              refine lv_iconst (v := (-1)) hx hb dX4_average_88 (by decide) ?_
              refine lv_ixor hx hb dX4_average_89 ?_
              refine lv_topi (fun z_89 e_89 => ?_)
              refine lv_iand hx hb dX4_average_90 ?_
              refine lv_topi (fun z_90 e_90 => ?_)
              refine lv_iload hx hb dX4_average_91 (lv_at hl 6 rfl) ?_
              refine lv_ixor hx hb dX4_average_93 ?_
              refine lv_topi (fun z_93 e_93 => ?_)
              refine lv_istore (lv' := [(13, .int z_93), (0, .ref h0), (1, .ref aq), (2, .ref ma), (3, .int prf), (4, .int prs), (5, .int u5_9), (6, .int u6_9), (7, .int (nI (sgn P))), (8, .long z_68), (10, .long u10_77), (12, .int (nI sg))]) hx hb dX4_average_94 hl (by decide) rfl (fun ls hl => ?_)
              refine lv_iload hx hb dX4_average_96 (lv_at hl 0 rfl) ?_
              refine lv_iload hx hb dX4_average_98 (lv_at hl 5 rfl) ?_
              refine lv_ishr hx hb dX4_average_100 ?_
              refine lv_topi (fun z_100 e_100 => ?_)
              refine lv_iconst (v := 1) hx hb dX4_average_101 (by decide) ?_
              refine lv_iand hx hb dX4_average_102 ?_
              refine lv_topi (fun z_102 e_102 => ?_)
              obtain ⟨j_102, hj_102, ee_102⟩ := pk_andE z_100 (m := 1) 1 rfl
              obtain rfl : z_102 = nI j_102 := e_102.trans ee_102
              have hj_102 : j_102 < 2 := hj_102
              refine lv_istore (lv' := [(14, .int (nI j_102)), (13, .int z_93), (0, .ref h0), (1, .ref aq), (2, .ref ma), (3, .int prf), (4, .int prs), (5, .int u5_9), (6, .int u6_9), (7, .int (nI (sgn P))), (8, .long z_68), (10, .long u10_77), (12, .int (nI sg))]) hx hb dX4_average_103 hl (by decide) rfl (fun ls hl => ?_)
              refine lv_iload hx hb dX4_average_105 (lv_at hl 1 rfl) ?_
              refine vp_callSi (W.runS (As := [.int z_93]) (rest := []) ⟨hx, hb, hml, hown, hg⟩ (c_bitCount l z_93) (va_cwS 1 hg (gw_S kw_156 kw_157 kw_158 kw_155) rfl rfl rfl (by decide +kernel) ⟨(Nat.le_of_ble_eq_true rfl), (Nat.le_of_ble_eq_true rfl)⟩) pr_0 rfl rfl hl.1 rfl (lv_room (Nat.le_of_ble_eq_true rfl)) dX4_average_107 ⟨(Nat.le_of_ble_eq_true rfl), (Nat.le_of_ble_eq_true rfl)⟩) (fun r_107 h_107 => ?_)
              clear h_107
              refine lv_iload hx hb dX4_average_110 (lv_at hl 0 rfl) ?_
              refine lv_isub hx hb dX4_average_112 ?_
              refine lv_topi (fun z_112 e_112 => ?_)
              refine lv_istore (lv' := [(15, .int z_112), (14, .int (nI j_102)), (13, .int z_93), (0, .ref h0), (1, .ref aq), (2, .ref ma), (3, .int prf), (4, .int prs), (5, .int u5_9), (6, .int u6_9), (7, .int (nI (sgn P))), (8, .long z_68), (10, .long u10_77), (12, .int (nI sg))]) hx hb dX4_average_113 hl (by decide) rfl (fun ls hl => ?_)
              refine lv_iconst (v := 2) hx hb dX4_average_115 (by decide) ?_
              refine lv_iload hx hb dX4_average_116 (lv_at hl 13 rfl) ?_
              refine vp_callSi (W.runS (As := [.int (nI sg)]) (rest := [.int 2]) ⟨hx, hb, hml, hown, hg⟩ (c_bitCount l (nI sg)) (va_cwS 1 hg (gw_S kw_156 kw_157 kw_158 kw_155) rfl rfl rfl (by decide +kernel) ⟨(Nat.le_of_ble_eq_true rfl), (Nat.le_of_ble_eq_true rfl)⟩) pr_0 rfl rfl hl.1 rfl (lv_room (Nat.le_of_ble_eq_true rfl)) dX4_average_118 ⟨(Nat.le_of_ble_eq_true rfl), (Nat.le_of_ble_eq_true rfl)⟩) (fun r_118 h_118 => ?_)
              clear h_118
              refine lv_imul hx hb dX4_average_121 ?_
              refine lv_topi (fun z_121 e_121 => ?_)
              refine lv_aload_n hx hb dX4_average_122 rfl (lv_at hl 4 rfl) ?_
              refine va_get (D := D) (ci := 5) (v := .int (nI P)) (C := RX5) (T := TX5) (N := 7) hx hb hg gwX5 hown hK hP 2 rfl rfl 5 (by decide) (hg _ kw_140) (fun _ h9 => h9) rfl dX4_average_123 ?_
              refine lv_icmp_le (tgt := 133) hx hb dX4_average_126 (by decide) (fun c_126 => ?_) (fun c_126 => ?_)
              · refine lv_iconst (v := 0) hx hb dX4_average_133 (by decide) ?_
                refine lv_istore (lv' := [(16, .int 0), (15, .int z_112), (14, .int (nI j_102)), (13, .int z_93), (0, .ref h0), (1, .ref aq), (2, .ref ma), (3, .int prf), (4, .int prs), (5, .int u5_9), (6, .int u6_9), (7, .int (nI (sgn P))), (8, .long z_68), (10, .long u10_77), (12, .int (nI sg))]) hx hb dX4_average_134 hl (by decide) rfl (fun ls hl => ?_)
                refine lv_lload hx hb dX4_average_136 (lv_at hl 12 rfl) ?_
                refine lv_aload_n hx hb dX4_average_138 rfl (lv_at hl 4 rfl) ?_
                refine lv_iload hx hb dX4_average_139 (lv_at hl 2 rfl) ?_
                refine lv_aload_n hx hb dX4_average_141 rfl (lv_at hl 5 rfl) ?_
                refine va_get (D := D) (ci := 5) (v := .int (nI P)) (C := RX5) (T := TX5) (N := 7) hx hb hg gwX5 hown hK hP 2 rfl rfl 5 (by decide) (hg _ kw_140) (fun _ h9 => h9) rfl dX4_average_142 ?_
                refine lv_iconst (v := 1) hx hb dX4_average_145 (by decide) ?_
                refine lv_isub hx hb dX4_average_146 ?_
                refine lv_topi (fun z_146 e_146 => ?_)
                refine lv_iload hx hb dX4_average_147 (lv_at hl 1 rfl) ?_
                refine lv_isub hx hb dX4_average_149 ?_
                refine lv_topi (fun z_149 e_149 => ?_)
                refine lv_iload hx hb dX4_average_150 (lv_at hl 1 rfl) ?_
                have R0_152 : CallRun p l e ({ frames := 2, cells := 0, slots := 0, locals := 48 } : Room) s m args below meth c s.heap [] 0 0 0 0 (F0 m 152 ls [.int z_112, .int z_149, .int (nI j_102), .ref h0, .long z_68]) [.long z_68] (vp_Si (fun r => True) (Value.ref h0 :: [.int (nI j_102), .int z_149, .int z_112]).toArray) (fun _ => False) := by
                  rcases hci with rfl | rfl | rfl | rfl | rfl
                  · exact va_Run.run (va_runU (As := [.int (nI j_102), .int z_149, .int z_112]) (rest := [.long z_68]) ⟨hx, hb, hml, hown, hg⟩ (p_amount_X9_1 l D cs h0 nq av rk fq (nI j_102) z_149 z_112) (va_cwO (owner := "NobodyChecks$Pay") (x := yX3_amount) 3 hg (gw_O kw_160 kw_161 kw_165 kw_162 kw_163 kw_164 kw_159) rfl rfl rfl kw_166 (by decide +kernel) ⟨(Nat.le_of_ble_eq_true rfl), (Nat.le_of_ble_eq_true rfl)⟩) (pr_SV (q := (RX1, TX1, 3)) 1 0 hK (hP.sub (ws' := [(h0, .inr (1, [.ref nq, av, .int rk])), (nq, .inl (cs 0, 4, .inl fq))]) [0, 1] rfl) rfl rfl) rfl rfl hl.1 rfl (lv_room (Nat.le_of_ble_eq_true rfl)) dX4_average_152 ⟨(Nat.le_of_ble_eq_true rfl), (Nat.le_of_ble_eq_true rfl)⟩)
                  · exact W.runV (As := [.int (nI j_102), .int z_149, .int z_112]) (rest := [.long z_68]) ⟨hx, hb, hml, hown, hg⟩ (p_amount_X3_3 l D cs h0 nq av rk fq (nI j_102) z_149 z_112) (cwV 3 hg (gw_V kw_160 kw_165 kw_167 kw_151 kw_166) rfl rfl rfl (by decide +kernel) ⟨(Nat.le_of_ble_eq_true rfl), (Nat.le_of_ble_eq_true rfl)⟩) (pr_SV (q := (RX3, TX3, 3)) 3 0 hK (hP.sub (ws' := [(h0, .inr (3, [.ref nq, av, .int rk])), (nq, .inl (cs 0, 4, .inl fq))]) [0, 1] rfl) rfl rfl) rfl rfl hl.1 rfl (lv_room (Nat.le_of_ble_eq_true rfl)) dX4_average_152 ⟨(Nat.le_of_ble_eq_true rfl), (Nat.le_of_ble_eq_true rfl)⟩
                  · exact va_Run.run (va_runU (As := [.int (nI j_102), .int z_149, .int z_112]) (rest := [.long z_68]) ⟨hx, hb, hml, hown, hg⟩ (p_amount_X6_6 l D cs h0 nq av rk fq (nI j_102) z_149 z_112) (va_cwO (owner := "NobodyChecks$Pay") (x := yX3_amount) 3 hg (gw_O kw_160 kw_161 kw_165 kw_169 kw_170 kw_171 kw_168) rfl rfl rfl kw_166 (by decide +kernel) ⟨(Nat.le_of_ble_eq_true rfl), (Nat.le_of_ble_eq_true rfl)⟩) (pr_SV (q := (RX6, TX6, 3)) 6 0 hK (hP.sub (ws' := [(h0, .inr (6, [.ref nq, av, .int rk])), (nq, .inl (cs 0, 4, .inl fq))]) [0, 1] rfl) rfl rfl) rfl rfl hl.1 rfl (lv_room (Nat.le_of_ble_eq_true rfl)) dX4_average_152 ⟨(Nat.le_of_ble_eq_true rfl), (Nat.le_of_ble_eq_true rfl)⟩)
                  · exact va_Run.run (va_runU (As := [.int (nI j_102), .int z_149, .int z_112]) (rest := [.long z_68]) ⟨hx, hb, hml, hown, hg⟩ (p_amount_X9_9 l D cs h0 nq av rk fq (nI j_102) z_149 z_112) (va_cwO (owner := "NobodyChecks$Pay") (x := yX3_amount) 3 hg (gw_O kw_160 kw_161 kw_165 kw_172 kw_163 kw_164 kw_159) rfl rfl rfl kw_166 (by decide +kernel) ⟨(Nat.le_of_ble_eq_true rfl), (Nat.le_of_ble_eq_true rfl)⟩) (pr_SV (q := (RX9, TX9, 3)) 9 0 hK (hP.sub (ws' := [(h0, .inr (9, [.ref nq, av, .int rk])), (nq, .inl (cs 0, 4, .inl fq))]) [0, 1] rfl) rfl rfl) rfl rfl hl.1 rfl (lv_room (Nat.le_of_ble_eq_true rfl)) dX4_average_152 ⟨(Nat.le_of_ble_eq_true rfl), (Nat.le_of_ble_eq_true rfl)⟩)
                  · exact va_Run.run (va_runU (As := [.int (nI j_102), .int z_149, .int z_112]) (rest := [.long z_68]) ⟨hx, hb, hml, hown, hg⟩ (p_amount_X10_10 l D cs h0 nq av rk fq (nI j_102) z_149 z_112) (va_cwO (owner := "NobodyChecks$Pay") (x := yX3_amount) 3 hg (gw_O kw_160 kw_161 kw_165 kw_173 kw_133 kw_134 kw_129) rfl rfl rfl kw_166 (by decide +kernel) ⟨(Nat.le_of_ble_eq_true rfl), (Nat.le_of_ble_eq_true rfl)⟩) (pr_SV (q := (RX10, TX10, 3)) 10 0 hK (hP.sub (ws' := [(h0, .inr (10, [.ref nq, av, .int rk])), (nq, .inl (cs 0, 4, .inl fq))]) [0, 1] rfl) rfl rfl) rfl rfl hl.1 rfl (lv_room (Nat.le_of_ble_eq_true rfl)) dX4_average_152 ⟨(Nat.le_of_ble_eq_true rfl), (Nat.le_of_ble_eq_true rfl)⟩)
                refine vp_callSi R0_152 (fun r_152 h_152 => ?_)
                clear h_152
                refine lv_i2l hx hb dX4_average_155 rfl ?_
                refine lv_topl (fun z_155 e_155 => ?_)
                refine lv_lmul hx hb dX4_average_156 ?_
                refine lv_topl (fun z_156 e_156 => ?_)
                refine lv_aload_n hx hb dX4_average_157 rfl (lv_at hl 4 rfl) ?_
                refine lv_iload hx hb dX4_average_158 (lv_at hl 2 rfl) ?_
                refine lv_iload hx hb dX4_average_160 (lv_at hl 0 rfl) ?_
                have R0_162 : CallRun p l e ({ frames := 2, cells := 0, slots := 0, locals := 48 } : Room) s m args below meth c s.heap [] 0 0 0 0 (F0 m 162 ls [.int 0, .int (nI j_102), .ref h0, .long z_156]) [.long z_156] (vp_Si (fun r => True) (Value.ref h0 :: [.int (nI j_102), .int 0]).toArray) (fun _ => False) := by
                  rcases hci with rfl | rfl | rfl | rfl | rfl
                  · exact va_Run.run (va_runU (As := [.int (nI j_102), .int 0]) (rest := [.long z_156]) ⟨hx, hb, hml, hown, hg⟩ (p_added_X1_1 l D cs h0 nq av rk fq (nI j_102) 0) (va_cwO (owner := "NobodyChecks$Pay") (x := yX3_added) 2 hg (gw_O kw_175 kw_176 kw_179 kw_177 kw_178 kw_147 kw_174) rfl rfl rfl kw_180 (by decide +kernel) ⟨(Nat.le_of_ble_eq_true rfl), (Nat.le_of_ble_eq_true rfl)⟩) (pr_SV (q := (RX1, TX1, 3)) 1 0 hK (hP.sub (ws' := [(h0, .inr (1, [.ref nq, av, .int rk])), (nq, .inl (cs 0, 4, .inl fq))]) [0, 1] rfl) rfl rfl) rfl rfl hl.1 rfl (lv_room (Nat.le_of_ble_eq_true rfl)) dX4_average_162 ⟨(Nat.le_of_ble_eq_true rfl), (Nat.le_of_ble_eq_true rfl)⟩)
                  · exact W.runV (As := [.int (nI j_102), .int 0]) (rest := [.long z_156]) ⟨hx, hb, hml, hown, hg⟩ (p_added_X3_3 l D cs h0 nq av rk fq (nI j_102) 0) (cwV 2 hg (gw_V kw_175 kw_179 kw_181 kw_151 kw_180) rfl rfl rfl (by decide +kernel) ⟨(Nat.le_of_ble_eq_true rfl), (Nat.le_of_ble_eq_true rfl)⟩) (pr_SV (q := (RX3, TX3, 3)) 3 0 hK (hP.sub (ws' := [(h0, .inr (3, [.ref nq, av, .int rk])), (nq, .inl (cs 0, 4, .inl fq))]) [0, 1] rfl) rfl rfl) rfl rfl hl.1 rfl (lv_room (Nat.le_of_ble_eq_true rfl)) dX4_average_162 ⟨(Nat.le_of_ble_eq_true rfl), (Nat.le_of_ble_eq_true rfl)⟩
                  · exact va_Run.run (va_runU (As := [.int (nI j_102), .int 0]) (rest := [.long z_156]) ⟨hx, hb, hml, hown, hg⟩ (p_added_X3_6 l D cs h0 nq av rk fq (nI j_102) 0) (va_cwU (owner := "NobodyChecks$Pay") (x := yX3_added) 2 hg (gw_U kw_175 kw_176 kw_182 kw_179 kw_151 kw_180) rfl rfl rfl rfl (by decide +kernel) ⟨(Nat.le_of_ble_eq_true rfl), (Nat.le_of_ble_eq_true rfl)⟩) (pr_SV (q := (RX6, TX6, 3)) 6 0 hK (hP.sub (ws' := [(h0, .inr (6, [.ref nq, av, .int rk])), (nq, .inl (cs 0, 4, .inl fq))]) [0, 1] rfl) rfl rfl) rfl rfl hl.1 rfl (lv_room (Nat.le_of_ble_eq_true rfl)) dX4_average_162 ⟨(Nat.le_of_ble_eq_true rfl), (Nat.le_of_ble_eq_true rfl)⟩)
                  · exact va_Run.run (va_runU (As := [.int (nI j_102), .int 0]) (rest := [.long z_156]) ⟨hx, hb, hml, hown, hg⟩ (p_added_X3_9 l D cs h0 nq av rk fq (nI j_102) 0) (va_cwU (owner := "NobodyChecks$Pay") (x := yX3_added) 2 hg (gw_U kw_175 kw_176 kw_183 kw_179 kw_151 kw_180) rfl rfl rfl rfl (by decide +kernel) ⟨(Nat.le_of_ble_eq_true rfl), (Nat.le_of_ble_eq_true rfl)⟩) (pr_SV (q := (RX9, TX9, 3)) 9 0 hK (hP.sub (ws' := [(h0, .inr (9, [.ref nq, av, .int rk])), (nq, .inl (cs 0, 4, .inl fq))]) [0, 1] rfl) rfl rfl) rfl rfl hl.1 rfl (lv_room (Nat.le_of_ble_eq_true rfl)) dX4_average_162 ⟨(Nat.le_of_ble_eq_true rfl), (Nat.le_of_ble_eq_true rfl)⟩)
                  · exact va_Run.run (va_runU (As := [.int (nI j_102), .int 0]) (rest := [.long z_156]) ⟨hx, hb, hml, hown, hg⟩ (p_added_X3_10 l D cs h0 nq av rk fq (nI j_102) 0) (va_cwU (owner := "NobodyChecks$Pay") (x := yX3_added) 2 hg (gw_U kw_175 kw_176 kw_184 kw_179 kw_151 kw_180) rfl rfl rfl rfl (by decide +kernel) ⟨(Nat.le_of_ble_eq_true rfl), (Nat.le_of_ble_eq_true rfl)⟩) (pr_SV (q := (RX10, TX10, 3)) 10 0 hK (hP.sub (ws' := [(h0, .inr (10, [.ref nq, av, .int rk])), (nq, .inl (cs 0, 4, .inl fq))]) [0, 1] rfl) rfl rfl) rfl rfl hl.1 rfl (lv_room (Nat.le_of_ble_eq_true rfl)) dX4_average_162 ⟨(Nat.le_of_ble_eq_true rfl), (Nat.le_of_ble_eq_true rfl)⟩)
                refine vp_callSi R0_162 (fun r_162 h_162 => ?_)
                clear h_162
                refine lv_i2l hx hb dX4_average_165 rfl ?_
                refine lv_topl (fun z_165 e_165 => ?_)
                refine lv_ladd hx hb dX4_average_166 ?_
                refine lv_topl (fun z_166 e_166 => ?_)
                refine lv_lstore (lv' := [(17, .long z_166), (16, .int 0), (15, .int z_112), (14, .int (nI j_102)), (13, .int z_93), (0, .ref h0), (1, .ref aq), (2, .ref ma), (3, .int prf), (4, .int prs), (5, .int u5_9), (6, .int u6_9), (7, .int (nI (sgn P))), (8, .long z_68), (10, .long u10_77), (12, .int (nI sg))]) hx hb dX4_average_167 hl (by decide) rfl (fun ls hl => ?_)
                refine lv_lload hx hb dX4_average_169 (lv_at hl 14 rfl) ?_
                refine lv_aload_n hx hb dX4_average_171 rfl (lv_at hl 7 rfl) ?_
                refine lv_iload hx hb dX4_average_172 (lv_at hl 15 rfl) ?_
                refine va_lald hx hb hK hP 3 1 rfl rfl (vp_in_nI (show sg < 16 by omega) (by decide)) dX4_average_174 ?_
                refine lv_topl (fun z_174 e_174 => ?_)
                refine lv_lload hx hb dX4_average_175 (lv_at hl 0 rfl) ?_
                refine lv_lmul hx hb dX4_average_177 ?_
                refine lv_topl (fun z_177 e_177 => ?_)
                refine lv_ladd hx hb dX4_average_178 ?_
                refine lv_topl (fun z_178 e_178 => ?_)
                refine lv_lstore (lv' := [(10, .long z_178), (17, .long z_166), (16, .int 0), (15, .int z_112), (14, .int (nI j_102)), (13, .int z_93), (0, .ref h0), (1, .ref aq), (2, .ref ma), (3, .int prf), (4, .int prs), (5, .int u5_9), (6, .int u6_9), (7, .int (nI (sgn P))), (8, .long z_68), (12, .int (nI sg))]) hx hb dX4_average_179 hl (by decide) rfl (fun ls hl => ?_)
                refine lv_iinc (v := (nI (sg + 1))) (lv' := [(12, .int (nI (sg + 1))), (10, .long z_178), (17, .long z_166), (16, .int 0), (15, .int z_112), (14, .int (nI j_102)), (13, .int z_93), (0, .ref h0), (1, .ref aq), (2, .ref ma), (3, .int prf), (4, .int prs), (5, .int u5_9), (6, .int u6_9), (7, .int (nI (sgn P))), (8, .long z_68)]) hx hb dX4_average_181 hl (k := 15) rfl (nI_add sg 1) (by decide) rfl (fun ls hl => ?_)
                refine lv_goto (tgt := 77) hx hb dX4_average_184 (by decide) ?_
                exact ih77 z_178 (sg + 1) (by omega) (by omega) ls (lv_sub hl [7, 8, 9, 10, 11, 12, 13, 14, 15, 1, 0] rfl)
              · refine lv_iconst (v := 1) hx hb dX4_average_129 (by decide) ?_
                refine lv_goto (tgt := 134) hx hb dX4_average_130 (by decide) ?_
                refine lv_istore (lv' := [(16, .int 1), (15, .int z_112), (14, .int (nI j_102)), (13, .int z_93), (0, .ref h0), (1, .ref aq), (2, .ref ma), (3, .int prf), (4, .int prs), (5, .int u5_9), (6, .int u6_9), (7, .int (nI (sgn P))), (8, .long z_68), (10, .long u10_77), (12, .int (nI sg))]) hx hb dX4_average_134 hl (by decide) rfl (fun ls hl => ?_)
                refine lv_lload hx hb dX4_average_136 (lv_at hl 12 rfl) ?_
                refine lv_aload_n hx hb dX4_average_138 rfl (lv_at hl 4 rfl) ?_
                refine lv_iload hx hb dX4_average_139 (lv_at hl 2 rfl) ?_
                refine lv_aload_n hx hb dX4_average_141 rfl (lv_at hl 5 rfl) ?_
                refine va_get (D := D) (ci := 5) (v := .int (nI P)) (C := RX5) (T := TX5) (N := 7) hx hb hg gwX5 hown hK hP 2 rfl rfl 5 (by decide) (hg _ kw_140) (fun _ h9 => h9) rfl dX4_average_142 ?_
                refine lv_iconst (v := 1) hx hb dX4_average_145 (by decide) ?_
                refine lv_isub hx hb dX4_average_146 ?_
                refine lv_topi (fun z_146 e_146 => ?_)
                refine lv_iload hx hb dX4_average_147 (lv_at hl 1 rfl) ?_
                refine lv_isub hx hb dX4_average_149 ?_
                refine lv_topi (fun z_149 e_149 => ?_)
                refine lv_iload hx hb dX4_average_150 (lv_at hl 1 rfl) ?_
                have R0_152 : CallRun p l e ({ frames := 2, cells := 0, slots := 0, locals := 48 } : Room) s m args below meth c s.heap [] 0 0 0 0 (F0 m 152 ls [.int z_112, .int z_149, .int (nI j_102), .ref h0, .long z_68]) [.long z_68] (vp_Si (fun r => True) (Value.ref h0 :: [.int (nI j_102), .int z_149, .int z_112]).toArray) (fun _ => False) := by
                  rcases hci with rfl | rfl | rfl | rfl | rfl
                  · exact va_Run.run (va_runU (As := [.int (nI j_102), .int z_149, .int z_112]) (rest := [.long z_68]) ⟨hx, hb, hml, hown, hg⟩ (p_amount_X9_1 l D cs h0 nq av rk fq (nI j_102) z_149 z_112) (va_cwO (owner := "NobodyChecks$Pay") (x := yX3_amount) 3 hg (gw_O kw_160 kw_161 kw_165 kw_162 kw_163 kw_164 kw_159) rfl rfl rfl kw_166 (by decide +kernel) ⟨(Nat.le_of_ble_eq_true rfl), (Nat.le_of_ble_eq_true rfl)⟩) (pr_SV (q := (RX1, TX1, 3)) 1 0 hK (hP.sub (ws' := [(h0, .inr (1, [.ref nq, av, .int rk])), (nq, .inl (cs 0, 4, .inl fq))]) [0, 1] rfl) rfl rfl) rfl rfl hl.1 rfl (lv_room (Nat.le_of_ble_eq_true rfl)) dX4_average_152 ⟨(Nat.le_of_ble_eq_true rfl), (Nat.le_of_ble_eq_true rfl)⟩)
                  · exact W.runV (As := [.int (nI j_102), .int z_149, .int z_112]) (rest := [.long z_68]) ⟨hx, hb, hml, hown, hg⟩ (p_amount_X3_3 l D cs h0 nq av rk fq (nI j_102) z_149 z_112) (cwV 3 hg (gw_V kw_160 kw_165 kw_167 kw_151 kw_166) rfl rfl rfl (by decide +kernel) ⟨(Nat.le_of_ble_eq_true rfl), (Nat.le_of_ble_eq_true rfl)⟩) (pr_SV (q := (RX3, TX3, 3)) 3 0 hK (hP.sub (ws' := [(h0, .inr (3, [.ref nq, av, .int rk])), (nq, .inl (cs 0, 4, .inl fq))]) [0, 1] rfl) rfl rfl) rfl rfl hl.1 rfl (lv_room (Nat.le_of_ble_eq_true rfl)) dX4_average_152 ⟨(Nat.le_of_ble_eq_true rfl), (Nat.le_of_ble_eq_true rfl)⟩
                  · exact va_Run.run (va_runU (As := [.int (nI j_102), .int z_149, .int z_112]) (rest := [.long z_68]) ⟨hx, hb, hml, hown, hg⟩ (p_amount_X6_6 l D cs h0 nq av rk fq (nI j_102) z_149 z_112) (va_cwO (owner := "NobodyChecks$Pay") (x := yX3_amount) 3 hg (gw_O kw_160 kw_161 kw_165 kw_169 kw_170 kw_171 kw_168) rfl rfl rfl kw_166 (by decide +kernel) ⟨(Nat.le_of_ble_eq_true rfl), (Nat.le_of_ble_eq_true rfl)⟩) (pr_SV (q := (RX6, TX6, 3)) 6 0 hK (hP.sub (ws' := [(h0, .inr (6, [.ref nq, av, .int rk])), (nq, .inl (cs 0, 4, .inl fq))]) [0, 1] rfl) rfl rfl) rfl rfl hl.1 rfl (lv_room (Nat.le_of_ble_eq_true rfl)) dX4_average_152 ⟨(Nat.le_of_ble_eq_true rfl), (Nat.le_of_ble_eq_true rfl)⟩)
                  · exact va_Run.run (va_runU (As := [.int (nI j_102), .int z_149, .int z_112]) (rest := [.long z_68]) ⟨hx, hb, hml, hown, hg⟩ (p_amount_X9_9 l D cs h0 nq av rk fq (nI j_102) z_149 z_112) (va_cwO (owner := "NobodyChecks$Pay") (x := yX3_amount) 3 hg (gw_O kw_160 kw_161 kw_165 kw_172 kw_163 kw_164 kw_159) rfl rfl rfl kw_166 (by decide +kernel) ⟨(Nat.le_of_ble_eq_true rfl), (Nat.le_of_ble_eq_true rfl)⟩) (pr_SV (q := (RX9, TX9, 3)) 9 0 hK (hP.sub (ws' := [(h0, .inr (9, [.ref nq, av, .int rk])), (nq, .inl (cs 0, 4, .inl fq))]) [0, 1] rfl) rfl rfl) rfl rfl hl.1 rfl (lv_room (Nat.le_of_ble_eq_true rfl)) dX4_average_152 ⟨(Nat.le_of_ble_eq_true rfl), (Nat.le_of_ble_eq_true rfl)⟩)
                  · exact va_Run.run (va_runU (As := [.int (nI j_102), .int z_149, .int z_112]) (rest := [.long z_68]) ⟨hx, hb, hml, hown, hg⟩ (p_amount_X10_10 l D cs h0 nq av rk fq (nI j_102) z_149 z_112) (va_cwO (owner := "NobodyChecks$Pay") (x := yX3_amount) 3 hg (gw_O kw_160 kw_161 kw_165 kw_173 kw_133 kw_134 kw_129) rfl rfl rfl kw_166 (by decide +kernel) ⟨(Nat.le_of_ble_eq_true rfl), (Nat.le_of_ble_eq_true rfl)⟩) (pr_SV (q := (RX10, TX10, 3)) 10 0 hK (hP.sub (ws' := [(h0, .inr (10, [.ref nq, av, .int rk])), (nq, .inl (cs 0, 4, .inl fq))]) [0, 1] rfl) rfl rfl) rfl rfl hl.1 rfl (lv_room (Nat.le_of_ble_eq_true rfl)) dX4_average_152 ⟨(Nat.le_of_ble_eq_true rfl), (Nat.le_of_ble_eq_true rfl)⟩)
                refine vp_callSi R0_152 (fun r_152 h_152 => ?_)
                clear h_152
                refine lv_i2l hx hb dX4_average_155 rfl ?_
                refine lv_topl (fun z_155 e_155 => ?_)
                refine lv_lmul hx hb dX4_average_156 ?_
                refine lv_topl (fun z_156 e_156 => ?_)
                refine lv_aload_n hx hb dX4_average_157 rfl (lv_at hl 4 rfl) ?_
                refine lv_iload hx hb dX4_average_158 (lv_at hl 2 rfl) ?_
                refine lv_iload hx hb dX4_average_160 (lv_at hl 0 rfl) ?_
                have R0_162 : CallRun p l e ({ frames := 2, cells := 0, slots := 0, locals := 48 } : Room) s m args below meth c s.heap [] 0 0 0 0 (F0 m 162 ls [.int 1, .int (nI j_102), .ref h0, .long z_156]) [.long z_156] (vp_Si (fun r => True) (Value.ref h0 :: [.int (nI j_102), .int 1]).toArray) (fun _ => False) := by
                  rcases hci with rfl | rfl | rfl | rfl | rfl
                  · exact va_Run.run (va_runU (As := [.int (nI j_102), .int 1]) (rest := [.long z_156]) ⟨hx, hb, hml, hown, hg⟩ (p_added_X1_1 l D cs h0 nq av rk fq (nI j_102) 1) (va_cwO (owner := "NobodyChecks$Pay") (x := yX3_added) 2 hg (gw_O kw_175 kw_176 kw_179 kw_177 kw_178 kw_147 kw_174) rfl rfl rfl kw_180 (by decide +kernel) ⟨(Nat.le_of_ble_eq_true rfl), (Nat.le_of_ble_eq_true rfl)⟩) (pr_SV (q := (RX1, TX1, 3)) 1 0 hK (hP.sub (ws' := [(h0, .inr (1, [.ref nq, av, .int rk])), (nq, .inl (cs 0, 4, .inl fq))]) [0, 1] rfl) rfl rfl) rfl rfl hl.1 rfl (lv_room (Nat.le_of_ble_eq_true rfl)) dX4_average_162 ⟨(Nat.le_of_ble_eq_true rfl), (Nat.le_of_ble_eq_true rfl)⟩)
                  · exact W.runV (As := [.int (nI j_102), .int 1]) (rest := [.long z_156]) ⟨hx, hb, hml, hown, hg⟩ (p_added_X3_3 l D cs h0 nq av rk fq (nI j_102) 1) (cwV 2 hg (gw_V kw_175 kw_179 kw_181 kw_151 kw_180) rfl rfl rfl (by decide +kernel) ⟨(Nat.le_of_ble_eq_true rfl), (Nat.le_of_ble_eq_true rfl)⟩) (pr_SV (q := (RX3, TX3, 3)) 3 0 hK (hP.sub (ws' := [(h0, .inr (3, [.ref nq, av, .int rk])), (nq, .inl (cs 0, 4, .inl fq))]) [0, 1] rfl) rfl rfl) rfl rfl hl.1 rfl (lv_room (Nat.le_of_ble_eq_true rfl)) dX4_average_162 ⟨(Nat.le_of_ble_eq_true rfl), (Nat.le_of_ble_eq_true rfl)⟩
                  · exact va_Run.run (va_runU (As := [.int (nI j_102), .int 1]) (rest := [.long z_156]) ⟨hx, hb, hml, hown, hg⟩ (p_added_X3_6 l D cs h0 nq av rk fq (nI j_102) 1) (va_cwU (owner := "NobodyChecks$Pay") (x := yX3_added) 2 hg (gw_U kw_175 kw_176 kw_182 kw_179 kw_151 kw_180) rfl rfl rfl rfl (by decide +kernel) ⟨(Nat.le_of_ble_eq_true rfl), (Nat.le_of_ble_eq_true rfl)⟩) (pr_SV (q := (RX6, TX6, 3)) 6 0 hK (hP.sub (ws' := [(h0, .inr (6, [.ref nq, av, .int rk])), (nq, .inl (cs 0, 4, .inl fq))]) [0, 1] rfl) rfl rfl) rfl rfl hl.1 rfl (lv_room (Nat.le_of_ble_eq_true rfl)) dX4_average_162 ⟨(Nat.le_of_ble_eq_true rfl), (Nat.le_of_ble_eq_true rfl)⟩)
                  · exact va_Run.run (va_runU (As := [.int (nI j_102), .int 1]) (rest := [.long z_156]) ⟨hx, hb, hml, hown, hg⟩ (p_added_X3_9 l D cs h0 nq av rk fq (nI j_102) 1) (va_cwU (owner := "NobodyChecks$Pay") (x := yX3_added) 2 hg (gw_U kw_175 kw_176 kw_183 kw_179 kw_151 kw_180) rfl rfl rfl rfl (by decide +kernel) ⟨(Nat.le_of_ble_eq_true rfl), (Nat.le_of_ble_eq_true rfl)⟩) (pr_SV (q := (RX9, TX9, 3)) 9 0 hK (hP.sub (ws' := [(h0, .inr (9, [.ref nq, av, .int rk])), (nq, .inl (cs 0, 4, .inl fq))]) [0, 1] rfl) rfl rfl) rfl rfl hl.1 rfl (lv_room (Nat.le_of_ble_eq_true rfl)) dX4_average_162 ⟨(Nat.le_of_ble_eq_true rfl), (Nat.le_of_ble_eq_true rfl)⟩)
                  · exact va_Run.run (va_runU (As := [.int (nI j_102), .int 1]) (rest := [.long z_156]) ⟨hx, hb, hml, hown, hg⟩ (p_added_X3_10 l D cs h0 nq av rk fq (nI j_102) 1) (va_cwU (owner := "NobodyChecks$Pay") (x := yX3_added) 2 hg (gw_U kw_175 kw_176 kw_184 kw_179 kw_151 kw_180) rfl rfl rfl rfl (by decide +kernel) ⟨(Nat.le_of_ble_eq_true rfl), (Nat.le_of_ble_eq_true rfl)⟩) (pr_SV (q := (RX10, TX10, 3)) 10 0 hK (hP.sub (ws' := [(h0, .inr (10, [.ref nq, av, .int rk])), (nq, .inl (cs 0, 4, .inl fq))]) [0, 1] rfl) rfl rfl) rfl rfl hl.1 rfl (lv_room (Nat.le_of_ble_eq_true rfl)) dX4_average_162 ⟨(Nat.le_of_ble_eq_true rfl), (Nat.le_of_ble_eq_true rfl)⟩)
                refine vp_callSi R0_162 (fun r_162 h_162 => ?_)
                clear h_162
                refine lv_i2l hx hb dX4_average_165 rfl ?_
                refine lv_topl (fun z_165 e_165 => ?_)
                refine lv_ladd hx hb dX4_average_166 ?_
                refine lv_topl (fun z_166 e_166 => ?_)
                refine lv_lstore (lv' := [(17, .long z_166), (16, .int 1), (15, .int z_112), (14, .int (nI j_102)), (13, .int z_93), (0, .ref h0), (1, .ref aq), (2, .ref ma), (3, .int prf), (4, .int prs), (5, .int u5_9), (6, .int u6_9), (7, .int (nI (sgn P))), (8, .long z_68), (10, .long u10_77), (12, .int (nI sg))]) hx hb dX4_average_167 hl (by decide) rfl (fun ls hl => ?_)
                refine lv_lload hx hb dX4_average_169 (lv_at hl 14 rfl) ?_
                refine lv_aload_n hx hb dX4_average_171 rfl (lv_at hl 7 rfl) ?_
                refine lv_iload hx hb dX4_average_172 (lv_at hl 15 rfl) ?_
                refine va_lald hx hb hK hP 3 1 rfl rfl (vp_in_nI (show sg < 16 by omega) (by decide)) dX4_average_174 ?_
                refine lv_topl (fun z_174 e_174 => ?_)
                refine lv_lload hx hb dX4_average_175 (lv_at hl 0 rfl) ?_
                refine lv_lmul hx hb dX4_average_177 ?_
                refine lv_topl (fun z_177 e_177 => ?_)
                refine lv_ladd hx hb dX4_average_178 ?_
                refine lv_topl (fun z_178 e_178 => ?_)
                refine lv_lstore (lv' := [(10, .long z_178), (17, .long z_166), (16, .int 1), (15, .int z_112), (14, .int (nI j_102)), (13, .int z_93), (0, .ref h0), (1, .ref aq), (2, .ref ma), (3, .int prf), (4, .int prs), (5, .int u5_9), (6, .int u6_9), (7, .int (nI (sgn P))), (8, .long z_68), (12, .int (nI sg))]) hx hb dX4_average_179 hl (by decide) rfl (fun ls hl => ?_)
                refine lv_iinc (v := (nI (sg + 1))) (lv' := [(12, .int (nI (sg + 1))), (10, .long z_178), (17, .long z_166), (16, .int 1), (15, .int z_112), (14, .int (nI j_102)), (13, .int z_93), (0, .ref h0), (1, .ref aq), (2, .ref ma), (3, .int prf), (4, .int prs), (5, .int u5_9), (6, .int u6_9), (7, .int (nI (sgn P))), (8, .long z_68)]) hx hb dX4_average_181 hl (k := 15) rfl (nI_add sg 1) (by decide) rfl (fun ls hl => ?_)
                refine lv_goto (tgt := 77) hx hb dX4_average_184 (by decide) ?_
                exact ih77 z_178 (sg + 1) (by omega) (by omega) ls (lv_sub hl [7, 8, 9, 10, 11, 12, 13, 14, 15, 1, 0] rfl)
        exact LOOP77 (sgn P - 0 + 1) 0 0 (by omega) (Nat.lt_succ_self _) ls (lv_sub hl [4, 5, 6, 7, 8, 9, 10, 3, 2, 1, 0] rfl)
      · have n_15 : k < P := b_le_f (by omega) (by omega) c_15
        refine lv_iload hx hb dX4_average_18 (lv_at hl 6 rfl) ?_
        refine lv_iload_n hx hb dX4_average_20 rfl (lv_at hl 3 rfl) ?_
        refine lv_iconst (v := 2) hx hb dX4_average_21 (by decide) ?_
        refine lv_iload hx hb dX4_average_22 (lv_at hl 7 rfl) ?_
        refine lv_imul hx hb dX4_average_24 ?_
        refine lv_topi (fun z_24 e_24 => ?_)
        obtain rfl : z_24 = nI (2 * k) := e_24.trans (pk_mul _ _)
        refine lv_ishr hx hb dX4_average_25 ?_
        refine lv_topi (fun z_25 e_25 => ?_)
        refine lv_iconst (v := 1) hx hb dX4_average_26 (by decide) ?_
        refine lv_iand hx hb dX4_average_27 ?_
        refine lv_topi (fun z_27 e_27 => ?_)
        obtain ⟨j_27, hj_27, ee_27⟩ := pk_andE z_25 (m := 1) 1 rfl
        obtain rfl : z_27 = nI j_27 := e_27.trans ee_27
        have hj_27 : j_27 < 2 := hj_27
        refine lv_iload hx hb dX4_average_28 (lv_at hl 7 rfl) ?_
        refine lv_ishl hx hb dX4_average_30 ?_
        refine lv_topi (fun z_30 e_30 => ?_)
        refine lv_ior hx hb dX4_average_31 ?_
        refine lv_topi (fun z_31 e_31 => ?_)
        refine lv_istore (lv' := [(6, .int z_31), (0, .ref h0), (1, .ref aq), (2, .ref ma), (3, .int prf), (4, .int prs), (5, .int u5_9), (7, .int (nI k))]) hx hb dX4_average_32 hl (by decide) rfl (fun ls hl => ?_)
        refine lv_iload hx hb dX4_average_34 (lv_at hl 6 rfl) ?_
        refine lv_iload_n hx hb dX4_average_36 rfl (lv_at hl 4 rfl) ?_
        refine lv_iconst (v := 2) hx hb dX4_average_37 (by decide) ?_
        refine lv_iload hx hb dX4_average_38 (lv_at hl 7 rfl) ?_
        refine lv_imul hx hb dX4_average_40 ?_
        refine lv_topi (fun z_40 e_40 => ?_)
        obtain rfl : z_40 = nI (2 * k) := e_40.trans (pk_mul _ _)
        refine lv_iconst (v := 1) hx hb dX4_average_41 (by decide) ?_
        refine lv_iadd hx hb dX4_average_42 ?_
        refine lv_topi (fun z_42 e_42 => ?_)
        obtain rfl : z_42 = nI (2 * k + 1) := e_42.trans (nI_add _ _)
        refine lv_ishr hx hb dX4_average_43 ?_
        refine lv_topi (fun z_43 e_43 => ?_)
        refine lv_iconst (v := 1) hx hb dX4_average_44 (by decide) ?_
        refine lv_iand hx hb dX4_average_45 ?_
        refine lv_topi (fun z_45 e_45 => ?_)
        obtain ⟨j_45, hj_45, ee_45⟩ := pk_andE z_43 (m := 1) 1 rfl
        obtain rfl : z_45 = nI j_45 := e_45.trans ee_45
        have hj_45 : j_45 < 2 := hj_45
        refine lv_iload hx hb dX4_average_46 (lv_at hl 7 rfl) ?_
        refine lv_ishl hx hb dX4_average_48 ?_
        refine lv_topi (fun z_48 e_48 => ?_)
        refine lv_ior hx hb dX4_average_49 ?_
        refine lv_topi (fun z_49 e_49 => ?_)
        refine lv_istore (lv' := [(5, .int z_49), (6, .int z_31), (0, .ref h0), (1, .ref aq), (2, .ref ma), (3, .int prf), (4, .int prs), (7, .int (nI k))]) hx hb dX4_average_50 hl (by decide) rfl (fun ls hl => ?_)
        refine lv_iinc (v := (nI (k + 1))) (lv' := [(7, .int (nI (k + 1))), (5, .int z_49), (6, .int z_31), (0, .ref h0), (1, .ref aq), (2, .ref ma), (3, .int prf), (4, .int prs)]) hx hb dX4_average_52 hl (k := 7) rfl (nI_add k 1) (by decide) rfl (fun ls hl => ?_)
        refine lv_goto (tgt := 9) hx hb dX4_average_55 (by decide) ?_
        exact ih9 z_49 z_31 (k + 1) (by omega) (by omega) ls (lv_sub hl [3, 4, 5, 6, 7, 1, 2, 0] rfl)
  exact LOOP9 (P - 0 + 1) 0 0 0 (by omega) (Nat.lt_succ_self _) ls (lv_sub hl [3, 4, 5, 6, 7, 2, 1, 0] rfl)

theorem dX4_load_0 : decode cX4_load 0 = .ok (.aload_n 1, 1) := by decide +kernel
theorem dX4_load_1 : decode cX4_load 1 = .ok (.getfield 26, 3) := by decide +kernel
theorem dX4_load_4 : decode cX4_load 4 = .ok (.ifnonnull 12, 3) := by decide +kernel
theorem dX4_load_7 : decode cX4_load 7 = .ok (.aload_n 1, 1) := by decide +kernel
theorem dX4_load_8 : decode cX4_load 8 = .ok (.sipush 1024, 3) := by decide +kernel
theorem dX4_load_11 : decode cX4_load 11 = .ok (.newarray .long, 2) := by decide +kernel
theorem dX4_load_13 : decode cX4_load 13 = .ok (.putfield 26, 3) := by decide +kernel
theorem dX4_load_16 : decode cX4_load 16 = .ok (.aload_n 0, 1) := by decide +kernel
theorem dX4_load_17 : decode cX4_load 17 = .ok (.aload_n 1, 1) := by decide +kernel
theorem dX4_load_18 : decode cX4_load 18 = .ok (.getfield 26, 3) := by decide +kernel
theorem dX4_load_21 : decode cX4_load 21 = .ok (.putfield 18, 3) := by decide +kernel
theorem dX4_load_24 : decode cX4_load 24 = .ok (.aload_n 0, 1) := by decide +kernel
theorem dX4_load_25 : decode cX4_load 25 = .ok (.aload_n 1, 1) := by decide +kernel
theorem dX4_load_26 : decode cX4_load 26 = .ok (.invokevirtual 29, 3) := by decide +kernel
theorem dX4_load_29 : decode cX4_load 29 = .ok (.i2l, 1) := by decide +kernel
theorem dX4_load_30 : decode cX4_load 30 = .ok (.aload_n 0, 1) := by decide +kernel
theorem dX4_load_31 : decode cX4_load 31 = .ok (.getfield 22, 3) := by decide +kernel
theorem dX4_load_34 : decode cX4_load 34 = .ok (.getfield 33, 3) := by decide +kernel
theorem dX4_load_37 : decode cX4_load 37 = .ok (.lmul, 1) := by decide +kernel
theorem dX4_load_38 : decode cX4_load 38 = .ok (.putfield 39, 3) := by decide +kernel
theorem dX4_load_41 : decode cX4_load 41 = .ok (.aload_n 1, 1) := by decide +kernel
theorem dX4_load_42 : decode cX4_load 42 = .ok (.getfield 42, 3) := by decide +kernel
theorem dX4_load_45 : decode cX4_load 45 = .ok (.ifCond .eq 4, 3) := by decide +kernel
theorem dX4_load_48 : decode cX4_load 48 = .ok (.return_, 1) := by decide +kernel
theorem dX4_load_49 : decode cX4_load 49 = .ok (.aload_n 0, 1) := by decide +kernel
theorem dX4_load_50 : decode cX4_load 50 = .ok (.getfield 22, 3) := by decide +kernel
theorem dX4_load_53 : decode cX4_load 53 = .ok (.invokevirtual 46, 3) := by decide +kernel
theorem dX4_load_56 : decode cX4_load 56 = .ok (.istore_n 2, 1) := by decide +kernel
theorem dX4_load_57 : decode cX4_load 57 = .ok (.iconst 0, 1) := by decide +kernel
theorem dX4_load_58 : decode cX4_load 58 = .ok (.istore_n 3, 1) := by decide +kernel
theorem dX4_load_59 : decode cX4_load 59 = .ok (.iload_n 3, 1) := by decide +kernel
theorem dX4_load_60 : decode cX4_load 60 = .ok (.iload_n 2, 1) := by decide +kernel
theorem dX4_load_61 : decode cX4_load 61 = .ok (.if_icmp .ge 59, 3) := by decide +kernel
theorem dX4_load_64 : decode cX4_load 64 = .ok (.iconst 0, 1) := by decide +kernel
theorem dX4_load_65 : decode cX4_load 65 = .ok (.istore 4, 2) := by decide +kernel
theorem dX4_load_67 : decode cX4_load 67 = .ok (.iload 4, 2) := by decide +kernel
theorem dX4_load_69 : decode cX4_load 69 = .ok (.aload_n 0, 1) := by decide +kernel
theorem dX4_load_70 : decode cX4_load 70 = .ok (.getfield 22, 3) := by decide +kernel
theorem dX4_load_73 : decode cX4_load 73 = .ok (.getfield 49, 3) := by decide +kernel
theorem dX4_load_76 : decode cX4_load 76 = .ok (.if_icmp .ge 38, 3) := by decide +kernel
theorem dX4_load_79 : decode cX4_load 79 = .ok (.aload_n 0, 1) := by decide +kernel
theorem dX4_load_80 : decode cX4_load 80 = .ok (.getfield 18, 3) := by decide +kernel
theorem dX4_load_83 : decode cX4_load 83 = .ok (.iload_n 3, 1) := by decide +kernel
theorem dX4_load_84 : decode cX4_load 84 = .ok (.iload 4, 2) := by decide +kernel
theorem dX4_load_86 : decode cX4_load 86 = .ok (.invokestatic 53, 3) := by decide +kernel
theorem dX4_load_89 : decode cX4_load 89 = .ok (.aload_n 1, 1) := by decide +kernel
theorem dX4_load_90 : decode cX4_load 90 = .ok (.aload_n 0, 1) := by decide +kernel
theorem dX4_load_91 : decode cX4_load 91 = .ok (.getfield 22, 3) := by decide +kernel
theorem dX4_load_94 : decode cX4_load 94 = .ok (.aload_n 0, 1) := by decide +kernel
theorem dX4_load_95 : decode cX4_load 95 = .ok (.getfield 22, 3) := by decide +kernel
theorem dX4_load_98 : decode cX4_load 98 = .ok (.getfield 57, 3) := by decide +kernel
theorem dX4_load_101 : decode cX4_load 101 = .ok (.iload_n 3, 1) := by decide +kernel
theorem dX4_load_102 : decode cX4_load 102 = .ok (.iload 4, 2) := by decide +kernel
theorem dX4_load_104 : decode cX4_load 104 = .ok (.invokestatic 60, 3) := by decide +kernel
theorem dX4_load_107 : decode cX4_load 107 = .ok (.lastore, 1) := by decide +kernel
theorem dX4_load_108 : decode cX4_load 108 = .ok (.iinc 4 1, 3) := by decide +kernel
theorem dX4_load_111 : decode cX4_load 111 = .ok (.goto (-44), 3) := by decide +kernel
theorem dX4_load_114 : decode cX4_load 114 = .ok (.iinc 3 1, 3) := by decide +kernel
theorem dX4_load_117 : decode cX4_load 117 = .ok (.goto (-58), 3) := by decide +kernel
theorem dX4_load_120 : decode cX4_load 120 = .ok (.aload_n 1, 1) := by decide +kernel
theorem dX4_load_121 : decode cX4_load 121 = .ok (.iconst 1, 1) := by decide +kernel
theorem dX4_load_122 : decode cX4_load 122 = .ok (.putfield 42, 3) := by decide +kernel
theorem dX4_load_125 : decode cX4_load 125 = .ok (.return_, 1) := by decide +kernel
theorem kw_185 : (.fieldLink RX4 26 "NobodyChecks$Pay" "averages" "[J" : Cond) ∈ gw_tbl := gw_in (by decide +kernel) (by decide +kernel)
theorem kw_186 : (.arrayClass .long : Cond) ∈ gw_tbl := gw_in (by decide +kernel) (by decide +kernel)
theorem kw_187 : (.fieldLink RX4 18 "NobodyChecks$Play" "averages" "[J" : Cond) ∈ gw_tbl := gw_in (by decide +kernel) (by decide +kernel)
theorem kw_188 : (.fieldLink RX4 22 "NobodyChecks$Play" "asked" "LNobodyChecks$Question;" : Cond) ∈ gw_tbl := gw_in (by decide +kernel) (by decide +kernel)
theorem kw_189 : (.fieldLink RX4 33 "NobodyChecks$Question" "total" "J" : Cond) ∈ gw_tbl := gw_in (by decide +kernel) (by decide +kernel)
theorem kw_190 : (.fieldLink RX4 39 "NobodyChecks$Play" "below" "J" : Cond) ∈ gw_tbl := gw_in (by decide +kernel) (by decide +kernel)
theorem kw_191 : (.fieldLink RX4 42 "NobodyChecks$Pay" "reckoned" "Z" : Cond) ∈ gw_tbl := gw_in (by decide +kernel) (by decide +kernel)
theorem kw_192 : (.methodLink RX4 46 yX5_profileLimit : Cond) ∈ gw_tbl := gw_in (by decide +kernel) (by decide +kernel)
theorem kw_193 : (.code yX4_placeOf cX4_placeOf 2 (some .int) : Cond) ∈ gw_tbl := gw_in (by decide +kernel) (by decide +kernel)
theorem kw_194 : (.methodLink RX4 53 yX4_placeOf : Cond) ∈ gw_tbl := gw_in (by decide +kernel) (by decide +kernel)
theorem kw_195 : (.static yX4_placeOf : Cond) ∈ gw_tbl := gw_in (by decide +kernel) (by decide +kernel)
theorem kw_196 : (.initialized RX4 : Cond) ∈ gw_tbl := gw_in (by decide +kernel) (by decide +kernel)
theorem kw_197 : (.fieldLink RX4 57 "NobodyChecks$Question" "mass" "[J" : Cond) ∈ gw_tbl := gw_in (by decide +kernel) (by decide +kernel)
theorem kw_198 : (.code yX4_average cX4_average 19 (some .long) : Cond) ∈ gw_tbl := gw_in (by decide +kernel) (by decide +kernel)
theorem kw_199 : (.methodLink RX4 60 yX4_average : Cond) ∈ gw_tbl := gw_in (by decide +kernel) (by decide +kernel)
theorem kw_200 : (.static yX4_average : Cond) ∈ gw_tbl := gw_in (by decide +kernel) (by decide +kernel)

set_option maxHeartbeats 4000000 in
set_option maxRecDepth 100000 in
theorem y_load_n (l : Launch) (D : va_G) (cs : Nat → ClassId) (pl : Nat) (nx : Nat) (sn : Nat) (bel : Int64) (gs : Int32) (gp : Int32) (la : Int32) (stp : Int32) (rou : Int32) (pv : Value) (h0 : Nat) (nq : Nat) (rk : Int32) (ci : Nat) (hci : isPy ci) (fq : Nat → Int32) (aq : Nat) (aw : Nat) (ac : Nat) (ao : Nat) (am : Nat) (C : Nat) (hC5 : C ≤ 5) (P : Nat) (hP4 : P ≤ 4) (tot : Int64) (fam : Nat → Int64) (sz : Nat) : Met l yX4_load (Cond.code yX4_load cX4_load 5 none :: gw_tbl) ({ frames := 3, cells := 1, slots := 1024, locals := 86 }) (pc_M D cs [(pl, .inr (4, [.ref aq, .ref nx, .ref sn, pv, .long bel, .int gs, .int gp, .int la, .int stp, .int rou])), (h0, .inr (ci, [.ref nq, .null, .int rk])), (nq, .inl (cs 0, 4, .inl fq)), (aq, .inr (5, [.ref aw, .ref ac, .ref ao, .ref am, .int (nI C), .int (nI P), .long tot])), (am, .inl (cs 1, 16, .inr (.inl fam)))] sz [.ref pl, .ref h0]) (va_Qv (fun (u : Unit) => True) (fun u t => ∃ (va2 : Nat), ∃ (bel2 : Int64), ∃ (rk2 : Int32), ∃ (fva2 : Nat → Int64), va_P D vwCl [(pl, .inr (4, [.ref aq, .ref nx, .ref sn, .ref va2, .long bel2, .int gs, .int gp, .int la, .int stp, .int rou])), (h0, .inr (ci, [.ref nq, .ref va2, .int rk2])), (nq, .inl (cs 0, 4, .inl fq)), (aq, .inr (5, [.ref aw, .ref ac, .ref ao, .ref am, .int (nI C), .int (nI P), .long tot])), (am, .inl (cs 1, 16, .inr (.inl fam))), (va2, .inl (cs 1, 1024, .inr (.inl fva2)))] t.heap ∧ va_D (va_A [(pl, .inr (4, [.ref aq, .ref nx, .ref sn, pv, .long bel, .int gs, .int gp, .int la, .int stp, .int rou])), (h0, .inr (ci, [.ref nq, .null, .int rk])), (nq, .inl (cs 0, 4, .inl fq)), (aq, .inr (5, [.ref aw, .ref ac, .ref ao, .ref am, .int (nI C), .int (nI P), .long tot])), (am, .inl (cs 1, 16, .inr (.inl fam)))] sz) [(pl, .inr (4, [.ref aq, .ref nx, .ref sn, .ref va2, .long bel2, .int gs, .int gp, .int la, .int stp, .int rou])), (h0, .inr (ci, [.ref nq, .ref va2, .int rk2])), (nq, .inl (cs 0, 4, .inl fq)), (aq, .inr (5, [.ref aw, .ref ac, .ref ao, .ref am, .int (nI C), .int (nI P), .long tot])), (am, .inl (cs 1, 16, .inr (.inl fam))), (va2, .inl (cs 1, 1024, .inr (.inl fva2)))]) (va_A [(pl, .inr (4, [.ref aq, .ref nx, .ref sn, pv, .long bel, .int gs, .int gp, .int la, .int stp, .int rou])), (h0, .inr (ci, [.ref nq, .null, .int rk])), (nq, .inl (cs 0, 4, .inl fq)), (aq, .inr (5, [.ref aw, .ref ac, .ref ao, .ref am, .int (nI C), .int (nI P), .long tot])), (am, .inl (cs 1, 16, .inr (.inl fam)))] sz)) 1 1024 (va_A [(pl, .inr (4, [.ref aq, .ref nx, .ref sn, pv, .long bel, .int gs, .int gp, .int la, .int stp, .int rou])), (h0, .inr (ci, [.ref nq, .null, .int rk])), (nq, .inl (cs 0, 4, .inl fq)), (aq, .inr (5, [.ref aw, .ref ac, .ref ao, .ref am, .int (nI C), .int (nI P), .long tot])), (am, .inl (cs 1, 16, .inr (.inl fam)))] sz) := by
  refine Met.ofW (cc := cX4_load) (maxL := 5) (ret := none) (by decide) rfl ?_
  intro p e s m args below meth c s₁ B hml hv
  obtain ⟨hargs, hsz, hP, hK, hD0⟩ := hv
  have hx := B.exec
  have hb := B.bytes
  have hr := B.returns
  have hts := atoms_spec (ws := Cond.code yX4_load cX4_load 5 none :: gw_tbl) B.pre
  have hg := fun (w : Cond) (h : w ∈ gw_tbl) => hts w (List.mem_cons_of_mem _ h)
  have hown : s.vm.findClass RX4 = some m.cls := findClass_of_methodNamed B.named
  have hlocks := B.notSynchronized
  subst hsz
  have hD := hD0.self (sz := s.heap.size)
  generalize hAe : va_A [(pl, .inr (4, [.ref aq, .ref nx, .ref sn, pv, .long bel, .int gs, .int gp, .int la, .int stp, .int rou])), (h0, .inr (ci, [.ref nq, .null, .int rk])), (nq, .inl (cs 0, 4, .inl fq)), (aq, .inr (5, [.ref aw, .ref ac, .ref ao, .ref am, .int (nI C), .int (nI P), .long tot])), (am, .inl (cs 1, 16, .inr (.inl fam)))] s.heap.size = A at hD ⊢
  have hA : ∀ q : Nat, s.heap.size ≤ q → A q := fun q h => by rw [← hAe]; exact Or.inr h
  have hS : va_S A s.heap s.heap [] := va_S.rf
  have hP : va_P D vwCl [(pl, .inr (4, [.ref aq, .ref nx, .ref sn, pv, .long bel, .int gs, .int gp, .int la, .int stp, .int rou])), (h0, .inr (ci, [.ref nq, .null, .int rk])), (nq, .inl (cs 0, 4, .inl fq)), (aq, .inr (5, [.ref aw, .ref ac, .ref ao, .ref am, .int (nI C), .int (nI P), .long tot])), (am, .inl (cs 1, 16, .inr (.inl fam)))] s.heap := hP
  have hl := lv_entry ([.ref pl, .ref h0]) (n := 5) (Nat.le_of_ble_eq_true rfl)
  rw [show entryFrame m args 5 = F0 m 0 (lg_sl ([.ref pl, .ref h0]) ++ List.replicate (5 - (lg_sl ([.ref pl, .ref h0])).length) Slot.unset).toArray [] from by rw [hargs]; exact lg_entry_eq ..]
  generalize (lg_sl ([.ref pl, .ref h0]) ++ List.replicate (5 - (lg_sl ([.ref pl, .ref h0])).length) Slot.unset).toArray = ls at hl ⊢
  have hl : lv_has ls 5 [(0, .ref pl), (1, .ref h0)] := hl
  refine W_genQ (fun Q hQ => ?_)
  have hlm := lim_le hP4
  have hlq := lim_pos P
  have hsg := sgn_le hP4
  refine lv_aload_n hx hb dX4_load_0 rfl (lv_at hl 1 rfl) ?_
  refine pg_get1 (v := .null) hx hb hg hown hK hP 1 rfl hci (hg _ kw_185) rfl dX4_load_1 ?_
  refine lv_ifnonnullN hx hb dX4_load_4 ?_
  refine lv_aload_n hx hb dX4_load_7 rfl (lv_at hl 1 rfl) ?_
  refine lv_sipush (v := 1024) hx hb dX4_load_8 (by decide) ?_
  refine nw_a (atype := .long) (ty := .long) (N' := 1024) (a0 := (1024, .inr (.inl (fun _ => 0)))) 1 hx hb (hg _ kw_186) rfl hK rfl (by decide) hP hD hS hA (fun _ => rfl) (by decide) (by decide) (by decide) (Nat.le_of_ble_eq_true rfl) (Nat.le_of_ble_eq_true rfl) dX4_load_11 (fun q_11 H hP hD hS => ?_)
  have hP : va_P D vwCl [(pl, .inr (4, [.ref aq, .ref nx, .ref sn, pv, .long bel, .int gs, .int gp, .int la, .int stp, .int rou])), (h0, .inr (ci, [.ref nq, .null, .int rk])), (nq, .inl (cs 0, 4, .inl fq)), (aq, .inr (5, [.ref aw, .ref ac, .ref ao, .ref am, .int (nI C), .int (nI P), .long tot])), (am, .inl (cs 1, 16, .inr (.inl fam))), (q_11, .inl (cs 1, 1024, .inr (.inl (fun _ => 0))))] H := hP
  have hD : va_D A [(pl, .inr (4, [.ref aq, .ref nx, .ref sn, pv, .long bel, .int gs, .int gp, .int la, .int stp, .int rou])), (h0, .inr (ci, [.ref nq, .null, .int rk])), (nq, .inl (cs 0, 4, .inl fq)), (aq, .inr (5, [.ref aw, .ref ac, .ref ao, .ref am, .int (nI C), .int (nI P), .long tot])), (am, .inl (cs 1, 16, .inr (.inl fam))), (q_11, .inl (cs 1, 1024, .inr (.inl (fun _ => 0))))] := hD
  refine W.cs (cells' := 1) (slots' := 1024) rfl rfl ?_
  refine pg_put1 (v := .ref q_11) hx hb hg hown hK hP hD hS 1 rfl hci (hg _ kw_185) rfl rfl (Nat.le_of_ble_eq_true rfl) dX4_load_13 (fun H locs hP hD hS => ?_)
  have hP : va_P D vwCl [(pl, .inr (4, [.ref aq, .ref nx, .ref sn, pv, .long bel, .int gs, .int gp, .int la, .int stp, .int rou])), (h0, .inr (ci, [.ref nq, .ref q_11, .int rk])), (nq, .inl (cs 0, 4, .inl fq)), (aq, .inr (5, [.ref aw, .ref ac, .ref ao, .ref am, .int (nI C), .int (nI P), .long tot])), (am, .inl (cs 1, 16, .inr (.inl fam))), (q_11, .inl (cs 1, 1024, .inr (.inl (fun _ => 0))))] H := hP
  have hD : va_D A [(pl, .inr (4, [.ref aq, .ref nx, .ref sn, pv, .long bel, .int gs, .int gp, .int la, .int stp, .int rou])), (h0, .inr (ci, [.ref nq, .ref q_11, .int rk])), (nq, .inl (cs 0, 4, .inl fq)), (aq, .inr (5, [.ref aw, .ref ac, .ref ao, .ref am, .int (nI C), .int (nI P), .long tot])), (am, .inl (cs 1, 16, .inr (.inl fam))), (q_11, .inl (cs 1, 1024, .inr (.inl (fun _ => 0))))] := hD
  refine lv_aload_n hx hb dX4_load_16 rfl (lv_at hl 0 rfl) ?_
  refine lv_aload_n hx hb dX4_load_17 rfl (lv_at hl 1 rfl) ?_
  refine pg_get1 (v := .ref q_11) hx hb hg hown hK hP 1 rfl hci (hg _ kw_185) rfl dX4_load_18 ?_
  refine va_put (D := D) (ci := 4) (v := .ref q_11) (ty := .array .long) (C := RX4) (T := TX4) (N := 10) hx hb hg gwX4 tyX4 tyX4_ok nmX4 hown hK hP hD hS 0 rfl rfl 3 (by decide) (hg _ kw_187) (fun _ h9 => h9) rfl (by decide +kernel) rfl rfl (Nat.le_of_ble_eq_true rfl) dX4_load_21 (fun H locs hP hD hS => ?_)
  have hP : va_P D vwCl [(pl, .inr (4, [.ref aq, .ref nx, .ref sn, .ref q_11, .long bel, .int gs, .int gp, .int la, .int stp, .int rou])), (h0, .inr (ci, [.ref nq, .ref q_11, .int rk])), (nq, .inl (cs 0, 4, .inl fq)), (aq, .inr (5, [.ref aw, .ref ac, .ref ao, .ref am, .int (nI C), .int (nI P), .long tot])), (am, .inl (cs 1, 16, .inr (.inl fam))), (q_11, .inl (cs 1, 1024, .inr (.inl (fun _ => 0))))] H := hP
  have hD : va_D A [(pl, .inr (4, [.ref aq, .ref nx, .ref sn, .ref q_11, .long bel, .int gs, .int gp, .int la, .int stp, .int rou])), (h0, .inr (ci, [.ref nq, .ref q_11, .int rk])), (nq, .inl (cs 0, 4, .inl fq)), (aq, .inr (5, [.ref aw, .ref ac, .ref ao, .ref am, .int (nI C), .int (nI P), .long tot])), (am, .inl (cs 1, 16, .inr (.inl fam))), (q_11, .inl (cs 1, 1024, .inr (.inl (fun _ => 0))))] := hD
  refine lv_aload_n hx hb dX4_load_24 rfl (lv_at hl 0 rfl) ?_
  refine lv_aload_n hx hb dX4_load_25 rfl (lv_at hl 1 rfl) ?_
  have R0_26 : CallRun p l e ({ frames := 3, cells := 1, slots := 1024, locals := 86 } : Room) s m args below meth c H locs 1 1024 0 0 (F0 m 26 ls [.ref h0, .ref pl]) [.ref pl] (vp_Si (fun r => True) (Value.ref h0 :: []).toArray) (fun _ => False) := by
    rcases hci with rfl | rfl | rfl | rfl | rfl
    · exact va_Run.run (va_runU (As := []) (rest := [.ref pl]) ⟨hx, hb, hml, hown, hg⟩ (p_unit_X1_1 l D cs h0 nq (.ref q_11) rk) (va_cwO (owner := "NobodyChecks$Pay") (x := yX3_unit) 0 hg (gw_O kw_143 kw_144 kw_148 kw_145 kw_146 kw_147 kw_142) rfl rfl rfl kw_149 (by decide +kernel) ⟨(Nat.le_of_ble_eq_true rfl), (Nat.le_of_ble_eq_true rfl)⟩) (pr_SV (q := (RX1, TX1, 3)) 1 0 hK (hP.sub (ws' := [(h0, .inr (1, [.ref nq, .ref q_11, .int rk]))]) [1] rfl) rfl rfl) rfl rfl hl.1 rfl (lv_room (Nat.le_of_ble_eq_true rfl)) dX4_load_26 ⟨(Nat.le_of_ble_eq_true rfl), (Nat.le_of_ble_eq_true rfl)⟩)
    · exact W.runV (As := []) (rest := [.ref pl]) ⟨hx, hb, hml, hown, hg⟩ (p_unit_X3_3 l D cs h0 nq (.ref q_11) rk) (cwV 0 hg (gw_V kw_143 kw_148 kw_150 kw_151 kw_149) rfl rfl rfl (by decide +kernel) ⟨(Nat.le_of_ble_eq_true rfl), (Nat.le_of_ble_eq_true rfl)⟩) (pr_SV (q := (RX3, TX3, 3)) 3 0 hK (hP.sub (ws' := [(h0, .inr (3, [.ref nq, .ref q_11, .int rk]))]) [1] rfl) rfl rfl) rfl rfl hl.1 rfl (lv_room (Nat.le_of_ble_eq_true rfl)) dX4_load_26 ⟨(Nat.le_of_ble_eq_true rfl), (Nat.le_of_ble_eq_true rfl)⟩
    · exact va_Run.run (va_runU (As := []) (rest := [.ref pl]) ⟨hx, hb, hml, hown, hg⟩ (p_unit_X3_6 l D cs h0 nq (.ref q_11) rk) (va_cwU (owner := "NobodyChecks$Pay") (x := yX3_unit) 0 hg (gw_U kw_143 kw_144 kw_152 kw_148 kw_151 kw_149) rfl rfl rfl rfl (by decide +kernel) ⟨(Nat.le_of_ble_eq_true rfl), (Nat.le_of_ble_eq_true rfl)⟩) (pr_SV (q := (RX6, TX6, 3)) 6 0 hK (hP.sub (ws' := [(h0, .inr (6, [.ref nq, .ref q_11, .int rk]))]) [1] rfl) rfl rfl) rfl rfl hl.1 rfl (lv_room (Nat.le_of_ble_eq_true rfl)) dX4_load_26 ⟨(Nat.le_of_ble_eq_true rfl), (Nat.le_of_ble_eq_true rfl)⟩)
    · exact va_Run.run (va_runU (As := []) (rest := [.ref pl]) ⟨hx, hb, hml, hown, hg⟩ (p_unit_X3_9 l D cs h0 nq (.ref q_11) rk) (va_cwU (owner := "NobodyChecks$Pay") (x := yX3_unit) 0 hg (gw_U kw_143 kw_144 kw_153 kw_148 kw_151 kw_149) rfl rfl rfl rfl (by decide +kernel) ⟨(Nat.le_of_ble_eq_true rfl), (Nat.le_of_ble_eq_true rfl)⟩) (pr_SV (q := (RX9, TX9, 3)) 9 0 hK (hP.sub (ws' := [(h0, .inr (9, [.ref nq, .ref q_11, .int rk]))]) [1] rfl) rfl rfl) rfl rfl hl.1 rfl (lv_room (Nat.le_of_ble_eq_true rfl)) dX4_load_26 ⟨(Nat.le_of_ble_eq_true rfl), (Nat.le_of_ble_eq_true rfl)⟩)
    · exact va_Run.run (va_runU (As := []) (rest := [.ref pl]) ⟨hx, hb, hml, hown, hg⟩ (p_unit_X3_10 l D cs h0 nq (.ref q_11) rk) (va_cwU (owner := "NobodyChecks$Pay") (x := yX3_unit) 0 hg (gw_U kw_143 kw_144 kw_154 kw_148 kw_151 kw_149) rfl rfl rfl rfl (by decide +kernel) ⟨(Nat.le_of_ble_eq_true rfl), (Nat.le_of_ble_eq_true rfl)⟩) (pr_SV (q := (RX10, TX10, 3)) 10 0 hK (hP.sub (ws' := [(h0, .inr (10, [.ref nq, .ref q_11, .int rk]))]) [1] rfl) rfl rfl) rfl rfl hl.1 rfl (lv_room (Nat.le_of_ble_eq_true rfl)) dX4_load_26 ⟨(Nat.le_of_ble_eq_true rfl), (Nat.le_of_ble_eq_true rfl)⟩)
  refine vp_callSi R0_26 (fun r_26 h_26 => ?_)
  clear h_26
  refine lv_i2l hx hb dX4_load_29 rfl ?_
  refine lv_topl (fun z_29 e_29 => ?_)
  refine lv_aload_n hx hb dX4_load_30 rfl (lv_at hl 0 rfl) ?_
  refine va_get (D := D) (ci := 4) (v := .ref aq) (C := RX4) (T := TX4) (N := 10) hx hb hg gwX4 hown hK hP 0 rfl rfl 0 (by decide) (hg _ kw_188) (fun _ h9 => h9) rfl dX4_load_31 ?_
  refine va_get (D := D) (ci := 5) (v := .long tot) (C := RX5) (T := TX5) (N := 7) hx hb hg gwX5 hown hK hP 3 rfl rfl 6 (by decide) (hg _ kw_189) (fun _ h9 => h9) rfl dX4_load_34 ?_
  refine lv_lmul hx hb dX4_load_37 ?_
  refine lv_topl (fun z_37 e_37 => ?_)
  refine va_put (D := D) (ci := 4) (v := .long z_37) (ty := .long) (C := RX4) (T := TX4) (N := 10) hx hb hg gwX4 tyX4 tyX4_ok nmX4 hown hK hP hD hS 0 rfl rfl 4 (by decide) (hg _ kw_190) (fun _ h9 => h9) rfl (by decide +kernel) rfl rfl (Nat.le_of_ble_eq_true rfl) dX4_load_38 (fun H locs hP hD hS => ?_)
  have hP : va_P D vwCl [(pl, .inr (4, [.ref aq, .ref nx, .ref sn, .ref q_11, .long z_37, .int gs, .int gp, .int la, .int stp, .int rou])), (h0, .inr (ci, [.ref nq, .ref q_11, .int rk])), (nq, .inl (cs 0, 4, .inl fq)), (aq, .inr (5, [.ref aw, .ref ac, .ref ao, .ref am, .int (nI C), .int (nI P), .long tot])), (am, .inl (cs 1, 16, .inr (.inl fam))), (q_11, .inl (cs 1, 1024, .inr (.inl (fun _ => 0))))] H := hP
  have hD : va_D A [(pl, .inr (4, [.ref aq, .ref nx, .ref sn, .ref q_11, .long z_37, .int gs, .int gp, .int la, .int stp, .int rou])), (h0, .inr (ci, [.ref nq, .ref q_11, .int rk])), (nq, .inl (cs 0, 4, .inl fq)), (aq, .inr (5, [.ref aw, .ref ac, .ref ao, .ref am, .int (nI C), .int (nI P), .long tot])), (am, .inl (cs 1, 16, .inr (.inl fam))), (q_11, .inl (cs 1, 1024, .inr (.inl (fun _ => 0))))] := hD
  refine lv_aload_n hx hb dX4_load_41 rfl (lv_at hl 1 rfl) ?_
  refine pg_get2 (v := .int rk) hx hb hg hown hK hP 1 rfl hci (hg _ kw_191) rfl dX4_load_42 ?_
  refine lv_if_eq (tgt := 49) hx hb dX4_load_45 (by decide) (fun c_45 => ?_) (fun c_45 => ?_)
  · refine lv_aload_n hx hb dX4_load_49 rfl (lv_at hl 0 rfl) ?_
    refine va_get (D := D) (ci := 4) (v := .ref aq) (C := RX4) (T := TX4) (N := 10) hx hb hg gwX4 hown hK hP 0 rfl rfl 0 (by decide) (hg _ kw_188) (fun _ h9 => h9) rfl dX4_load_50 ?_
    have hPc := hP.sub (ws' := [(aq, .inr (5, [.ref aw, .ref ac, .ref ao, .ref am, .int (nI C), .int (nI P), .long tot]))]) [3] rfl
    refine vp_callSi (W.runV (As := []) (rest := []) ⟨hx, hb, hml, hown, hg⟩ (q_profileLimit l D cs aq aw ac ao am C (by omega) P (by omega) tot) (cwV 0 hg (gw_V kw_192 kw_17 kw_18 kw_19 kw_15) rfl rfl rfl (by decide +kernel) ⟨(Nat.le_of_ble_eq_true rfl), (Nat.le_of_ble_eq_true rfl)⟩) (pr_SV (q := (RX5, TX5, 7)) 5 0 hK hPc rfl rfl) rfl rfl hl.1 rfl (lv_room (Nat.le_of_ble_eq_true rfl)) dX4_load_53 ⟨(Nat.le_of_ble_eq_true rfl), (Nat.le_of_ble_eq_true rfl)⟩) (fun r_53 h_53 => ?_)
    obtain rfl : r_53 = nI (lim P) := h_53
    refine lv_istore_n (lv' := [(2, .int (nI (lim P))), (0, .ref pl), (1, .ref h0)]) hx hb dX4_load_56 rfl hl (by decide) rfl (fun ls hl => ?_)
    refine lv_iconst (v := 0) hx hb dX4_load_57 (by decide) ?_
    refine lv_istore_n (lv' := [(3, .int 0), (2, .int (nI (lim P))), (0, .ref pl), (1, .ref h0)]) hx hb dX4_load_58 rfl hl (by decide) rfl (fun ls hl => ?_)
    have LOOP59 : ∀ (n59 : Nat) (k : Nat) (fq_11_59 : Nat → Int64), k ≤ lim P → lim P - k < n59 → ∀ (H : Heap) (locs : List Loc) (ls : Array Slot), va_P D vwCl [(pl, .inr (4, [.ref aq, .ref nx, .ref sn, .ref q_11, .long z_37, .int gs, .int gp, .int la, .int stp, .int rou])), (h0, .inr (ci, [.ref nq, .ref q_11, .int rk])), (nq, .inl (cs 0, 4, .inl fq)), (aq, .inr (5, [.ref aw, .ref ac, .ref ao, .ref am, .int (nI C), .int (nI P), .long tot])), (am, .inl (cs 1, 16, .inr (.inl fam))), (q_11, .inl (cs 1, 1024, .inr (.inl fq_11_59)))] H → va_D A [(pl, .inr (4, [.ref aq, .ref nx, .ref sn, .ref q_11, .long z_37, .int gs, .int gp, .int la, .int stp, .int rou])), (h0, .inr (ci, [.ref nq, .ref q_11, .int rk])), (nq, .inl (cs 0, 4, .inl fq)), (aq, .inr (5, [.ref aw, .ref ac, .ref ao, .ref am, .int (nI C), .int (nI P), .long tot])), (am, .inl (cs 1, 16, .inr (.inl fam))), (q_11, .inl (cs 1, 1024, .inr (.inl fq_11_59)))] → va_S A s.heap H locs → lv_has ls 5 [(0, .ref pl), (1, .ref h0), (2, .int (nI (lim P))), (3, .int (nI k))] → W p l e ({ frames := 3, cells := 1, slots := 1024, locals := 86 } : Room) s m args below meth c H locs 1 1024 Q (F0 m 59 ls []) := by
      intro n59
      induction n59 with
      | zero =>
        intro k fq_11_59 hk hn59 H locs ls hP hD hS hl
        exact absurd hn59 (Nat.not_lt_zero _)
      | succ n59 ih59 =>
        intro k fq_11_59 hk hn59 H locs ls hP hD hS hl
        refine lv_iload_n hx hb dX4_load_59 rfl (lv_at hl 3 rfl) ?_
        refine lv_iload_n hx hb dX4_load_60 rfl (lv_at hl 2 rfl) ?_
        refine lv_icmp_ge (tgt := 120) hx hb dX4_load_61 (by decide) (fun c_61 => ?_) (fun c_61 => ?_)
        · have n_61 : lim P ≤ k := b_le_t (by omega) (by omega) c_61
          refine lv_aload_n hx hb dX4_load_120 rfl (lv_at hl 1 rfl) ?_
          refine lv_iconst (v := 1) hx hb dX4_load_121 (by decide) ?_
          refine pg_put2 (v := .int 1) hx hb hg hown hK hP hD hS 1 rfl hci (hg _ kw_191) rfl rfl (Nat.le_of_ble_eq_true rfl) dX4_load_122 (fun H locs hP hD hS => ?_)
          have hP : va_P D vwCl [(pl, .inr (4, [.ref aq, .ref nx, .ref sn, .ref q_11, .long z_37, .int gs, .int gp, .int la, .int stp, .int rou])), (h0, .inr (ci, [.ref nq, .ref q_11, .int 1])), (nq, .inl (cs 0, 4, .inl fq)), (aq, .inr (5, [.ref aw, .ref ac, .ref ao, .ref am, .int (nI C), .int (nI P), .long tot])), (am, .inl (cs 1, 16, .inr (.inl fam))), (q_11, .inl (cs 1, 1024, .inr (.inl fq_11_59)))] H := hP
          have hD : va_D A [(pl, .inr (4, [.ref aq, .ref nx, .ref sn, .ref q_11, .long z_37, .int gs, .int gp, .int la, .int stp, .int rou])), (h0, .inr (ci, [.ref nq, .ref q_11, .int 1])), (nq, .inl (cs 0, 4, .inl fq)), (aq, .inr (5, [.ref aw, .ref ac, .ref ao, .ref am, .int (nI C), .int (nI P), .long tot])), (am, .inl (cs 1, 16, .inr (.inl fam))), (q_11, .inl (cs 1, 1024, .inr (.inl fq_11_59)))] := hD
          refine W_sQ hQ ?_
          refine W.widen (k := 1) (n := 1024) (Nat.le_of_ble_eq_true rfl) (Nat.le_of_ble_eq_true rfl) ?_
          have hP9 := hP.sub (ws' := [(pl, .inr (4, [.ref aq, .ref nx, .ref sn, .ref q_11, .long z_37, .int gs, .int gp, .int la, .int stp, .int rou])), (h0, .inr (ci, [.ref nq, .ref q_11, .int 1])), (nq, .inl (cs 0, 4, .inl fq)), (aq, .inr (5, [.ref aw, .ref ac, .ref ao, .ref am, .int (nI C), .int (nI P), .long tot])), (am, .inl (cs 1, 16, .inr (.inl fam))), (q_11, .inl (cs 1, 1024, .inr (.inl fq_11_59)))]) [0, 1, 2, 3, 4, 5] rfl
          have hD9 := hD.sub (ws' := [(pl, .inr (4, [.ref aq, .ref nx, .ref sn, .ref q_11, .long z_37, .int gs, .int gp, .int la, .int stp, .int rou])), (h0, .inr (ci, [.ref nq, .ref q_11, .int 1])), (nq, .inl (cs 0, 4, .inl fq)), (aq, .inr (5, [.ref aw, .ref ac, .ref ao, .ref am, .int (nI C), .int (nI P), .long tot])), (am, .inl (cs 1, 16, .inr (.inl fam))), (q_11, .inl (cs 1, 1024, .inr (.inl fq_11_59)))]) [0, 1, 2, 3, 4, 5] (by decide) rfl
          exact W.vret hx hb hr (fun t ht hW => ⟨⟨(), rfl, trivial, ⟨q_11, z_37, 1, fq_11_59, by rw [ht]; exact hP9, hD9⟩⟩, hS.F ht⟩) hS.2.2 dX4_load_125
        · have n_61 : k < lim P := b_le_f (by omega) (by omega) c_61
          refine lv_iconst (v := 0) hx hb dX4_load_64 (by decide) ?_
          refine lv_istore (lv' := [(4, .int 0), (0, .ref pl), (1, .ref h0), (2, .int (nI (lim P))), (3, .int (nI k))]) hx hb dX4_load_65 hl (by decide) rfl (fun ls hl => ?_)
          have LOOP67 : ∀ (n67 : Nat) (pe : Nat) (fq_11_67 : Nat → Int64), pe ≤ P → P - pe < n67 → ∀ (H : Heap) (locs : List Loc) (ls : Array Slot), va_P D vwCl [(pl, .inr (4, [.ref aq, .ref nx, .ref sn, .ref q_11, .long z_37, .int gs, .int gp, .int la, .int stp, .int rou])), (h0, .inr (ci, [.ref nq, .ref q_11, .int rk])), (nq, .inl (cs 0, 4, .inl fq)), (aq, .inr (5, [.ref aw, .ref ac, .ref ao, .ref am, .int (nI C), .int (nI P), .long tot])), (am, .inl (cs 1, 16, .inr (.inl fam))), (q_11, .inl (cs 1, 1024, .inr (.inl fq_11_67)))] H → va_D A [(pl, .inr (4, [.ref aq, .ref nx, .ref sn, .ref q_11, .long z_37, .int gs, .int gp, .int la, .int stp, .int rou])), (h0, .inr (ci, [.ref nq, .ref q_11, .int rk])), (nq, .inl (cs 0, 4, .inl fq)), (aq, .inr (5, [.ref aw, .ref ac, .ref ao, .ref am, .int (nI C), .int (nI P), .long tot])), (am, .inl (cs 1, 16, .inr (.inl fam))), (q_11, .inl (cs 1, 1024, .inr (.inl fq_11_67)))] → va_S A s.heap H locs → lv_has ls 5 [(0, .ref pl), (1, .ref h0), (2, .int (nI (lim P))), (3, .int (nI k)), (4, .int (nI pe))] → W p l e ({ frames := 3, cells := 1, slots := 1024, locals := 86 } : Room) s m args below meth c H locs 1 1024 Q (F0 m 67 ls []) := by
            intro n67
            induction n67 with
            | zero =>
              intro pe fq_11_67 hpe hn67 H locs ls hP hD hS hl
              exact absurd hn67 (Nat.not_lt_zero _)
            | succ n67 ih67 =>
              intro pe fq_11_67 hpe hn67 H locs ls hP hD hS hl
              refine lv_iload hx hb dX4_load_67 (lv_at hl 4 rfl) ?_
              refine lv_aload_n hx hb dX4_load_69 rfl (lv_at hl 0 rfl) ?_
              refine va_get (D := D) (ci := 4) (v := .ref aq) (C := RX4) (T := TX4) (N := 10) hx hb hg gwX4 hown hK hP 0 rfl rfl 0 (by decide) (hg _ kw_188) (fun _ h9 => h9) rfl dX4_load_70 ?_
              refine va_get (D := D) (ci := 5) (v := .int (nI P)) (C := RX5) (T := TX5) (N := 7) hx hb hg gwX5 hown hK hP 3 rfl rfl 5 (by decide) (hg _ kw_140) (fun _ h9 => h9) rfl dX4_load_73 ?_
              refine lv_icmp_ge (tgt := 114) hx hb dX4_load_76 (by decide) (fun c_76 => ?_) (fun c_76 => ?_)
              · have n_76 : P ≤ pe := b_le_t (by omega) (by omega) c_76
                refine lv_iinc (v := (nI (k + 1))) (lv' := [(3, .int (nI (k + 1))), (0, .ref pl), (1, .ref h0), (2, .int (nI (lim P))), (4, .int (nI pe))]) hx hb dX4_load_114 hl (k := 3) rfl (nI_add k 1) (by decide) rfl (fun ls hl => ?_)
                refine lv_goto (tgt := 59) hx hb dX4_load_117 (by decide) ?_
                exact ih59 (k + 1) fq_11_67 (by omega) (by omega) _ _ ls hP hD hS (lv_sub hl [1, 2, 3, 0] rfl)
              · have n_76 : pe < P := b_le_f (by omega) (by omega) c_76
                refine lv_aload_n hx hb dX4_load_79 rfl (lv_at hl 0 rfl) ?_
                refine va_get (D := D) (ci := 4) (v := .ref q_11) (C := RX4) (T := TX4) (N := 10) hx hb hg gwX4 hown hK hP 0 rfl rfl 3 (by decide) (hg _ kw_187) (fun _ h9 => h9) rfl dX4_load_80 ?_
                refine lv_iload_n hx hb dX4_load_83 rfl (lv_at hl 3 rfl) ?_
                refine lv_iload hx hb dX4_load_84 (lv_at hl 4 rfl) ?_
                refine vp_callSi (W.runS (As := [.int (nI k), .int (nI pe)]) (rest := [.ref q_11]) ⟨hx, hb, hml, hown, hg⟩ (c_placeOf l k pe) (va_cwS 2 hg (gw_S kw_194 kw_195 kw_196 kw_193) rfl rfl rfl (by decide +kernel) ⟨(Nat.le_of_ble_eq_true rfl), (Nat.le_of_ble_eq_true rfl)⟩) pr_0 rfl rfl hl.1 rfl (lv_room (Nat.le_of_ble_eq_true rfl)) dX4_load_86 ⟨(Nat.le_of_ble_eq_true rfl), (Nat.le_of_ble_eq_true rfl)⟩) (fun r_86 h_86 => ?_)
                obtain rfl : r_86 = nI (k * 4 + pe) := h_86
                refine lv_aload_n hx hb dX4_load_89 rfl (lv_at hl 1 rfl) ?_
                refine lv_aload_n hx hb dX4_load_90 rfl (lv_at hl 0 rfl) ?_
                refine va_get (D := D) (ci := 4) (v := .ref aq) (C := RX4) (T := TX4) (N := 10) hx hb hg gwX4 hown hK hP 0 rfl rfl 0 (by decide) (hg _ kw_188) (fun _ h9 => h9) rfl dX4_load_91 ?_
                refine lv_aload_n hx hb dX4_load_94 rfl (lv_at hl 0 rfl) ?_
                refine va_get (D := D) (ci := 4) (v := .ref aq) (C := RX4) (T := TX4) (N := 10) hx hb hg gwX4 hown hK hP 0 rfl rfl 0 (by decide) (hg _ kw_188) (fun _ h9 => h9) rfl dX4_load_95 ?_
                refine va_get (D := D) (ci := 5) (v := .ref am) (C := RX5) (T := TX5) (N := 7) hx hb hg gwX5 hown hK hP 3 rfl rfl 3 (by decide) (hg _ kw_197) (fun _ h9 => h9) rfl dX4_load_98 ?_
                refine lv_iload_n hx hb dX4_load_101 rfl (lv_at hl 3 rfl) ?_
                refine lv_iload hx hb dX4_load_102 (lv_at hl 4 rfl) ?_
                have hPc := hP.sub (ws' := [(h0, .inr (ci, [.ref nq, .ref q_11, .int rk])), (nq, .inl (cs 0, 4, .inl fq)), (aq, .inr (5, [.ref aw, .ref ac, .ref ao, .ref am, .int (nI C), .int (nI P), .long tot])), (am, .inl (cs 1, 16, .inr (.inl fam)))]) [1, 2, 3, 4] rfl
                refine vp_callSl (W.runS (As := [.ref h0, .ref aq, .ref am, .int (nI k), .int (nI pe)]) (rest := [.int (nI (k * 4 + pe)), .ref q_11]) ⟨hx, hb, hml, hown, hg⟩ (y_average l D cs h0 nq (.ref q_11) rk ci hci fq aq aw ac ao am C (by omega) P (by omega) tot am fam (nI k) (nI pe)) (va_cwS 5 hg (gw_S kw_199 kw_200 kw_196 kw_198) rfl rfl rfl (by decide +kernel) ⟨(Nat.le_of_ble_eq_true rfl), (Nat.le_of_ble_eq_true rfl)⟩) (pr_SS hK hPc) rfl rfl hl.1 rfl (lv_room (Nat.le_of_ble_eq_true rfl)) dX4_load_104 ⟨(Nat.le_of_ble_eq_true rfl), (Nat.le_of_ble_eq_true rfl)⟩) (fun r_104 h_104 => ?_)
                clear h_104
                refine va_last hx hb hK hP hD hS 5 1 rfl rfl (vp_in_nI (show k * 4 + pe < 1024 by omega) (by decide)) dX4_load_107 (fun H locs hP hD hS => ?_)
                obtain ⟨f_107, hf_107⟩ : ∃ f9, f9 = (vp_updL fq_11_67 (nI (k * 4 + pe)).toNatClampNeg r_104) := ⟨_, rfl⟩
                rw [← hf_107] at hP hD
                have hP : va_P D vwCl [(pl, .inr (4, [.ref aq, .ref nx, .ref sn, .ref q_11, .long z_37, .int gs, .int gp, .int la, .int stp, .int rou])), (h0, .inr (ci, [.ref nq, .ref q_11, .int rk])), (nq, .inl (cs 0, 4, .inl fq)), (aq, .inr (5, [.ref aw, .ref ac, .ref ao, .ref am, .int (nI C), .int (nI P), .long tot])), (am, .inl (cs 1, 16, .inr (.inl fam))), (q_11, .inl (cs 1, 1024, .inr (.inl f_107)))] H := hP
                have hD : va_D A [(pl, .inr (4, [.ref aq, .ref nx, .ref sn, .ref q_11, .long z_37, .int gs, .int gp, .int la, .int stp, .int rou])), (h0, .inr (ci, [.ref nq, .ref q_11, .int rk])), (nq, .inl (cs 0, 4, .inl fq)), (aq, .inr (5, [.ref aw, .ref ac, .ref ao, .ref am, .int (nI C), .int (nI P), .long tot])), (am, .inl (cs 1, 16, .inr (.inl fam))), (q_11, .inl (cs 1, 1024, .inr (.inl f_107)))] := hD
                refine lv_iinc (v := (nI (pe + 1))) (lv' := [(4, .int (nI (pe + 1))), (0, .ref pl), (1, .ref h0), (2, .int (nI (lim P))), (3, .int (nI k))]) hx hb dX4_load_108 hl (k := 4) rfl (nI_add pe 1) (by decide) rfl (fun ls hl => ?_)
                refine lv_goto (tgt := 67) hx hb dX4_load_111 (by decide) ?_
                exact ih67 (pe + 1) f_107 (by omega) (by omega) _ _ ls hP hD hS (lv_sub hl [1, 2, 3, 4, 0] rfl)
          exact LOOP67 (P - 0 + 1) 0 fq_11_59 (by omega) (Nat.lt_succ_self _) _ _ ls hP hD hS (lv_sub hl [1, 2, 3, 4, 0] rfl)
    exact LOOP59 (lim P - 0 + 1) 0 (fun _ => 0) (by omega) (Nat.lt_succ_self _) _ _ ls hP hD hS (lv_sub hl [2, 3, 1, 0] rfl)
  · refine W_sQ hQ ?_
    refine W.widen (k := 1) (n := 1024) (Nat.le_of_ble_eq_true rfl) (Nat.le_of_ble_eq_true rfl) ?_
    have hP9 := hP.sub (ws' := [(pl, .inr (4, [.ref aq, .ref nx, .ref sn, .ref q_11, .long z_37, .int gs, .int gp, .int la, .int stp, .int rou])), (h0, .inr (ci, [.ref nq, .ref q_11, .int rk])), (nq, .inl (cs 0, 4, .inl fq)), (aq, .inr (5, [.ref aw, .ref ac, .ref ao, .ref am, .int (nI C), .int (nI P), .long tot])), (am, .inl (cs 1, 16, .inr (.inl fam))), (q_11, .inl (cs 1, 1024, .inr (.inl (fun _ => 0))))]) [0, 1, 2, 3, 4, 5] rfl
    have hD9 := hD.sub (ws' := [(pl, .inr (4, [.ref aq, .ref nx, .ref sn, .ref q_11, .long z_37, .int gs, .int gp, .int la, .int stp, .int rou])), (h0, .inr (ci, [.ref nq, .ref q_11, .int rk])), (nq, .inl (cs 0, 4, .inl fq)), (aq, .inr (5, [.ref aw, .ref ac, .ref ao, .ref am, .int (nI C), .int (nI P), .long tot])), (am, .inl (cs 1, 16, .inr (.inl fam))), (q_11, .inl (cs 1, 1024, .inr (.inl (fun _ => 0))))]) [0, 1, 2, 3, 4, 5] (by decide) rfl
    exact W.vret hx hb hr (fun t ht hW => ⟨⟨(), rfl, trivial, ⟨q_11, z_37, rk, (fun _ => 0), by rw [ht]; exact hP9, hD9⟩⟩, hS.F ht⟩) hS.2.2 dX4_load_48

set_option maxHeartbeats 4000000 in
set_option maxRecDepth 100000 in
theorem y_load_s (l : Launch) (D : va_G) (cs : Nat → ClassId) (pl : Nat) (nx : Nat) (sn : Nat) (bel : Int64) (gs : Int32) (gp : Int32) (la : Int32) (stp : Int32) (rou : Int32) (pv : Value) (h0 : Nat) (nq : Nat) (rk : Int32) (ci : Nat) (hci : isPy ci) (fq : Nat → Int32) (aq : Nat) (aw : Nat) (ac : Nat) (ao : Nat) (am : Nat) (C : Nat) (hC5 : C ≤ 5) (P : Nat) (hP4 : P ≤ 4) (tot : Int64) (fam : Nat → Int64) (va : Nat) (fva : Nat → Int64) (sz : Nat) : Met l yX4_load (Cond.code yX4_load cX4_load 5 none :: gw_tbl) ({ frames := 3, cells := 0, slots := 0, locals := 86 }) (pc_M D cs [(pl, .inr (4, [.ref aq, .ref nx, .ref sn, pv, .long bel, .int gs, .int gp, .int la, .int stp, .int rou])), (h0, .inr (ci, [.ref nq, .ref va, .int rk])), (nq, .inl (cs 0, 4, .inl fq)), (aq, .inr (5, [.ref aw, .ref ac, .ref ao, .ref am, .int (nI C), .int (nI P), .long tot])), (am, .inl (cs 1, 16, .inr (.inl fam))), (va, .inl (cs 1, 1024, .inr (.inl fva)))] sz [.ref pl, .ref h0]) (va_Qv (fun (u : Unit) => True) (fun u t => ∃ (bel2 : Int64), ∃ (rk2 : Int32), ∃ (fva2 : Nat → Int64), va_P D vwCl [(pl, .inr (4, [.ref aq, .ref nx, .ref sn, .ref va, .long bel2, .int gs, .int gp, .int la, .int stp, .int rou])), (h0, .inr (ci, [.ref nq, .ref va, .int rk2])), (nq, .inl (cs 0, 4, .inl fq)), (aq, .inr (5, [.ref aw, .ref ac, .ref ao, .ref am, .int (nI C), .int (nI P), .long tot])), (am, .inl (cs 1, 16, .inr (.inl fam))), (va, .inl (cs 1, 1024, .inr (.inl fva2)))] t.heap ∧ va_D (va_A [(pl, .inr (4, [.ref aq, .ref nx, .ref sn, pv, .long bel, .int gs, .int gp, .int la, .int stp, .int rou])), (h0, .inr (ci, [.ref nq, .ref va, .int rk])), (nq, .inl (cs 0, 4, .inl fq)), (aq, .inr (5, [.ref aw, .ref ac, .ref ao, .ref am, .int (nI C), .int (nI P), .long tot])), (am, .inl (cs 1, 16, .inr (.inl fam))), (va, .inl (cs 1, 1024, .inr (.inl fva)))] sz) [(pl, .inr (4, [.ref aq, .ref nx, .ref sn, .ref va, .long bel2, .int gs, .int gp, .int la, .int stp, .int rou])), (h0, .inr (ci, [.ref nq, .ref va, .int rk2])), (nq, .inl (cs 0, 4, .inl fq)), (aq, .inr (5, [.ref aw, .ref ac, .ref ao, .ref am, .int (nI C), .int (nI P), .long tot])), (am, .inl (cs 1, 16, .inr (.inl fam))), (va, .inl (cs 1, 1024, .inr (.inl fva2)))]) (va_A [(pl, .inr (4, [.ref aq, .ref nx, .ref sn, pv, .long bel, .int gs, .int gp, .int la, .int stp, .int rou])), (h0, .inr (ci, [.ref nq, .ref va, .int rk])), (nq, .inl (cs 0, 4, .inl fq)), (aq, .inr (5, [.ref aw, .ref ac, .ref ao, .ref am, .int (nI C), .int (nI P), .long tot])), (am, .inl (cs 1, 16, .inr (.inl fam))), (va, .inl (cs 1, 1024, .inr (.inl fva)))] sz)) 0 0 (va_A [(pl, .inr (4, [.ref aq, .ref nx, .ref sn, pv, .long bel, .int gs, .int gp, .int la, .int stp, .int rou])), (h0, .inr (ci, [.ref nq, .ref va, .int rk])), (nq, .inl (cs 0, 4, .inl fq)), (aq, .inr (5, [.ref aw, .ref ac, .ref ao, .ref am, .int (nI C), .int (nI P), .long tot])), (am, .inl (cs 1, 16, .inr (.inl fam))), (va, .inl (cs 1, 1024, .inr (.inl fva)))] sz) := by
  refine Met.ofW (cc := cX4_load) (maxL := 5) (ret := none) (by decide) rfl ?_
  intro p e s m args below meth c s₁ B hml hv
  obtain ⟨hargs, hsz, hP, hK, hD0⟩ := hv
  have hx := B.exec
  have hb := B.bytes
  have hr := B.returns
  have hts := atoms_spec (ws := Cond.code yX4_load cX4_load 5 none :: gw_tbl) B.pre
  have hg := fun (w : Cond) (h : w ∈ gw_tbl) => hts w (List.mem_cons_of_mem _ h)
  have hown : s.vm.findClass RX4 = some m.cls := findClass_of_methodNamed B.named
  have hlocks := B.notSynchronized
  subst hsz
  have hD := hD0.self (sz := s.heap.size)
  generalize hAe : va_A [(pl, .inr (4, [.ref aq, .ref nx, .ref sn, pv, .long bel, .int gs, .int gp, .int la, .int stp, .int rou])), (h0, .inr (ci, [.ref nq, .ref va, .int rk])), (nq, .inl (cs 0, 4, .inl fq)), (aq, .inr (5, [.ref aw, .ref ac, .ref ao, .ref am, .int (nI C), .int (nI P), .long tot])), (am, .inl (cs 1, 16, .inr (.inl fam))), (va, .inl (cs 1, 1024, .inr (.inl fva)))] s.heap.size = A at hD ⊢
  have hA : ∀ q : Nat, s.heap.size ≤ q → A q := fun q h => by rw [← hAe]; exact Or.inr h
  have hS : va_S A s.heap s.heap [] := va_S.rf
  have hP : va_P D vwCl [(pl, .inr (4, [.ref aq, .ref nx, .ref sn, pv, .long bel, .int gs, .int gp, .int la, .int stp, .int rou])), (h0, .inr (ci, [.ref nq, .ref va, .int rk])), (nq, .inl (cs 0, 4, .inl fq)), (aq, .inr (5, [.ref aw, .ref ac, .ref ao, .ref am, .int (nI C), .int (nI P), .long tot])), (am, .inl (cs 1, 16, .inr (.inl fam))), (va, .inl (cs 1, 1024, .inr (.inl fva)))] s.heap := hP
  have hl := lv_entry ([.ref pl, .ref h0]) (n := 5) (Nat.le_of_ble_eq_true rfl)
  rw [show entryFrame m args 5 = F0 m 0 (lg_sl ([.ref pl, .ref h0]) ++ List.replicate (5 - (lg_sl ([.ref pl, .ref h0])).length) Slot.unset).toArray [] from by rw [hargs]; exact lg_entry_eq ..]
  generalize (lg_sl ([.ref pl, .ref h0]) ++ List.replicate (5 - (lg_sl ([.ref pl, .ref h0])).length) Slot.unset).toArray = ls at hl ⊢
  have hl : lv_has ls 5 [(0, .ref pl), (1, .ref h0)] := hl
  refine W_genQ (fun Q hQ => ?_)
  have hlm := lim_le hP4
  have hlq := lim_pos P
  have hsg := sgn_le hP4
  refine lv_aload_n hx hb dX4_load_0 rfl (lv_at hl 1 rfl) ?_
  refine pg_get1 (v := .ref va) hx hb hg hown hK hP 1 rfl hci (hg _ kw_185) rfl dX4_load_1 ?_
  refine lv_ifnonnull (tgt := 16) hx hb dX4_load_4 (by decide) ?_
  refine lv_aload_n hx hb dX4_load_16 rfl (lv_at hl 0 rfl) ?_
  refine lv_aload_n hx hb dX4_load_17 rfl (lv_at hl 1 rfl) ?_
  refine pg_get1 (v := .ref va) hx hb hg hown hK hP 1 rfl hci (hg _ kw_185) rfl dX4_load_18 ?_
  refine va_put (D := D) (ci := 4) (v := .ref va) (ty := .array .long) (C := RX4) (T := TX4) (N := 10) hx hb hg gwX4 tyX4 tyX4_ok nmX4 hown hK hP hD hS 0 rfl rfl 3 (by decide) (hg _ kw_187) (fun _ h9 => h9) rfl (by decide +kernel) rfl rfl (Nat.le_of_ble_eq_true rfl) dX4_load_21 (fun H locs hP hD hS => ?_)
  have hP : va_P D vwCl [(pl, .inr (4, [.ref aq, .ref nx, .ref sn, .ref va, .long bel, .int gs, .int gp, .int la, .int stp, .int rou])), (h0, .inr (ci, [.ref nq, .ref va, .int rk])), (nq, .inl (cs 0, 4, .inl fq)), (aq, .inr (5, [.ref aw, .ref ac, .ref ao, .ref am, .int (nI C), .int (nI P), .long tot])), (am, .inl (cs 1, 16, .inr (.inl fam))), (va, .inl (cs 1, 1024, .inr (.inl fva)))] H := hP
  have hD : va_D A [(pl, .inr (4, [.ref aq, .ref nx, .ref sn, .ref va, .long bel, .int gs, .int gp, .int la, .int stp, .int rou])), (h0, .inr (ci, [.ref nq, .ref va, .int rk])), (nq, .inl (cs 0, 4, .inl fq)), (aq, .inr (5, [.ref aw, .ref ac, .ref ao, .ref am, .int (nI C), .int (nI P), .long tot])), (am, .inl (cs 1, 16, .inr (.inl fam))), (va, .inl (cs 1, 1024, .inr (.inl fva)))] := hD
  refine lv_aload_n hx hb dX4_load_24 rfl (lv_at hl 0 rfl) ?_
  refine lv_aload_n hx hb dX4_load_25 rfl (lv_at hl 1 rfl) ?_
  have R0_26 : CallRun p l e ({ frames := 3, cells := 0, slots := 0, locals := 86 } : Room) s m args below meth c H locs 0 0 0 0 (F0 m 26 ls [.ref h0, .ref pl]) [.ref pl] (vp_Si (fun r => True) (Value.ref h0 :: []).toArray) (fun _ => False) := by
    rcases hci with rfl | rfl | rfl | rfl | rfl
    · exact va_Run.run (va_runU (As := []) (rest := [.ref pl]) ⟨hx, hb, hml, hown, hg⟩ (p_unit_X1_1 l D cs h0 nq (.ref va) rk) (va_cwO (owner := "NobodyChecks$Pay") (x := yX3_unit) 0 hg (gw_O kw_143 kw_144 kw_148 kw_145 kw_146 kw_147 kw_142) rfl rfl rfl kw_149 (by decide +kernel) ⟨(Nat.le_of_ble_eq_true rfl), (Nat.le_of_ble_eq_true rfl)⟩) (pr_SV (q := (RX1, TX1, 3)) 1 0 hK (hP.sub (ws' := [(h0, .inr (1, [.ref nq, .ref va, .int rk]))]) [1] rfl) rfl rfl) rfl rfl hl.1 rfl (lv_room (Nat.le_of_ble_eq_true rfl)) dX4_load_26 ⟨(Nat.le_of_ble_eq_true rfl), (Nat.le_of_ble_eq_true rfl)⟩)
    · exact W.runV (As := []) (rest := [.ref pl]) ⟨hx, hb, hml, hown, hg⟩ (p_unit_X3_3 l D cs h0 nq (.ref va) rk) (cwV 0 hg (gw_V kw_143 kw_148 kw_150 kw_151 kw_149) rfl rfl rfl (by decide +kernel) ⟨(Nat.le_of_ble_eq_true rfl), (Nat.le_of_ble_eq_true rfl)⟩) (pr_SV (q := (RX3, TX3, 3)) 3 0 hK (hP.sub (ws' := [(h0, .inr (3, [.ref nq, .ref va, .int rk]))]) [1] rfl) rfl rfl) rfl rfl hl.1 rfl (lv_room (Nat.le_of_ble_eq_true rfl)) dX4_load_26 ⟨(Nat.le_of_ble_eq_true rfl), (Nat.le_of_ble_eq_true rfl)⟩
    · exact va_Run.run (va_runU (As := []) (rest := [.ref pl]) ⟨hx, hb, hml, hown, hg⟩ (p_unit_X3_6 l D cs h0 nq (.ref va) rk) (va_cwU (owner := "NobodyChecks$Pay") (x := yX3_unit) 0 hg (gw_U kw_143 kw_144 kw_152 kw_148 kw_151 kw_149) rfl rfl rfl rfl (by decide +kernel) ⟨(Nat.le_of_ble_eq_true rfl), (Nat.le_of_ble_eq_true rfl)⟩) (pr_SV (q := (RX6, TX6, 3)) 6 0 hK (hP.sub (ws' := [(h0, .inr (6, [.ref nq, .ref va, .int rk]))]) [1] rfl) rfl rfl) rfl rfl hl.1 rfl (lv_room (Nat.le_of_ble_eq_true rfl)) dX4_load_26 ⟨(Nat.le_of_ble_eq_true rfl), (Nat.le_of_ble_eq_true rfl)⟩)
    · exact va_Run.run (va_runU (As := []) (rest := [.ref pl]) ⟨hx, hb, hml, hown, hg⟩ (p_unit_X3_9 l D cs h0 nq (.ref va) rk) (va_cwU (owner := "NobodyChecks$Pay") (x := yX3_unit) 0 hg (gw_U kw_143 kw_144 kw_153 kw_148 kw_151 kw_149) rfl rfl rfl rfl (by decide +kernel) ⟨(Nat.le_of_ble_eq_true rfl), (Nat.le_of_ble_eq_true rfl)⟩) (pr_SV (q := (RX9, TX9, 3)) 9 0 hK (hP.sub (ws' := [(h0, .inr (9, [.ref nq, .ref va, .int rk]))]) [1] rfl) rfl rfl) rfl rfl hl.1 rfl (lv_room (Nat.le_of_ble_eq_true rfl)) dX4_load_26 ⟨(Nat.le_of_ble_eq_true rfl), (Nat.le_of_ble_eq_true rfl)⟩)
    · exact va_Run.run (va_runU (As := []) (rest := [.ref pl]) ⟨hx, hb, hml, hown, hg⟩ (p_unit_X3_10 l D cs h0 nq (.ref va) rk) (va_cwU (owner := "NobodyChecks$Pay") (x := yX3_unit) 0 hg (gw_U kw_143 kw_144 kw_154 kw_148 kw_151 kw_149) rfl rfl rfl rfl (by decide +kernel) ⟨(Nat.le_of_ble_eq_true rfl), (Nat.le_of_ble_eq_true rfl)⟩) (pr_SV (q := (RX10, TX10, 3)) 10 0 hK (hP.sub (ws' := [(h0, .inr (10, [.ref nq, .ref va, .int rk]))]) [1] rfl) rfl rfl) rfl rfl hl.1 rfl (lv_room (Nat.le_of_ble_eq_true rfl)) dX4_load_26 ⟨(Nat.le_of_ble_eq_true rfl), (Nat.le_of_ble_eq_true rfl)⟩)
  refine vp_callSi R0_26 (fun r_26 h_26 => ?_)
  clear h_26
  refine lv_i2l hx hb dX4_load_29 rfl ?_
  refine lv_topl (fun z_29 e_29 => ?_)
  refine lv_aload_n hx hb dX4_load_30 rfl (lv_at hl 0 rfl) ?_
  refine va_get (D := D) (ci := 4) (v := .ref aq) (C := RX4) (T := TX4) (N := 10) hx hb hg gwX4 hown hK hP 0 rfl rfl 0 (by decide) (hg _ kw_188) (fun _ h9 => h9) rfl dX4_load_31 ?_
  refine va_get (D := D) (ci := 5) (v := .long tot) (C := RX5) (T := TX5) (N := 7) hx hb hg gwX5 hown hK hP 3 rfl rfl 6 (by decide) (hg _ kw_189) (fun _ h9 => h9) rfl dX4_load_34 ?_
  refine lv_lmul hx hb dX4_load_37 ?_
  refine lv_topl (fun z_37 e_37 => ?_)
  refine va_put (D := D) (ci := 4) (v := .long z_37) (ty := .long) (C := RX4) (T := TX4) (N := 10) hx hb hg gwX4 tyX4 tyX4_ok nmX4 hown hK hP hD hS 0 rfl rfl 4 (by decide) (hg _ kw_190) (fun _ h9 => h9) rfl (by decide +kernel) rfl rfl (Nat.le_of_ble_eq_true rfl) dX4_load_38 (fun H locs hP hD hS => ?_)
  have hP : va_P D vwCl [(pl, .inr (4, [.ref aq, .ref nx, .ref sn, .ref va, .long z_37, .int gs, .int gp, .int la, .int stp, .int rou])), (h0, .inr (ci, [.ref nq, .ref va, .int rk])), (nq, .inl (cs 0, 4, .inl fq)), (aq, .inr (5, [.ref aw, .ref ac, .ref ao, .ref am, .int (nI C), .int (nI P), .long tot])), (am, .inl (cs 1, 16, .inr (.inl fam))), (va, .inl (cs 1, 1024, .inr (.inl fva)))] H := hP
  have hD : va_D A [(pl, .inr (4, [.ref aq, .ref nx, .ref sn, .ref va, .long z_37, .int gs, .int gp, .int la, .int stp, .int rou])), (h0, .inr (ci, [.ref nq, .ref va, .int rk])), (nq, .inl (cs 0, 4, .inl fq)), (aq, .inr (5, [.ref aw, .ref ac, .ref ao, .ref am, .int (nI C), .int (nI P), .long tot])), (am, .inl (cs 1, 16, .inr (.inl fam))), (va, .inl (cs 1, 1024, .inr (.inl fva)))] := hD
  refine lv_aload_n hx hb dX4_load_41 rfl (lv_at hl 1 rfl) ?_
  refine pg_get2 (v := .int rk) hx hb hg hown hK hP 1 rfl hci (hg _ kw_191) rfl dX4_load_42 ?_
  refine lv_if_eq (tgt := 49) hx hb dX4_load_45 (by decide) (fun c_45 => ?_) (fun c_45 => ?_)
  · refine lv_aload_n hx hb dX4_load_49 rfl (lv_at hl 0 rfl) ?_
    refine va_get (D := D) (ci := 4) (v := .ref aq) (C := RX4) (T := TX4) (N := 10) hx hb hg gwX4 hown hK hP 0 rfl rfl 0 (by decide) (hg _ kw_188) (fun _ h9 => h9) rfl dX4_load_50 ?_
    have hPc := hP.sub (ws' := [(aq, .inr (5, [.ref aw, .ref ac, .ref ao, .ref am, .int (nI C), .int (nI P), .long tot]))]) [3] rfl
    refine vp_callSi (W.runV (As := []) (rest := []) ⟨hx, hb, hml, hown, hg⟩ (q_profileLimit l D cs aq aw ac ao am C (by omega) P (by omega) tot) (cwV 0 hg (gw_V kw_192 kw_17 kw_18 kw_19 kw_15) rfl rfl rfl (by decide +kernel) ⟨(Nat.le_of_ble_eq_true rfl), (Nat.le_of_ble_eq_true rfl)⟩) (pr_SV (q := (RX5, TX5, 7)) 5 0 hK hPc rfl rfl) rfl rfl hl.1 rfl (lv_room (Nat.le_of_ble_eq_true rfl)) dX4_load_53 ⟨(Nat.le_of_ble_eq_true rfl), (Nat.le_of_ble_eq_true rfl)⟩) (fun r_53 h_53 => ?_)
    obtain rfl : r_53 = nI (lim P) := h_53
    refine lv_istore_n (lv' := [(2, .int (nI (lim P))), (0, .ref pl), (1, .ref h0)]) hx hb dX4_load_56 rfl hl (by decide) rfl (fun ls hl => ?_)
    refine lv_iconst (v := 0) hx hb dX4_load_57 (by decide) ?_
    refine lv_istore_n (lv' := [(3, .int 0), (2, .int (nI (lim P))), (0, .ref pl), (1, .ref h0)]) hx hb dX4_load_58 rfl hl (by decide) rfl (fun ls hl => ?_)
    have LOOP59 : ∀ (n59 : Nat) (k : Nat) (fva_59 : Nat → Int64), k ≤ lim P → lim P - k < n59 → ∀ (H : Heap) (locs : List Loc) (ls : Array Slot), va_P D vwCl [(pl, .inr (4, [.ref aq, .ref nx, .ref sn, .ref va, .long z_37, .int gs, .int gp, .int la, .int stp, .int rou])), (h0, .inr (ci, [.ref nq, .ref va, .int rk])), (nq, .inl (cs 0, 4, .inl fq)), (aq, .inr (5, [.ref aw, .ref ac, .ref ao, .ref am, .int (nI C), .int (nI P), .long tot])), (am, .inl (cs 1, 16, .inr (.inl fam))), (va, .inl (cs 1, 1024, .inr (.inl fva_59)))] H → va_D A [(pl, .inr (4, [.ref aq, .ref nx, .ref sn, .ref va, .long z_37, .int gs, .int gp, .int la, .int stp, .int rou])), (h0, .inr (ci, [.ref nq, .ref va, .int rk])), (nq, .inl (cs 0, 4, .inl fq)), (aq, .inr (5, [.ref aw, .ref ac, .ref ao, .ref am, .int (nI C), .int (nI P), .long tot])), (am, .inl (cs 1, 16, .inr (.inl fam))), (va, .inl (cs 1, 1024, .inr (.inl fva_59)))] → va_S A s.heap H locs → lv_has ls 5 [(0, .ref pl), (1, .ref h0), (2, .int (nI (lim P))), (3, .int (nI k))] → W p l e ({ frames := 3, cells := 0, slots := 0, locals := 86 } : Room) s m args below meth c H locs 0 0 Q (F0 m 59 ls []) := by
      intro n59
      induction n59 with
      | zero =>
        intro k fva_59 hk hn59 H locs ls hP hD hS hl
        exact absurd hn59 (Nat.not_lt_zero _)
      | succ n59 ih59 =>
        intro k fva_59 hk hn59 H locs ls hP hD hS hl
        refine lv_iload_n hx hb dX4_load_59 rfl (lv_at hl 3 rfl) ?_
        refine lv_iload_n hx hb dX4_load_60 rfl (lv_at hl 2 rfl) ?_
        refine lv_icmp_ge (tgt := 120) hx hb dX4_load_61 (by decide) (fun c_61 => ?_) (fun c_61 => ?_)
        · have n_61 : lim P ≤ k := b_le_t (by omega) (by omega) c_61
          refine lv_aload_n hx hb dX4_load_120 rfl (lv_at hl 1 rfl) ?_
          refine lv_iconst (v := 1) hx hb dX4_load_121 (by decide) ?_
          refine pg_put2 (v := .int 1) hx hb hg hown hK hP hD hS 1 rfl hci (hg _ kw_191) rfl rfl (Nat.le_of_ble_eq_true rfl) dX4_load_122 (fun H locs hP hD hS => ?_)
          have hP : va_P D vwCl [(pl, .inr (4, [.ref aq, .ref nx, .ref sn, .ref va, .long z_37, .int gs, .int gp, .int la, .int stp, .int rou])), (h0, .inr (ci, [.ref nq, .ref va, .int 1])), (nq, .inl (cs 0, 4, .inl fq)), (aq, .inr (5, [.ref aw, .ref ac, .ref ao, .ref am, .int (nI C), .int (nI P), .long tot])), (am, .inl (cs 1, 16, .inr (.inl fam))), (va, .inl (cs 1, 1024, .inr (.inl fva_59)))] H := hP
          have hD : va_D A [(pl, .inr (4, [.ref aq, .ref nx, .ref sn, .ref va, .long z_37, .int gs, .int gp, .int la, .int stp, .int rou])), (h0, .inr (ci, [.ref nq, .ref va, .int 1])), (nq, .inl (cs 0, 4, .inl fq)), (aq, .inr (5, [.ref aw, .ref ac, .ref ao, .ref am, .int (nI C), .int (nI P), .long tot])), (am, .inl (cs 1, 16, .inr (.inl fam))), (va, .inl (cs 1, 1024, .inr (.inl fva_59)))] := hD
          refine W_sQ hQ ?_
          refine W.widen (k := 0) (n := 0) (Nat.le_of_ble_eq_true rfl) (Nat.le_of_ble_eq_true rfl) ?_
          have hP9 := hP.sub (ws' := [(pl, .inr (4, [.ref aq, .ref nx, .ref sn, .ref va, .long z_37, .int gs, .int gp, .int la, .int stp, .int rou])), (h0, .inr (ci, [.ref nq, .ref va, .int 1])), (nq, .inl (cs 0, 4, .inl fq)), (aq, .inr (5, [.ref aw, .ref ac, .ref ao, .ref am, .int (nI C), .int (nI P), .long tot])), (am, .inl (cs 1, 16, .inr (.inl fam))), (va, .inl (cs 1, 1024, .inr (.inl fva_59)))]) [0, 1, 2, 3, 4, 5] rfl
          have hD9 := hD.sub (ws' := [(pl, .inr (4, [.ref aq, .ref nx, .ref sn, .ref va, .long z_37, .int gs, .int gp, .int la, .int stp, .int rou])), (h0, .inr (ci, [.ref nq, .ref va, .int 1])), (nq, .inl (cs 0, 4, .inl fq)), (aq, .inr (5, [.ref aw, .ref ac, .ref ao, .ref am, .int (nI C), .int (nI P), .long tot])), (am, .inl (cs 1, 16, .inr (.inl fam))), (va, .inl (cs 1, 1024, .inr (.inl fva_59)))]) [0, 1, 2, 3, 4, 5] (by decide) rfl
          exact W.vret hx hb hr (fun t ht hW => ⟨⟨(), rfl, trivial, ⟨z_37, 1, fva_59, by rw [ht]; exact hP9, hD9⟩⟩, hS.F ht⟩) hS.2.2 dX4_load_125
        · have n_61 : k < lim P := b_le_f (by omega) (by omega) c_61
          refine lv_iconst (v := 0) hx hb dX4_load_64 (by decide) ?_
          refine lv_istore (lv' := [(4, .int 0), (0, .ref pl), (1, .ref h0), (2, .int (nI (lim P))), (3, .int (nI k))]) hx hb dX4_load_65 hl (by decide) rfl (fun ls hl => ?_)
          have LOOP67 : ∀ (n67 : Nat) (pe : Nat) (fva_67 : Nat → Int64), pe ≤ P → P - pe < n67 → ∀ (H : Heap) (locs : List Loc) (ls : Array Slot), va_P D vwCl [(pl, .inr (4, [.ref aq, .ref nx, .ref sn, .ref va, .long z_37, .int gs, .int gp, .int la, .int stp, .int rou])), (h0, .inr (ci, [.ref nq, .ref va, .int rk])), (nq, .inl (cs 0, 4, .inl fq)), (aq, .inr (5, [.ref aw, .ref ac, .ref ao, .ref am, .int (nI C), .int (nI P), .long tot])), (am, .inl (cs 1, 16, .inr (.inl fam))), (va, .inl (cs 1, 1024, .inr (.inl fva_67)))] H → va_D A [(pl, .inr (4, [.ref aq, .ref nx, .ref sn, .ref va, .long z_37, .int gs, .int gp, .int la, .int stp, .int rou])), (h0, .inr (ci, [.ref nq, .ref va, .int rk])), (nq, .inl (cs 0, 4, .inl fq)), (aq, .inr (5, [.ref aw, .ref ac, .ref ao, .ref am, .int (nI C), .int (nI P), .long tot])), (am, .inl (cs 1, 16, .inr (.inl fam))), (va, .inl (cs 1, 1024, .inr (.inl fva_67)))] → va_S A s.heap H locs → lv_has ls 5 [(0, .ref pl), (1, .ref h0), (2, .int (nI (lim P))), (3, .int (nI k)), (4, .int (nI pe))] → W p l e ({ frames := 3, cells := 0, slots := 0, locals := 86 } : Room) s m args below meth c H locs 0 0 Q (F0 m 67 ls []) := by
            intro n67
            induction n67 with
            | zero =>
              intro pe fva_67 hpe hn67 H locs ls hP hD hS hl
              exact absurd hn67 (Nat.not_lt_zero _)
            | succ n67 ih67 =>
              intro pe fva_67 hpe hn67 H locs ls hP hD hS hl
              refine lv_iload hx hb dX4_load_67 (lv_at hl 4 rfl) ?_
              refine lv_aload_n hx hb dX4_load_69 rfl (lv_at hl 0 rfl) ?_
              refine va_get (D := D) (ci := 4) (v := .ref aq) (C := RX4) (T := TX4) (N := 10) hx hb hg gwX4 hown hK hP 0 rfl rfl 0 (by decide) (hg _ kw_188) (fun _ h9 => h9) rfl dX4_load_70 ?_
              refine va_get (D := D) (ci := 5) (v := .int (nI P)) (C := RX5) (T := TX5) (N := 7) hx hb hg gwX5 hown hK hP 3 rfl rfl 5 (by decide) (hg _ kw_140) (fun _ h9 => h9) rfl dX4_load_73 ?_
              refine lv_icmp_ge (tgt := 114) hx hb dX4_load_76 (by decide) (fun c_76 => ?_) (fun c_76 => ?_)
              · have n_76 : P ≤ pe := b_le_t (by omega) (by omega) c_76
                refine lv_iinc (v := (nI (k + 1))) (lv' := [(3, .int (nI (k + 1))), (0, .ref pl), (1, .ref h0), (2, .int (nI (lim P))), (4, .int (nI pe))]) hx hb dX4_load_114 hl (k := 3) rfl (nI_add k 1) (by decide) rfl (fun ls hl => ?_)
                refine lv_goto (tgt := 59) hx hb dX4_load_117 (by decide) ?_
                exact ih59 (k + 1) fva_67 (by omega) (by omega) _ _ ls hP hD hS (lv_sub hl [1, 2, 3, 0] rfl)
              · have n_76 : pe < P := b_le_f (by omega) (by omega) c_76
                refine lv_aload_n hx hb dX4_load_79 rfl (lv_at hl 0 rfl) ?_
                refine va_get (D := D) (ci := 4) (v := .ref va) (C := RX4) (T := TX4) (N := 10) hx hb hg gwX4 hown hK hP 0 rfl rfl 3 (by decide) (hg _ kw_187) (fun _ h9 => h9) rfl dX4_load_80 ?_
                refine lv_iload_n hx hb dX4_load_83 rfl (lv_at hl 3 rfl) ?_
                refine lv_iload hx hb dX4_load_84 (lv_at hl 4 rfl) ?_
                refine vp_callSi (W.runS (As := [.int (nI k), .int (nI pe)]) (rest := [.ref va]) ⟨hx, hb, hml, hown, hg⟩ (c_placeOf l k pe) (va_cwS 2 hg (gw_S kw_194 kw_195 kw_196 kw_193) rfl rfl rfl (by decide +kernel) ⟨(Nat.le_of_ble_eq_true rfl), (Nat.le_of_ble_eq_true rfl)⟩) pr_0 rfl rfl hl.1 rfl (lv_room (Nat.le_of_ble_eq_true rfl)) dX4_load_86 ⟨(Nat.le_of_ble_eq_true rfl), (Nat.le_of_ble_eq_true rfl)⟩) (fun r_86 h_86 => ?_)
                obtain rfl : r_86 = nI (k * 4 + pe) := h_86
                refine lv_aload_n hx hb dX4_load_89 rfl (lv_at hl 1 rfl) ?_
                refine lv_aload_n hx hb dX4_load_90 rfl (lv_at hl 0 rfl) ?_
                refine va_get (D := D) (ci := 4) (v := .ref aq) (C := RX4) (T := TX4) (N := 10) hx hb hg gwX4 hown hK hP 0 rfl rfl 0 (by decide) (hg _ kw_188) (fun _ h9 => h9) rfl dX4_load_91 ?_
                refine lv_aload_n hx hb dX4_load_94 rfl (lv_at hl 0 rfl) ?_
                refine va_get (D := D) (ci := 4) (v := .ref aq) (C := RX4) (T := TX4) (N := 10) hx hb hg gwX4 hown hK hP 0 rfl rfl 0 (by decide) (hg _ kw_188) (fun _ h9 => h9) rfl dX4_load_95 ?_
                refine va_get (D := D) (ci := 5) (v := .ref am) (C := RX5) (T := TX5) (N := 7) hx hb hg gwX5 hown hK hP 3 rfl rfl 3 (by decide) (hg _ kw_197) (fun _ h9 => h9) rfl dX4_load_98 ?_
                refine lv_iload_n hx hb dX4_load_101 rfl (lv_at hl 3 rfl) ?_
                refine lv_iload hx hb dX4_load_102 (lv_at hl 4 rfl) ?_
                have hPc := hP.sub (ws' := [(h0, .inr (ci, [.ref nq, .ref va, .int rk])), (nq, .inl (cs 0, 4, .inl fq)), (aq, .inr (5, [.ref aw, .ref ac, .ref ao, .ref am, .int (nI C), .int (nI P), .long tot])), (am, .inl (cs 1, 16, .inr (.inl fam)))]) [1, 2, 3, 4] rfl
                refine vp_callSl (W.runS (As := [.ref h0, .ref aq, .ref am, .int (nI k), .int (nI pe)]) (rest := [.int (nI (k * 4 + pe)), .ref va]) ⟨hx, hb, hml, hown, hg⟩ (y_average l D cs h0 nq (.ref va) rk ci hci fq aq aw ac ao am C (by omega) P (by omega) tot am fam (nI k) (nI pe)) (va_cwS 5 hg (gw_S kw_199 kw_200 kw_196 kw_198) rfl rfl rfl (by decide +kernel) ⟨(Nat.le_of_ble_eq_true rfl), (Nat.le_of_ble_eq_true rfl)⟩) (pr_SS hK hPc) rfl rfl hl.1 rfl (lv_room (Nat.le_of_ble_eq_true rfl)) dX4_load_104 ⟨(Nat.le_of_ble_eq_true rfl), (Nat.le_of_ble_eq_true rfl)⟩) (fun r_104 h_104 => ?_)
                clear h_104
                refine va_last hx hb hK hP hD hS 5 1 rfl rfl (vp_in_nI (show k * 4 + pe < 1024 by omega) (by decide)) dX4_load_107 (fun H locs hP hD hS => ?_)
                obtain ⟨f_107, hf_107⟩ : ∃ f9, f9 = (vp_updL fva_67 (nI (k * 4 + pe)).toNatClampNeg r_104) := ⟨_, rfl⟩
                rw [← hf_107] at hP hD
                have hP : va_P D vwCl [(pl, .inr (4, [.ref aq, .ref nx, .ref sn, .ref va, .long z_37, .int gs, .int gp, .int la, .int stp, .int rou])), (h0, .inr (ci, [.ref nq, .ref va, .int rk])), (nq, .inl (cs 0, 4, .inl fq)), (aq, .inr (5, [.ref aw, .ref ac, .ref ao, .ref am, .int (nI C), .int (nI P), .long tot])), (am, .inl (cs 1, 16, .inr (.inl fam))), (va, .inl (cs 1, 1024, .inr (.inl f_107)))] H := hP
                have hD : va_D A [(pl, .inr (4, [.ref aq, .ref nx, .ref sn, .ref va, .long z_37, .int gs, .int gp, .int la, .int stp, .int rou])), (h0, .inr (ci, [.ref nq, .ref va, .int rk])), (nq, .inl (cs 0, 4, .inl fq)), (aq, .inr (5, [.ref aw, .ref ac, .ref ao, .ref am, .int (nI C), .int (nI P), .long tot])), (am, .inl (cs 1, 16, .inr (.inl fam))), (va, .inl (cs 1, 1024, .inr (.inl f_107)))] := hD
                refine lv_iinc (v := (nI (pe + 1))) (lv' := [(4, .int (nI (pe + 1))), (0, .ref pl), (1, .ref h0), (2, .int (nI (lim P))), (3, .int (nI k))]) hx hb dX4_load_108 hl (k := 4) rfl (nI_add pe 1) (by decide) rfl (fun ls hl => ?_)
                refine lv_goto (tgt := 67) hx hb dX4_load_111 (by decide) ?_
                exact ih67 (pe + 1) f_107 (by omega) (by omega) _ _ ls hP hD hS (lv_sub hl [1, 2, 3, 4, 0] rfl)
          exact LOOP67 (P - 0 + 1) 0 fva_59 (by omega) (Nat.lt_succ_self _) _ _ ls hP hD hS (lv_sub hl [1, 2, 3, 4, 0] rfl)
    exact LOOP59 (lim P - 0 + 1) 0 fva (by omega) (Nat.lt_succ_self _) _ _ ls hP hD hS (lv_sub hl [2, 3, 1, 0] rfl)
  · refine W_sQ hQ ?_
    refine W.widen (k := 0) (n := 0) (Nat.le_of_ble_eq_true rfl) (Nat.le_of_ble_eq_true rfl) ?_
    have hP9 := hP.sub (ws' := [(pl, .inr (4, [.ref aq, .ref nx, .ref sn, .ref va, .long z_37, .int gs, .int gp, .int la, .int stp, .int rou])), (h0, .inr (ci, [.ref nq, .ref va, .int rk])), (nq, .inl (cs 0, 4, .inl fq)), (aq, .inr (5, [.ref aw, .ref ac, .ref ao, .ref am, .int (nI C), .int (nI P), .long tot])), (am, .inl (cs 1, 16, .inr (.inl fam))), (va, .inl (cs 1, 1024, .inr (.inl fva)))]) [0, 1, 2, 3, 4, 5] rfl
    have hD9 := hD.sub (ws' := [(pl, .inr (4, [.ref aq, .ref nx, .ref sn, .ref va, .long z_37, .int gs, .int gp, .int la, .int stp, .int rou])), (h0, .inr (ci, [.ref nq, .ref va, .int rk])), (nq, .inl (cs 0, 4, .inl fq)), (aq, .inr (5, [.ref aw, .ref ac, .ref ao, .ref am, .int (nI C), .int (nI P), .long tot])), (am, .inl (cs 1, 16, .inr (.inl fam))), (va, .inl (cs 1, 1024, .inr (.inl fva)))]) [0, 1, 2, 3, 4, 5] (by decide) rfl
    exact W.vret hx hb hr (fun t ht hW => ⟨⟨(), rfl, trivial, ⟨z_37, rk, fva, by rw [ht]; exact hP9, hD9⟩⟩, hS.F ht⟩) hS.2.2 dX4_load_48

theorem dX4_above_0 : decode cX4_above 0 = .ok (.aload_n 0, 1) := by decide +kernel
theorem dX4_above_1 : decode cX4_above 1 = .ok (.getfield 18, 3) := by decide +kernel
theorem dX4_above_4 : decode cX4_above 4 = .ok (.iload_n 1, 1) := by decide +kernel
theorem dX4_above_5 : decode cX4_above 5 = .ok (.iload_n 2, 1) := by decide +kernel
theorem dX4_above_6 : decode cX4_above 6 = .ok (.invokestatic 53, 3) := by decide +kernel
theorem dX4_above_9 : decode cX4_above 9 = .ok (.laload, 1) := by decide +kernel
theorem dX4_above_10 : decode cX4_above 10 = .ok (.lstore_n 3, 1) := by decide +kernel
theorem dX4_above_11 : decode cX4_above 11 = .ok (.iload_n 1, 1) := by decide +kernel
theorem dX4_above_12 : decode cX4_above 12 = .ok (.iconst 2, 1) := by decide +kernel
theorem dX4_above_13 : decode cX4_above 13 = .ok (.iload_n 2, 1) := by decide +kernel
theorem dX4_above_14 : decode cX4_above 14 = .ok (.imul, 1) := by decide +kernel
theorem dX4_above_15 : decode cX4_above 15 = .ok (.iconst 1, 1) := by decide +kernel
theorem dX4_above_16 : decode cX4_above 16 = .ok (.iadd, 1) := by decide +kernel
theorem dX4_above_17 : decode cX4_above 17 = .ok (.ishr, 1) := by decide +kernel
theorem dX4_above_18 : decode cX4_above 18 = .ok (.iconst 1, 1) := by decide +kernel
theorem dX4_above_19 : decode cX4_above 19 = .ok (.iand, 1) := by decide +kernel
theorem dX4_above_20 : decode cX4_above 20 = .ok (.ifCond .ne 7, 3) := by decide +kernel
theorem dX4_above_23 : decode cX4_above 23 = .ok (.iconst 1, 1) := by decide +kernel
theorem dX4_above_24 : decode cX4_above 24 = .ok (.goto 4, 3) := by decide +kernel
theorem dX4_above_27 : decode cX4_above 27 = .ok (.iconst 0, 1) := by decide +kernel
theorem dX4_above_28 : decode cX4_above 28 = .ok (.istore 5, 2) := by decide +kernel
theorem dX4_above_30 : decode cX4_above 30 = .ok (.iload 5, 2) := by decide +kernel
theorem dX4_above_32 : decode cX4_above 32 = .ok (.ifCond .eq 23, 3) := by decide +kernel
theorem dX4_above_35 : decode cX4_above 35 = .ok (.lload_n 3, 1) := by decide +kernel
theorem dX4_above_36 : decode cX4_above 36 = .ok (.aload_n 0, 1) := by decide +kernel
theorem dX4_above_37 : decode cX4_above 37 = .ok (.getfield 22, 3) := by decide +kernel
theorem dX4_above_40 : decode cX4_above 40 = .ok (.getfield 81, 3) := by decide +kernel
theorem dX4_above_43 : decode cX4_above 43 = .ok (.iload_n 2, 1) := by decide +kernel
theorem dX4_above_44 : decode cX4_above 44 = .ok (.iaload, 1) := by decide +kernel
theorem dX4_above_45 : decode cX4_above 45 = .ok (.i2l, 1) := by decide +kernel
theorem dX4_above_46 : decode cX4_above 46 = .ok (.aload_n 0, 1) := by decide +kernel
theorem dX4_above_47 : decode cX4_above 47 = .ok (.getfield 39, 3) := by decide +kernel
theorem dX4_above_50 : decode cX4_above 50 = .ok (.lmul, 1) := by decide +kernel
theorem dX4_above_51 : decode cX4_above 51 = .ok (.lsub, 1) := by decide +kernel
theorem dX4_above_52 : decode cX4_above 52 = .ok (.goto 4, 3) := by decide +kernel
theorem dX4_above_55 : decode cX4_above 55 = .ok (.lload_n 3, 1) := by decide +kernel
theorem dX4_above_56 : decode cX4_above 56 = .ok (.lreturn, 1) := by decide +kernel
theorem kw_201 : (.fieldLink RX4 81 "NobodyChecks$Question" "costs" "[I" : Cond) ∈ gw_tbl := gw_in (by decide +kernel) (by decide +kernel)

set_option maxHeartbeats 4000000 in
set_option maxRecDepth 100000 in
theorem y_above (l : Launch) (D : va_G) (cs : Nat → ClassId) (pl : Nat) (nx : Nat) (sn : Nat) (bel : Int64) (gs : Int32) (gp : Int32) (la : Int32) (stp : Int32) (rou : Int32) (va : Nat) (fva : Nat → Int64) (aq : Nat) (aw : Nat) (ac : Nat) (ao : Nat) (am : Nat) (C : Nat) (hC5 : C ≤ 5) (P : Nat) (hP4 : P ≤ 4) (tot : Int64) (fao : Nat → Int32) (a_ : Nat) (ha_ : a_ < 256) (pe : Nat) (hpe : pe < 4) : Met l yX4_above (Cond.code yX4_above cX4_above 6 (some .long) :: gw_tbl) ({ frames := 1, cells := 0, slots := 0, locals := 21 }) (pc_S D cs [(pl, .inr (4, [.ref aq, .ref nx, .ref sn, .ref va, .long bel, .int gs, .int gp, .int la, .int stp, .int rou])), (va, .inl (cs 1, 1024, .inr (.inl fva))), (aq, .inr (5, [.ref aw, .ref ac, .ref ao, .ref am, .int (nI C), .int (nI P), .long tot])), (ao, .inl (cs 0, 4, .inl fao))] [.ref pl, .int (nI a_), .int (nI pe)]) (vp_Sl (fun r => True)) 0 0 (fun _ => False) := by
  refine Met.ofW (cc := cX4_above) (maxL := 6) (ret := (some .long)) (by decide) rfl ?_
  intro p e s m args below meth c s₁ B hml hv
  obtain ⟨hargs, hP, hK⟩ := hv
  have hx := B.exec
  have hb := B.bytes
  have hr := B.returns
  have hts := atoms_spec (ws := Cond.code yX4_above cX4_above 6 (some .long) :: gw_tbl) B.pre
  have hg := fun (w : Cond) (h : w ∈ gw_tbl) => hts w (List.mem_cons_of_mem _ h)
  have hown : s.vm.findClass RX4 = some m.cls := findClass_of_methodNamed B.named
  have hlocks := B.notSynchronized
  have hl := lv_entry ([.ref pl, .int (nI a_), .int (nI pe)]) (n := 6) (Nat.le_of_ble_eq_true rfl)
  rw [show entryFrame m args 6 = F0 m 0 (lg_sl ([.ref pl, .int (nI a_), .int (nI pe)]) ++ List.replicate (6 - (lg_sl ([.ref pl, .int (nI a_), .int (nI pe)])).length) Slot.unset).toArray [] from by rw [hargs]; exact lg_entry_eq ..]
  generalize (lg_sl ([.ref pl, .int (nI a_), .int (nI pe)]) ++ List.replicate (6 - (lg_sl ([.ref pl, .int (nI a_), .int (nI pe)])).length) Slot.unset).toArray = ls at hl ⊢
  have hl : lv_has ls 6 [(0, .ref pl), (1, .int (nI a_)), (2, .int (nI pe))] := hl
  refine W_genQ (fun Q hQ => ?_)
  have hlm := lim_le hP4
  have hlq := lim_pos P
  have hsg := sgn_le hP4
  refine lv_aload_n hx hb dX4_above_0 rfl (lv_at hl 0 rfl) ?_
  refine va_get (D := D) (ci := 4) (v := .ref va) (C := RX4) (T := TX4) (N := 10) hx hb hg gwX4 hown hK hP 0 rfl rfl 3 (by decide) (hg _ kw_187) (fun _ h9 => h9) rfl dX4_above_1 ?_
  refine lv_iload_n hx hb dX4_above_4 rfl (lv_at hl 1 rfl) ?_
  refine lv_iload_n hx hb dX4_above_5 rfl (lv_at hl 2 rfl) ?_
  refine vp_callSi (W.runS (As := [.int (nI a_), .int (nI pe)]) (rest := [.ref va]) ⟨hx, hb, hml, hown, hg⟩ (c_placeOf l a_ pe) (va_cwS 2 hg (gw_S kw_194 kw_195 kw_196 kw_193) rfl rfl rfl (by decide +kernel) ⟨(Nat.le_of_ble_eq_true rfl), (Nat.le_of_ble_eq_true rfl)⟩) pr_0 rfl rfl hl.1 rfl (lv_room (Nat.le_of_ble_eq_true rfl)) dX4_above_6 ⟨(Nat.le_of_ble_eq_true rfl), (Nat.le_of_ble_eq_true rfl)⟩) (fun r_6 h_6 => ?_)
  obtain rfl : r_6 = nI (a_ * 4 + pe) := h_6
  refine va_lald hx hb hK hP 1 1 rfl rfl (vp_in_nI (show a_ * 4 + pe < 1024 by omega) (by decide)) dX4_above_9 ?_
  refine lv_topl (fun z_9 e_9 => ?_)
  refine lv_lstore_n (lv' := [(3, .long z_9), (0, .ref pl), (1, .int (nI a_)), (2, .int (nI pe))]) hx hb dX4_above_10 rfl hl (by decide) rfl (fun ls hl => ?_)
  refine lv_iload_n hx hb dX4_above_11 rfl (lv_at hl 2 rfl) ?_
  refine lv_iconst (v := 2) hx hb dX4_above_12 (by decide) ?_
  refine lv_iload_n hx hb dX4_above_13 rfl (lv_at hl 3 rfl) ?_
  refine lv_imul hx hb dX4_above_14 ?_
  refine lv_topi (fun z_14 e_14 => ?_)
  obtain rfl : z_14 = nI (2 * pe) := e_14.trans (pk_mul _ _)
  refine lv_iconst (v := 1) hx hb dX4_above_15 (by decide) ?_
  refine lv_iadd hx hb dX4_above_16 ?_
  refine lv_topi (fun z_16 e_16 => ?_)
  obtain rfl : z_16 = nI (2 * pe + 1) := e_16.trans (nI_add _ _)
  refine lv_ishr hx hb dX4_above_17 ?_
  refine lv_topi (fun z_17 e_17 => ?_)
  refine lv_iconst (v := 1) hx hb dX4_above_18 (by decide) ?_
  refine lv_iand hx hb dX4_above_19 ?_
  refine lv_topi (fun z_19 e_19 => ?_)
  obtain ⟨j_19, hj_19, ee_19⟩ := pk_andE z_17 (m := 1) 1 rfl
  obtain rfl : z_19 = nI j_19 := e_19.trans ee_19
  have hj_19 : j_19 < 2 := hj_19
  refine lv_if_ne (tgt := 27) hx hb dX4_above_20 (by decide) (fun c_20 => ?_) (fun c_20 => ?_)
  · have n_20 : ¬ j_19 = 0 := b_eq_f (by omega) (by omega) c_20
    refine lv_iconst (v := 0) hx hb dX4_above_27 (by decide) ?_
    refine lv_istore (lv' := [(5, .int 0), (3, .long z_9), (0, .ref pl), (1, .int (nI a_)), (2, .int (nI pe))]) hx hb dX4_above_28 hl (by decide) rfl (fun ls hl => ?_)
    refine lv_iload hx hb dX4_above_30 (lv_at hl 0 rfl) ?_
    refine lv_if_eq (tgt := 55) hx hb dX4_above_32 (by decide) (fun c_32 => ?_) (fun c_32 => absurd c_32 (by decide))
    refine lv_lload_n hx hb dX4_above_55 rfl (lv_at hl 1 rfl) ?_
    refine W_sQ hQ ?_
    exact W.lret (v := z_9) hx hb hr (fun t ht hW => ⟨z_9, rfl, trivial, ht⟩) (fun _ h => absurd h List.not_mem_nil) dX4_above_56
  · have n_20 : j_19 = 0 := b_eq_t (by omega) (by omega) c_20
    refine lv_iconst (v := 1) hx hb dX4_above_23 (by decide) ?_
    refine lv_goto (tgt := 28) hx hb dX4_above_24 (by decide) ?_
    refine lv_istore (lv' := [(5, .int 1), (3, .long z_9), (0, .ref pl), (1, .int (nI a_)), (2, .int (nI pe))]) hx hb dX4_above_28 hl (by decide) rfl (fun ls hl => ?_)
    refine lv_iload hx hb dX4_above_30 (lv_at hl 0 rfl) ?_
    refine lv_if_eq (tgt := 55) hx hb dX4_above_32 (by decide) (fun c_32 => absurd c_32 (by decide)) (fun c_32 => ?_)
    refine lv_lload_n hx hb dX4_above_35 rfl (lv_at hl 1 rfl) ?_
    refine lv_aload_n hx hb dX4_above_36 rfl (lv_at hl 2 rfl) ?_
    refine va_get (D := D) (ci := 4) (v := .ref aq) (C := RX4) (T := TX4) (N := 10) hx hb hg gwX4 hown hK hP 0 rfl rfl 0 (by decide) (hg _ kw_188) (fun _ h9 => h9) rfl dX4_above_37 ?_
    refine va_get (D := D) (ci := 5) (v := .ref ao) (C := RX5) (T := TX5) (N := 7) hx hb hg gwX5 hown hK hP 2 rfl rfl 2 (by decide) (hg _ kw_201) (fun _ h9 => h9) rfl dX4_above_40 ?_
    refine lv_iload_n hx hb dX4_above_43 rfl (lv_at hl 4 rfl) ?_
    refine va_iald hx hb hK hP 3 0 rfl rfl (vp_in_nI (show pe < 4 by omega) (by decide)) dX4_above_44 ?_
    refine lv_topi (fun z_44 e_44 => ?_)
    refine lv_i2l hx hb dX4_above_45 rfl ?_
    refine lv_topl (fun z_45 e_45 => ?_)
    refine lv_aload_n hx hb dX4_above_46 rfl (lv_at hl 2 rfl) ?_
    refine va_get (D := D) (ci := 4) (v := .long bel) (C := RX4) (T := TX4) (N := 10) hx hb hg gwX4 hown hK hP 0 rfl rfl 4 (by decide) (hg _ kw_190) (fun _ h9 => h9) rfl dX4_above_47 ?_
    refine lv_lmul hx hb dX4_above_50 ?_
    refine lv_topl (fun z_50 e_50 => ?_)
    refine lv_lsub hx hb dX4_above_51 ?_
    refine lv_topl (fun z_51 e_51 => ?_)
    refine lv_goto (tgt := 56) hx hb dX4_above_52 (by decide) ?_
    refine W_sQ hQ ?_
    exact W.lret (v := z_51) hx hb hr (fun t ht hW => ⟨z_51, rfl, trivial, ht⟩) (fun _ h => absurd h List.not_mem_nil) dX4_above_56

theorem dX4_bestWay_0 : decode cX4_bestWay 0 = .ok (.iconst 0, 1) := by decide +kernel
theorem dX4_bestWay_1 : decode cX4_bestWay 1 = .ok (.istore_n 3, 1) := by decide +kernel
theorem dX4_bestWay_2 : decode cX4_bestWay 2 = .ok (.aload_n 0, 1) := by decide +kernel
theorem dX4_bestWay_3 : decode cX4_bestWay 3 = .ok (.iload_n 1, 1) := by decide +kernel
theorem dX4_bestWay_4 : decode cX4_bestWay 4 = .ok (.iload_n 2, 1) := by decide +kernel
theorem dX4_bestWay_5 : decode cX4_bestWay 5 = .ok (.iconst 0, 1) := by decide +kernel
theorem dX4_bestWay_6 : decode cX4_bestWay 6 = .ok (.invokestatic 84, 3) := by decide +kernel
theorem dX4_bestWay_9 : decode cX4_bestWay 9 = .ok (.iload_n 2, 1) := by decide +kernel
theorem dX4_bestWay_10 : decode cX4_bestWay 10 = .ok (.invokevirtual 87, 3) := by decide +kernel
theorem dX4_bestWay_13 : decode cX4_bestWay 13 = .ok (.lstore 4, 2) := by decide +kernel
theorem dX4_bestWay_15 : decode cX4_bestWay 15 = .ok (.iconst 1, 1) := by decide +kernel
theorem dX4_bestWay_16 : decode cX4_bestWay 16 = .ok (.istore 6, 2) := by decide +kernel
theorem dX4_bestWay_18 : decode cX4_bestWay 18 = .ok (.iload 6, 2) := by decide +kernel
theorem dX4_bestWay_20 : decode cX4_bestWay 20 = .ok (.iconst 4, 1) := by decide +kernel
theorem dX4_bestWay_21 : decode cX4_bestWay 21 = .ok (.if_icmp .ge 38, 3) := by decide +kernel
theorem dX4_bestWay_24 : decode cX4_bestWay 24 = .ok (.aload_n 0, 1) := by decide +kernel
theorem dX4_bestWay_25 : decode cX4_bestWay 25 = .ok (.iload_n 1, 1) := by decide +kernel
theorem dX4_bestWay_26 : decode cX4_bestWay 26 = .ok (.iload_n 2, 1) := by decide +kernel
theorem dX4_bestWay_27 : decode cX4_bestWay 27 = .ok (.iload 6, 2) := by decide +kernel
theorem dX4_bestWay_29 : decode cX4_bestWay 29 = .ok (.invokestatic 84, 3) := by decide +kernel
theorem dX4_bestWay_32 : decode cX4_bestWay 32 = .ok (.iload_n 2, 1) := by decide +kernel
theorem dX4_bestWay_33 : decode cX4_bestWay 33 = .ok (.invokevirtual 87, 3) := by decide +kernel
theorem dX4_bestWay_36 : decode cX4_bestWay 36 = .ok (.lstore 7, 2) := by decide +kernel
theorem dX4_bestWay_38 : decode cX4_bestWay 38 = .ok (.lload 7, 2) := by decide +kernel
theorem dX4_bestWay_40 : decode cX4_bestWay 40 = .ok (.lload 4, 2) := by decide +kernel
theorem dX4_bestWay_42 : decode cX4_bestWay 42 = .ok (.lcmp, 1) := by decide +kernel
theorem dX4_bestWay_43 : decode cX4_bestWay 43 = .ok (.ifCond .le 10, 3) := by decide +kernel
theorem dX4_bestWay_46 : decode cX4_bestWay 46 = .ok (.lload 7, 2) := by decide +kernel
theorem dX4_bestWay_48 : decode cX4_bestWay 48 = .ok (.lstore 4, 2) := by decide +kernel
theorem dX4_bestWay_50 : decode cX4_bestWay 50 = .ok (.iload 6, 2) := by decide +kernel
theorem dX4_bestWay_52 : decode cX4_bestWay 52 = .ok (.istore_n 3, 1) := by decide +kernel
theorem dX4_bestWay_53 : decode cX4_bestWay 53 = .ok (.iinc 6 1, 3) := by decide +kernel
theorem dX4_bestWay_56 : decode cX4_bestWay 56 = .ok (.goto (-38), 3) := by decide +kernel
theorem dX4_bestWay_59 : decode cX4_bestWay 59 = .ok (.iload_n 3, 1) := by decide +kernel
theorem dX4_bestWay_60 : decode cX4_bestWay 60 = .ok (.ireturn, 1) := by decide +kernel
theorem kw_202 : (.code yX4_withWay cX4_withWay 3 (some .int) : Cond) ∈ gw_tbl := gw_in (by decide +kernel) (by decide +kernel)
theorem kw_203 : (.methodLink RX4 84 yX4_withWay : Cond) ∈ gw_tbl := gw_in (by decide +kernel) (by decide +kernel)
theorem kw_204 : (.static yX4_withWay : Cond) ∈ gw_tbl := gw_in (by decide +kernel) (by decide +kernel)
theorem kw_205 : (.code yX4_above cX4_above 6 (some .long) : Cond) ∈ gw_tbl := gw_in (by decide +kernel) (by decide +kernel)
theorem kw_206 : (.methodLink RX4 87 yX4_above : Cond) ∈ gw_tbl := gw_in (by decide +kernel) (by decide +kernel)
theorem kw_207 : (.instanceMethod yX4_above : Cond) ∈ gw_tbl := gw_in (by decide +kernel) (by decide +kernel)
theorem kw_208 : (.selects RX4 yX4_above yX4_above : Cond) ∈ gw_tbl := gw_in (by decide +kernel) (by decide +kernel)

set_option maxHeartbeats 4000000 in
set_option maxRecDepth 100000 in
theorem y_bestWay (l : Launch) (D : va_G) (cs : Nat → ClassId) (pl : Nat) (nx : Nat) (sn : Nat) (bel : Int64) (gs : Int32) (gp : Int32) (la : Int32) (stp : Int32) (rou : Int32) (va : Nat) (fva : Nat → Int64) (aq : Nat) (aw : Nat) (ac : Nat) (ao : Nat) (am : Nat) (C : Nat) (hC5 : C ≤ 5) (P : Nat) (hP4 : P ≤ 4) (tot : Int64) (fao : Nat → Int32) (a_ : Nat) (ha_ : a_ < lim P) (pe : Nat) (hpe : pe < P) : Met l yX4_bestWay (Cond.code yX4_bestWay cX4_bestWay 9 (some .int) :: gw_tbl) ({ frames := 2, cells := 0, slots := 0, locals := 46 }) (pc_S D cs [(pl, .inr (4, [.ref aq, .ref nx, .ref sn, .ref va, .long bel, .int gs, .int gp, .int la, .int stp, .int rou])), (va, .inl (cs 1, 1024, .inr (.inl fva))), (aq, .inr (5, [.ref aw, .ref ac, .ref ao, .ref am, .int (nI C), .int (nI P), .long tot])), (ao, .inl (cs 0, 4, .inl fao))] [.ref pl, .int (nI a_), .int (nI pe)]) (vp_Si (fun r => ∃ k : Nat, r = nI k ∧ k < 4)) 0 0 (fun _ => False) := by
  refine Met.ofW (cc := cX4_bestWay) (maxL := 9) (ret := (some .int)) (by decide) rfl ?_
  intro p e s m args below meth c s₁ B hml hv
  obtain ⟨hargs, hP, hK⟩ := hv
  have hx := B.exec
  have hb := B.bytes
  have hr := B.returns
  have hts := atoms_spec (ws := Cond.code yX4_bestWay cX4_bestWay 9 (some .int) :: gw_tbl) B.pre
  have hg := fun (w : Cond) (h : w ∈ gw_tbl) => hts w (List.mem_cons_of_mem _ h)
  have hown : s.vm.findClass RX4 = some m.cls := findClass_of_methodNamed B.named
  have hlocks := B.notSynchronized
  have hl := lv_entry ([.ref pl, .int (nI a_), .int (nI pe)]) (n := 9) (Nat.le_of_ble_eq_true rfl)
  rw [show entryFrame m args 9 = F0 m 0 (lg_sl ([.ref pl, .int (nI a_), .int (nI pe)]) ++ List.replicate (9 - (lg_sl ([.ref pl, .int (nI a_), .int (nI pe)])).length) Slot.unset).toArray [] from by rw [hargs]; exact lg_entry_eq ..]
  generalize (lg_sl ([.ref pl, .int (nI a_), .int (nI pe)]) ++ List.replicate (9 - (lg_sl ([.ref pl, .int (nI a_), .int (nI pe)])).length) Slot.unset).toArray = ls at hl ⊢
  have hl : lv_has ls 9 [(0, .ref pl), (1, .int (nI a_)), (2, .int (nI pe))] := hl
  refine W_genQ (fun Q hQ => ?_)
  have hlm := lim_le hP4
  have hlq := lim_pos P
  have hsg := sgn_le hP4
  refine lv_iconst (v := 0) hx hb dX4_bestWay_0 (by decide) ?_
  refine lv_istore_n (lv' := [(3, .int 0), (0, .ref pl), (1, .int (nI a_)), (2, .int (nI pe))]) hx hb dX4_bestWay_1 rfl hl (by decide) rfl (fun ls hl => ?_)
  refine lv_aload_n hx hb dX4_bestWay_2 rfl (lv_at hl 1 rfl) ?_
  refine lv_iload_n hx hb dX4_bestWay_3 rfl (lv_at hl 2 rfl) ?_
  refine lv_iload_n hx hb dX4_bestWay_4 rfl (lv_at hl 3 rfl) ?_
  refine lv_iconst (v := 0) hx hb dX4_bestWay_5 (by decide) ?_
  refine vp_callSi (W.runS (As := [.int (nI a_), .int (nI pe), .int 0]) (rest := [.ref pl]) ⟨hx, hb, hml, hown, hg⟩ (c_withWay l a_ pe 0 P (by omega) (by omega) (by omega) (by omega)) (va_cwS 3 hg (gw_S kw_203 kw_204 kw_196 kw_202) rfl rfl rfl (by decide +kernel) ⟨(Nat.le_of_ble_eq_true rfl), (Nat.le_of_ble_eq_true rfl)⟩) pr_0 rfl rfl hl.1 rfl (lv_room (Nat.le_of_ble_eq_true rfl)) dX4_bestWay_6 ⟨(Nat.le_of_ble_eq_true rfl), (Nat.le_of_ble_eq_true rfl)⟩) (fun r_6 h_6 => ?_)
  obtain ⟨k_6, rfl, hk_6⟩ := h_6
  refine lv_iload_n hx hb dX4_bestWay_9 rfl (lv_at hl 3 rfl) ?_
  have hPc := hP.sub (ws' := [(pl, .inr (4, [.ref aq, .ref nx, .ref sn, .ref va, .long bel, .int gs, .int gp, .int la, .int stp, .int rou])), (va, .inl (cs 1, 1024, .inr (.inl fva))), (aq, .inr (5, [.ref aw, .ref ac, .ref ao, .ref am, .int (nI C), .int (nI P), .long tot])), (ao, .inl (cs 0, 4, .inl fao))]) [0, 1, 2, 3] rfl
  refine vp_callSl (W.runV (As := [.int (nI k_6), .int (nI pe)]) (rest := []) ⟨hx, hb, hml, hown, hg⟩ (y_above l D cs pl nx sn bel gs gp la stp rou va fva aq aw ac ao am C (by omega) P (by omega) tot fao k_6 (by omega) pe (by omega)) (cwV 2 hg (gw_V kw_206 kw_207 kw_208 kw_196 kw_205) rfl rfl rfl (by decide +kernel) ⟨(Nat.le_of_ble_eq_true rfl), (Nat.le_of_ble_eq_true rfl)⟩) (pr_SV (q := (RX4, TX4, 10)) 4 0 hK hPc rfl rfl) rfl rfl hl.1 rfl (lv_room (Nat.le_of_ble_eq_true rfl)) dX4_bestWay_10 ⟨(Nat.le_of_ble_eq_true rfl), (Nat.le_of_ble_eq_true rfl)⟩) (fun r_10 h_10 => ?_)
  clear h_10
  refine lv_lstore (lv' := [(4, .long r_10), (3, .int 0), (0, .ref pl), (1, .int (nI a_)), (2, .int (nI pe))]) hx hb dX4_bestWay_13 hl (by decide) rfl (fun ls hl => ?_)
  refine lv_iconst (v := 1) hx hb dX4_bestWay_15 (by decide) ?_
  refine lv_istore (lv' := [(6, .int 1), (4, .long r_10), (3, .int 0), (0, .ref pl), (1, .int (nI a_)), (2, .int (nI pe))]) hx hb dX4_bestWay_16 hl (by decide) rfl (fun ls hl => ?_)
  have LOOP18 : ∀ (n18 : Nat) (bw : Nat) (u4_18 : Int64) (wy : Nat), wy ≤ 4 → bw < 4 → 4 - wy < n18 → ∀ (ls : Array Slot), lv_has ls 9 [(0, .ref pl), (1, .int (nI a_)), (2, .int (nI pe)), (3, .int (nI bw)), (4, .long u4_18), (6, .int (nI wy))] → W p l e ({ frames := 2, cells := 0, slots := 0, locals := 46 } : Room) s m args below meth c s.heap [] 0 0 Q (F0 m 18 ls []) := by
    intro n18
    induction n18 with
    | zero =>
      intro bw u4_18 wy hwy hbw hn18 ls hl
      exact absurd hn18 (Nat.not_lt_zero _)
    | succ n18 ih18 =>
      intro bw u4_18 wy hwy hbw hn18 ls hl
      refine lv_iload hx hb dX4_bestWay_18 (lv_at hl 5 rfl) ?_
      refine lv_iconst (v := 4) hx hb dX4_bestWay_20 (by decide) ?_
      refine lv_icmp_ge (tgt := 59) hx hb dX4_bestWay_21 (by decide) (fun c_21 => ?_) (fun c_21 => ?_)
      · have n_21 : 4 ≤ wy := b_le_t (by omega) (by omega) c_21
        refine lv_iload_n hx hb dX4_bestWay_59 rfl (lv_at hl 3 rfl) ?_
        refine W_sQ hQ ?_
        exact W.iret (v := (nI bw)) hx hb hr (fun t ht hW => ⟨(nI bw), rfl, ⟨_, rfl, by omega⟩, ht⟩) (fun _ h => absurd h List.not_mem_nil) dX4_bestWay_60
      · have n_21 : wy < 4 := b_le_f (by omega) (by omega) c_21
        refine lv_aload_n hx hb dX4_bestWay_24 rfl (lv_at hl 0 rfl) ?_
        refine lv_iload_n hx hb dX4_bestWay_25 rfl (lv_at hl 1 rfl) ?_
        refine lv_iload_n hx hb dX4_bestWay_26 rfl (lv_at hl 2 rfl) ?_
        refine lv_iload hx hb dX4_bestWay_27 (lv_at hl 5 rfl) ?_
        refine vp_callSi (W.runS (As := [.int (nI a_), .int (nI pe), .int (nI wy)]) (rest := [.ref pl]) ⟨hx, hb, hml, hown, hg⟩ (c_withWay l a_ pe wy P (by omega) (by omega) (by omega) (by omega)) (va_cwS 3 hg (gw_S kw_203 kw_204 kw_196 kw_202) rfl rfl rfl (by decide +kernel) ⟨(Nat.le_of_ble_eq_true rfl), (Nat.le_of_ble_eq_true rfl)⟩) pr_0 rfl rfl hl.1 rfl (lv_room (Nat.le_of_ble_eq_true rfl)) dX4_bestWay_29 ⟨(Nat.le_of_ble_eq_true rfl), (Nat.le_of_ble_eq_true rfl)⟩) (fun r_29 h_29 => ?_)
        obtain ⟨k_29, rfl, hk_29⟩ := h_29
        refine lv_iload_n hx hb dX4_bestWay_32 rfl (lv_at hl 2 rfl) ?_
        have hPc := hP.sub (ws' := [(pl, .inr (4, [.ref aq, .ref nx, .ref sn, .ref va, .long bel, .int gs, .int gp, .int la, .int stp, .int rou])), (va, .inl (cs 1, 1024, .inr (.inl fva))), (aq, .inr (5, [.ref aw, .ref ac, .ref ao, .ref am, .int (nI C), .int (nI P), .long tot])), (ao, .inl (cs 0, 4, .inl fao))]) [0, 1, 2, 3] rfl
        refine vp_callSl (W.runV (As := [.int (nI k_29), .int (nI pe)]) (rest := []) ⟨hx, hb, hml, hown, hg⟩ (y_above l D cs pl nx sn bel gs gp la stp rou va fva aq aw ac ao am C (by omega) P (by omega) tot fao k_29 (by omega) pe (by omega)) (cwV 2 hg (gw_V kw_206 kw_207 kw_208 kw_196 kw_205) rfl rfl rfl (by decide +kernel) ⟨(Nat.le_of_ble_eq_true rfl), (Nat.le_of_ble_eq_true rfl)⟩) (pr_SV (q := (RX4, TX4, 10)) 4 0 hK hPc rfl rfl) rfl rfl hl.1 rfl (lv_room (Nat.le_of_ble_eq_true rfl)) dX4_bestWay_33 ⟨(Nat.le_of_ble_eq_true rfl), (Nat.le_of_ble_eq_true rfl)⟩) (fun r_33 h_33 => ?_)
        clear h_33
        refine lv_lstore (lv' := [(7, .long r_33), (0, .ref pl), (1, .int (nI a_)), (2, .int (nI pe)), (3, .int (nI bw)), (4, .long u4_18), (6, .int (nI wy))]) hx hb dX4_bestWay_36 hl (by decide) rfl (fun ls hl => ?_)
        refine lv_lload hx hb dX4_bestWay_38 (lv_at hl 0 rfl) ?_
        refine lv_lload hx hb dX4_bestWay_40 (lv_at hl 5 rfl) ?_
        refine W.lcmp hx hb dX4_bestWay_42 ?_
        refine lv_topi (fun z_42 e_42 => ?_)
        refine lv_if_le (tgt := 53) hx hb dX4_bestWay_43 (by decide) (fun c_43 => ?_) (fun c_43 => ?_)
        · refine lv_iinc (v := (nI (wy + 1))) (lv' := [(6, .int (nI (wy + 1))), (7, .long r_33), (0, .ref pl), (1, .int (nI a_)), (2, .int (nI pe)), (3, .int (nI bw)), (4, .long u4_18)]) hx hb dX4_bestWay_53 hl (k := 6) rfl (nI_add wy 1) (by decide) rfl (fun ls hl => ?_)
          refine lv_goto (tgt := 18) hx hb dX4_bestWay_56 (by decide) ?_
          exact ih18 bw u4_18 (wy + 1) (by omega) (by omega) (by omega) ls (lv_sub hl [2, 3, 4, 5, 6, 0] rfl)
        · refine lv_lload hx hb dX4_bestWay_46 (lv_at hl 0 rfl) ?_
          refine lv_lstore (lv' := [(4, .long r_33), (7, .long r_33), (0, .ref pl), (1, .int (nI a_)), (2, .int (nI pe)), (3, .int (nI bw)), (6, .int (nI wy))]) hx hb dX4_bestWay_48 hl (by decide) rfl (fun ls hl => ?_)
          refine lv_iload hx hb dX4_bestWay_50 (lv_at hl 6 rfl) ?_
          refine lv_istore_n (lv' := [(3, .int (nI wy)), (4, .long r_33), (7, .long r_33), (0, .ref pl), (1, .int (nI a_)), (2, .int (nI pe)), (6, .int (nI wy))]) hx hb dX4_bestWay_52 rfl hl (by decide) rfl (fun ls hl => ?_)
          refine lv_iinc (v := (nI (wy + 1))) (lv' := [(6, .int (nI (wy + 1))), (3, .int (nI wy)), (4, .long r_33), (7, .long r_33), (0, .ref pl), (1, .int (nI a_)), (2, .int (nI pe))]) hx hb dX4_bestWay_53 hl (k := 6) rfl (nI_add wy 1) (by decide) rfl (fun ls hl => ?_)
          refine lv_goto (tgt := 18) hx hb dX4_bestWay_56 (by decide) ?_
          exact ih18 wy r_33 (wy + 1) (by omega) (by omega) (by omega) ls (lv_sub hl [4, 5, 6, 1, 2, 0] rfl)
  exact LOOP18 (4 - 1 + 1) 0 r_10 1 (by omega) (by omega) (Nat.lt_succ_self _) ls (lv_sub hl [3, 4, 5, 2, 1, 0] rfl)

theorem dX4_gainAbove_0 : decode cX4_gainAbove 0 = .ok (.aload_n 0, 1) := by decide +kernel
theorem dX4_gainAbove_1 : decode cX4_gainAbove 1 = .ok (.iload_n 1, 1) := by decide +kernel
theorem dX4_gainAbove_2 : decode cX4_gainAbove 2 = .ok (.iload_n 2, 1) := by decide +kernel
theorem dX4_gainAbove_3 : decode cX4_gainAbove 3 = .ok (.invokevirtual 91, 3) := by decide +kernel
theorem dX4_gainAbove_6 : decode cX4_gainAbove 6 = .ok (.istore_n 3, 1) := by decide +kernel
theorem dX4_gainAbove_7 : decode cX4_gainAbove 7 = .ok (.aload_n 0, 1) := by decide +kernel
theorem dX4_gainAbove_8 : decode cX4_gainAbove 8 = .ok (.iload_n 1, 1) := by decide +kernel
theorem dX4_gainAbove_9 : decode cX4_gainAbove 9 = .ok (.iload_n 2, 1) := by decide +kernel
theorem dX4_gainAbove_10 : decode cX4_gainAbove 10 = .ok (.iload_n 3, 1) := by decide +kernel
theorem dX4_gainAbove_11 : decode cX4_gainAbove 11 = .ok (.invokestatic 84, 3) := by decide +kernel
theorem dX4_gainAbove_14 : decode cX4_gainAbove 14 = .ok (.iload_n 2, 1) := by decide +kernel
theorem dX4_gainAbove_15 : decode cX4_gainAbove 15 = .ok (.invokevirtual 87, 3) := by decide +kernel
theorem dX4_gainAbove_18 : decode cX4_gainAbove 18 = .ok (.aload_n 0, 1) := by decide +kernel
theorem dX4_gainAbove_19 : decode cX4_gainAbove 19 = .ok (.iload_n 1, 1) := by decide +kernel
theorem dX4_gainAbove_20 : decode cX4_gainAbove 20 = .ok (.iload_n 2, 1) := by decide +kernel
theorem dX4_gainAbove_21 : decode cX4_gainAbove 21 = .ok (.invokevirtual 87, 3) := by decide +kernel
theorem dX4_gainAbove_24 : decode cX4_gainAbove 24 = .ok (.lsub, 1) := by decide +kernel
theorem dX4_gainAbove_25 : decode cX4_gainAbove 25 = .ok (.lreturn, 1) := by decide +kernel
theorem kw_209 : (.code yX4_bestWay cX4_bestWay 9 (some .int) : Cond) ∈ gw_tbl := gw_in (by decide +kernel) (by decide +kernel)
theorem kw_210 : (.methodLink RX4 91 yX4_bestWay : Cond) ∈ gw_tbl := gw_in (by decide +kernel) (by decide +kernel)
theorem kw_211 : (.instanceMethod yX4_bestWay : Cond) ∈ gw_tbl := gw_in (by decide +kernel) (by decide +kernel)
theorem kw_212 : (.selects RX4 yX4_bestWay yX4_bestWay : Cond) ∈ gw_tbl := gw_in (by decide +kernel) (by decide +kernel)

set_option maxHeartbeats 4000000 in
set_option maxRecDepth 100000 in
theorem y_gainAbove (l : Launch) (D : va_G) (cs : Nat → ClassId) (pl : Nat) (nx : Nat) (sn : Nat) (bel : Int64) (gs : Int32) (gp : Int32) (la : Int32) (stp : Int32) (rou : Int32) (va : Nat) (fva : Nat → Int64) (aq : Nat) (aw : Nat) (ac : Nat) (ao : Nat) (am : Nat) (C : Nat) (hC5 : C ≤ 5) (P : Nat) (hP4 : P ≤ 4) (tot : Int64) (fao : Nat → Int32) (a_ : Nat) (ha_ : a_ < lim P) (pe : Nat) (hpe : pe < P) : Met l yX4_gainAbove (Cond.code yX4_gainAbove cX4_gainAbove 4 (some .long) :: gw_tbl) ({ frames := 3, cells := 0, slots := 0, locals := 74 }) (pc_S D cs [(pl, .inr (4, [.ref aq, .ref nx, .ref sn, .ref va, .long bel, .int gs, .int gp, .int la, .int stp, .int rou])), (va, .inl (cs 1, 1024, .inr (.inl fva))), (aq, .inr (5, [.ref aw, .ref ac, .ref ao, .ref am, .int (nI C), .int (nI P), .long tot])), (ao, .inl (cs 0, 4, .inl fao))] [.ref pl, .int (nI a_), .int (nI pe)]) (vp_Sl (fun r => True)) 0 0 (fun _ => False) := by
  refine Met.ofW (cc := cX4_gainAbove) (maxL := 4) (ret := (some .long)) (by decide) rfl ?_
  intro p e s m args below meth c s₁ B hml hv
  obtain ⟨hargs, hP, hK⟩ := hv
  have hx := B.exec
  have hb := B.bytes
  have hr := B.returns
  have hts := atoms_spec (ws := Cond.code yX4_gainAbove cX4_gainAbove 4 (some .long) :: gw_tbl) B.pre
  have hg := fun (w : Cond) (h : w ∈ gw_tbl) => hts w (List.mem_cons_of_mem _ h)
  have hown : s.vm.findClass RX4 = some m.cls := findClass_of_methodNamed B.named
  have hlocks := B.notSynchronized
  have hl := lv_entry ([.ref pl, .int (nI a_), .int (nI pe)]) (n := 4) (Nat.le_of_ble_eq_true rfl)
  rw [show entryFrame m args 4 = F0 m 0 (lg_sl ([.ref pl, .int (nI a_), .int (nI pe)]) ++ List.replicate (4 - (lg_sl ([.ref pl, .int (nI a_), .int (nI pe)])).length) Slot.unset).toArray [] from by rw [hargs]; exact lg_entry_eq ..]
  generalize (lg_sl ([.ref pl, .int (nI a_), .int (nI pe)]) ++ List.replicate (4 - (lg_sl ([.ref pl, .int (nI a_), .int (nI pe)])).length) Slot.unset).toArray = ls at hl ⊢
  have hl : lv_has ls 4 [(0, .ref pl), (1, .int (nI a_)), (2, .int (nI pe))] := hl
  refine W_genQ (fun Q hQ => ?_)
  have hlm := lim_le hP4
  have hlq := lim_pos P
  have hsg := sgn_le hP4
  refine lv_aload_n hx hb dX4_gainAbove_0 rfl (lv_at hl 0 rfl) ?_
  refine lv_iload_n hx hb dX4_gainAbove_1 rfl (lv_at hl 1 rfl) ?_
  refine lv_iload_n hx hb dX4_gainAbove_2 rfl (lv_at hl 2 rfl) ?_
  have hPc := hP.sub (ws' := [(pl, .inr (4, [.ref aq, .ref nx, .ref sn, .ref va, .long bel, .int gs, .int gp, .int la, .int stp, .int rou])), (va, .inl (cs 1, 1024, .inr (.inl fva))), (aq, .inr (5, [.ref aw, .ref ac, .ref ao, .ref am, .int (nI C), .int (nI P), .long tot])), (ao, .inl (cs 0, 4, .inl fao))]) [0, 1, 2, 3] rfl
  refine vp_callSi (W.runV (As := [.int (nI a_), .int (nI pe)]) (rest := []) ⟨hx, hb, hml, hown, hg⟩ (y_bestWay l D cs pl nx sn bel gs gp la stp rou va fva aq aw ac ao am C (by omega) P (by omega) tot fao a_ (by omega) pe (by omega)) (cwV 2 hg (gw_V kw_210 kw_211 kw_212 kw_196 kw_209) rfl rfl rfl (by decide +kernel) ⟨(Nat.le_of_ble_eq_true rfl), (Nat.le_of_ble_eq_true rfl)⟩) (pr_SV (q := (RX4, TX4, 10)) 4 0 hK hPc rfl rfl) rfl rfl hl.1 rfl (lv_room (Nat.le_of_ble_eq_true rfl)) dX4_gainAbove_3 ⟨(Nat.le_of_ble_eq_true rfl), (Nat.le_of_ble_eq_true rfl)⟩) (fun r_3 h_3 => ?_)
  obtain ⟨k_3, rfl, hk_3⟩ := h_3
  refine lv_istore_n (lv' := [(3, .int (nI k_3)), (0, .ref pl), (1, .int (nI a_)), (2, .int (nI pe))]) hx hb dX4_gainAbove_6 rfl hl (by decide) rfl (fun ls hl => ?_)
  refine lv_aload_n hx hb dX4_gainAbove_7 rfl (lv_at hl 1 rfl) ?_
  refine lv_iload_n hx hb dX4_gainAbove_8 rfl (lv_at hl 2 rfl) ?_
  refine lv_iload_n hx hb dX4_gainAbove_9 rfl (lv_at hl 3 rfl) ?_
  refine lv_iload_n hx hb dX4_gainAbove_10 rfl (lv_at hl 0 rfl) ?_
  refine vp_callSi (W.runS (As := [.int (nI a_), .int (nI pe), .int (nI k_3)]) (rest := [.ref pl]) ⟨hx, hb, hml, hown, hg⟩ (c_withWay l a_ pe k_3 P (by omega) (by omega) (by omega) (by omega)) (va_cwS 3 hg (gw_S kw_203 kw_204 kw_196 kw_202) rfl rfl rfl (by decide +kernel) ⟨(Nat.le_of_ble_eq_true rfl), (Nat.le_of_ble_eq_true rfl)⟩) pr_0 rfl rfl hl.1 rfl (lv_room (Nat.le_of_ble_eq_true rfl)) dX4_gainAbove_11 ⟨(Nat.le_of_ble_eq_true rfl), (Nat.le_of_ble_eq_true rfl)⟩) (fun r_11 h_11 => ?_)
  obtain ⟨k_11, rfl, hk_11⟩ := h_11
  refine lv_iload_n hx hb dX4_gainAbove_14 rfl (lv_at hl 3 rfl) ?_
  have hPc := hP.sub (ws' := [(pl, .inr (4, [.ref aq, .ref nx, .ref sn, .ref va, .long bel, .int gs, .int gp, .int la, .int stp, .int rou])), (va, .inl (cs 1, 1024, .inr (.inl fva))), (aq, .inr (5, [.ref aw, .ref ac, .ref ao, .ref am, .int (nI C), .int (nI P), .long tot])), (ao, .inl (cs 0, 4, .inl fao))]) [0, 1, 2, 3] rfl
  refine vp_callSl (W.runV (As := [.int (nI k_11), .int (nI pe)]) (rest := []) ⟨hx, hb, hml, hown, hg⟩ (y_above l D cs pl nx sn bel gs gp la stp rou va fva aq aw ac ao am C (by omega) P (by omega) tot fao k_11 (by omega) pe (by omega)) (cwV 2 hg (gw_V kw_206 kw_207 kw_208 kw_196 kw_205) rfl rfl rfl (by decide +kernel) ⟨(Nat.le_of_ble_eq_true rfl), (Nat.le_of_ble_eq_true rfl)⟩) (pr_SV (q := (RX4, TX4, 10)) 4 0 hK hPc rfl rfl) rfl rfl hl.1 rfl (lv_room (Nat.le_of_ble_eq_true rfl)) dX4_gainAbove_15 ⟨(Nat.le_of_ble_eq_true rfl), (Nat.le_of_ble_eq_true rfl)⟩) (fun r_15 h_15 => ?_)
  clear h_15
  refine lv_aload_n hx hb dX4_gainAbove_18 rfl (lv_at hl 1 rfl) ?_
  refine lv_iload_n hx hb dX4_gainAbove_19 rfl (lv_at hl 2 rfl) ?_
  refine lv_iload_n hx hb dX4_gainAbove_20 rfl (lv_at hl 3 rfl) ?_
  have hPc := hP.sub (ws' := [(pl, .inr (4, [.ref aq, .ref nx, .ref sn, .ref va, .long bel, .int gs, .int gp, .int la, .int stp, .int rou])), (va, .inl (cs 1, 1024, .inr (.inl fva))), (aq, .inr (5, [.ref aw, .ref ac, .ref ao, .ref am, .int (nI C), .int (nI P), .long tot])), (ao, .inl (cs 0, 4, .inl fao))]) [0, 1, 2, 3] rfl
  refine vp_callSl (W.runV (As := [.int (nI a_), .int (nI pe)]) (rest := [.long r_15]) ⟨hx, hb, hml, hown, hg⟩ (y_above l D cs pl nx sn bel gs gp la stp rou va fva aq aw ac ao am C (by omega) P (by omega) tot fao a_ (by omega) pe (by omega)) (cwV 2 hg (gw_V kw_206 kw_207 kw_208 kw_196 kw_205) rfl rfl rfl (by decide +kernel) ⟨(Nat.le_of_ble_eq_true rfl), (Nat.le_of_ble_eq_true rfl)⟩) (pr_SV (q := (RX4, TX4, 10)) 4 0 hK hPc rfl rfl) rfl rfl hl.1 rfl (lv_room (Nat.le_of_ble_eq_true rfl)) dX4_gainAbove_21 ⟨(Nat.le_of_ble_eq_true rfl), (Nat.le_of_ble_eq_true rfl)⟩) (fun r_21 h_21 => ?_)
  clear h_21
  refine lv_lsub hx hb dX4_gainAbove_24 ?_
  refine lv_topl (fun z_24 e_24 => ?_)
  refine W_sQ hQ ?_
  exact W.lret (v := z_24) hx hb hr (fun t ht hW => ⟨z_24, rfl, trivial, ht⟩) (fun _ h => absurd h List.not_mem_nil) dX4_gainAbove_25

theorem dX4_isRested_0 : decode cX4_isRested 0 = .ok (.aload_n 0, 1) := by decide +kernel
theorem dX4_isRested_1 : decode cX4_isRested 1 = .ok (.iload_n 1, 1) := by decide +kernel
theorem dX4_isRested_2 : decode cX4_isRested 2 = .ok (.iload_n 2, 1) := by decide +kernel
theorem dX4_isRested_3 : decode cX4_isRested 3 = .ok (.invokevirtual 87, 3) := by decide +kernel
theorem dX4_isRested_6 : decode cX4_isRested 6 = .ok (.lstore_n 3, 1) := by decide +kernel
theorem dX4_isRested_7 : decode cX4_isRested 7 = .ok (.iconst 0, 1) := by decide +kernel
theorem dX4_isRested_8 : decode cX4_isRested 8 = .ok (.istore 5, 2) := by decide +kernel
theorem dX4_isRested_10 : decode cX4_isRested 10 = .ok (.iload 5, 2) := by decide +kernel
theorem dX4_isRested_12 : decode cX4_isRested 12 = .ok (.iconst 4, 1) := by decide +kernel
theorem dX4_isRested_13 : decode cX4_isRested 13 = .ok (.if_icmp .ge 28, 3) := by decide +kernel
theorem dX4_isRested_16 : decode cX4_isRested 16 = .ok (.aload_n 0, 1) := by decide +kernel
theorem dX4_isRested_17 : decode cX4_isRested 17 = .ok (.iload_n 1, 1) := by decide +kernel
theorem dX4_isRested_18 : decode cX4_isRested 18 = .ok (.iload_n 2, 1) := by decide +kernel
theorem dX4_isRested_19 : decode cX4_isRested 19 = .ok (.iload 5, 2) := by decide +kernel
theorem dX4_isRested_21 : decode cX4_isRested 21 = .ok (.invokestatic 84, 3) := by decide +kernel
theorem dX4_isRested_24 : decode cX4_isRested 24 = .ok (.iload_n 2, 1) := by decide +kernel
theorem dX4_isRested_25 : decode cX4_isRested 25 = .ok (.invokevirtual 87, 3) := by decide +kernel
theorem dX4_isRested_28 : decode cX4_isRested 28 = .ok (.lload_n 3, 1) := by decide +kernel
theorem dX4_isRested_29 : decode cX4_isRested 29 = .ok (.lcmp, 1) := by decide +kernel
theorem dX4_isRested_30 : decode cX4_isRested 30 = .ok (.ifCond .le 5, 3) := by decide +kernel
theorem dX4_isRested_33 : decode cX4_isRested 33 = .ok (.iconst 0, 1) := by decide +kernel
theorem dX4_isRested_34 : decode cX4_isRested 34 = .ok (.ireturn, 1) := by decide +kernel
theorem dX4_isRested_35 : decode cX4_isRested 35 = .ok (.iinc 5 1, 3) := by decide +kernel
theorem dX4_isRested_38 : decode cX4_isRested 38 = .ok (.goto (-28), 3) := by decide +kernel
theorem dX4_isRested_41 : decode cX4_isRested 41 = .ok (.iconst 1, 1) := by decide +kernel
theorem dX4_isRested_42 : decode cX4_isRested 42 = .ok (.ireturn, 1) := by decide +kernel

set_option maxHeartbeats 4000000 in
set_option maxRecDepth 100000 in
theorem y_isRested (l : Launch) (D : va_G) (cs : Nat → ClassId) (pl : Nat) (nx : Nat) (sn : Nat) (bel : Int64) (gs : Int32) (gp : Int32) (la : Int32) (stp : Int32) (rou : Int32) (va : Nat) (fva : Nat → Int64) (aq : Nat) (aw : Nat) (ac : Nat) (ao : Nat) (am : Nat) (C : Nat) (hC5 : C ≤ 5) (P : Nat) (hP4 : P ≤ 4) (tot : Int64) (fao : Nat → Int32) (a_ : Nat) (ha_ : a_ < lim P) (pe : Nat) (hpe : pe < P) : Met l yX4_isRested (Cond.code yX4_isRested cX4_isRested 6 (some .boolean) :: gw_tbl) ({ frames := 2, cells := 0, slots := 0, locals := 46 }) (pc_S D cs [(pl, .inr (4, [.ref aq, .ref nx, .ref sn, .ref va, .long bel, .int gs, .int gp, .int la, .int stp, .int rou])), (va, .inl (cs 1, 1024, .inr (.inl fva))), (aq, .inr (5, [.ref aw, .ref ac, .ref ao, .ref am, .int (nI C), .int (nI P), .long tot])), (ao, .inl (cs 0, 4, .inl fao))] [.ref pl, .int (nI a_), .int (nI pe)]) (vp_Si (fun r => r = 0 ∨ r = 1)) 0 0 (fun _ => False) := by
  refine Met.ofW (cc := cX4_isRested) (maxL := 6) (ret := (some .boolean)) (by decide) rfl ?_
  intro p e s m args below meth c s₁ B hml hv
  obtain ⟨hargs, hP, hK⟩ := hv
  have hx := B.exec
  have hb := B.bytes
  have hr := B.returns
  have hts := atoms_spec (ws := Cond.code yX4_isRested cX4_isRested 6 (some .boolean) :: gw_tbl) B.pre
  have hg := fun (w : Cond) (h : w ∈ gw_tbl) => hts w (List.mem_cons_of_mem _ h)
  have hown : s.vm.findClass RX4 = some m.cls := findClass_of_methodNamed B.named
  have hlocks := B.notSynchronized
  have hl := lv_entry ([.ref pl, .int (nI a_), .int (nI pe)]) (n := 6) (Nat.le_of_ble_eq_true rfl)
  rw [show entryFrame m args 6 = F0 m 0 (lg_sl ([.ref pl, .int (nI a_), .int (nI pe)]) ++ List.replicate (6 - (lg_sl ([.ref pl, .int (nI a_), .int (nI pe)])).length) Slot.unset).toArray [] from by rw [hargs]; exact lg_entry_eq ..]
  generalize (lg_sl ([.ref pl, .int (nI a_), .int (nI pe)]) ++ List.replicate (6 - (lg_sl ([.ref pl, .int (nI a_), .int (nI pe)])).length) Slot.unset).toArray = ls at hl ⊢
  have hl : lv_has ls 6 [(0, .ref pl), (1, .int (nI a_)), (2, .int (nI pe))] := hl
  refine W_genQ (fun Q hQ => ?_)
  have hlm := lim_le hP4
  have hlq := lim_pos P
  have hsg := sgn_le hP4
  refine lv_aload_n hx hb dX4_isRested_0 rfl (lv_at hl 0 rfl) ?_
  refine lv_iload_n hx hb dX4_isRested_1 rfl (lv_at hl 1 rfl) ?_
  refine lv_iload_n hx hb dX4_isRested_2 rfl (lv_at hl 2 rfl) ?_
  have hPc := hP.sub (ws' := [(pl, .inr (4, [.ref aq, .ref nx, .ref sn, .ref va, .long bel, .int gs, .int gp, .int la, .int stp, .int rou])), (va, .inl (cs 1, 1024, .inr (.inl fva))), (aq, .inr (5, [.ref aw, .ref ac, .ref ao, .ref am, .int (nI C), .int (nI P), .long tot])), (ao, .inl (cs 0, 4, .inl fao))]) [0, 1, 2, 3] rfl
  refine vp_callSl (W.runV (As := [.int (nI a_), .int (nI pe)]) (rest := []) ⟨hx, hb, hml, hown, hg⟩ (y_above l D cs pl nx sn bel gs gp la stp rou va fva aq aw ac ao am C (by omega) P (by omega) tot fao a_ (by omega) pe (by omega)) (cwV 2 hg (gw_V kw_206 kw_207 kw_208 kw_196 kw_205) rfl rfl rfl (by decide +kernel) ⟨(Nat.le_of_ble_eq_true rfl), (Nat.le_of_ble_eq_true rfl)⟩) (pr_SV (q := (RX4, TX4, 10)) 4 0 hK hPc rfl rfl) rfl rfl hl.1 rfl (lv_room (Nat.le_of_ble_eq_true rfl)) dX4_isRested_3 ⟨(Nat.le_of_ble_eq_true rfl), (Nat.le_of_ble_eq_true rfl)⟩) (fun r_3 h_3 => ?_)
  clear h_3
  refine lv_lstore_n (lv' := [(3, .long r_3), (0, .ref pl), (1, .int (nI a_)), (2, .int (nI pe))]) hx hb dX4_isRested_6 rfl hl (by decide) rfl (fun ls hl => ?_)
  refine lv_iconst (v := 0) hx hb dX4_isRested_7 (by decide) ?_
  refine lv_istore (lv' := [(5, .int 0), (3, .long r_3), (0, .ref pl), (1, .int (nI a_)), (2, .int (nI pe))]) hx hb dX4_isRested_8 hl (by decide) rfl (fun ls hl => ?_)
  have LOOP10 : ∀ (n10 : Nat) (wy : Nat), wy ≤ 4 → 4 - wy < n10 → ∀ (ls : Array Slot), lv_has ls 6 [(0, .ref pl), (1, .int (nI a_)), (2, .int (nI pe)), (3, .long r_3), (5, .int (nI wy))] → W p l e ({ frames := 2, cells := 0, slots := 0, locals := 46 } : Room) s m args below meth c s.heap [] 0 0 Q (F0 m 10 ls []) := by
    intro n10
    induction n10 with
    | zero =>
      intro wy hwy hn10 ls hl
      exact absurd hn10 (Nat.not_lt_zero _)
    | succ n10 ih10 =>
      intro wy hwy hn10 ls hl
      refine lv_iload hx hb dX4_isRested_10 (lv_at hl 4 rfl) ?_
      refine lv_iconst (v := 4) hx hb dX4_isRested_12 (by decide) ?_
      refine lv_icmp_ge (tgt := 41) hx hb dX4_isRested_13 (by decide) (fun c_13 => ?_) (fun c_13 => ?_)
      · have n_13 : 4 ≤ wy := b_le_t (by omega) (by omega) c_13
        refine lv_iconst (v := 1) hx hb dX4_isRested_41 (by decide) ?_
        refine W_sQ hQ ?_
        exact W.zret (v := 1) hx hb hr (by decide) (fun t ht hW => ⟨1, rfl, (Or.inr rfl), ht⟩) (fun _ h => absurd h List.not_mem_nil) dX4_isRested_42
      · have n_13 : wy < 4 := b_le_f (by omega) (by omega) c_13
        refine lv_aload_n hx hb dX4_isRested_16 rfl (lv_at hl 0 rfl) ?_
        refine lv_iload_n hx hb dX4_isRested_17 rfl (lv_at hl 1 rfl) ?_
        refine lv_iload_n hx hb dX4_isRested_18 rfl (lv_at hl 2 rfl) ?_
        refine lv_iload hx hb dX4_isRested_19 (lv_at hl 4 rfl) ?_
        refine vp_callSi (W.runS (As := [.int (nI a_), .int (nI pe), .int (nI wy)]) (rest := [.ref pl]) ⟨hx, hb, hml, hown, hg⟩ (c_withWay l a_ pe wy P (by omega) (by omega) (by omega) (by omega)) (va_cwS 3 hg (gw_S kw_203 kw_204 kw_196 kw_202) rfl rfl rfl (by decide +kernel) ⟨(Nat.le_of_ble_eq_true rfl), (Nat.le_of_ble_eq_true rfl)⟩) pr_0 rfl rfl hl.1 rfl (lv_room (Nat.le_of_ble_eq_true rfl)) dX4_isRested_21 ⟨(Nat.le_of_ble_eq_true rfl), (Nat.le_of_ble_eq_true rfl)⟩) (fun r_21 h_21 => ?_)
        obtain ⟨k_21, rfl, hk_21⟩ := h_21
        refine lv_iload_n hx hb dX4_isRested_24 rfl (lv_at hl 2 rfl) ?_
        have hPc := hP.sub (ws' := [(pl, .inr (4, [.ref aq, .ref nx, .ref sn, .ref va, .long bel, .int gs, .int gp, .int la, .int stp, .int rou])), (va, .inl (cs 1, 1024, .inr (.inl fva))), (aq, .inr (5, [.ref aw, .ref ac, .ref ao, .ref am, .int (nI C), .int (nI P), .long tot])), (ao, .inl (cs 0, 4, .inl fao))]) [0, 1, 2, 3] rfl
        refine vp_callSl (W.runV (As := [.int (nI k_21), .int (nI pe)]) (rest := []) ⟨hx, hb, hml, hown, hg⟩ (y_above l D cs pl nx sn bel gs gp la stp rou va fva aq aw ac ao am C (by omega) P (by omega) tot fao k_21 (by omega) pe (by omega)) (cwV 2 hg (gw_V kw_206 kw_207 kw_208 kw_196 kw_205) rfl rfl rfl (by decide +kernel) ⟨(Nat.le_of_ble_eq_true rfl), (Nat.le_of_ble_eq_true rfl)⟩) (pr_SV (q := (RX4, TX4, 10)) 4 0 hK hPc rfl rfl) rfl rfl hl.1 rfl (lv_room (Nat.le_of_ble_eq_true rfl)) dX4_isRested_25 ⟨(Nat.le_of_ble_eq_true rfl), (Nat.le_of_ble_eq_true rfl)⟩) (fun r_25 h_25 => ?_)
        clear h_25
        refine lv_lload_n hx hb dX4_isRested_28 rfl (lv_at hl 3 rfl) ?_
        refine W.lcmp hx hb dX4_isRested_29 ?_
        refine lv_topi (fun z_29 e_29 => ?_)
        refine lv_if_le (tgt := 35) hx hb dX4_isRested_30 (by decide) (fun c_30 => ?_) (fun c_30 => ?_)
        · refine lv_iinc (v := (nI (wy + 1))) (lv' := [(5, .int (nI (wy + 1))), (0, .ref pl), (1, .int (nI a_)), (2, .int (nI pe)), (3, .long r_3)]) hx hb dX4_isRested_35 hl (k := 4) rfl (nI_add wy 1) (by decide) rfl (fun ls hl => ?_)
          refine lv_goto (tgt := 10) hx hb dX4_isRested_38 (by decide) ?_
          exact ih10 (wy + 1) (by omega) (by omega) ls (lv_sub hl [1, 2, 3, 4, 0] rfl)
        · refine lv_iconst (v := 0) hx hb dX4_isRested_33 (by decide) ?_
          refine W_sQ hQ ?_
          exact W.zret (v := 0) hx hb hr (by decide) (fun t ht hW => ⟨0, rfl, (Or.inl rfl), ht⟩) (fun _ h => absurd h List.not_mem_nil) dX4_isRested_34
  exact LOOP10 (4 - 0 + 1) 0 (by omega) (Nat.lt_succ_self _) ls (lv_sub hl [2, 3, 4, 1, 0] rfl)

theorem dX4_firstUnrested_0 : decode cX4_firstUnrested 0 = .ok (.iconst 0, 1) := by decide +kernel
theorem dX4_firstUnrested_1 : decode cX4_firstUnrested 1 = .ok (.istore_n 2, 1) := by decide +kernel
theorem dX4_firstUnrested_2 : decode cX4_firstUnrested 2 = .ok (.iload_n 2, 1) := by decide +kernel
theorem dX4_firstUnrested_3 : decode cX4_firstUnrested 3 = .ok (.aload_n 0, 1) := by decide +kernel
theorem dX4_firstUnrested_4 : decode cX4_firstUnrested 4 = .ok (.getfield 22, 3) := by decide +kernel
theorem dX4_firstUnrested_7 : decode cX4_firstUnrested 7 = .ok (.getfield 49, 3) := by decide +kernel
theorem dX4_firstUnrested_10 : decode cX4_firstUnrested 10 = .ok (.if_icmp .ge 20, 3) := by decide +kernel
theorem dX4_firstUnrested_13 : decode cX4_firstUnrested 13 = .ok (.aload_n 0, 1) := by decide +kernel
theorem dX4_firstUnrested_14 : decode cX4_firstUnrested 14 = .ok (.iload_n 1, 1) := by decide +kernel
theorem dX4_firstUnrested_15 : decode cX4_firstUnrested 15 = .ok (.iload_n 2, 1) := by decide +kernel
theorem dX4_firstUnrested_16 : decode cX4_firstUnrested 16 = .ok (.invokevirtual 94, 3) := by decide +kernel
theorem dX4_firstUnrested_19 : decode cX4_firstUnrested 19 = .ok (.ifCond .ne 5, 3) := by decide +kernel
theorem dX4_firstUnrested_22 : decode cX4_firstUnrested 22 = .ok (.iload_n 2, 1) := by decide +kernel
theorem dX4_firstUnrested_23 : decode cX4_firstUnrested 23 = .ok (.ireturn, 1) := by decide +kernel
theorem dX4_firstUnrested_24 : decode cX4_firstUnrested 24 = .ok (.iinc 2 1, 3) := by decide +kernel
theorem dX4_firstUnrested_27 : decode cX4_firstUnrested 27 = .ok (.goto (-25), 3) := by decide +kernel
theorem dX4_firstUnrested_30 : decode cX4_firstUnrested 30 = .ok (.iconst (-1), 1) := by decide +kernel
theorem dX4_firstUnrested_31 : decode cX4_firstUnrested 31 = .ok (.ireturn, 1) := by decide +kernel
theorem kw_213 : (.code yX4_isRested cX4_isRested 6 (some .boolean) : Cond) ∈ gw_tbl := gw_in (by decide +kernel) (by decide +kernel)
theorem kw_214 : (.methodLink RX4 94 yX4_isRested : Cond) ∈ gw_tbl := gw_in (by decide +kernel) (by decide +kernel)
theorem kw_215 : (.instanceMethod yX4_isRested : Cond) ∈ gw_tbl := gw_in (by decide +kernel) (by decide +kernel)
theorem kw_216 : (.selects RX4 yX4_isRested yX4_isRested : Cond) ∈ gw_tbl := gw_in (by decide +kernel) (by decide +kernel)

set_option maxHeartbeats 4000000 in
set_option maxRecDepth 100000 in
theorem y_firstUnrested (l : Launch) (D : va_G) (cs : Nat → ClassId) (pl : Nat) (nx : Nat) (sn : Nat) (bel : Int64) (gs : Int32) (gp : Int32) (la : Int32) (stp : Int32) (rou : Int32) (va : Nat) (fva : Nat → Int64) (aq : Nat) (aw : Nat) (ac : Nat) (ao : Nat) (am : Nat) (C : Nat) (hC5 : C ≤ 5) (P : Nat) (hP4 : P ≤ 4) (tot : Int64) (fao : Nat → Int32) (a_ : Nat) (ha_ : a_ < lim P) : Met l yX4_firstUnrested (Cond.code yX4_firstUnrested cX4_firstUnrested 3 (some .int) :: gw_tbl) ({ frames := 3, cells := 0, slots := 0, locals := 71 }) (pc_S D cs [(pl, .inr (4, [.ref aq, .ref nx, .ref sn, .ref va, .long bel, .int gs, .int gp, .int la, .int stp, .int rou])), (va, .inl (cs 1, 1024, .inr (.inl fva))), (aq, .inr (5, [.ref aw, .ref ac, .ref ao, .ref am, .int (nI C), .int (nI P), .long tot])), (ao, .inl (cs 0, 4, .inl fao))] [.ref pl, .int (nI a_)]) (vp_Si (fun r => r = -1 ∨ ∃ k : Nat, r = nI k ∧ k < P)) 0 0 (fun _ => False) := by
  refine Met.ofW (cc := cX4_firstUnrested) (maxL := 3) (ret := (some .int)) (by decide) rfl ?_
  intro p e s m args below meth c s₁ B hml hv
  obtain ⟨hargs, hP, hK⟩ := hv
  have hx := B.exec
  have hb := B.bytes
  have hr := B.returns
  have hts := atoms_spec (ws := Cond.code yX4_firstUnrested cX4_firstUnrested 3 (some .int) :: gw_tbl) B.pre
  have hg := fun (w : Cond) (h : w ∈ gw_tbl) => hts w (List.mem_cons_of_mem _ h)
  have hown : s.vm.findClass RX4 = some m.cls := findClass_of_methodNamed B.named
  have hlocks := B.notSynchronized
  have hl := lv_entry ([.ref pl, .int (nI a_)]) (n := 3) (Nat.le_of_ble_eq_true rfl)
  rw [show entryFrame m args 3 = F0 m 0 (lg_sl ([.ref pl, .int (nI a_)]) ++ List.replicate (3 - (lg_sl ([.ref pl, .int (nI a_)])).length) Slot.unset).toArray [] from by rw [hargs]; exact lg_entry_eq ..]
  generalize (lg_sl ([.ref pl, .int (nI a_)]) ++ List.replicate (3 - (lg_sl ([.ref pl, .int (nI a_)])).length) Slot.unset).toArray = ls at hl ⊢
  have hl : lv_has ls 3 [(0, .ref pl), (1, .int (nI a_))] := hl
  refine W_genQ (fun Q hQ => ?_)
  have hlm := lim_le hP4
  have hlq := lim_pos P
  have hsg := sgn_le hP4
  refine lv_iconst (v := 0) hx hb dX4_firstUnrested_0 (by decide) ?_
  refine lv_istore_n (lv' := [(2, .int 0), (0, .ref pl), (1, .int (nI a_))]) hx hb dX4_firstUnrested_1 rfl hl (by decide) rfl (fun ls hl => ?_)
  have LOOP2 : ∀ (n2 : Nat) (pe : Nat), pe ≤ P → P - pe < n2 → ∀ (ls : Array Slot), lv_has ls 3 [(0, .ref pl), (1, .int (nI a_)), (2, .int (nI pe))] → W p l e ({ frames := 3, cells := 0, slots := 0, locals := 71 } : Room) s m args below meth c s.heap [] 0 0 Q (F0 m 2 ls []) := by
    intro n2
    induction n2 with
    | zero =>
      intro pe hpe hn2 ls hl
      exact absurd hn2 (Nat.not_lt_zero _)
    | succ n2 ih2 =>
      intro pe hpe hn2 ls hl
      refine lv_iload_n hx hb dX4_firstUnrested_2 rfl (lv_at hl 2 rfl) ?_
      refine lv_aload_n hx hb dX4_firstUnrested_3 rfl (lv_at hl 0 rfl) ?_
      refine va_get (D := D) (ci := 4) (v := .ref aq) (C := RX4) (T := TX4) (N := 10) hx hb hg gwX4 hown hK hP 0 rfl rfl 0 (by decide) (hg _ kw_188) (fun _ h9 => h9) rfl dX4_firstUnrested_4 ?_
      refine va_get (D := D) (ci := 5) (v := .int (nI P)) (C := RX5) (T := TX5) (N := 7) hx hb hg gwX5 hown hK hP 2 rfl rfl 5 (by decide) (hg _ kw_140) (fun _ h9 => h9) rfl dX4_firstUnrested_7 ?_
      refine lv_icmp_ge (tgt := 30) hx hb dX4_firstUnrested_10 (by decide) (fun c_10 => ?_) (fun c_10 => ?_)
      · have n_10 : P ≤ pe := b_le_t (by omega) (by omega) c_10
        refine lv_iconst (v := (-1)) hx hb dX4_firstUnrested_30 (by decide) ?_
        refine W_sQ hQ ?_
        exact W.iret (v := (-1)) hx hb hr (fun t ht hW => ⟨(-1), rfl, (Or.inl rfl), ht⟩) (fun _ h => absurd h List.not_mem_nil) dX4_firstUnrested_31
      · have n_10 : pe < P := b_le_f (by omega) (by omega) c_10
        refine lv_aload_n hx hb dX4_firstUnrested_13 rfl (lv_at hl 0 rfl) ?_
        refine lv_iload_n hx hb dX4_firstUnrested_14 rfl (lv_at hl 1 rfl) ?_
        refine lv_iload_n hx hb dX4_firstUnrested_15 rfl (lv_at hl 2 rfl) ?_
        have hPc := hP.sub (ws' := [(pl, .inr (4, [.ref aq, .ref nx, .ref sn, .ref va, .long bel, .int gs, .int gp, .int la, .int stp, .int rou])), (va, .inl (cs 1, 1024, .inr (.inl fva))), (aq, .inr (5, [.ref aw, .ref ac, .ref ao, .ref am, .int (nI C), .int (nI P), .long tot])), (ao, .inl (cs 0, 4, .inl fao))]) [0, 1, 2, 3] rfl
        refine vp_callSi (W.runV (As := [.int (nI a_), .int (nI pe)]) (rest := []) ⟨hx, hb, hml, hown, hg⟩ (y_isRested l D cs pl nx sn bel gs gp la stp rou va fva aq aw ac ao am C (by omega) P (by omega) tot fao a_ (by omega) pe (by omega)) (cwV 2 hg (gw_V kw_214 kw_215 kw_216 kw_196 kw_213) rfl rfl rfl (by decide +kernel) ⟨(Nat.le_of_ble_eq_true rfl), (Nat.le_of_ble_eq_true rfl)⟩) (pr_SV (q := (RX4, TX4, 10)) 4 0 hK hPc rfl rfl) rfl rfl hl.1 rfl (lv_room (Nat.le_of_ble_eq_true rfl)) dX4_firstUnrested_16 ⟨(Nat.le_of_ble_eq_true rfl), (Nat.le_of_ble_eq_true rfl)⟩) (fun r_16 h_16 => ?_)
        rcases h_16 with rfl | rfl
        · refine lv_if_ne (tgt := 24) hx hb dX4_firstUnrested_19 (by decide) (fun c_19 => absurd c_19 (by decide)) (fun c_19 => ?_)
          refine lv_iload_n hx hb dX4_firstUnrested_22 rfl (lv_at hl 2 rfl) ?_
          refine W_sQ hQ ?_
          exact W.iret (v := (nI pe)) hx hb hr (fun t ht hW => ⟨(nI pe), rfl, (Or.inr ⟨_, rfl, by omega⟩), ht⟩) (fun _ h => absurd h List.not_mem_nil) dX4_firstUnrested_23
        · refine lv_if_ne (tgt := 24) hx hb dX4_firstUnrested_19 (by decide) (fun c_19 => ?_) (fun c_19 => absurd c_19 (by decide))
          refine lv_iinc (v := (nI (pe + 1))) (lv' := [(2, .int (nI (pe + 1))), (0, .ref pl), (1, .int (nI a_))]) hx hb dX4_firstUnrested_24 hl (k := 2) rfl (nI_add pe 1) (by decide) rfl (fun ls hl => ?_)
          refine lv_goto (tgt := 2) hx hb dX4_firstUnrested_27 (by decide) ?_
          exact ih2 (pe + 1) (by omega) (by omega) ls (lv_sub hl [1, 2, 0] rfl)
  exact LOOP2 (P - 0 + 1) 0 (by omega) (Nat.lt_succ_self _) ls (lv_sub hl [1, 2, 0] rfl)

theorem dX4_nextOf_0 : decode cX4_nextOf 0 = .ok (.aload_n 0, 1) := by decide +kernel
theorem dX4_nextOf_1 : decode cX4_nextOf 1 = .ok (.iload_n 1, 1) := by decide +kernel
theorem dX4_nextOf_2 : decode cX4_nextOf 2 = .ok (.invokevirtual 98, 3) := by decide +kernel
theorem dX4_nextOf_5 : decode cX4_nextOf 5 = .ok (.istore_n 2, 1) := by decide +kernel
theorem dX4_nextOf_6 : decode cX4_nextOf 6 = .ok (.iload_n 2, 1) := by decide +kernel
theorem dX4_nextOf_7 : decode cX4_nextOf 7 = .ok (.iconst (-1), 1) := by decide +kernel
theorem dX4_nextOf_8 : decode cX4_nextOf 8 = .ok (.if_icmp .ne 7, 3) := by decide +kernel
theorem dX4_nextOf_11 : decode cX4_nextOf 11 = .ok (.iload_n 1, 1) := by decide +kernel
theorem dX4_nextOf_12 : decode cX4_nextOf 12 = .ok (.goto 14, 3) := by decide +kernel
theorem dX4_nextOf_15 : decode cX4_nextOf 15 = .ok (.iload_n 1, 1) := by decide +kernel
theorem dX4_nextOf_16 : decode cX4_nextOf 16 = .ok (.iload_n 2, 1) := by decide +kernel
theorem dX4_nextOf_17 : decode cX4_nextOf 17 = .ok (.aload_n 0, 1) := by decide +kernel
theorem dX4_nextOf_18 : decode cX4_nextOf 18 = .ok (.iload_n 1, 1) := by decide +kernel
theorem dX4_nextOf_19 : decode cX4_nextOf 19 = .ok (.iload_n 2, 1) := by decide +kernel
theorem dX4_nextOf_20 : decode cX4_nextOf 20 = .ok (.invokevirtual 91, 3) := by decide +kernel
theorem dX4_nextOf_23 : decode cX4_nextOf 23 = .ok (.invokestatic 84, 3) := by decide +kernel
theorem dX4_nextOf_26 : decode cX4_nextOf 26 = .ok (.ireturn, 1) := by decide +kernel
theorem kw_217 : (.code yX4_firstUnrested cX4_firstUnrested 3 (some .int) : Cond) ∈ gw_tbl := gw_in (by decide +kernel) (by decide +kernel)
theorem kw_218 : (.methodLink RX4 98 yX4_firstUnrested : Cond) ∈ gw_tbl := gw_in (by decide +kernel) (by decide +kernel)
theorem kw_219 : (.instanceMethod yX4_firstUnrested : Cond) ∈ gw_tbl := gw_in (by decide +kernel) (by decide +kernel)
theorem kw_220 : (.selects RX4 yX4_firstUnrested yX4_firstUnrested : Cond) ∈ gw_tbl := gw_in (by decide +kernel) (by decide +kernel)

set_option maxHeartbeats 4000000 in
set_option maxRecDepth 100000 in
theorem y_nextOf (l : Launch) (D : va_G) (cs : Nat → ClassId) (pl : Nat) (nx : Nat) (sn : Nat) (bel : Int64) (gs : Int32) (gp : Int32) (la : Int32) (stp : Int32) (rou : Int32) (va : Nat) (fva : Nat → Int64) (aq : Nat) (aw : Nat) (ac : Nat) (ao : Nat) (am : Nat) (C : Nat) (hC5 : C ≤ 5) (P : Nat) (hP4 : P ≤ 4) (tot : Int64) (fao : Nat → Int32) (a_ : Nat) (ha_ : a_ < lim P) : Met l yX4_nextOf (Cond.code yX4_nextOf cX4_nextOf 3 (some .int) :: gw_tbl) ({ frames := 4, cells := 0, slots := 0, locals := 93 }) (pc_S D cs [(pl, .inr (4, [.ref aq, .ref nx, .ref sn, .ref va, .long bel, .int gs, .int gp, .int la, .int stp, .int rou])), (va, .inl (cs 1, 1024, .inr (.inl fva))), (aq, .inr (5, [.ref aw, .ref ac, .ref ao, .ref am, .int (nI C), .int (nI P), .long tot])), (ao, .inl (cs 0, 4, .inl fao))] [.ref pl, .int (nI a_)]) (vp_Si (fun r => ∃ k : Nat, r = nI k ∧ k < lim P)) 0 0 (fun _ => False) := by
  refine Met.ofW (cc := cX4_nextOf) (maxL := 3) (ret := (some .int)) (by decide) rfl ?_
  intro p e s m args below meth c s₁ B hml hv
  obtain ⟨hargs, hP, hK⟩ := hv
  have hx := B.exec
  have hb := B.bytes
  have hr := B.returns
  have hts := atoms_spec (ws := Cond.code yX4_nextOf cX4_nextOf 3 (some .int) :: gw_tbl) B.pre
  have hg := fun (w : Cond) (h : w ∈ gw_tbl) => hts w (List.mem_cons_of_mem _ h)
  have hown : s.vm.findClass RX4 = some m.cls := findClass_of_methodNamed B.named
  have hlocks := B.notSynchronized
  have hl := lv_entry ([.ref pl, .int (nI a_)]) (n := 3) (Nat.le_of_ble_eq_true rfl)
  rw [show entryFrame m args 3 = F0 m 0 (lg_sl ([.ref pl, .int (nI a_)]) ++ List.replicate (3 - (lg_sl ([.ref pl, .int (nI a_)])).length) Slot.unset).toArray [] from by rw [hargs]; exact lg_entry_eq ..]
  generalize (lg_sl ([.ref pl, .int (nI a_)]) ++ List.replicate (3 - (lg_sl ([.ref pl, .int (nI a_)])).length) Slot.unset).toArray = ls at hl ⊢
  have hl : lv_has ls 3 [(0, .ref pl), (1, .int (nI a_))] := hl
  refine W_genQ (fun Q hQ => ?_)
  have hlm := lim_le hP4
  have hlq := lim_pos P
  have hsg := sgn_le hP4
  refine lv_aload_n hx hb dX4_nextOf_0 rfl (lv_at hl 0 rfl) ?_
  refine lv_iload_n hx hb dX4_nextOf_1 rfl (lv_at hl 1 rfl) ?_
  have hPc := hP.sub (ws' := [(pl, .inr (4, [.ref aq, .ref nx, .ref sn, .ref va, .long bel, .int gs, .int gp, .int la, .int stp, .int rou])), (va, .inl (cs 1, 1024, .inr (.inl fva))), (aq, .inr (5, [.ref aw, .ref ac, .ref ao, .ref am, .int (nI C), .int (nI P), .long tot])), (ao, .inl (cs 0, 4, .inl fao))]) [0, 1, 2, 3] rfl
  refine vp_callSi (W.runV (As := [.int (nI a_)]) (rest := []) ⟨hx, hb, hml, hown, hg⟩ (y_firstUnrested l D cs pl nx sn bel gs gp la stp rou va fva aq aw ac ao am C (by omega) P (by omega) tot fao a_ (by omega)) (cwV 1 hg (gw_V kw_218 kw_219 kw_220 kw_196 kw_217) rfl rfl rfl (by decide +kernel) ⟨(Nat.le_of_ble_eq_true rfl), (Nat.le_of_ble_eq_true rfl)⟩) (pr_SV (q := (RX4, TX4, 10)) 4 0 hK hPc rfl rfl) rfl rfl hl.1 rfl (lv_room (Nat.le_of_ble_eq_true rfl)) dX4_nextOf_2 ⟨(Nat.le_of_ble_eq_true rfl), (Nat.le_of_ble_eq_true rfl)⟩) (fun r_2 h_2 => ?_)
  rcases h_2 with rfl | ⟨k_2, rfl, hk_2⟩
  · refine lv_istore_n (lv' := [(2, .int (-1)), (0, .ref pl), (1, .int (nI a_))]) hx hb dX4_nextOf_5 rfl hl (by decide) rfl (fun ls hl => ?_)
    refine lv_iload_n hx hb dX4_nextOf_6 rfl (lv_at hl 0 rfl) ?_
    refine lv_iconst (v := (-1)) hx hb dX4_nextOf_7 (by decide) ?_
    refine lv_icmp_ne (tgt := 15) hx hb dX4_nextOf_8 (by decide) (fun c_8 => absurd c_8 (by decide)) (fun c_8 => ?_)
    refine lv_iload_n hx hb dX4_nextOf_11 rfl (lv_at hl 2 rfl) ?_
    refine lv_goto (tgt := 26) hx hb dX4_nextOf_12 (by decide) ?_
    refine W_sQ hQ ?_
    exact W.iret (v := (nI a_)) hx hb hr (fun t ht hW => ⟨(nI a_), rfl, ⟨_, rfl, by omega⟩, ht⟩) (fun _ h => absurd h List.not_mem_nil) dX4_nextOf_26
  · refine lv_istore_n (lv' := [(2, .int (nI k_2)), (0, .ref pl), (1, .int (nI a_))]) hx hb dX4_nextOf_5 rfl hl (by decide) rfl (fun ls hl => ?_)
    refine lv_iload_n hx hb dX4_nextOf_6 rfl (lv_at hl 0 rfl) ?_
    refine lv_iconst (v := (-1)) hx hb dX4_nextOf_7 (by decide) ?_
    refine lv_icmp_ne (tgt := 15) hx hb dX4_nextOf_8 (by decide) (fun c_8 => ?_) (fun c_8 => absurd c_8 (nI_nm (by omega)))
    refine lv_iload_n hx hb dX4_nextOf_15 rfl (lv_at hl 2 rfl) ?_
    refine lv_iload_n hx hb dX4_nextOf_16 rfl (lv_at hl 0 rfl) ?_
    refine lv_aload_n hx hb dX4_nextOf_17 rfl (lv_at hl 1 rfl) ?_
    refine lv_iload_n hx hb dX4_nextOf_18 rfl (lv_at hl 2 rfl) ?_
    refine lv_iload_n hx hb dX4_nextOf_19 rfl (lv_at hl 0 rfl) ?_
    have hPc := hP.sub (ws' := [(pl, .inr (4, [.ref aq, .ref nx, .ref sn, .ref va, .long bel, .int gs, .int gp, .int la, .int stp, .int rou])), (va, .inl (cs 1, 1024, .inr (.inl fva))), (aq, .inr (5, [.ref aw, .ref ac, .ref ao, .ref am, .int (nI C), .int (nI P), .long tot])), (ao, .inl (cs 0, 4, .inl fao))]) [0, 1, 2, 3] rfl
    refine vp_callSi (W.runV (As := [.int (nI a_), .int (nI k_2)]) (rest := [.int (nI k_2), .int (nI a_)]) ⟨hx, hb, hml, hown, hg⟩ (y_bestWay l D cs pl nx sn bel gs gp la stp rou va fva aq aw ac ao am C (by omega) P (by omega) tot fao a_ (by omega) k_2 (by omega)) (cwV 2 hg (gw_V kw_210 kw_211 kw_212 kw_196 kw_209) rfl rfl rfl (by decide +kernel) ⟨(Nat.le_of_ble_eq_true rfl), (Nat.le_of_ble_eq_true rfl)⟩) (pr_SV (q := (RX4, TX4, 10)) 4 0 hK hPc rfl rfl) rfl rfl hl.1 rfl (lv_room (Nat.le_of_ble_eq_true rfl)) dX4_nextOf_20 ⟨(Nat.le_of_ble_eq_true rfl), (Nat.le_of_ble_eq_true rfl)⟩) (fun r_20 h_20 => ?_)
    obtain ⟨k_20, rfl, hk_20⟩ := h_20
    refine vp_callSi (W.runS (As := [.int (nI a_), .int (nI k_2), .int (nI k_20)]) (rest := []) ⟨hx, hb, hml, hown, hg⟩ (c_withWay l a_ k_2 k_20 P (by omega) (by omega) (by omega) (by omega)) (va_cwS 3 hg (gw_S kw_203 kw_204 kw_196 kw_202) rfl rfl rfl (by decide +kernel) ⟨(Nat.le_of_ble_eq_true rfl), (Nat.le_of_ble_eq_true rfl)⟩) pr_0 rfl rfl hl.1 rfl (lv_room (Nat.le_of_ble_eq_true rfl)) dX4_nextOf_23 ⟨(Nat.le_of_ble_eq_true rfl), (Nat.le_of_ble_eq_true rfl)⟩) (fun r_23 h_23 => ?_)
    obtain ⟨k_23, rfl, hk_23⟩ := h_23
    refine W_sQ hQ ?_
    exact W.iret (v := (nI k_23)) hx hb hr (fun t ht hW => ⟨(nI k_23), rfl, ⟨_, rfl, by omega⟩, ht⟩) (fun _ h => absurd h List.not_mem_nil) dX4_nextOf_26

theorem dX4_togetherAbove_0 : decode cX4_togetherAbove 0 = .ok (.lconst 0, 1) := by decide +kernel
theorem dX4_togetherAbove_1 : decode cX4_togetherAbove 1 = .ok (.lstore_n 2, 1) := by decide +kernel
theorem dX4_togetherAbove_2 : decode cX4_togetherAbove 2 = .ok (.iconst 0, 1) := by decide +kernel
theorem dX4_togetherAbove_3 : decode cX4_togetherAbove 3 = .ok (.istore 4, 2) := by decide +kernel
theorem dX4_togetherAbove_5 : decode cX4_togetherAbove 5 = .ok (.iload 4, 2) := by decide +kernel
theorem dX4_togetherAbove_7 : decode cX4_togetherAbove 7 = .ok (.aload_n 0, 1) := by decide +kernel
theorem dX4_togetherAbove_8 : decode cX4_togetherAbove 8 = .ok (.getfield 22, 3) := by decide +kernel
theorem dX4_togetherAbove_11 : decode cX4_togetherAbove 11 = .ok (.getfield 49, 3) := by decide +kernel
theorem dX4_togetherAbove_14 : decode cX4_togetherAbove 14 = .ok (.if_icmp .ge 19, 3) := by decide +kernel
theorem dX4_togetherAbove_17 : decode cX4_togetherAbove 17 = .ok (.lload_n 2, 1) := by decide +kernel
theorem dX4_togetherAbove_18 : decode cX4_togetherAbove 18 = .ok (.aload_n 0, 1) := by decide +kernel
theorem dX4_togetherAbove_19 : decode cX4_togetherAbove 19 = .ok (.iload_n 1, 1) := by decide +kernel
theorem dX4_togetherAbove_20 : decode cX4_togetherAbove 20 = .ok (.iload 4, 2) := by decide +kernel
theorem dX4_togetherAbove_22 : decode cX4_togetherAbove 22 = .ok (.invokevirtual 87, 3) := by decide +kernel
theorem dX4_togetherAbove_25 : decode cX4_togetherAbove 25 = .ok (.ladd, 1) := by decide +kernel
theorem dX4_togetherAbove_26 : decode cX4_togetherAbove 26 = .ok (.lstore_n 2, 1) := by decide +kernel
theorem dX4_togetherAbove_27 : decode cX4_togetherAbove 27 = .ok (.iinc 4 1, 3) := by decide +kernel
theorem dX4_togetherAbove_30 : decode cX4_togetherAbove 30 = .ok (.goto (-25), 3) := by decide +kernel
theorem dX4_togetherAbove_33 : decode cX4_togetherAbove 33 = .ok (.lload_n 2, 1) := by decide +kernel
theorem dX4_togetherAbove_34 : decode cX4_togetherAbove 34 = .ok (.lreturn, 1) := by decide +kernel

set_option maxHeartbeats 4000000 in
set_option maxRecDepth 100000 in
theorem y_togetherAbove (l : Launch) (D : va_G) (cs : Nat → ClassId) (pl : Nat) (nx : Nat) (sn : Nat) (bel : Int64) (gs : Int32) (gp : Int32) (la : Int32) (stp : Int32) (rou : Int32) (va : Nat) (fva : Nat → Int64) (aq : Nat) (aw : Nat) (ac : Nat) (ao : Nat) (am : Nat) (C : Nat) (hC5 : C ≤ 5) (P : Nat) (hP4 : P ≤ 4) (tot : Int64) (fao : Nat → Int32) (a_ : Nat) (ha_ : a_ < lim P) : Met l yX4_togetherAbove (Cond.code yX4_togetherAbove cX4_togetherAbove 5 (some .long) :: gw_tbl) ({ frames := 2, cells := 0, slots := 0, locals := 46 }) (pc_S D cs [(pl, .inr (4, [.ref aq, .ref nx, .ref sn, .ref va, .long bel, .int gs, .int gp, .int la, .int stp, .int rou])), (va, .inl (cs 1, 1024, .inr (.inl fva))), (aq, .inr (5, [.ref aw, .ref ac, .ref ao, .ref am, .int (nI C), .int (nI P), .long tot])), (ao, .inl (cs 0, 4, .inl fao))] [.ref pl, .int (nI a_)]) (vp_Sl (fun r => True)) 0 0 (fun _ => False) := by
  refine Met.ofW (cc := cX4_togetherAbove) (maxL := 5) (ret := (some .long)) (by decide) rfl ?_
  intro p e s m args below meth c s₁ B hml hv
  obtain ⟨hargs, hP, hK⟩ := hv
  have hx := B.exec
  have hb := B.bytes
  have hr := B.returns
  have hts := atoms_spec (ws := Cond.code yX4_togetherAbove cX4_togetherAbove 5 (some .long) :: gw_tbl) B.pre
  have hg := fun (w : Cond) (h : w ∈ gw_tbl) => hts w (List.mem_cons_of_mem _ h)
  have hown : s.vm.findClass RX4 = some m.cls := findClass_of_methodNamed B.named
  have hlocks := B.notSynchronized
  have hl := lv_entry ([.ref pl, .int (nI a_)]) (n := 5) (Nat.le_of_ble_eq_true rfl)
  rw [show entryFrame m args 5 = F0 m 0 (lg_sl ([.ref pl, .int (nI a_)]) ++ List.replicate (5 - (lg_sl ([.ref pl, .int (nI a_)])).length) Slot.unset).toArray [] from by rw [hargs]; exact lg_entry_eq ..]
  generalize (lg_sl ([.ref pl, .int (nI a_)]) ++ List.replicate (5 - (lg_sl ([.ref pl, .int (nI a_)])).length) Slot.unset).toArray = ls at hl ⊢
  have hl : lv_has ls 5 [(0, .ref pl), (1, .int (nI a_))] := hl
  refine W_genQ (fun Q hQ => ?_)
  have hlm := lim_le hP4
  have hlq := lim_pos P
  have hsg := sgn_le hP4
  refine lv_lconst (v := 0) hx hb dX4_togetherAbove_0 (by decide) ?_
  refine lv_lstore_n (lv' := [(2, .long 0), (0, .ref pl), (1, .int (nI a_))]) hx hb dX4_togetherAbove_1 rfl hl (by decide) rfl (fun ls hl => ?_)
  refine lv_iconst (v := 0) hx hb dX4_togetherAbove_2 (by decide) ?_
  refine lv_istore (lv' := [(4, .int 0), (2, .long 0), (0, .ref pl), (1, .int (nI a_))]) hx hb dX4_togetherAbove_3 hl (by decide) rfl (fun ls hl => ?_)
  have LOOP5 : ∀ (n5 : Nat) (u2_5 : Int64) (pe : Nat), pe ≤ P → P - pe < n5 → ∀ (ls : Array Slot), lv_has ls 5 [(0, .ref pl), (1, .int (nI a_)), (2, .long u2_5), (4, .int (nI pe))] → W p l e ({ frames := 2, cells := 0, slots := 0, locals := 46 } : Room) s m args below meth c s.heap [] 0 0 Q (F0 m 5 ls []) := by
    intro n5
    induction n5 with
    | zero =>
      intro u2_5 pe hpe hn5 ls hl
      exact absurd hn5 (Nat.not_lt_zero _)
    | succ n5 ih5 =>
      intro u2_5 pe hpe hn5 ls hl
      refine lv_iload hx hb dX4_togetherAbove_5 (lv_at hl 3 rfl) ?_
      refine lv_aload_n hx hb dX4_togetherAbove_7 rfl (lv_at hl 0 rfl) ?_
      refine va_get (D := D) (ci := 4) (v := .ref aq) (C := RX4) (T := TX4) (N := 10) hx hb hg gwX4 hown hK hP 0 rfl rfl 0 (by decide) (hg _ kw_188) (fun _ h9 => h9) rfl dX4_togetherAbove_8 ?_
      refine va_get (D := D) (ci := 5) (v := .int (nI P)) (C := RX5) (T := TX5) (N := 7) hx hb hg gwX5 hown hK hP 2 rfl rfl 5 (by decide) (hg _ kw_140) (fun _ h9 => h9) rfl dX4_togetherAbove_11 ?_
      refine lv_icmp_ge (tgt := 33) hx hb dX4_togetherAbove_14 (by decide) (fun c_14 => ?_) (fun c_14 => ?_)
      · have n_14 : P ≤ pe := b_le_t (by omega) (by omega) c_14
        refine lv_lload_n hx hb dX4_togetherAbove_33 rfl (lv_at hl 2 rfl) ?_
        refine W_sQ hQ ?_
        exact W.lret (v := u2_5) hx hb hr (fun t ht hW => ⟨u2_5, rfl, trivial, ht⟩) (fun _ h => absurd h List.not_mem_nil) dX4_togetherAbove_34
      · have n_14 : pe < P := b_le_f (by omega) (by omega) c_14
        refine lv_lload_n hx hb dX4_togetherAbove_17 rfl (lv_at hl 2 rfl) ?_
        refine lv_aload_n hx hb dX4_togetherAbove_18 rfl (lv_at hl 0 rfl) ?_
        refine lv_iload_n hx hb dX4_togetherAbove_19 rfl (lv_at hl 1 rfl) ?_
        refine lv_iload hx hb dX4_togetherAbove_20 (lv_at hl 3 rfl) ?_
        have hPc := hP.sub (ws' := [(pl, .inr (4, [.ref aq, .ref nx, .ref sn, .ref va, .long bel, .int gs, .int gp, .int la, .int stp, .int rou])), (va, .inl (cs 1, 1024, .inr (.inl fva))), (aq, .inr (5, [.ref aw, .ref ac, .ref ao, .ref am, .int (nI C), .int (nI P), .long tot])), (ao, .inl (cs 0, 4, .inl fao))]) [0, 1, 2, 3] rfl
        refine vp_callSl (W.runV (As := [.int (nI a_), .int (nI pe)]) (rest := [.long u2_5]) ⟨hx, hb, hml, hown, hg⟩ (y_above l D cs pl nx sn bel gs gp la stp rou va fva aq aw ac ao am C (by omega) P (by omega) tot fao a_ (by omega) pe (by omega)) (cwV 2 hg (gw_V kw_206 kw_207 kw_208 kw_196 kw_205) rfl rfl rfl (by decide +kernel) ⟨(Nat.le_of_ble_eq_true rfl), (Nat.le_of_ble_eq_true rfl)⟩) (pr_SV (q := (RX4, TX4, 10)) 4 0 hK hPc rfl rfl) rfl rfl hl.1 rfl (lv_room (Nat.le_of_ble_eq_true rfl)) dX4_togetherAbove_22 ⟨(Nat.le_of_ble_eq_true rfl), (Nat.le_of_ble_eq_true rfl)⟩) (fun r_22 h_22 => ?_)
        clear h_22
        refine lv_ladd hx hb dX4_togetherAbove_25 ?_
        refine lv_topl (fun z_25 e_25 => ?_)
        refine lv_lstore_n (lv' := [(2, .long z_25), (0, .ref pl), (1, .int (nI a_)), (4, .int (nI pe))]) hx hb dX4_togetherAbove_26 rfl hl (by decide) rfl (fun ls hl => ?_)
        refine lv_iinc (v := (nI (pe + 1))) (lv' := [(4, .int (nI (pe + 1))), (2, .long z_25), (0, .ref pl), (1, .int (nI a_))]) hx hb dX4_togetherAbove_27 hl (k := 3) rfl (nI_add pe 1) (by decide) rfl (fun ls hl => ?_)
        refine lv_goto (tgt := 5) hx hb dX4_togetherAbove_30 (by decide) ?_
        exact ih5 z_25 (pe + 1) (by omega) (by omega) ls (lv_sub hl [2, 3, 1, 0] rfl)
  exact LOOP5 (P - 0 + 1) 0 0 (by omega) (Nat.lt_succ_self _) ls (lv_sub hl [2, 3, 1, 0] rfl)

theorem dX4_changedIn_0 : decode cX4_changedIn 0 = .ok (.iconst 0, 1) := by decide +kernel
theorem dX4_changedIn_1 : decode cX4_changedIn 1 = .ok (.istore_n 3, 1) := by decide +kernel
theorem dX4_changedIn_2 : decode cX4_changedIn 2 = .ok (.iconst 0, 1) := by decide +kernel
theorem dX4_changedIn_3 : decode cX4_changedIn 3 = .ok (.istore 4, 2) := by decide +kernel
theorem dX4_changedIn_5 : decode cX4_changedIn 5 = .ok (.iload 4, 2) := by decide +kernel
theorem dX4_changedIn_7 : decode cX4_changedIn 7 = .ok (.aload_n 0, 1) := by decide +kernel
theorem dX4_changedIn_8 : decode cX4_changedIn 8 = .ok (.getfield 22, 3) := by decide +kernel
theorem dX4_changedIn_11 : decode cX4_changedIn 11 = .ok (.getfield 49, 3) := by decide +kernel
theorem dX4_changedIn_14 : decode cX4_changedIn 14 = .ok (.if_icmp .ge 29, 3) := by decide +kernel
theorem dX4_changedIn_17 : decode cX4_changedIn 17 = .ok (.iload_n 1, 1) := by decide +kernel
theorem dX4_changedIn_18 : decode cX4_changedIn 18 = .ok (.iload_n 2, 1) := by decide +kernel
theorem dX4_changedIn_19 : decode cX4_changedIn 19 = .ok (.ixor, 1) := by decide +kernel
theorem dX4_changedIn_20 : decode cX4_changedIn 20 = .ok (.iconst 2, 1) := by decide +kernel
theorem dX4_changedIn_21 : decode cX4_changedIn 21 = .ok (.iload 4, 2) := by decide +kernel
theorem dX4_changedIn_23 : decode cX4_changedIn 23 = .ok (.imul, 1) := by decide +kernel
theorem dX4_changedIn_24 : decode cX4_changedIn 24 = .ok (.ishr, 1) := by decide +kernel
theorem dX4_changedIn_25 : decode cX4_changedIn 25 = .ok (.iconst 3, 1) := by decide +kernel
theorem dX4_changedIn_26 : decode cX4_changedIn 26 = .ok (.iand, 1) := by decide +kernel
theorem dX4_changedIn_27 : decode cX4_changedIn 27 = .ok (.ifCond .eq 10, 3) := by decide +kernel
theorem dX4_changedIn_30 : decode cX4_changedIn 30 = .ok (.iload_n 3, 1) := by decide +kernel
theorem dX4_changedIn_31 : decode cX4_changedIn 31 = .ok (.iconst 1, 1) := by decide +kernel
theorem dX4_changedIn_32 : decode cX4_changedIn 32 = .ok (.iload 4, 2) := by decide +kernel
theorem dX4_changedIn_34 : decode cX4_changedIn 34 = .ok (.ishl, 1) := by decide +kernel
theorem dX4_changedIn_35 : decode cX4_changedIn 35 = .ok (.ior, 1) := by decide +kernel
theorem dX4_changedIn_36 : decode cX4_changedIn 36 = .ok (.istore_n 3, 1) := by decide +kernel
theorem dX4_changedIn_37 : decode cX4_changedIn 37 = .ok (.iinc 4 1, 3) := by decide +kernel
theorem dX4_changedIn_40 : decode cX4_changedIn 40 = .ok (.goto (-35), 3) := by decide +kernel
theorem dX4_changedIn_43 : decode cX4_changedIn 43 = .ok (.iload_n 3, 1) := by decide +kernel
theorem dX4_changedIn_44 : decode cX4_changedIn 44 = .ok (.ireturn, 1) := by decide +kernel

set_option maxHeartbeats 4000000 in
set_option maxRecDepth 100000 in
theorem y_changedIn (l : Launch) (D : va_G) (cs : Nat → ClassId) (pl : Nat) (nx : Nat) (sn : Nat) (bel : Int64) (gs : Int32) (gp : Int32) (la : Int32) (stp : Int32) (rou : Int32) (va : Nat) (fva : Nat → Int64) (aq : Nat) (aw : Nat) (ac : Nat) (ao : Nat) (am : Nat) (C : Nat) (hC5 : C ≤ 5) (P : Nat) (hP4 : P ≤ 4) (tot : Int64) (fao : Nat → Int32) (p1 : Int32) (p2 : Int32) : Met l yX4_changedIn (Cond.code yX4_changedIn cX4_changedIn 5 (some .int) :: gw_tbl) ({ frames := 0, cells := 0, slots := 0, locals := 0 }) (pc_S D cs [(pl, .inr (4, [.ref aq, .ref nx, .ref sn, .ref va, .long bel, .int gs, .int gp, .int la, .int stp, .int rou])), (va, .inl (cs 1, 1024, .inr (.inl fva))), (aq, .inr (5, [.ref aw, .ref ac, .ref ao, .ref am, .int (nI C), .int (nI P), .long tot])), (ao, .inl (cs 0, 4, .inl fao))] [.ref pl, .int p1, .int p2]) (vp_Si (fun r => True)) 0 0 (fun _ => False) := by
  refine Met.ofW (cc := cX4_changedIn) (maxL := 5) (ret := (some .int)) (by decide) rfl ?_
  intro p e s m args below meth c s₁ B hml hv
  obtain ⟨hargs, hP, hK⟩ := hv
  have hx := B.exec
  have hb := B.bytes
  have hr := B.returns
  have hts := atoms_spec (ws := Cond.code yX4_changedIn cX4_changedIn 5 (some .int) :: gw_tbl) B.pre
  have hg := fun (w : Cond) (h : w ∈ gw_tbl) => hts w (List.mem_cons_of_mem _ h)
  have hown : s.vm.findClass RX4 = some m.cls := findClass_of_methodNamed B.named
  have hlocks := B.notSynchronized
  have hl := lv_entry ([.ref pl, .int p1, .int p2]) (n := 5) (Nat.le_of_ble_eq_true rfl)
  rw [show entryFrame m args 5 = F0 m 0 (lg_sl ([.ref pl, .int p1, .int p2]) ++ List.replicate (5 - (lg_sl ([.ref pl, .int p1, .int p2])).length) Slot.unset).toArray [] from by rw [hargs]; exact lg_entry_eq ..]
  generalize (lg_sl ([.ref pl, .int p1, .int p2]) ++ List.replicate (5 - (lg_sl ([.ref pl, .int p1, .int p2])).length) Slot.unset).toArray = ls at hl ⊢
  have hl : lv_has ls 5 [(0, .ref pl), (1, .int p1), (2, .int p2)] := hl
  refine W_genQ (fun Q hQ => ?_)
  have hlm := lim_le hP4
  have hlq := lim_pos P
  have hsg := sgn_le hP4
  refine lv_iconst (v := 0) hx hb dX4_changedIn_0 (by decide) ?_
  refine lv_istore_n (lv' := [(3, .int 0), (0, .ref pl), (1, .int p1), (2, .int p2)]) hx hb dX4_changedIn_1 rfl hl (by decide) rfl (fun ls hl => ?_)
  refine lv_iconst (v := 0) hx hb dX4_changedIn_2 (by decide) ?_
  refine lv_istore (lv' := [(4, .int 0), (3, .int 0), (0, .ref pl), (1, .int p1), (2, .int p2)]) hx hb dX4_changedIn_3 hl (by decide) rfl (fun ls hl => ?_)
  have LOOP5 : ∀ (n5 : Nat) (u3_5 : Int32) (pe : Nat), pe ≤ P → P - pe < n5 → ∀ (ls : Array Slot), lv_has ls 5 [(0, .ref pl), (1, .int p1), (2, .int p2), (3, .int u3_5), (4, .int (nI pe))] → W p l e ({ frames := 0, cells := 0, slots := 0, locals := 0 } : Room) s m args below meth c s.heap [] 0 0 Q (F0 m 5 ls []) := by
    intro n5
    induction n5 with
    | zero =>
      intro u3_5 pe hpe hn5 ls hl
      exact absurd hn5 (Nat.not_lt_zero _)
    | succ n5 ih5 =>
      intro u3_5 pe hpe hn5 ls hl
      refine lv_iload hx hb dX4_changedIn_5 (lv_at hl 4 rfl) ?_
      refine lv_aload_n hx hb dX4_changedIn_7 rfl (lv_at hl 0 rfl) ?_
      refine va_get (D := D) (ci := 4) (v := .ref aq) (C := RX4) (T := TX4) (N := 10) hx hb hg gwX4 hown hK hP 0 rfl rfl 0 (by decide) (hg _ kw_188) (fun _ h9 => h9) rfl dX4_changedIn_8 ?_
      refine va_get (D := D) (ci := 5) (v := .int (nI P)) (C := RX5) (T := TX5) (N := 7) hx hb hg gwX5 hown hK hP 2 rfl rfl 5 (by decide) (hg _ kw_140) (fun _ h9 => h9) rfl dX4_changedIn_11 ?_
      refine lv_icmp_ge (tgt := 43) hx hb dX4_changedIn_14 (by decide) (fun c_14 => ?_) (fun c_14 => ?_)
      · have n_14 : P ≤ pe := b_le_t (by omega) (by omega) c_14
        refine lv_iload_n hx hb dX4_changedIn_43 rfl (lv_at hl 3 rfl) ?_
        refine W_sQ hQ ?_
        exact W.iret (v := u3_5) hx hb hr (fun t ht hW => ⟨u3_5, rfl, trivial, ht⟩) (fun _ h => absurd h List.not_mem_nil) dX4_changedIn_44
      · have n_14 : pe < P := b_le_f (by omega) (by omega) c_14
        refine lv_iload_n hx hb dX4_changedIn_17 rfl (lv_at hl 1 rfl) ?_
        refine lv_iload_n hx hb dX4_changedIn_18 rfl (lv_at hl 2 rfl) ?_
        refine lv_ixor hx hb dX4_changedIn_19 ?_
        refine lv_topi (fun z_19 e_19 => ?_)
        refine lv_iconst (v := 2) hx hb dX4_changedIn_20 (by decide) ?_
        refine lv_iload hx hb dX4_changedIn_21 (lv_at hl 4 rfl) ?_
        refine lv_imul hx hb dX4_changedIn_23 ?_
        refine lv_topi (fun z_23 e_23 => ?_)
        obtain rfl : z_23 = nI (2 * pe) := e_23.trans (pk_mul _ _)
        refine lv_ishr hx hb dX4_changedIn_24 ?_
        refine lv_topi (fun z_24 e_24 => ?_)
        refine lv_iconst (v := 3) hx hb dX4_changedIn_25 (by decide) ?_
        refine lv_iand hx hb dX4_changedIn_26 ?_
        refine lv_topi (fun z_26 e_26 => ?_)
        obtain ⟨j_26, hj_26, ee_26⟩ := pk_andE z_24 (m := 3) 2 rfl
        obtain rfl : z_26 = nI j_26 := e_26.trans ee_26
        have hj_26 : j_26 < 4 := hj_26
        refine lv_if_eq (tgt := 37) hx hb dX4_changedIn_27 (by decide) (fun c_27 => ?_) (fun c_27 => ?_)
        · have n_27 : j_26 = 0 := b_eq_t (by omega) (by omega) c_27
          refine lv_iinc (v := (nI (pe + 1))) (lv' := [(4, .int (nI (pe + 1))), (0, .ref pl), (1, .int p1), (2, .int p2), (3, .int u3_5)]) hx hb dX4_changedIn_37 hl (k := 4) rfl (nI_add pe 1) (by decide) rfl (fun ls hl => ?_)
          refine lv_goto (tgt := 5) hx hb dX4_changedIn_40 (by decide) ?_
          exact ih5 u3_5 (pe + 1) (by omega) (by omega) ls (lv_sub hl [1, 2, 3, 4, 0] rfl)
        · have n_27 : ¬ j_26 = 0 := b_eq_f (by omega) (by omega) c_27
          refine lv_iload_n hx hb dX4_changedIn_30 rfl (lv_at hl 3 rfl) ?_
          refine lv_iconst (v := 1) hx hb dX4_changedIn_31 (by decide) ?_
          refine lv_iload hx hb dX4_changedIn_32 (lv_at hl 4 rfl) ?_
          refine lv_ishl hx hb dX4_changedIn_34 ?_
          refine lv_topi (fun z_34 e_34 => ?_)
          refine lv_ior hx hb dX4_changedIn_35 ?_
          refine lv_topi (fun z_35 e_35 => ?_)
          refine lv_istore_n (lv' := [(3, .int z_35), (0, .ref pl), (1, .int p1), (2, .int p2), (4, .int (nI pe))]) hx hb dX4_changedIn_36 rfl hl (by decide) rfl (fun ls hl => ?_)
          refine lv_iinc (v := (nI (pe + 1))) (lv' := [(4, .int (nI (pe + 1))), (3, .int z_35), (0, .ref pl), (1, .int p1), (2, .int p2)]) hx hb dX4_changedIn_37 hl (k := 4) rfl (nI_add pe 1) (by decide) rfl (fun ls hl => ?_)
          refine lv_goto (tgt := 5) hx hb dX4_changedIn_40 (by decide) ?_
          exact ih5 z_35 (pe + 1) (by omega) (by omega) ls (lv_sub hl [2, 3, 4, 1, 0] rfl)
  exact LOOP5 (P - 0 + 1) 0 0 (by omega) (Nat.lt_succ_self _) ls (lv_sub hl [2, 3, 4, 1, 0] rfl)

theorem dX4_allGain_0 : decode cX4_allGain 0 = .ok (.iconst 0, 1) := by decide +kernel
theorem dX4_allGain_1 : decode cX4_allGain 1 = .ok (.istore 4, 2) := by decide +kernel
theorem dX4_allGain_3 : decode cX4_allGain 3 = .ok (.iload 4, 2) := by decide +kernel
theorem dX4_allGain_5 : decode cX4_allGain 5 = .ok (.aload_n 0, 1) := by decide +kernel
theorem dX4_allGain_6 : decode cX4_allGain 6 = .ok (.getfield 22, 3) := by decide +kernel
theorem dX4_allGain_9 : decode cX4_allGain 9 = .ok (.getfield 49, 3) := by decide +kernel
theorem dX4_allGain_12 : decode cX4_allGain 12 = .ok (.if_icmp .ge 51, 3) := by decide +kernel
theorem dX4_allGain_15 : decode cX4_allGain 15 = .ok (.iload_n 1, 1) := by decide +kernel
theorem dX4_allGain_16 : decode cX4_allGain 16 = .ok (.iload 4, 2) := by decide +kernel
theorem dX4_allGain_18 : decode cX4_allGain 18 = .ok (.ishr, 1) := by decide +kernel
theorem dX4_allGain_19 : decode cX4_allGain 19 = .ok (.iconst 1, 1) := by decide +kernel
theorem dX4_allGain_20 : decode cX4_allGain 20 = .ok (.iand, 1) := by decide +kernel
theorem dX4_allGain_21 : decode cX4_allGain 21 = .ok (.iconst 1, 1) := by decide +kernel
theorem dX4_allGain_22 : decode cX4_allGain 22 = .ok (.if_icmp .ne 7, 3) := by decide +kernel
theorem dX4_allGain_25 : decode cX4_allGain 25 = .ok (.iconst 1, 1) := by decide +kernel
theorem dX4_allGain_26 : decode cX4_allGain 26 = .ok (.goto 4, 3) := by decide +kernel
theorem dX4_allGain_29 : decode cX4_allGain 29 = .ok (.iconst 0, 1) := by decide +kernel
theorem dX4_allGain_30 : decode cX4_allGain 30 = .ok (.istore 5, 2) := by decide +kernel
theorem dX4_allGain_32 : decode cX4_allGain 32 = .ok (.iload 5, 2) := by decide +kernel
theorem dX4_allGain_34 : decode cX4_allGain 34 = .ok (.ifCond .eq 23, 3) := by decide +kernel
theorem dX4_allGain_37 : decode cX4_allGain 37 = .ok (.aload_n 0, 1) := by decide +kernel
theorem dX4_allGain_38 : decode cX4_allGain 38 = .ok (.iload_n 3, 1) := by decide +kernel
theorem dX4_allGain_39 : decode cX4_allGain 39 = .ok (.iload 4, 2) := by decide +kernel
theorem dX4_allGain_41 : decode cX4_allGain 41 = .ok (.invokevirtual 87, 3) := by decide +kernel
theorem dX4_allGain_44 : decode cX4_allGain 44 = .ok (.aload_n 0, 1) := by decide +kernel
theorem dX4_allGain_45 : decode cX4_allGain 45 = .ok (.iload_n 2, 1) := by decide +kernel
theorem dX4_allGain_46 : decode cX4_allGain 46 = .ok (.iload 4, 2) := by decide +kernel
theorem dX4_allGain_48 : decode cX4_allGain 48 = .ok (.invokevirtual 87, 3) := by decide +kernel
theorem dX4_allGain_51 : decode cX4_allGain 51 = .ok (.lcmp, 1) := by decide +kernel
theorem dX4_allGain_52 : decode cX4_allGain 52 = .ok (.ifCond .gt 5, 3) := by decide +kernel
theorem dX4_allGain_55 : decode cX4_allGain 55 = .ok (.iconst 0, 1) := by decide +kernel
theorem dX4_allGain_56 : decode cX4_allGain 56 = .ok (.ireturn, 1) := by decide +kernel
theorem dX4_allGain_57 : decode cX4_allGain 57 = .ok (.iinc 4 1, 3) := by decide +kernel
theorem dX4_allGain_60 : decode cX4_allGain 60 = .ok (.goto (-57), 3) := by decide +kernel
theorem dX4_allGain_63 : decode cX4_allGain 63 = .ok (.iconst 1, 1) := by decide +kernel
theorem dX4_allGain_64 : decode cX4_allGain 64 = .ok (.ireturn, 1) := by decide +kernel

set_option maxHeartbeats 4000000 in
set_option maxRecDepth 100000 in
theorem y_allGain (l : Launch) (D : va_G) (cs : Nat → ClassId) (pl : Nat) (nx : Nat) (sn : Nat) (bel : Int64) (gs : Int32) (gp : Int32) (la : Int32) (stp : Int32) (rou : Int32) (va : Nat) (fva : Nat → Int64) (aq : Nat) (aw : Nat) (ac : Nat) (ao : Nat) (am : Nat) (C : Nat) (hC5 : C ≤ 5) (P : Nat) (hP4 : P ≤ 4) (tot : Int64) (fao : Nat → Int32) (a_ : Nat) (ha_ : a_ < lim P) (b_ : Nat) (hb_ : b_ < lim P) (set : Int32) : Met l yX4_allGain (Cond.code yX4_allGain cX4_allGain 6 (some .boolean) :: gw_tbl) ({ frames := 2, cells := 0, slots := 0, locals := 46 }) (pc_S D cs [(pl, .inr (4, [.ref aq, .ref nx, .ref sn, .ref va, .long bel, .int gs, .int gp, .int la, .int stp, .int rou])), (va, .inl (cs 1, 1024, .inr (.inl fva))), (aq, .inr (5, [.ref aw, .ref ac, .ref ao, .ref am, .int (nI C), .int (nI P), .long tot])), (ao, .inl (cs 0, 4, .inl fao))] [.ref pl, .int set, .int (nI a_), .int (nI b_)]) (vp_Si (fun r => r = 0 ∨ r = 1)) 0 0 (fun _ => False) := by
  refine Met.ofW (cc := cX4_allGain) (maxL := 6) (ret := (some .boolean)) (by decide) rfl ?_
  intro p e s m args below meth c s₁ B hml hv
  obtain ⟨hargs, hP, hK⟩ := hv
  have hx := B.exec
  have hb := B.bytes
  have hr := B.returns
  have hts := atoms_spec (ws := Cond.code yX4_allGain cX4_allGain 6 (some .boolean) :: gw_tbl) B.pre
  have hg := fun (w : Cond) (h : w ∈ gw_tbl) => hts w (List.mem_cons_of_mem _ h)
  have hown : s.vm.findClass RX4 = some m.cls := findClass_of_methodNamed B.named
  have hlocks := B.notSynchronized
  have hl := lv_entry ([.ref pl, .int set, .int (nI a_), .int (nI b_)]) (n := 6) (Nat.le_of_ble_eq_true rfl)
  rw [show entryFrame m args 6 = F0 m 0 (lg_sl ([.ref pl, .int set, .int (nI a_), .int (nI b_)]) ++ List.replicate (6 - (lg_sl ([.ref pl, .int set, .int (nI a_), .int (nI b_)])).length) Slot.unset).toArray [] from by rw [hargs]; exact lg_entry_eq ..]
  generalize (lg_sl ([.ref pl, .int set, .int (nI a_), .int (nI b_)]) ++ List.replicate (6 - (lg_sl ([.ref pl, .int set, .int (nI a_), .int (nI b_)])).length) Slot.unset).toArray = ls at hl ⊢
  have hl : lv_has ls 6 [(0, .ref pl), (1, .int set), (2, .int (nI a_)), (3, .int (nI b_))] := hl
  refine W_genQ (fun Q hQ => ?_)
  have hlm := lim_le hP4
  have hlq := lim_pos P
  have hsg := sgn_le hP4
  refine lv_iconst (v := 0) hx hb dX4_allGain_0 (by decide) ?_
  refine lv_istore (lv' := [(4, .int 0), (0, .ref pl), (1, .int set), (2, .int (nI a_)), (3, .int (nI b_))]) hx hb dX4_allGain_1 hl (by decide) rfl (fun ls hl => ?_)
  have LOOP3 : ∀ (n3 : Nat) (pe : Nat), pe ≤ P → P - pe < n3 → ∀ (ls : Array Slot), lv_has ls 6 [(0, .ref pl), (1, .int set), (2, .int (nI a_)), (3, .int (nI b_)), (4, .int (nI pe))] → W p l e ({ frames := 2, cells := 0, slots := 0, locals := 46 } : Room) s m args below meth c s.heap [] 0 0 Q (F0 m 3 ls []) := by
    intro n3
    induction n3 with
    | zero =>
      intro pe hpe hn3 ls hl
      exact absurd hn3 (Nat.not_lt_zero _)
    | succ n3 ih3 =>
      intro pe hpe hn3 ls hl
      refine lv_iload hx hb dX4_allGain_3 (lv_at hl 4 rfl) ?_
      refine lv_aload_n hx hb dX4_allGain_5 rfl (lv_at hl 0 rfl) ?_
      refine va_get (D := D) (ci := 4) (v := .ref aq) (C := RX4) (T := TX4) (N := 10) hx hb hg gwX4 hown hK hP 0 rfl rfl 0 (by decide) (hg _ kw_188) (fun _ h9 => h9) rfl dX4_allGain_6 ?_
      refine va_get (D := D) (ci := 5) (v := .int (nI P)) (C := RX5) (T := TX5) (N := 7) hx hb hg gwX5 hown hK hP 2 rfl rfl 5 (by decide) (hg _ kw_140) (fun _ h9 => h9) rfl dX4_allGain_9 ?_
      refine lv_icmp_ge (tgt := 63) hx hb dX4_allGain_12 (by decide) (fun c_12 => ?_) (fun c_12 => ?_)
      · have n_12 : P ≤ pe := b_le_t (by omega) (by omega) c_12
        refine lv_iconst (v := 1) hx hb dX4_allGain_63 (by decide) ?_
        refine W_sQ hQ ?_
        exact W.zret (v := 1) hx hb hr (by decide) (fun t ht hW => ⟨1, rfl, (Or.inr rfl), ht⟩) (fun _ h => absurd h List.not_mem_nil) dX4_allGain_64
      · have n_12 : pe < P := b_le_f (by omega) (by omega) c_12
        refine lv_iload_n hx hb dX4_allGain_15 rfl (lv_at hl 1 rfl) ?_
        refine lv_iload hx hb dX4_allGain_16 (lv_at hl 4 rfl) ?_
        refine lv_ishr hx hb dX4_allGain_18 ?_
        refine lv_topi (fun z_18 e_18 => ?_)
        refine lv_iconst (v := 1) hx hb dX4_allGain_19 (by decide) ?_
        refine lv_iand hx hb dX4_allGain_20 ?_
        refine lv_topi (fun z_20 e_20 => ?_)
        obtain ⟨j_20, hj_20, ee_20⟩ := pk_andE z_18 (m := 1) 1 rfl
        obtain rfl : z_20 = nI j_20 := e_20.trans ee_20
        have hj_20 : j_20 < 2 := hj_20
        refine lv_iconst (v := 1) hx hb dX4_allGain_21 (by decide) ?_
        refine lv_icmp_ne (tgt := 29) hx hb dX4_allGain_22 (by decide) (fun c_22 => ?_) (fun c_22 => ?_)
        · have n_22 : ¬ j_20 = 1 := b_eq_f (by omega) (by omega) c_22
          refine lv_iconst (v := 0) hx hb dX4_allGain_29 (by decide) ?_
          refine lv_istore (lv' := [(5, .int 0), (0, .ref pl), (1, .int set), (2, .int (nI a_)), (3, .int (nI b_)), (4, .int (nI pe))]) hx hb dX4_allGain_30 hl (by decide) rfl (fun ls hl => ?_)
          refine lv_iload hx hb dX4_allGain_32 (lv_at hl 0 rfl) ?_
          refine lv_if_eq (tgt := 57) hx hb dX4_allGain_34 (by decide) (fun c_34 => ?_) (fun c_34 => absurd c_34 (by decide))
          refine lv_iinc (v := (nI (pe + 1))) (lv' := [(4, .int (nI (pe + 1))), (5, .int 0), (0, .ref pl), (1, .int set), (2, .int (nI a_)), (3, .int (nI b_))]) hx hb dX4_allGain_57 hl (k := 5) rfl (nI_add pe 1) (by decide) rfl (fun ls hl => ?_)
          refine lv_goto (tgt := 3) hx hb dX4_allGain_60 (by decide) ?_
          exact ih3 (pe + 1) (by omega) (by omega) ls (lv_sub hl [2, 3, 4, 5, 0] rfl)
        · have n_22 : j_20 = 1 := b_eq_t (by omega) (by omega) c_22
          refine lv_iconst (v := 1) hx hb dX4_allGain_25 (by decide) ?_
          refine lv_goto (tgt := 30) hx hb dX4_allGain_26 (by decide) ?_
          refine lv_istore (lv' := [(5, .int 1), (0, .ref pl), (1, .int set), (2, .int (nI a_)), (3, .int (nI b_)), (4, .int (nI pe))]) hx hb dX4_allGain_30 hl (by decide) rfl (fun ls hl => ?_)
          refine lv_iload hx hb dX4_allGain_32 (lv_at hl 0 rfl) ?_
          refine lv_if_eq (tgt := 57) hx hb dX4_allGain_34 (by decide) (fun c_34 => absurd c_34 (by decide)) (fun c_34 => ?_)
          refine lv_aload_n hx hb dX4_allGain_37 rfl (lv_at hl 1 rfl) ?_
          refine lv_iload_n hx hb dX4_allGain_38 rfl (lv_at hl 4 rfl) ?_
          refine lv_iload hx hb dX4_allGain_39 (lv_at hl 5 rfl) ?_
          have hPc := hP.sub (ws' := [(pl, .inr (4, [.ref aq, .ref nx, .ref sn, .ref va, .long bel, .int gs, .int gp, .int la, .int stp, .int rou])), (va, .inl (cs 1, 1024, .inr (.inl fva))), (aq, .inr (5, [.ref aw, .ref ac, .ref ao, .ref am, .int (nI C), .int (nI P), .long tot])), (ao, .inl (cs 0, 4, .inl fao))]) [0, 1, 2, 3] rfl
          refine vp_callSl (W.runV (As := [.int (nI b_), .int (nI pe)]) (rest := []) ⟨hx, hb, hml, hown, hg⟩ (y_above l D cs pl nx sn bel gs gp la stp rou va fva aq aw ac ao am C (by omega) P (by omega) tot fao b_ (by omega) pe (by omega)) (cwV 2 hg (gw_V kw_206 kw_207 kw_208 kw_196 kw_205) rfl rfl rfl (by decide +kernel) ⟨(Nat.le_of_ble_eq_true rfl), (Nat.le_of_ble_eq_true rfl)⟩) (pr_SV (q := (RX4, TX4, 10)) 4 0 hK hPc rfl rfl) rfl rfl hl.1 rfl (lv_room (Nat.le_of_ble_eq_true rfl)) dX4_allGain_41 ⟨(Nat.le_of_ble_eq_true rfl), (Nat.le_of_ble_eq_true rfl)⟩) (fun r_41 h_41 => ?_)
          clear h_41
          refine lv_aload_n hx hb dX4_allGain_44 rfl (lv_at hl 1 rfl) ?_
          refine lv_iload_n hx hb dX4_allGain_45 rfl (lv_at hl 3 rfl) ?_
          refine lv_iload hx hb dX4_allGain_46 (lv_at hl 5 rfl) ?_
          have hPc := hP.sub (ws' := [(pl, .inr (4, [.ref aq, .ref nx, .ref sn, .ref va, .long bel, .int gs, .int gp, .int la, .int stp, .int rou])), (va, .inl (cs 1, 1024, .inr (.inl fva))), (aq, .inr (5, [.ref aw, .ref ac, .ref ao, .ref am, .int (nI C), .int (nI P), .long tot])), (ao, .inl (cs 0, 4, .inl fao))]) [0, 1, 2, 3] rfl
          refine vp_callSl (W.runV (As := [.int (nI a_), .int (nI pe)]) (rest := [.long r_41]) ⟨hx, hb, hml, hown, hg⟩ (y_above l D cs pl nx sn bel gs gp la stp rou va fva aq aw ac ao am C (by omega) P (by omega) tot fao a_ (by omega) pe (by omega)) (cwV 2 hg (gw_V kw_206 kw_207 kw_208 kw_196 kw_205) rfl rfl rfl (by decide +kernel) ⟨(Nat.le_of_ble_eq_true rfl), (Nat.le_of_ble_eq_true rfl)⟩) (pr_SV (q := (RX4, TX4, 10)) 4 0 hK hPc rfl rfl) rfl rfl hl.1 rfl (lv_room (Nat.le_of_ble_eq_true rfl)) dX4_allGain_48 ⟨(Nat.le_of_ble_eq_true rfl), (Nat.le_of_ble_eq_true rfl)⟩) (fun r_48 h_48 => ?_)
          clear h_48
          refine W.lcmp hx hb dX4_allGain_51 ?_
          refine lv_topi (fun z_51 e_51 => ?_)
          refine lv_if_gt (tgt := 57) hx hb dX4_allGain_52 (by decide) (fun c_52 => ?_) (fun c_52 => ?_)
          · refine lv_iinc (v := (nI (pe + 1))) (lv' := [(4, .int (nI (pe + 1))), (5, .int 1), (0, .ref pl), (1, .int set), (2, .int (nI a_)), (3, .int (nI b_))]) hx hb dX4_allGain_57 hl (k := 5) rfl (nI_add pe 1) (by decide) rfl (fun ls hl => ?_)
            refine lv_goto (tgt := 3) hx hb dX4_allGain_60 (by decide) ?_
            exact ih3 (pe + 1) (by omega) (by omega) ls (lv_sub hl [2, 3, 4, 5, 0] rfl)
          · refine lv_iconst (v := 0) hx hb dX4_allGain_55 (by decide) ?_
            refine W_sQ hQ ?_
            exact W.zret (v := 0) hx hb hr (by decide) (fun t ht hW => ⟨0, rfl, (Or.inl rfl), ht⟩) (fun _ h => absurd h List.not_mem_nil) dX4_allGain_56
  exact LOOP3 (P - 0 + 1) 0 (by omega) (Nat.lt_succ_self _) ls (lv_sub hl [1, 2, 3, 4, 0] rfl)

theorem dX4_countRests_0 : decode cX4_countRests 0 = .ok (.aload_n 0, 1) := by decide +kernel
theorem dX4_countRests_1 : decode cX4_countRests 1 = .ok (.getfield 22, 3) := by decide +kernel
theorem dX4_countRests_4 : decode cX4_countRests 4 = .ok (.invokevirtual 46, 3) := by decide +kernel
theorem dX4_countRests_7 : decode cX4_countRests 7 = .ok (.istore_n 1, 1) := by decide +kernel
theorem dX4_countRests_8 : decode cX4_countRests 8 = .ok (.iconst 0, 1) := by decide +kernel
theorem dX4_countRests_9 : decode cX4_countRests 9 = .ok (.istore_n 2, 1) := by decide +kernel
theorem dX4_countRests_10 : decode cX4_countRests 10 = .ok (.iconst 0, 1) := by decide +kernel
theorem dX4_countRests_11 : decode cX4_countRests 11 = .ok (.istore_n 3, 1) := by decide +kernel
theorem dX4_countRests_12 : decode cX4_countRests 12 = .ok (.iload_n 3, 1) := by decide +kernel
theorem dX4_countRests_13 : decode cX4_countRests 13 = .ok (.iload_n 1, 1) := by decide +kernel
theorem dX4_countRests_14 : decode cX4_countRests 14 = .ok (.if_icmp .ge 21, 3) := by decide +kernel
theorem dX4_countRests_17 : decode cX4_countRests 17 = .ok (.aload_n 0, 1) := by decide +kernel
theorem dX4_countRests_18 : decode cX4_countRests 18 = .ok (.iload_n 3, 1) := by decide +kernel
theorem dX4_countRests_19 : decode cX4_countRests 19 = .ok (.invokevirtual 98, 3) := by decide +kernel
theorem dX4_countRests_22 : decode cX4_countRests 22 = .ok (.iconst (-1), 1) := by decide +kernel
theorem dX4_countRests_23 : decode cX4_countRests 23 = .ok (.if_icmp .ne 6, 3) := by decide +kernel
theorem dX4_countRests_26 : decode cX4_countRests 26 = .ok (.iinc 2 1, 3) := by decide +kernel
theorem dX4_countRests_29 : decode cX4_countRests 29 = .ok (.iinc 3 1, 3) := by decide +kernel
theorem dX4_countRests_32 : decode cX4_countRests 32 = .ok (.goto (-20), 3) := by decide +kernel
theorem dX4_countRests_35 : decode cX4_countRests 35 = .ok (.iload_n 2, 1) := by decide +kernel
theorem dX4_countRests_36 : decode cX4_countRests 36 = .ok (.ireturn, 1) := by decide +kernel

set_option maxHeartbeats 4000000 in
set_option maxRecDepth 100000 in
theorem y_countRests (l : Launch) (D : va_G) (cs : Nat → ClassId) (pl : Nat) (nx : Nat) (sn : Nat) (bel : Int64) (gs : Int32) (gp : Int32) (la : Int32) (stp : Int32) (rou : Int32) (va : Nat) (fva : Nat → Int64) (aq : Nat) (aw : Nat) (ac : Nat) (ao : Nat) (am : Nat) (C : Nat) (hC5 : C ≤ 5) (P : Nat) (hP4 : P ≤ 4) (tot : Int64) (fao : Nat → Int32) : Met l yX4_countRests (Cond.code yX4_countRests cX4_countRests 4 (some .int) :: gw_tbl) ({ frames := 4, cells := 0, slots := 0, locals := 93 }) (pc_S D cs [(pl, .inr (4, [.ref aq, .ref nx, .ref sn, .ref va, .long bel, .int gs, .int gp, .int la, .int stp, .int rou])), (va, .inl (cs 1, 1024, .inr (.inl fva))), (aq, .inr (5, [.ref aw, .ref ac, .ref ao, .ref am, .int (nI C), .int (nI P), .long tot])), (ao, .inl (cs 0, 4, .inl fao))] [.ref pl]) (vp_Si (fun r => True)) 0 0 (fun _ => False) := by
  refine Met.ofW (cc := cX4_countRests) (maxL := 4) (ret := (some .int)) (by decide) rfl ?_
  intro p e s m args below meth c s₁ B hml hv
  obtain ⟨hargs, hP, hK⟩ := hv
  have hx := B.exec
  have hb := B.bytes
  have hr := B.returns
  have hts := atoms_spec (ws := Cond.code yX4_countRests cX4_countRests 4 (some .int) :: gw_tbl) B.pre
  have hg := fun (w : Cond) (h : w ∈ gw_tbl) => hts w (List.mem_cons_of_mem _ h)
  have hown : s.vm.findClass RX4 = some m.cls := findClass_of_methodNamed B.named
  have hlocks := B.notSynchronized
  have hl := lv_entry ([.ref pl]) (n := 4) (Nat.le_of_ble_eq_true rfl)
  rw [show entryFrame m args 4 = F0 m 0 (lg_sl ([.ref pl]) ++ List.replicate (4 - (lg_sl ([.ref pl])).length) Slot.unset).toArray [] from by rw [hargs]; exact lg_entry_eq ..]
  generalize (lg_sl ([.ref pl]) ++ List.replicate (4 - (lg_sl ([.ref pl])).length) Slot.unset).toArray = ls at hl ⊢
  have hl : lv_has ls 4 [(0, .ref pl)] := hl
  refine W_genQ (fun Q hQ => ?_)
  have hlm := lim_le hP4
  have hlq := lim_pos P
  have hsg := sgn_le hP4
  refine lv_aload_n hx hb dX4_countRests_0 rfl (lv_at hl 0 rfl) ?_
  refine va_get (D := D) (ci := 4) (v := .ref aq) (C := RX4) (T := TX4) (N := 10) hx hb hg gwX4 hown hK hP 0 rfl rfl 0 (by decide) (hg _ kw_188) (fun _ h9 => h9) rfl dX4_countRests_1 ?_
  have hPc := hP.sub (ws' := [(aq, .inr (5, [.ref aw, .ref ac, .ref ao, .ref am, .int (nI C), .int (nI P), .long tot]))]) [2] rfl
  refine vp_callSi (W.runV (As := []) (rest := []) ⟨hx, hb, hml, hown, hg⟩ (q_profileLimit l D cs aq aw ac ao am C (by omega) P (by omega) tot) (cwV 0 hg (gw_V kw_192 kw_17 kw_18 kw_19 kw_15) rfl rfl rfl (by decide +kernel) ⟨(Nat.le_of_ble_eq_true rfl), (Nat.le_of_ble_eq_true rfl)⟩) (pr_SV (q := (RX5, TX5, 7)) 5 0 hK hPc rfl rfl) rfl rfl hl.1 rfl (lv_room (Nat.le_of_ble_eq_true rfl)) dX4_countRests_4 ⟨(Nat.le_of_ble_eq_true rfl), (Nat.le_of_ble_eq_true rfl)⟩) (fun r_4 h_4 => ?_)
  obtain rfl : r_4 = nI (lim P) := h_4
  refine lv_istore_n (lv' := [(1, .int (nI (lim P))), (0, .ref pl)]) hx hb dX4_countRests_7 rfl hl (by decide) rfl (fun ls hl => ?_)
  refine lv_iconst (v := 0) hx hb dX4_countRests_8 (by decide) ?_
  refine lv_istore_n (lv' := [(2, .int 0), (1, .int (nI (lim P))), (0, .ref pl)]) hx hb dX4_countRests_9 rfl hl (by decide) rfl (fun ls hl => ?_)
  refine lv_iconst (v := 0) hx hb dX4_countRests_10 (by decide) ?_
  refine lv_istore_n (lv' := [(3, .int 0), (2, .int 0), (1, .int (nI (lim P))), (0, .ref pl)]) hx hb dX4_countRests_11 rfl hl (by decide) rfl (fun ls hl => ?_)
  have LOOP12 : ∀ (n12 : Nat) (u2_12 : Int32) (k : Nat), k ≤ lim P → lim P - k < n12 → ∀ (ls : Array Slot), lv_has ls 4 [(0, .ref pl), (1, .int (nI (lim P))), (2, .int u2_12), (3, .int (nI k))] → W p l e ({ frames := 4, cells := 0, slots := 0, locals := 93 } : Room) s m args below meth c s.heap [] 0 0 Q (F0 m 12 ls []) := by
    intro n12
    induction n12 with
    | zero =>
      intro u2_12 k hk hn12 ls hl
      exact absurd hn12 (Nat.not_lt_zero _)
    | succ n12 ih12 =>
      intro u2_12 k hk hn12 ls hl
      refine lv_iload_n hx hb dX4_countRests_12 rfl (lv_at hl 3 rfl) ?_
      refine lv_iload_n hx hb dX4_countRests_13 rfl (lv_at hl 1 rfl) ?_
      refine lv_icmp_ge (tgt := 35) hx hb dX4_countRests_14 (by decide) (fun c_14 => ?_) (fun c_14 => ?_)
      · have n_14 : lim P ≤ k := b_le_t (by omega) (by omega) c_14
        refine lv_iload_n hx hb dX4_countRests_35 rfl (lv_at hl 2 rfl) ?_
        refine W_sQ hQ ?_
        exact W.iret (v := u2_12) hx hb hr (fun t ht hW => ⟨u2_12, rfl, trivial, ht⟩) (fun _ h => absurd h List.not_mem_nil) dX4_countRests_36
      · have n_14 : k < lim P := b_le_f (by omega) (by omega) c_14
        refine lv_aload_n hx hb dX4_countRests_17 rfl (lv_at hl 0 rfl) ?_
        refine lv_iload_n hx hb dX4_countRests_18 rfl (lv_at hl 3 rfl) ?_
        have hPc := hP.sub (ws' := [(pl, .inr (4, [.ref aq, .ref nx, .ref sn, .ref va, .long bel, .int gs, .int gp, .int la, .int stp, .int rou])), (va, .inl (cs 1, 1024, .inr (.inl fva))), (aq, .inr (5, [.ref aw, .ref ac, .ref ao, .ref am, .int (nI C), .int (nI P), .long tot])), (ao, .inl (cs 0, 4, .inl fao))]) [0, 1, 2, 3] rfl
        refine vp_callSi (W.runV (As := [.int (nI k)]) (rest := []) ⟨hx, hb, hml, hown, hg⟩ (y_firstUnrested l D cs pl nx sn bel gs gp la stp rou va fva aq aw ac ao am C (by omega) P (by omega) tot fao k (by omega)) (cwV 1 hg (gw_V kw_218 kw_219 kw_220 kw_196 kw_217) rfl rfl rfl (by decide +kernel) ⟨(Nat.le_of_ble_eq_true rfl), (Nat.le_of_ble_eq_true rfl)⟩) (pr_SV (q := (RX4, TX4, 10)) 4 0 hK hPc rfl rfl) rfl rfl hl.1 rfl (lv_room (Nat.le_of_ble_eq_true rfl)) dX4_countRests_19 ⟨(Nat.le_of_ble_eq_true rfl), (Nat.le_of_ble_eq_true rfl)⟩) (fun r_19 h_19 => ?_)
        rcases h_19 with rfl | ⟨k_19, rfl, hk_19⟩
        · refine lv_iconst (v := (-1)) hx hb dX4_countRests_22 (by decide) ?_
          refine lv_icmp_ne (tgt := 29) hx hb dX4_countRests_23 (by decide) (fun c_23 => absurd c_23 (by decide)) (fun c_23 => ?_)
          obtain ⟨z_26, e_26⟩ : ∃ y : Int32, y = u2_12 + 1 := ⟨_, rfl⟩
          refine lv_iinc (v := z_26) (lv' := [(2, .int z_26), (0, .ref pl), (1, .int (nI (lim P))), (3, .int (nI k))]) hx hb dX4_countRests_26 hl (k := 2) rfl (by rw [e_26]; rfl) (by decide) rfl (fun ls hl => ?_)
          refine lv_iinc (v := (nI (k + 1))) (lv' := [(3, .int (nI (k + 1))), (2, .int z_26), (0, .ref pl), (1, .int (nI (lim P)))]) hx hb dX4_countRests_29 hl (k := 3) rfl (nI_add k 1) (by decide) rfl (fun ls hl => ?_)
          refine lv_goto (tgt := 12) hx hb dX4_countRests_32 (by decide) ?_
          exact ih12 z_26 (k + 1) (by omega) (by omega) ls (lv_sub hl [2, 3, 1, 0] rfl)
        · refine lv_iconst (v := (-1)) hx hb dX4_countRests_22 (by decide) ?_
          refine lv_icmp_ne (tgt := 29) hx hb dX4_countRests_23 (by decide) (fun c_23 => ?_) (fun c_23 => absurd c_23 (nI_nm (by omega)))
          refine lv_iinc (v := (nI (k + 1))) (lv' := [(3, .int (nI (k + 1))), (0, .ref pl), (1, .int (nI (lim P))), (2, .int u2_12)]) hx hb dX4_countRests_29 hl (k := 3) rfl (nI_add k 1) (by decide) rfl (fun ls hl => ?_)
          refine lv_goto (tgt := 12) hx hb dX4_countRests_32 (by decide) ?_
          exact ih12 u2_12 (k + 1) (by omega) (by omega) ls (lv_sub hl [1, 2, 3, 0] rfl)
  exact LOOP12 (lim P - 0 + 1) 0 0 (by omega) (Nat.lt_succ_self _) ls (lv_sub hl [3, 2, 1, 0] rfl)

theorem dX4_countRicher_0 : decode cX4_countRicher 0 = .ok (.aload_n 0, 1) := by decide +kernel
theorem dX4_countRicher_1 : decode cX4_countRicher 1 = .ok (.getfield 22, 3) := by decide +kernel
theorem dX4_countRicher_4 : decode cX4_countRicher 4 = .ok (.invokevirtual 46, 3) := by decide +kernel
theorem dX4_countRicher_7 : decode cX4_countRicher 7 = .ok (.istore_n 1, 1) := by decide +kernel
theorem dX4_countRicher_8 : decode cX4_countRicher 8 = .ok (.aload_n 0, 1) := by decide +kernel
theorem dX4_countRicher_9 : decode cX4_countRicher 9 = .ok (.iconst 0, 1) := by decide +kernel
theorem dX4_countRicher_10 : decode cX4_countRicher 10 = .ok (.invokevirtual 101, 3) := by decide +kernel
theorem dX4_countRicher_13 : decode cX4_countRicher 13 = .ok (.lstore_n 2, 1) := by decide +kernel
theorem dX4_countRicher_14 : decode cX4_countRicher 14 = .ok (.iconst 0, 1) := by decide +kernel
theorem dX4_countRicher_15 : decode cX4_countRicher 15 = .ok (.istore 4, 2) := by decide +kernel
theorem dX4_countRicher_17 : decode cX4_countRicher 17 = .ok (.iconst 0, 1) := by decide +kernel
theorem dX4_countRicher_18 : decode cX4_countRicher 18 = .ok (.istore 5, 2) := by decide +kernel
theorem dX4_countRicher_20 : decode cX4_countRicher 20 = .ok (.iload 5, 2) := by decide +kernel
theorem dX4_countRicher_22 : decode cX4_countRicher 22 = .ok (.iload_n 1, 1) := by decide +kernel
theorem dX4_countRicher_23 : decode cX4_countRicher 23 = .ok (.if_icmp .ge 33, 3) := by decide +kernel
theorem dX4_countRicher_26 : decode cX4_countRicher 26 = .ok (.aload_n 0, 1) := by decide +kernel
theorem dX4_countRicher_27 : decode cX4_countRicher 27 = .ok (.iload 5, 2) := by decide +kernel
theorem dX4_countRicher_29 : decode cX4_countRicher 29 = .ok (.invokevirtual 101, 3) := by decide +kernel
theorem dX4_countRicher_32 : decode cX4_countRicher 32 = .ok (.lload_n 2, 1) := by decide +kernel
theorem dX4_countRicher_33 : decode cX4_countRicher 33 = .ok (.lcmp, 1) := by decide +kernel
theorem dX4_countRicher_34 : decode cX4_countRicher 34 = .ok (.ifCond .le 16, 3) := by decide +kernel
theorem dX4_countRicher_37 : decode cX4_countRicher 37 = .ok (.aload_n 0, 1) := by decide +kernel
theorem dX4_countRicher_38 : decode cX4_countRicher 38 = .ok (.iload 5, 2) := by decide +kernel
theorem dX4_countRicher_40 : decode cX4_countRicher 40 = .ok (.invokevirtual 98, 3) := by decide +kernel
theorem dX4_countRicher_43 : decode cX4_countRicher 43 = .ok (.iconst (-1), 1) := by decide +kernel
theorem dX4_countRicher_44 : decode cX4_countRicher 44 = .ok (.if_icmp .ne 6, 3) := by decide +kernel
theorem dX4_countRicher_47 : decode cX4_countRicher 47 = .ok (.iinc 4 1, 3) := by decide +kernel
theorem dX4_countRicher_50 : decode cX4_countRicher 50 = .ok (.iinc 5 1, 3) := by decide +kernel
theorem dX4_countRicher_53 : decode cX4_countRicher 53 = .ok (.goto (-33), 3) := by decide +kernel
theorem dX4_countRicher_56 : decode cX4_countRicher 56 = .ok (.iload 4, 2) := by decide +kernel
theorem dX4_countRicher_58 : decode cX4_countRicher 58 = .ok (.ireturn, 1) := by decide +kernel
theorem kw_221 : (.code yX4_togetherAbove cX4_togetherAbove 5 (some .long) : Cond) ∈ gw_tbl := gw_in (by decide +kernel) (by decide +kernel)
theorem kw_222 : (.methodLink RX4 101 yX4_togetherAbove : Cond) ∈ gw_tbl := gw_in (by decide +kernel) (by decide +kernel)
theorem kw_223 : (.instanceMethod yX4_togetherAbove : Cond) ∈ gw_tbl := gw_in (by decide +kernel) (by decide +kernel)
theorem kw_224 : (.selects RX4 yX4_togetherAbove yX4_togetherAbove : Cond) ∈ gw_tbl := gw_in (by decide +kernel) (by decide +kernel)

set_option maxHeartbeats 4000000 in
set_option maxRecDepth 100000 in
theorem y_countRicher (l : Launch) (D : va_G) (cs : Nat → ClassId) (pl : Nat) (nx : Nat) (sn : Nat) (bel : Int64) (gs : Int32) (gp : Int32) (la : Int32) (stp : Int32) (rou : Int32) (va : Nat) (fva : Nat → Int64) (aq : Nat) (aw : Nat) (ac : Nat) (ao : Nat) (am : Nat) (C : Nat) (hC5 : C ≤ 5) (P : Nat) (hP4 : P ≤ 4) (tot : Int64) (fao : Nat → Int32) : Met l yX4_countRicher (Cond.code yX4_countRicher cX4_countRicher 6 (some .int) :: gw_tbl) ({ frames := 4, cells := 0, slots := 0, locals := 93 }) (pc_S D cs [(pl, .inr (4, [.ref aq, .ref nx, .ref sn, .ref va, .long bel, .int gs, .int gp, .int la, .int stp, .int rou])), (va, .inl (cs 1, 1024, .inr (.inl fva))), (aq, .inr (5, [.ref aw, .ref ac, .ref ao, .ref am, .int (nI C), .int (nI P), .long tot])), (ao, .inl (cs 0, 4, .inl fao))] [.ref pl]) (vp_Si (fun r => True)) 0 0 (fun _ => False) := by
  refine Met.ofW (cc := cX4_countRicher) (maxL := 6) (ret := (some .int)) (by decide) rfl ?_
  intro p e s m args below meth c s₁ B hml hv
  obtain ⟨hargs, hP, hK⟩ := hv
  have hx := B.exec
  have hb := B.bytes
  have hr := B.returns
  have hts := atoms_spec (ws := Cond.code yX4_countRicher cX4_countRicher 6 (some .int) :: gw_tbl) B.pre
  have hg := fun (w : Cond) (h : w ∈ gw_tbl) => hts w (List.mem_cons_of_mem _ h)
  have hown : s.vm.findClass RX4 = some m.cls := findClass_of_methodNamed B.named
  have hlocks := B.notSynchronized
  have hl := lv_entry ([.ref pl]) (n := 6) (Nat.le_of_ble_eq_true rfl)
  rw [show entryFrame m args 6 = F0 m 0 (lg_sl ([.ref pl]) ++ List.replicate (6 - (lg_sl ([.ref pl])).length) Slot.unset).toArray [] from by rw [hargs]; exact lg_entry_eq ..]
  generalize (lg_sl ([.ref pl]) ++ List.replicate (6 - (lg_sl ([.ref pl])).length) Slot.unset).toArray = ls at hl ⊢
  have hl : lv_has ls 6 [(0, .ref pl)] := hl
  refine W_genQ (fun Q hQ => ?_)
  have hlm := lim_le hP4
  have hlq := lim_pos P
  have hsg := sgn_le hP4
  refine lv_aload_n hx hb dX4_countRicher_0 rfl (lv_at hl 0 rfl) ?_
  refine va_get (D := D) (ci := 4) (v := .ref aq) (C := RX4) (T := TX4) (N := 10) hx hb hg gwX4 hown hK hP 0 rfl rfl 0 (by decide) (hg _ kw_188) (fun _ h9 => h9) rfl dX4_countRicher_1 ?_
  have hPc := hP.sub (ws' := [(aq, .inr (5, [.ref aw, .ref ac, .ref ao, .ref am, .int (nI C), .int (nI P), .long tot]))]) [2] rfl
  refine vp_callSi (W.runV (As := []) (rest := []) ⟨hx, hb, hml, hown, hg⟩ (q_profileLimit l D cs aq aw ac ao am C (by omega) P (by omega) tot) (cwV 0 hg (gw_V kw_192 kw_17 kw_18 kw_19 kw_15) rfl rfl rfl (by decide +kernel) ⟨(Nat.le_of_ble_eq_true rfl), (Nat.le_of_ble_eq_true rfl)⟩) (pr_SV (q := (RX5, TX5, 7)) 5 0 hK hPc rfl rfl) rfl rfl hl.1 rfl (lv_room (Nat.le_of_ble_eq_true rfl)) dX4_countRicher_4 ⟨(Nat.le_of_ble_eq_true rfl), (Nat.le_of_ble_eq_true rfl)⟩) (fun r_4 h_4 => ?_)
  obtain rfl : r_4 = nI (lim P) := h_4
  refine lv_istore_n (lv' := [(1, .int (nI (lim P))), (0, .ref pl)]) hx hb dX4_countRicher_7 rfl hl (by decide) rfl (fun ls hl => ?_)
  refine lv_aload_n hx hb dX4_countRicher_8 rfl (lv_at hl 1 rfl) ?_
  refine lv_iconst (v := 0) hx hb dX4_countRicher_9 (by decide) ?_
  have hPc := hP.sub (ws' := [(pl, .inr (4, [.ref aq, .ref nx, .ref sn, .ref va, .long bel, .int gs, .int gp, .int la, .int stp, .int rou])), (va, .inl (cs 1, 1024, .inr (.inl fva))), (aq, .inr (5, [.ref aw, .ref ac, .ref ao, .ref am, .int (nI C), .int (nI P), .long tot])), (ao, .inl (cs 0, 4, .inl fao))]) [0, 1, 2, 3] rfl
  refine vp_callSl (W.runV (As := [.int 0]) (rest := []) ⟨hx, hb, hml, hown, hg⟩ (y_togetherAbove l D cs pl nx sn bel gs gp la stp rou va fva aq aw ac ao am C (by omega) P (by omega) tot fao 0 (by omega)) (cwV 1 hg (gw_V kw_222 kw_223 kw_224 kw_196 kw_221) rfl rfl rfl (by decide +kernel) ⟨(Nat.le_of_ble_eq_true rfl), (Nat.le_of_ble_eq_true rfl)⟩) (pr_SV (q := (RX4, TX4, 10)) 4 0 hK hPc rfl rfl) rfl rfl hl.1 rfl (lv_room (Nat.le_of_ble_eq_true rfl)) dX4_countRicher_10 ⟨(Nat.le_of_ble_eq_true rfl), (Nat.le_of_ble_eq_true rfl)⟩) (fun r_10 h_10 => ?_)
  clear h_10
  refine lv_lstore_n (lv' := [(2, .long r_10), (1, .int (nI (lim P))), (0, .ref pl)]) hx hb dX4_countRicher_13 rfl hl (by decide) rfl (fun ls hl => ?_)
  refine lv_iconst (v := 0) hx hb dX4_countRicher_14 (by decide) ?_
  refine lv_istore (lv' := [(4, .int 0), (2, .long r_10), (1, .int (nI (lim P))), (0, .ref pl)]) hx hb dX4_countRicher_15 hl (by decide) rfl (fun ls hl => ?_)
  refine lv_iconst (v := 0) hx hb dX4_countRicher_17 (by decide) ?_
  refine lv_istore (lv' := [(5, .int 0), (4, .int 0), (2, .long r_10), (1, .int (nI (lim P))), (0, .ref pl)]) hx hb dX4_countRicher_18 hl (by decide) rfl (fun ls hl => ?_)
  have LOOP20 : ∀ (n20 : Nat) (u4_20 : Int32) (k : Nat), k ≤ lim P → lim P - k < n20 → ∀ (ls : Array Slot), lv_has ls 6 [(0, .ref pl), (1, .int (nI (lim P))), (2, .long r_10), (4, .int u4_20), (5, .int (nI k))] → W p l e ({ frames := 4, cells := 0, slots := 0, locals := 93 } : Room) s m args below meth c s.heap [] 0 0 Q (F0 m 20 ls []) := by
    intro n20
    induction n20 with
    | zero =>
      intro u4_20 k hk hn20 ls hl
      exact absurd hn20 (Nat.not_lt_zero _)
    | succ n20 ih20 =>
      intro u4_20 k hk hn20 ls hl
      refine lv_iload hx hb dX4_countRicher_20 (lv_at hl 4 rfl) ?_
      refine lv_iload_n hx hb dX4_countRicher_22 rfl (lv_at hl 1 rfl) ?_
      refine lv_icmp_ge (tgt := 56) hx hb dX4_countRicher_23 (by decide) (fun c_23 => ?_) (fun c_23 => ?_)
      · have n_23 : lim P ≤ k := b_le_t (by omega) (by omega) c_23
        refine lv_iload hx hb dX4_countRicher_56 (lv_at hl 3 rfl) ?_
        refine W_sQ hQ ?_
        exact W.iret (v := u4_20) hx hb hr (fun t ht hW => ⟨u4_20, rfl, trivial, ht⟩) (fun _ h => absurd h List.not_mem_nil) dX4_countRicher_58
      · have n_23 : k < lim P := b_le_f (by omega) (by omega) c_23
        refine lv_aload_n hx hb dX4_countRicher_26 rfl (lv_at hl 0 rfl) ?_
        refine lv_iload hx hb dX4_countRicher_27 (lv_at hl 4 rfl) ?_
        have hPc := hP.sub (ws' := [(pl, .inr (4, [.ref aq, .ref nx, .ref sn, .ref va, .long bel, .int gs, .int gp, .int la, .int stp, .int rou])), (va, .inl (cs 1, 1024, .inr (.inl fva))), (aq, .inr (5, [.ref aw, .ref ac, .ref ao, .ref am, .int (nI C), .int (nI P), .long tot])), (ao, .inl (cs 0, 4, .inl fao))]) [0, 1, 2, 3] rfl
        refine vp_callSl (W.runV (As := [.int (nI k)]) (rest := []) ⟨hx, hb, hml, hown, hg⟩ (y_togetherAbove l D cs pl nx sn bel gs gp la stp rou va fva aq aw ac ao am C (by omega) P (by omega) tot fao k (by omega)) (cwV 1 hg (gw_V kw_222 kw_223 kw_224 kw_196 kw_221) rfl rfl rfl (by decide +kernel) ⟨(Nat.le_of_ble_eq_true rfl), (Nat.le_of_ble_eq_true rfl)⟩) (pr_SV (q := (RX4, TX4, 10)) 4 0 hK hPc rfl rfl) rfl rfl hl.1 rfl (lv_room (Nat.le_of_ble_eq_true rfl)) dX4_countRicher_29 ⟨(Nat.le_of_ble_eq_true rfl), (Nat.le_of_ble_eq_true rfl)⟩) (fun r_29 h_29 => ?_)
        clear h_29
        refine lv_lload_n hx hb dX4_countRicher_32 rfl (lv_at hl 2 rfl) ?_
        refine W.lcmp hx hb dX4_countRicher_33 ?_
        refine lv_topi (fun z_33 e_33 => ?_)
        refine lv_if_le (tgt := 50) hx hb dX4_countRicher_34 (by decide) (fun c_34 => ?_) (fun c_34 => ?_)
        · refine lv_iinc (v := (nI (k + 1))) (lv' := [(5, .int (nI (k + 1))), (0, .ref pl), (1, .int (nI (lim P))), (2, .long r_10), (4, .int u4_20)]) hx hb dX4_countRicher_50 hl (k := 4) rfl (nI_add k 1) (by decide) rfl (fun ls hl => ?_)
          refine lv_goto (tgt := 20) hx hb dX4_countRicher_53 (by decide) ?_
          exact ih20 u4_20 (k + 1) (by omega) (by omega) ls (lv_sub hl [1, 2, 3, 4, 0] rfl)
        · refine lv_aload_n hx hb dX4_countRicher_37 rfl (lv_at hl 0 rfl) ?_
          refine lv_iload hx hb dX4_countRicher_38 (lv_at hl 4 rfl) ?_
          have hPc := hP.sub (ws' := [(pl, .inr (4, [.ref aq, .ref nx, .ref sn, .ref va, .long bel, .int gs, .int gp, .int la, .int stp, .int rou])), (va, .inl (cs 1, 1024, .inr (.inl fva))), (aq, .inr (5, [.ref aw, .ref ac, .ref ao, .ref am, .int (nI C), .int (nI P), .long tot])), (ao, .inl (cs 0, 4, .inl fao))]) [0, 1, 2, 3] rfl
          refine vp_callSi (W.runV (As := [.int (nI k)]) (rest := []) ⟨hx, hb, hml, hown, hg⟩ (y_firstUnrested l D cs pl nx sn bel gs gp la stp rou va fva aq aw ac ao am C (by omega) P (by omega) tot fao k (by omega)) (cwV 1 hg (gw_V kw_218 kw_219 kw_220 kw_196 kw_217) rfl rfl rfl (by decide +kernel) ⟨(Nat.le_of_ble_eq_true rfl), (Nat.le_of_ble_eq_true rfl)⟩) (pr_SV (q := (RX4, TX4, 10)) 4 0 hK hPc rfl rfl) rfl rfl hl.1 rfl (lv_room (Nat.le_of_ble_eq_true rfl)) dX4_countRicher_40 ⟨(Nat.le_of_ble_eq_true rfl), (Nat.le_of_ble_eq_true rfl)⟩) (fun r_40 h_40 => ?_)
          rcases h_40 with rfl | ⟨k_40, rfl, hk_40⟩
          · refine lv_iconst (v := (-1)) hx hb dX4_countRicher_43 (by decide) ?_
            refine lv_icmp_ne (tgt := 50) hx hb dX4_countRicher_44 (by decide) (fun c_44 => absurd c_44 (by decide)) (fun c_44 => ?_)
            obtain ⟨z_47, e_47⟩ : ∃ y : Int32, y = u4_20 + 1 := ⟨_, rfl⟩
            refine lv_iinc (v := z_47) (lv' := [(4, .int z_47), (0, .ref pl), (1, .int (nI (lim P))), (2, .long r_10), (5, .int (nI k))]) hx hb dX4_countRicher_47 hl (k := 3) rfl (by rw [e_47]; rfl) (by decide) rfl (fun ls hl => ?_)
            refine lv_iinc (v := (nI (k + 1))) (lv' := [(5, .int (nI (k + 1))), (4, .int z_47), (0, .ref pl), (1, .int (nI (lim P))), (2, .long r_10)]) hx hb dX4_countRicher_50 hl (k := 4) rfl (nI_add k 1) (by decide) rfl (fun ls hl => ?_)
            refine lv_goto (tgt := 20) hx hb dX4_countRicher_53 (by decide) ?_
            exact ih20 z_47 (k + 1) (by omega) (by omega) ls (lv_sub hl [2, 3, 4, 1, 0] rfl)
          · refine lv_iconst (v := (-1)) hx hb dX4_countRicher_43 (by decide) ?_
            refine lv_icmp_ne (tgt := 50) hx hb dX4_countRicher_44 (by decide) (fun c_44 => ?_) (fun c_44 => absurd c_44 (nI_nm (by omega)))
            refine lv_iinc (v := (nI (k + 1))) (lv' := [(5, .int (nI (k + 1))), (0, .ref pl), (1, .int (nI (lim P))), (2, .long r_10), (4, .int u4_20)]) hx hb dX4_countRicher_50 hl (k := 4) rfl (nI_add k 1) (by decide) rfl (fun ls hl => ?_)
            refine lv_goto (tgt := 20) hx hb dX4_countRicher_53 (by decide) ?_
            exact ih20 u4_20 (k + 1) (by omega) (by omega) ls (lv_sub hl [1, 2, 3, 4, 0] rfl)
  exact LOOP20 (lim P - 0 + 1) 0 0 (by omega) (Nat.lt_succ_self _) ls (lv_sub hl [4, 3, 2, 1, 0] rfl)

theorem dX4_restAt_0 : decode cX4_restAt 0 = .ok (.aload_n 0, 1) := by decide +kernel
theorem dX4_restAt_1 : decode cX4_restAt 1 = .ok (.getfield 22, 3) := by decide +kernel
theorem dX4_restAt_4 : decode cX4_restAt 4 = .ok (.invokevirtual 46, 3) := by decide +kernel
theorem dX4_restAt_7 : decode cX4_restAt 7 = .ok (.istore_n 2, 1) := by decide +kernel
theorem dX4_restAt_8 : decode cX4_restAt 8 = .ok (.iload_n 1, 1) := by decide +kernel
theorem dX4_restAt_9 : decode cX4_restAt 9 = .ok (.istore_n 3, 1) := by decide +kernel
theorem dX4_restAt_10 : decode cX4_restAt 10 = .ok (.iconst 0, 1) := by decide +kernel
theorem dX4_restAt_11 : decode cX4_restAt 11 = .ok (.istore 4, 2) := by decide +kernel
theorem dX4_restAt_13 : decode cX4_restAt 13 = .ok (.iload 4, 2) := by decide +kernel
theorem dX4_restAt_15 : decode cX4_restAt 15 = .ok (.iload_n 2, 1) := by decide +kernel
theorem dX4_restAt_16 : decode cX4_restAt 16 = .ok (.if_icmp .ge 29, 3) := by decide +kernel
theorem dX4_restAt_19 : decode cX4_restAt 19 = .ok (.aload_n 0, 1) := by decide +kernel
theorem dX4_restAt_20 : decode cX4_restAt 20 = .ok (.iload 4, 2) := by decide +kernel
theorem dX4_restAt_22 : decode cX4_restAt 22 = .ok (.invokevirtual 98, 3) := by decide +kernel
theorem dX4_restAt_25 : decode cX4_restAt 25 = .ok (.iconst (-1), 1) := by decide +kernel
theorem dX4_restAt_26 : decode cX4_restAt 26 = .ok (.if_icmp .ne 13, 3) := by decide +kernel
theorem dX4_restAt_29 : decode cX4_restAt 29 = .ok (.iload_n 3, 1) := by decide +kernel
theorem dX4_restAt_30 : decode cX4_restAt 30 = .ok (.ifCond .ne 6, 3) := by decide +kernel
theorem dX4_restAt_33 : decode cX4_restAt 33 = .ok (.iload 4, 2) := by decide +kernel
theorem dX4_restAt_35 : decode cX4_restAt 35 = .ok (.ireturn, 1) := by decide +kernel
theorem dX4_restAt_36 : decode cX4_restAt 36 = .ok (.iinc 3 (-1), 3) := by decide +kernel
theorem dX4_restAt_39 : decode cX4_restAt 39 = .ok (.iinc 4 1, 3) := by decide +kernel
theorem dX4_restAt_42 : decode cX4_restAt 42 = .ok (.goto (-29), 3) := by decide +kernel
theorem dX4_restAt_45 : decode cX4_restAt 45 = .ok (.iconst (-1), 1) := by decide +kernel
theorem dX4_restAt_46 : decode cX4_restAt 46 = .ok (.ireturn, 1) := by decide +kernel

set_option maxHeartbeats 4000000 in
set_option maxRecDepth 100000 in
theorem y_restAt (l : Launch) (D : va_G) (cs : Nat → ClassId) (pl : Nat) (nx : Nat) (sn : Nat) (bel : Int64) (gs : Int32) (gp : Int32) (la : Int32) (stp : Int32) (rou : Int32) (va : Nat) (fva : Nat → Int64) (aq : Nat) (aw : Nat) (ac : Nat) (ao : Nat) (am : Nat) (C : Nat) (hC5 : C ≤ 5) (P : Nat) (hP4 : P ≤ 4) (tot : Int64) (fao : Nat → Int32) (p1 : Int32) : Met l yX4_restAt (Cond.code yX4_restAt cX4_restAt 5 (some .int) :: gw_tbl) ({ frames := 4, cells := 0, slots := 0, locals := 93 }) (pc_S D cs [(pl, .inr (4, [.ref aq, .ref nx, .ref sn, .ref va, .long bel, .int gs, .int gp, .int la, .int stp, .int rou])), (va, .inl (cs 1, 1024, .inr (.inl fva))), (aq, .inr (5, [.ref aw, .ref ac, .ref ao, .ref am, .int (nI C), .int (nI P), .long tot])), (ao, .inl (cs 0, 4, .inl fao))] [.ref pl, .int p1]) (vp_Si (fun r => True)) 0 0 (fun _ => False) := by
  refine Met.ofW (cc := cX4_restAt) (maxL := 5) (ret := (some .int)) (by decide) rfl ?_
  intro p e s m args below meth c s₁ B hml hv
  obtain ⟨hargs, hP, hK⟩ := hv
  have hx := B.exec
  have hb := B.bytes
  have hr := B.returns
  have hts := atoms_spec (ws := Cond.code yX4_restAt cX4_restAt 5 (some .int) :: gw_tbl) B.pre
  have hg := fun (w : Cond) (h : w ∈ gw_tbl) => hts w (List.mem_cons_of_mem _ h)
  have hown : s.vm.findClass RX4 = some m.cls := findClass_of_methodNamed B.named
  have hlocks := B.notSynchronized
  have hl := lv_entry ([.ref pl, .int p1]) (n := 5) (Nat.le_of_ble_eq_true rfl)
  rw [show entryFrame m args 5 = F0 m 0 (lg_sl ([.ref pl, .int p1]) ++ List.replicate (5 - (lg_sl ([.ref pl, .int p1])).length) Slot.unset).toArray [] from by rw [hargs]; exact lg_entry_eq ..]
  generalize (lg_sl ([.ref pl, .int p1]) ++ List.replicate (5 - (lg_sl ([.ref pl, .int p1])).length) Slot.unset).toArray = ls at hl ⊢
  have hl : lv_has ls 5 [(0, .ref pl), (1, .int p1)] := hl
  refine W_genQ (fun Q hQ => ?_)
  have hlm := lim_le hP4
  have hlq := lim_pos P
  have hsg := sgn_le hP4
  refine lv_aload_n hx hb dX4_restAt_0 rfl (lv_at hl 0 rfl) ?_
  refine va_get (D := D) (ci := 4) (v := .ref aq) (C := RX4) (T := TX4) (N := 10) hx hb hg gwX4 hown hK hP 0 rfl rfl 0 (by decide) (hg _ kw_188) (fun _ h9 => h9) rfl dX4_restAt_1 ?_
  have hPc := hP.sub (ws' := [(aq, .inr (5, [.ref aw, .ref ac, .ref ao, .ref am, .int (nI C), .int (nI P), .long tot]))]) [2] rfl
  refine vp_callSi (W.runV (As := []) (rest := []) ⟨hx, hb, hml, hown, hg⟩ (q_profileLimit l D cs aq aw ac ao am C (by omega) P (by omega) tot) (cwV 0 hg (gw_V kw_192 kw_17 kw_18 kw_19 kw_15) rfl rfl rfl (by decide +kernel) ⟨(Nat.le_of_ble_eq_true rfl), (Nat.le_of_ble_eq_true rfl)⟩) (pr_SV (q := (RX5, TX5, 7)) 5 0 hK hPc rfl rfl) rfl rfl hl.1 rfl (lv_room (Nat.le_of_ble_eq_true rfl)) dX4_restAt_4 ⟨(Nat.le_of_ble_eq_true rfl), (Nat.le_of_ble_eq_true rfl)⟩) (fun r_4 h_4 => ?_)
  obtain rfl : r_4 = nI (lim P) := h_4
  refine lv_istore_n (lv' := [(2, .int (nI (lim P))), (0, .ref pl), (1, .int p1)]) hx hb dX4_restAt_7 rfl hl (by decide) rfl (fun ls hl => ?_)
  refine lv_iload_n hx hb dX4_restAt_8 rfl (lv_at hl 2 rfl) ?_
  refine lv_istore_n (lv' := [(3, .int p1), (2, .int (nI (lim P))), (0, .ref pl), (1, .int p1)]) hx hb dX4_restAt_9 rfl hl (by decide) rfl (fun ls hl => ?_)
  refine lv_iconst (v := 0) hx hb dX4_restAt_10 (by decide) ?_
  refine lv_istore (lv' := [(4, .int 0), (3, .int p1), (2, .int (nI (lim P))), (0, .ref pl), (1, .int p1)]) hx hb dX4_restAt_11 hl (by decide) rfl (fun ls hl => ?_)
  have LOOP13 : ∀ (n13 : Nat) (u3_13 : Int32) (k : Nat), k ≤ lim P → lim P - k < n13 → ∀ (ls : Array Slot), lv_has ls 5 [(0, .ref pl), (1, .int p1), (2, .int (nI (lim P))), (3, .int u3_13), (4, .int (nI k))] → W p l e ({ frames := 4, cells := 0, slots := 0, locals := 93 } : Room) s m args below meth c s.heap [] 0 0 Q (F0 m 13 ls []) := by
    intro n13
    induction n13 with
    | zero =>
      intro u3_13 k hk hn13 ls hl
      exact absurd hn13 (Nat.not_lt_zero _)
    | succ n13 ih13 =>
      intro u3_13 k hk hn13 ls hl
      refine lv_iload hx hb dX4_restAt_13 (lv_at hl 4 rfl) ?_
      refine lv_iload_n hx hb dX4_restAt_15 rfl (lv_at hl 2 rfl) ?_
      refine lv_icmp_ge (tgt := 45) hx hb dX4_restAt_16 (by decide) (fun c_16 => ?_) (fun c_16 => ?_)
      · have n_16 : lim P ≤ k := b_le_t (by omega) (by omega) c_16
        refine lv_iconst (v := (-1)) hx hb dX4_restAt_45 (by decide) ?_
        refine W_sQ hQ ?_
        exact W.iret (v := (-1)) hx hb hr (fun t ht hW => ⟨(-1), rfl, trivial, ht⟩) (fun _ h => absurd h List.not_mem_nil) dX4_restAt_46
      · have n_16 : k < lim P := b_le_f (by omega) (by omega) c_16
        refine lv_aload_n hx hb dX4_restAt_19 rfl (lv_at hl 0 rfl) ?_
        refine lv_iload hx hb dX4_restAt_20 (lv_at hl 4 rfl) ?_
        have hPc := hP.sub (ws' := [(pl, .inr (4, [.ref aq, .ref nx, .ref sn, .ref va, .long bel, .int gs, .int gp, .int la, .int stp, .int rou])), (va, .inl (cs 1, 1024, .inr (.inl fva))), (aq, .inr (5, [.ref aw, .ref ac, .ref ao, .ref am, .int (nI C), .int (nI P), .long tot])), (ao, .inl (cs 0, 4, .inl fao))]) [0, 1, 2, 3] rfl
        refine vp_callSi (W.runV (As := [.int (nI k)]) (rest := []) ⟨hx, hb, hml, hown, hg⟩ (y_firstUnrested l D cs pl nx sn bel gs gp la stp rou va fva aq aw ac ao am C (by omega) P (by omega) tot fao k (by omega)) (cwV 1 hg (gw_V kw_218 kw_219 kw_220 kw_196 kw_217) rfl rfl rfl (by decide +kernel) ⟨(Nat.le_of_ble_eq_true rfl), (Nat.le_of_ble_eq_true rfl)⟩) (pr_SV (q := (RX4, TX4, 10)) 4 0 hK hPc rfl rfl) rfl rfl hl.1 rfl (lv_room (Nat.le_of_ble_eq_true rfl)) dX4_restAt_22 ⟨(Nat.le_of_ble_eq_true rfl), (Nat.le_of_ble_eq_true rfl)⟩) (fun r_22 h_22 => ?_)
        rcases h_22 with rfl | ⟨k_22, rfl, hk_22⟩
        · refine lv_iconst (v := (-1)) hx hb dX4_restAt_25 (by decide) ?_
          refine lv_icmp_ne (tgt := 39) hx hb dX4_restAt_26 (by decide) (fun c_26 => absurd c_26 (by decide)) (fun c_26 => ?_)
          refine lv_iload_n hx hb dX4_restAt_29 rfl (lv_at hl 3 rfl) ?_
          refine lv_if_ne (tgt := 36) hx hb dX4_restAt_30 (by decide) (fun c_30 => ?_) (fun c_30 => ?_)
          · obtain ⟨z_36, e_36⟩ : ∃ y : Int32, y = u3_13 + (-1) := ⟨_, rfl⟩
            refine lv_iinc (v := z_36) (lv' := [(3, .int z_36), (0, .ref pl), (1, .int p1), (2, .int (nI (lim P))), (4, .int (nI k))]) hx hb dX4_restAt_36 hl (k := 3) rfl (by rw [e_36]; rfl) (by decide) rfl (fun ls hl => ?_)
            refine lv_iinc (v := (nI (k + 1))) (lv' := [(4, .int (nI (k + 1))), (3, .int z_36), (0, .ref pl), (1, .int p1), (2, .int (nI (lim P)))]) hx hb dX4_restAt_39 hl (k := 4) rfl (nI_add k 1) (by decide) rfl (fun ls hl => ?_)
            refine lv_goto (tgt := 13) hx hb dX4_restAt_42 (by decide) ?_
            exact ih13 z_36 (k + 1) (by omega) (by omega) ls (lv_sub hl [2, 3, 4, 1, 0] rfl)
          · refine lv_iload hx hb dX4_restAt_33 (lv_at hl 4 rfl) ?_
            refine W_sQ hQ ?_
            exact W.iret (v := (nI k)) hx hb hr (fun t ht hW => ⟨(nI k), rfl, trivial, ht⟩) (fun _ h => absurd h List.not_mem_nil) dX4_restAt_35
        · refine lv_iconst (v := (-1)) hx hb dX4_restAt_25 (by decide) ?_
          refine lv_icmp_ne (tgt := 39) hx hb dX4_restAt_26 (by decide) (fun c_26 => ?_) (fun c_26 => absurd c_26 (nI_nm (by omega)))
          refine lv_iinc (v := (nI (k + 1))) (lv' := [(4, .int (nI (k + 1))), (0, .ref pl), (1, .int p1), (2, .int (nI (lim P))), (3, .int u3_13)]) hx hb dX4_restAt_39 hl (k := 4) rfl (nI_add k 1) (by decide) rfl (fun ls hl => ?_)
          refine lv_goto (tgt := 13) hx hb dX4_restAt_42 (by decide) ?_
          exact ih13 u3_13 (k + 1) (by omega) (by omega) ls (lv_sub hl [1, 2, 3, 4, 0] rfl)
  exact LOOP13 (lim P - 0 + 1) p1 0 (by omega) (Nat.lt_succ_self _) ls (lv_sub hl [3, 4, 2, 1, 0] rfl)

theorem dX4_seekGroup_0 : decode cX4_seekGroup 0 = .ok (.aload_n 0, 1) := by decide +kernel
theorem dX4_seekGroup_1 : decode cX4_seekGroup 1 = .ok (.getfield 22, 3) := by decide +kernel
theorem dX4_seekGroup_4 : decode cX4_seekGroup 4 = .ok (.invokevirtual 46, 3) := by decide +kernel
theorem dX4_seekGroup_7 : decode cX4_seekGroup 7 = .ok (.istore_n 2, 1) := by decide +kernel
theorem dX4_seekGroup_8 : decode cX4_seekGroup 8 = .ok (.iconst 5, 1) := by decide +kernel
theorem dX4_seekGroup_9 : decode cX4_seekGroup 9 = .ok (.istore_n 3, 1) := by decide +kernel
theorem dX4_seekGroup_10 : decode cX4_seekGroup 10 = .ok (.aload_n 0, 1) := by decide +kernel
theorem dX4_seekGroup_11 : decode cX4_seekGroup 11 = .ok (.iconst (-1), 1) := by decide +kernel
theorem dX4_seekGroup_12 : decode cX4_seekGroup 12 = .ok (.putfield 105, 3) := by decide +kernel
theorem dX4_seekGroup_15 : decode cX4_seekGroup 15 = .ok (.aload_n 0, 1) := by decide +kernel
theorem dX4_seekGroup_16 : decode cX4_seekGroup 16 = .ok (.iconst (-1), 1) := by decide +kernel
theorem dX4_seekGroup_17 : decode cX4_seekGroup 17 = .ok (.putfield 108, 3) := by decide +kernel
theorem dX4_seekGroup_20 : decode cX4_seekGroup 20 = .ok (.iconst 0, 1) := by decide +kernel
theorem dX4_seekGroup_21 : decode cX4_seekGroup 21 = .ok (.istore 4, 2) := by decide +kernel
theorem dX4_seekGroup_23 : decode cX4_seekGroup 23 = .ok (.iload 4, 2) := by decide +kernel
theorem dX4_seekGroup_25 : decode cX4_seekGroup 25 = .ok (.iload_n 2, 1) := by decide +kernel
theorem dX4_seekGroup_26 : decode cX4_seekGroup 26 = .ok (.if_icmp .ge 90, 3) := by decide +kernel
theorem dX4_seekGroup_29 : decode cX4_seekGroup 29 = .ok (.aload_n 0, 1) := by decide +kernel
theorem dX4_seekGroup_30 : decode cX4_seekGroup 30 = .ok (.iload_n 1, 1) := by decide +kernel
theorem dX4_seekGroup_31 : decode cX4_seekGroup 31 = .ok (.iload 4, 2) := by decide +kernel
theorem dX4_seekGroup_33 : decode cX4_seekGroup 33 = .ok (.invokevirtual 111, 3) := by decide +kernel
theorem dX4_seekGroup_36 : decode cX4_seekGroup 36 = .ok (.istore 5, 2) := by decide +kernel
theorem dX4_seekGroup_38 : decode cX4_seekGroup 38 = .ok (.iload 5, 2) := by decide +kernel
theorem dX4_seekGroup_40 : decode cX4_seekGroup 40 = .ok (.invokestatic 67, 3) := by decide +kernel
theorem dX4_seekGroup_43 : decode cX4_seekGroup 43 = .ok (.istore 6, 2) := by decide +kernel
theorem dX4_seekGroup_45 : decode cX4_seekGroup 45 = .ok (.iload 6, 2) := by decide +kernel
theorem dX4_seekGroup_47 : decode cX4_seekGroup 47 = .ok (.iload_n 3, 1) := by decide +kernel
theorem dX4_seekGroup_48 : decode cX4_seekGroup 48 = .ok (.if_icmp .lt 18, 3) := by decide +kernel
theorem dX4_seekGroup_51 : decode cX4_seekGroup 51 = .ok (.iload 6, 2) := by decide +kernel
theorem dX4_seekGroup_53 : decode cX4_seekGroup 53 = .ok (.iload_n 3, 1) := by decide +kernel
theorem dX4_seekGroup_54 : decode cX4_seekGroup 54 = .ok (.if_icmp .ne 16, 3) := by decide +kernel
theorem dX4_seekGroup_57 : decode cX4_seekGroup 57 = .ok (.iload 5, 2) := by decide +kernel
theorem dX4_seekGroup_59 : decode cX4_seekGroup 59 = .ok (.aload_n 0, 1) := by decide +kernel
theorem dX4_seekGroup_60 : decode cX4_seekGroup 60 = .ok (.getfield 105, 3) := by decide +kernel
theorem dX4_seekGroup_63 : decode cX4_seekGroup 63 = .ok (.if_icmp .ge 7, 3) := by decide +kernel
theorem dX4_seekGroup_66 : decode cX4_seekGroup 66 = .ok (.iconst 1, 1) := by decide +kernel
theorem dX4_seekGroup_67 : decode cX4_seekGroup 67 = .ok (.goto 4, 3) := by decide +kernel
theorem dX4_seekGroup_70 : decode cX4_seekGroup 70 = .ok (.iconst 0, 1) := by decide +kernel
theorem dX4_seekGroup_71 : decode cX4_seekGroup 71 = .ok (.istore 7, 2) := by decide +kernel
theorem dX4_seekGroup_73 : decode cX4_seekGroup 73 = .ok (.iload 6, 2) := by decide +kernel
theorem dX4_seekGroup_75 : decode cX4_seekGroup 75 = .ok (.ifCond .le 35, 3) := by decide +kernel
theorem dX4_seekGroup_78 : decode cX4_seekGroup 78 = .ok (.iload 7, 2) := by decide +kernel
theorem dX4_seekGroup_80 : decode cX4_seekGroup 80 = .ok (.ifCond .eq 30, 3) := by decide +kernel
theorem dX4_seekGroup_83 : decode cX4_seekGroup 83 = .ok (.aload_n 0, 1) := by decide +kernel
theorem dX4_seekGroup_84 : decode cX4_seekGroup 84 = .ok (.iload 5, 2) := by decide +kernel
theorem dX4_seekGroup_86 : decode cX4_seekGroup 86 = .ok (.iload_n 1, 1) := by decide +kernel
theorem dX4_seekGroup_87 : decode cX4_seekGroup 87 = .ok (.iload 4, 2) := by decide +kernel
theorem dX4_seekGroup_89 : decode cX4_seekGroup 89 = .ok (.invokevirtual 114, 3) := by decide +kernel
theorem dX4_seekGroup_92 : decode cX4_seekGroup 92 = .ok (.ifCond .eq 18, 3) := by decide +kernel
theorem dX4_seekGroup_95 : decode cX4_seekGroup 95 = .ok (.iload 6, 2) := by decide +kernel
theorem dX4_seekGroup_97 : decode cX4_seekGroup 97 = .ok (.istore_n 3, 1) := by decide +kernel
theorem dX4_seekGroup_98 : decode cX4_seekGroup 98 = .ok (.aload_n 0, 1) := by decide +kernel
theorem dX4_seekGroup_99 : decode cX4_seekGroup 99 = .ok (.iload 5, 2) := by decide +kernel
theorem dX4_seekGroup_101 : decode cX4_seekGroup 101 = .ok (.putfield 105, 3) := by decide +kernel
theorem dX4_seekGroup_104 : decode cX4_seekGroup 104 = .ok (.aload_n 0, 1) := by decide +kernel
theorem dX4_seekGroup_105 : decode cX4_seekGroup 105 = .ok (.iload 4, 2) := by decide +kernel
theorem dX4_seekGroup_107 : decode cX4_seekGroup 107 = .ok (.putfield 108, 3) := by decide +kernel
theorem dX4_seekGroup_110 : decode cX4_seekGroup 110 = .ok (.iinc 4 1, 3) := by decide +kernel
theorem dX4_seekGroup_113 : decode cX4_seekGroup 113 = .ok (.goto (-90), 3) := by decide +kernel
theorem dX4_seekGroup_116 : decode cX4_seekGroup 116 = .ok (.return_, 1) := by decide +kernel
theorem kw_225 : (.fieldLink RX4 105 "NobodyChecks$Play" "groupSet" "I" : Cond) ∈ gw_tbl := gw_in (by decide +kernel) (by decide +kernel)
theorem kw_226 : (.fieldLink RX4 108 "NobodyChecks$Play" "groupProfile" "I" : Cond) ∈ gw_tbl := gw_in (by decide +kernel) (by decide +kernel)
theorem kw_227 : (.code yX4_changedIn cX4_changedIn 5 (some .int) : Cond) ∈ gw_tbl := gw_in (by decide +kernel) (by decide +kernel)
theorem kw_228 : (.methodLink RX4 111 yX4_changedIn : Cond) ∈ gw_tbl := gw_in (by decide +kernel) (by decide +kernel)
theorem kw_229 : (.instanceMethod yX4_changedIn : Cond) ∈ gw_tbl := gw_in (by decide +kernel) (by decide +kernel)
theorem kw_230 : (.selects RX4 yX4_changedIn yX4_changedIn : Cond) ∈ gw_tbl := gw_in (by decide +kernel) (by decide +kernel)
theorem kw_231 : (.code yX4_allGain cX4_allGain 6 (some .boolean) : Cond) ∈ gw_tbl := gw_in (by decide +kernel) (by decide +kernel)
theorem kw_232 : (.methodLink RX4 114 yX4_allGain : Cond) ∈ gw_tbl := gw_in (by decide +kernel) (by decide +kernel)
theorem kw_233 : (.instanceMethod yX4_allGain : Cond) ∈ gw_tbl := gw_in (by decide +kernel) (by decide +kernel)
theorem kw_234 : (.selects RX4 yX4_allGain yX4_allGain : Cond) ∈ gw_tbl := gw_in (by decide +kernel) (by decide +kernel)

set_option maxHeartbeats 4000000 in
set_option maxRecDepth 100000 in
theorem y_seekGroup (l : Launch) (D : va_G) (cs : Nat → ClassId) (pl : Nat) (nx : Nat) (sn : Nat) (bel : Int64) (gs : Int32) (gp : Int32) (la : Int32) (stp : Int32) (rou : Int32) (va : Nat) (fva : Nat → Int64) (aq : Nat) (aw : Nat) (ac : Nat) (ao : Nat) (am : Nat) (C : Nat) (hC5 : C ≤ 5) (P : Nat) (hP4 : P ≤ 4) (tot : Int64) (fao : Nat → Int32) (a_ : Nat) (ha_ : a_ < lim P) (sz : Nat) : Met l yX4_seekGroup (Cond.code yX4_seekGroup cX4_seekGroup 8 none :: gw_tbl) ({ frames := 3, cells := 0, slots := 0, locals := 71 }) (pc_M D cs [(pl, .inr (4, [.ref aq, .ref nx, .ref sn, .ref va, .long bel, .int gs, .int gp, .int la, .int stp, .int rou])), (va, .inl (cs 1, 1024, .inr (.inl fva))), (aq, .inr (5, [.ref aw, .ref ac, .ref ao, .ref am, .int (nI C), .int (nI P), .long tot])), (ao, .inl (cs 0, 4, .inl fao))] sz [.ref pl, .int (nI a_)]) (va_Qv (fun (u : Unit) => True) (fun u t => ∃ (gs2 : Int32), ∃ (gp2 : Int32), va_P D vwCl [(pl, .inr (4, [.ref aq, .ref nx, .ref sn, .ref va, .long bel, .int gs2, .int gp2, .int la, .int stp, .int rou])), (va, .inl (cs 1, 1024, .inr (.inl fva))), (aq, .inr (5, [.ref aw, .ref ac, .ref ao, .ref am, .int (nI C), .int (nI P), .long tot])), (ao, .inl (cs 0, 4, .inl fao))] t.heap ∧ va_D (va_A [(pl, .inr (4, [.ref aq, .ref nx, .ref sn, .ref va, .long bel, .int gs, .int gp, .int la, .int stp, .int rou])), (va, .inl (cs 1, 1024, .inr (.inl fva))), (aq, .inr (5, [.ref aw, .ref ac, .ref ao, .ref am, .int (nI C), .int (nI P), .long tot])), (ao, .inl (cs 0, 4, .inl fao))] sz) [(pl, .inr (4, [.ref aq, .ref nx, .ref sn, .ref va, .long bel, .int gs2, .int gp2, .int la, .int stp, .int rou])), (va, .inl (cs 1, 1024, .inr (.inl fva))), (aq, .inr (5, [.ref aw, .ref ac, .ref ao, .ref am, .int (nI C), .int (nI P), .long tot])), (ao, .inl (cs 0, 4, .inl fao))]) (va_A [(pl, .inr (4, [.ref aq, .ref nx, .ref sn, .ref va, .long bel, .int gs, .int gp, .int la, .int stp, .int rou])), (va, .inl (cs 1, 1024, .inr (.inl fva))), (aq, .inr (5, [.ref aw, .ref ac, .ref ao, .ref am, .int (nI C), .int (nI P), .long tot])), (ao, .inl (cs 0, 4, .inl fao))] sz)) 0 0 (va_A [(pl, .inr (4, [.ref aq, .ref nx, .ref sn, .ref va, .long bel, .int gs, .int gp, .int la, .int stp, .int rou])), (va, .inl (cs 1, 1024, .inr (.inl fva))), (aq, .inr (5, [.ref aw, .ref ac, .ref ao, .ref am, .int (nI C), .int (nI P), .long tot])), (ao, .inl (cs 0, 4, .inl fao))] sz) := by
  refine Met.ofW (cc := cX4_seekGroup) (maxL := 8) (ret := none) (by decide) rfl ?_
  intro p e s m args below meth c s₁ B hml hv
  obtain ⟨hargs, hsz, hP, hK, hD0⟩ := hv
  have hx := B.exec
  have hb := B.bytes
  have hr := B.returns
  have hts := atoms_spec (ws := Cond.code yX4_seekGroup cX4_seekGroup 8 none :: gw_tbl) B.pre
  have hg := fun (w : Cond) (h : w ∈ gw_tbl) => hts w (List.mem_cons_of_mem _ h)
  have hown : s.vm.findClass RX4 = some m.cls := findClass_of_methodNamed B.named
  have hlocks := B.notSynchronized
  subst hsz
  have hD := hD0.self (sz := s.heap.size)
  generalize hAe : va_A [(pl, .inr (4, [.ref aq, .ref nx, .ref sn, .ref va, .long bel, .int gs, .int gp, .int la, .int stp, .int rou])), (va, .inl (cs 1, 1024, .inr (.inl fva))), (aq, .inr (5, [.ref aw, .ref ac, .ref ao, .ref am, .int (nI C), .int (nI P), .long tot])), (ao, .inl (cs 0, 4, .inl fao))] s.heap.size = A at hD ⊢
  have hA : ∀ q : Nat, s.heap.size ≤ q → A q := fun q h => by rw [← hAe]; exact Or.inr h
  have hS : va_S A s.heap s.heap [] := va_S.rf
  have hP : va_P D vwCl [(pl, .inr (4, [.ref aq, .ref nx, .ref sn, .ref va, .long bel, .int gs, .int gp, .int la, .int stp, .int rou])), (va, .inl (cs 1, 1024, .inr (.inl fva))), (aq, .inr (5, [.ref aw, .ref ac, .ref ao, .ref am, .int (nI C), .int (nI P), .long tot])), (ao, .inl (cs 0, 4, .inl fao))] s.heap := hP
  have hl := lv_entry ([.ref pl, .int (nI a_)]) (n := 8) (Nat.le_of_ble_eq_true rfl)
  rw [show entryFrame m args 8 = F0 m 0 (lg_sl ([.ref pl, .int (nI a_)]) ++ List.replicate (8 - (lg_sl ([.ref pl, .int (nI a_)])).length) Slot.unset).toArray [] from by rw [hargs]; exact lg_entry_eq ..]
  generalize (lg_sl ([.ref pl, .int (nI a_)]) ++ List.replicate (8 - (lg_sl ([.ref pl, .int (nI a_)])).length) Slot.unset).toArray = ls at hl ⊢
  have hl : lv_has ls 8 [(0, .ref pl), (1, .int (nI a_))] := hl
  refine W_genQ (fun Q hQ => ?_)
  have hlm := lim_le hP4
  have hlq := lim_pos P
  have hsg := sgn_le hP4
  refine lv_aload_n hx hb dX4_seekGroup_0 rfl (lv_at hl 0 rfl) ?_
  refine va_get (D := D) (ci := 4) (v := .ref aq) (C := RX4) (T := TX4) (N := 10) hx hb hg gwX4 hown hK hP 0 rfl rfl 0 (by decide) (hg _ kw_188) (fun _ h9 => h9) rfl dX4_seekGroup_1 ?_
  have hPc := hP.sub (ws' := [(aq, .inr (5, [.ref aw, .ref ac, .ref ao, .ref am, .int (nI C), .int (nI P), .long tot]))]) [2] rfl
  refine vp_callSi (W.runV (As := []) (rest := []) ⟨hx, hb, hml, hown, hg⟩ (q_profileLimit l D cs aq aw ac ao am C (by omega) P (by omega) tot) (cwV 0 hg (gw_V kw_192 kw_17 kw_18 kw_19 kw_15) rfl rfl rfl (by decide +kernel) ⟨(Nat.le_of_ble_eq_true rfl), (Nat.le_of_ble_eq_true rfl)⟩) (pr_SV (q := (RX5, TX5, 7)) 5 0 hK hPc rfl rfl) rfl rfl hl.1 rfl (lv_room (Nat.le_of_ble_eq_true rfl)) dX4_seekGroup_4 ⟨(Nat.le_of_ble_eq_true rfl), (Nat.le_of_ble_eq_true rfl)⟩) (fun r_4 h_4 => ?_)
  obtain rfl : r_4 = nI (lim P) := h_4
  refine lv_istore_n (lv' := [(2, .int (nI (lim P))), (0, .ref pl), (1, .int (nI a_))]) hx hb dX4_seekGroup_7 rfl hl (by decide) rfl (fun ls hl => ?_)
  refine lv_iconst (v := 5) hx hb dX4_seekGroup_8 (by decide) ?_
  refine lv_istore_n (lv' := [(3, .int 5), (2, .int (nI (lim P))), (0, .ref pl), (1, .int (nI a_))]) hx hb dX4_seekGroup_9 rfl hl (by decide) rfl (fun ls hl => ?_)
  refine lv_aload_n hx hb dX4_seekGroup_10 rfl (lv_at hl 2 rfl) ?_
  refine lv_iconst (v := (-1)) hx hb dX4_seekGroup_11 (by decide) ?_
  refine va_put (D := D) (ci := 4) (v := .int (-1)) (ty := .int) (C := RX4) (T := TX4) (N := 10) hx hb hg gwX4 tyX4 tyX4_ok nmX4 hown hK hP hD hS 0 rfl rfl 5 (by decide) (hg _ kw_225) (fun _ h9 => h9) rfl (by decide +kernel) rfl rfl (Nat.le_of_ble_eq_true rfl) dX4_seekGroup_12 (fun H locs hP hD hS => ?_)
  have hP : va_P D vwCl [(pl, .inr (4, [.ref aq, .ref nx, .ref sn, .ref va, .long bel, .int (-1), .int gp, .int la, .int stp, .int rou])), (va, .inl (cs 1, 1024, .inr (.inl fva))), (aq, .inr (5, [.ref aw, .ref ac, .ref ao, .ref am, .int (nI C), .int (nI P), .long tot])), (ao, .inl (cs 0, 4, .inl fao))] H := hP
  have hD : va_D A [(pl, .inr (4, [.ref aq, .ref nx, .ref sn, .ref va, .long bel, .int (-1), .int gp, .int la, .int stp, .int rou])), (va, .inl (cs 1, 1024, .inr (.inl fva))), (aq, .inr (5, [.ref aw, .ref ac, .ref ao, .ref am, .int (nI C), .int (nI P), .long tot])), (ao, .inl (cs 0, 4, .inl fao))] := hD
  refine lv_aload_n hx hb dX4_seekGroup_15 rfl (lv_at hl 2 rfl) ?_
  refine lv_iconst (v := (-1)) hx hb dX4_seekGroup_16 (by decide) ?_
  refine va_put (D := D) (ci := 4) (v := .int (-1)) (ty := .int) (C := RX4) (T := TX4) (N := 10) hx hb hg gwX4 tyX4 tyX4_ok nmX4 hown hK hP hD hS 0 rfl rfl 6 (by decide) (hg _ kw_226) (fun _ h9 => h9) rfl (by decide +kernel) rfl rfl (Nat.le_of_ble_eq_true rfl) dX4_seekGroup_17 (fun H locs hP hD hS => ?_)
  have hP : va_P D vwCl [(pl, .inr (4, [.ref aq, .ref nx, .ref sn, .ref va, .long bel, .int (-1), .int (-1), .int la, .int stp, .int rou])), (va, .inl (cs 1, 1024, .inr (.inl fva))), (aq, .inr (5, [.ref aw, .ref ac, .ref ao, .ref am, .int (nI C), .int (nI P), .long tot])), (ao, .inl (cs 0, 4, .inl fao))] H := hP
  have hD : va_D A [(pl, .inr (4, [.ref aq, .ref nx, .ref sn, .ref va, .long bel, .int (-1), .int (-1), .int la, .int stp, .int rou])), (va, .inl (cs 1, 1024, .inr (.inl fva))), (aq, .inr (5, [.ref aw, .ref ac, .ref ao, .ref am, .int (nI C), .int (nI P), .long tot])), (ao, .inl (cs 0, 4, .inl fao))] := hD
  refine lv_iconst (v := 0) hx hb dX4_seekGroup_20 (by decide) ?_
  refine lv_istore (lv' := [(4, .int 0), (3, .int 5), (2, .int (nI (lim P))), (0, .ref pl), (1, .int (nI a_))]) hx hb dX4_seekGroup_21 hl (by decide) rfl (fun ls hl => ?_)
  have LOOP23 : ∀ (n23 : Nat) (u3_23 : Int32) (k : Nat) (wpl5_23 : Int32) (wpl6_23 : Int32), k ≤ lim P → lim P - k < n23 → ∀ (H : Heap) (locs : List Loc) (ls : Array Slot), va_P D vwCl [(pl, .inr (4, [.ref aq, .ref nx, .ref sn, .ref va, .long bel, .int wpl5_23, .int wpl6_23, .int la, .int stp, .int rou])), (va, .inl (cs 1, 1024, .inr (.inl fva))), (aq, .inr (5, [.ref aw, .ref ac, .ref ao, .ref am, .int (nI C), .int (nI P), .long tot])), (ao, .inl (cs 0, 4, .inl fao))] H → va_D A [(pl, .inr (4, [.ref aq, .ref nx, .ref sn, .ref va, .long bel, .int wpl5_23, .int wpl6_23, .int la, .int stp, .int rou])), (va, .inl (cs 1, 1024, .inr (.inl fva))), (aq, .inr (5, [.ref aw, .ref ac, .ref ao, .ref am, .int (nI C), .int (nI P), .long tot])), (ao, .inl (cs 0, 4, .inl fao))] → va_S A s.heap H locs → lv_has ls 8 [(0, .ref pl), (1, .int (nI a_)), (2, .int (nI (lim P))), (3, .int u3_23), (4, .int (nI k))] → W p l e ({ frames := 3, cells := 0, slots := 0, locals := 71 } : Room) s m args below meth c H locs 0 0 Q (F0 m 23 ls []) := by
    intro n23
    induction n23 with
    | zero =>
      intro u3_23 k wpl5_23 wpl6_23 hk hn23 H locs ls hP hD hS hl
      exact absurd hn23 (Nat.not_lt_zero _)
    | succ n23 ih23 =>
      intro u3_23 k wpl5_23 wpl6_23 hk hn23 H locs ls hP hD hS hl
      refine lv_iload hx hb dX4_seekGroup_23 (lv_at hl 4 rfl) ?_
      refine lv_iload_n hx hb dX4_seekGroup_25 rfl (lv_at hl 2 rfl) ?_
      refine lv_icmp_ge (tgt := 116) hx hb dX4_seekGroup_26 (by decide) (fun c_26 => ?_) (fun c_26 => ?_)
      · have n_26 : lim P ≤ k := b_le_t (by omega) (by omega) c_26
        refine W_sQ hQ ?_
        refine W.widen (k := 0) (n := 0) (Nat.le_of_ble_eq_true rfl) (Nat.le_of_ble_eq_true rfl) ?_
        have hP9 := hP.sub (ws' := [(pl, .inr (4, [.ref aq, .ref nx, .ref sn, .ref va, .long bel, .int wpl5_23, .int wpl6_23, .int la, .int stp, .int rou])), (va, .inl (cs 1, 1024, .inr (.inl fva))), (aq, .inr (5, [.ref aw, .ref ac, .ref ao, .ref am, .int (nI C), .int (nI P), .long tot])), (ao, .inl (cs 0, 4, .inl fao))]) [0, 1, 2, 3] rfl
        have hD9 := hD.sub (ws' := [(pl, .inr (4, [.ref aq, .ref nx, .ref sn, .ref va, .long bel, .int wpl5_23, .int wpl6_23, .int la, .int stp, .int rou])), (va, .inl (cs 1, 1024, .inr (.inl fva))), (aq, .inr (5, [.ref aw, .ref ac, .ref ao, .ref am, .int (nI C), .int (nI P), .long tot])), (ao, .inl (cs 0, 4, .inl fao))]) [0, 1, 2, 3] (by decide) rfl
        exact W.vret hx hb hr (fun t ht hW => ⟨⟨(), rfl, trivial, ⟨wpl5_23, wpl6_23, by rw [ht]; exact hP9, hD9⟩⟩, hS.F ht⟩) hS.2.2 dX4_seekGroup_116
      · have n_26 : k < lim P := b_le_f (by omega) (by omega) c_26
        refine lv_aload_n hx hb dX4_seekGroup_29 rfl (lv_at hl 0 rfl) ?_
        refine lv_iload_n hx hb dX4_seekGroup_30 rfl (lv_at hl 1 rfl) ?_
        refine lv_iload hx hb dX4_seekGroup_31 (lv_at hl 4 rfl) ?_
        have hPc := hP.sub (ws' := [(pl, .inr (4, [.ref aq, .ref nx, .ref sn, .ref va, .long bel, .int wpl5_23, .int wpl6_23, .int la, .int stp, .int rou])), (va, .inl (cs 1, 1024, .inr (.inl fva))), (aq, .inr (5, [.ref aw, .ref ac, .ref ao, .ref am, .int (nI C), .int (nI P), .long tot])), (ao, .inl (cs 0, 4, .inl fao))]) [0, 1, 2, 3] rfl
        refine vp_callSi (W.runV (As := [.int (nI a_), .int (nI k)]) (rest := []) ⟨hx, hb, hml, hown, hg⟩ (y_changedIn l D cs pl nx sn bel wpl5_23 wpl6_23 la stp rou va fva aq aw ac ao am C (by omega) P (by omega) tot fao (nI a_) (nI k)) (cwV 2 hg (gw_V kw_228 kw_229 kw_230 kw_196 kw_227) rfl rfl rfl (by decide +kernel) ⟨(Nat.le_of_ble_eq_true rfl), (Nat.le_of_ble_eq_true rfl)⟩) (pr_SV (q := (RX4, TX4, 10)) 4 0 hK hPc rfl rfl) rfl rfl hl.1 rfl (lv_room (Nat.le_of_ble_eq_true rfl)) dX4_seekGroup_33 ⟨(Nat.le_of_ble_eq_true rfl), (Nat.le_of_ble_eq_true rfl)⟩) (fun r_33 h_33 => ?_)
        clear h_33
        refine lv_istore (lv' := [(5, .int r_33), (0, .ref pl), (1, .int (nI a_)), (2, .int (nI (lim P))), (3, .int u3_23), (4, .int (nI k))]) hx hb dX4_seekGroup_36 hl (by decide) rfl (fun ls hl => ?_)
        refine lv_iload hx hb dX4_seekGroup_38 (lv_at hl 0 rfl) ?_
        refine vp_callSi (W.runS (As := [.int r_33]) (rest := []) ⟨hx, hb, hml, hown, hg⟩ (c_bitCount l r_33) (va_cwS 1 hg (gw_S kw_156 kw_157 kw_158 kw_155) rfl rfl rfl (by decide +kernel) ⟨(Nat.le_of_ble_eq_true rfl), (Nat.le_of_ble_eq_true rfl)⟩) pr_0 rfl rfl hl.1 rfl (lv_room (Nat.le_of_ble_eq_true rfl)) dX4_seekGroup_40 ⟨(Nat.le_of_ble_eq_true rfl), (Nat.le_of_ble_eq_true rfl)⟩) (fun r_40 h_40 => ?_)
        clear h_40
        refine lv_istore (lv' := [(6, .int r_40), (5, .int r_33), (0, .ref pl), (1, .int (nI a_)), (2, .int (nI (lim P))), (3, .int u3_23), (4, .int (nI k))]) hx hb dX4_seekGroup_43 hl (by decide) rfl (fun ls hl => ?_)
        refine lv_iload hx hb dX4_seekGroup_45 (lv_at hl 0 rfl) ?_
        refine lv_iload_n hx hb dX4_seekGroup_47 rfl (lv_at hl 5 rfl) ?_
        refine lv_icmp_lt (tgt := 66) hx hb dX4_seekGroup_48 (by decide) (fun c_48 => ?_) (fun c_48 => ?_)
        · refine lv_iconst (v := 1) hx hb dX4_seekGroup_66 (by decide) ?_
          refine lv_goto (tgt := 71) hx hb dX4_seekGroup_67 (by decide) ?_
          refine lv_istore (lv' := [(7, .int 1), (6, .int r_40), (5, .int r_33), (0, .ref pl), (1, .int (nI a_)), (2, .int (nI (lim P))), (3, .int u3_23), (4, .int (nI k))]) hx hb dX4_seekGroup_71 hl (by decide) rfl (fun ls hl => ?_)
          refine lv_iload hx hb dX4_seekGroup_73 (lv_at hl 1 rfl) ?_
          refine lv_if_le (tgt := 110) hx hb dX4_seekGroup_75 (by decide) (fun c_75 => ?_) (fun c_75 => ?_)
          · refine lv_iinc (v := (nI (k + 1))) (lv' := [(4, .int (nI (k + 1))), (7, .int 1), (6, .int r_40), (5, .int r_33), (0, .ref pl), (1, .int (nI a_)), (2, .int (nI (lim P))), (3, .int u3_23)]) hx hb dX4_seekGroup_110 hl (k := 7) rfl (nI_add k 1) (by decide) rfl (fun ls hl => ?_)
            refine lv_goto (tgt := 23) hx hb dX4_seekGroup_113 (by decide) ?_
            exact ih23 u3_23 (k + 1) wpl5_23 wpl6_23 (by omega) (by omega) _ _ ls hP hD hS (lv_sub hl [4, 5, 6, 7, 0] rfl)
          · refine lv_iload hx hb dX4_seekGroup_78 (lv_at hl 0 rfl) ?_
            refine lv_if_eq (tgt := 110) hx hb dX4_seekGroup_80 (by decide) (fun c_80 => absurd c_80 (by decide)) (fun c_80 => ?_)
            refine lv_aload_n hx hb dX4_seekGroup_83 rfl (lv_at hl 3 rfl) ?_
            refine lv_iload hx hb dX4_seekGroup_84 (lv_at hl 2 rfl) ?_
            refine lv_iload_n hx hb dX4_seekGroup_86 rfl (lv_at hl 4 rfl) ?_
            refine lv_iload hx hb dX4_seekGroup_87 (lv_at hl 7 rfl) ?_
            have hPc := hP.sub (ws' := [(pl, .inr (4, [.ref aq, .ref nx, .ref sn, .ref va, .long bel, .int wpl5_23, .int wpl6_23, .int la, .int stp, .int rou])), (va, .inl (cs 1, 1024, .inr (.inl fva))), (aq, .inr (5, [.ref aw, .ref ac, .ref ao, .ref am, .int (nI C), .int (nI P), .long tot])), (ao, .inl (cs 0, 4, .inl fao))]) [0, 1, 2, 3] rfl
            refine vp_callSi (W.runV (As := [.int r_33, .int (nI a_), .int (nI k)]) (rest := []) ⟨hx, hb, hml, hown, hg⟩ (y_allGain l D cs pl nx sn bel wpl5_23 wpl6_23 la stp rou va fva aq aw ac ao am C (by omega) P (by omega) tot fao a_ (by omega) k (by omega) r_33) (cwV 3 hg (gw_V kw_232 kw_233 kw_234 kw_196 kw_231) rfl rfl rfl (by decide +kernel) ⟨(Nat.le_of_ble_eq_true rfl), (Nat.le_of_ble_eq_true rfl)⟩) (pr_SV (q := (RX4, TX4, 10)) 4 0 hK hPc rfl rfl) rfl rfl hl.1 rfl (lv_room (Nat.le_of_ble_eq_true rfl)) dX4_seekGroup_89 ⟨(Nat.le_of_ble_eq_true rfl), (Nat.le_of_ble_eq_true rfl)⟩) (fun r_89 h_89 => ?_)
            rcases h_89 with rfl | rfl
            · refine lv_if_eq (tgt := 110) hx hb dX4_seekGroup_92 (by decide) (fun c_92 => ?_) (fun c_92 => absurd c_92 (by decide))
              refine lv_iinc (v := (nI (k + 1))) (lv' := [(4, .int (nI (k + 1))), (7, .int 1), (6, .int r_40), (5, .int r_33), (0, .ref pl), (1, .int (nI a_)), (2, .int (nI (lim P))), (3, .int u3_23)]) hx hb dX4_seekGroup_110 hl (k := 7) rfl (nI_add k 1) (by decide) rfl (fun ls hl => ?_)
              refine lv_goto (tgt := 23) hx hb dX4_seekGroup_113 (by decide) ?_
              exact ih23 u3_23 (k + 1) wpl5_23 wpl6_23 (by omega) (by omega) _ _ ls hP hD hS (lv_sub hl [4, 5, 6, 7, 0] rfl)
            · refine lv_if_eq (tgt := 110) hx hb dX4_seekGroup_92 (by decide) (fun c_92 => absurd c_92 (by decide)) (fun c_92 => ?_)
              refine lv_iload hx hb dX4_seekGroup_95 (lv_at hl 1 rfl) ?_
              refine lv_istore_n (lv' := [(3, .int r_40), (7, .int 1), (6, .int r_40), (5, .int r_33), (0, .ref pl), (1, .int (nI a_)), (2, .int (nI (lim P))), (4, .int (nI k))]) hx hb dX4_seekGroup_97 rfl hl (by decide) rfl (fun ls hl => ?_)
              refine lv_aload_n hx hb dX4_seekGroup_98 rfl (lv_at hl 4 rfl) ?_
              refine lv_iload hx hb dX4_seekGroup_99 (lv_at hl 3 rfl) ?_
              refine va_put (D := D) (ci := 4) (v := .int r_33) (ty := .int) (C := RX4) (T := TX4) (N := 10) hx hb hg gwX4 tyX4 tyX4_ok nmX4 hown hK hP hD hS 0 rfl rfl 5 (by decide) (hg _ kw_225) (fun _ h9 => h9) rfl (by decide +kernel) rfl rfl (Nat.le_of_ble_eq_true rfl) dX4_seekGroup_101 (fun H locs hP hD hS => ?_)
              have hP : va_P D vwCl [(pl, .inr (4, [.ref aq, .ref nx, .ref sn, .ref va, .long bel, .int r_33, .int wpl6_23, .int la, .int stp, .int rou])), (va, .inl (cs 1, 1024, .inr (.inl fva))), (aq, .inr (5, [.ref aw, .ref ac, .ref ao, .ref am, .int (nI C), .int (nI P), .long tot])), (ao, .inl (cs 0, 4, .inl fao))] H := hP
              have hD : va_D A [(pl, .inr (4, [.ref aq, .ref nx, .ref sn, .ref va, .long bel, .int r_33, .int wpl6_23, .int la, .int stp, .int rou])), (va, .inl (cs 1, 1024, .inr (.inl fva))), (aq, .inr (5, [.ref aw, .ref ac, .ref ao, .ref am, .int (nI C), .int (nI P), .long tot])), (ao, .inl (cs 0, 4, .inl fao))] := hD
              refine lv_aload_n hx hb dX4_seekGroup_104 rfl (lv_at hl 4 rfl) ?_
              refine lv_iload hx hb dX4_seekGroup_105 (lv_at hl 7 rfl) ?_
              refine va_put (D := D) (ci := 4) (v := .int (nI k)) (ty := .int) (C := RX4) (T := TX4) (N := 10) hx hb hg gwX4 tyX4 tyX4_ok nmX4 hown hK hP hD hS 0 rfl rfl 6 (by decide) (hg _ kw_226) (fun _ h9 => h9) rfl (by decide +kernel) rfl rfl (Nat.le_of_ble_eq_true rfl) dX4_seekGroup_107 (fun H locs hP hD hS => ?_)
              have hP : va_P D vwCl [(pl, .inr (4, [.ref aq, .ref nx, .ref sn, .ref va, .long bel, .int r_33, .int (nI k), .int la, .int stp, .int rou])), (va, .inl (cs 1, 1024, .inr (.inl fva))), (aq, .inr (5, [.ref aw, .ref ac, .ref ao, .ref am, .int (nI C), .int (nI P), .long tot])), (ao, .inl (cs 0, 4, .inl fao))] H := hP
              have hD : va_D A [(pl, .inr (4, [.ref aq, .ref nx, .ref sn, .ref va, .long bel, .int r_33, .int (nI k), .int la, .int stp, .int rou])), (va, .inl (cs 1, 1024, .inr (.inl fva))), (aq, .inr (5, [.ref aw, .ref ac, .ref ao, .ref am, .int (nI C), .int (nI P), .long tot])), (ao, .inl (cs 0, 4, .inl fao))] := hD
              refine lv_iinc (v := (nI (k + 1))) (lv' := [(4, .int (nI (k + 1))), (3, .int r_40), (7, .int 1), (6, .int r_40), (5, .int r_33), (0, .ref pl), (1, .int (nI a_)), (2, .int (nI (lim P)))]) hx hb dX4_seekGroup_110 hl (k := 7) rfl (nI_add k 1) (by decide) rfl (fun ls hl => ?_)
              refine lv_goto (tgt := 23) hx hb dX4_seekGroup_113 (by decide) ?_
              exact ih23 r_40 (k + 1) r_33 (nI k) (by omega) (by omega) _ _ ls hP hD hS (lv_sub hl [5, 6, 7, 1, 0] rfl)
        · refine lv_iload hx hb dX4_seekGroup_51 (lv_at hl 0 rfl) ?_
          refine lv_iload_n hx hb dX4_seekGroup_53 rfl (lv_at hl 5 rfl) ?_
          refine lv_icmp_ne (tgt := 70) hx hb dX4_seekGroup_54 (by decide) (fun c_54 => ?_) (fun c_54 => ?_)
          · refine lv_iconst (v := 0) hx hb dX4_seekGroup_70 (by decide) ?_
            refine lv_istore (lv' := [(7, .int 0), (6, .int r_40), (5, .int r_33), (0, .ref pl), (1, .int (nI a_)), (2, .int (nI (lim P))), (3, .int u3_23), (4, .int (nI k))]) hx hb dX4_seekGroup_71 hl (by decide) rfl (fun ls hl => ?_)
            refine lv_iload hx hb dX4_seekGroup_73 (lv_at hl 1 rfl) ?_
            refine lv_if_le (tgt := 110) hx hb dX4_seekGroup_75 (by decide) (fun c_75 => ?_) (fun c_75 => ?_)
            · refine lv_iinc (v := (nI (k + 1))) (lv' := [(4, .int (nI (k + 1))), (7, .int 0), (6, .int r_40), (5, .int r_33), (0, .ref pl), (1, .int (nI a_)), (2, .int (nI (lim P))), (3, .int u3_23)]) hx hb dX4_seekGroup_110 hl (k := 7) rfl (nI_add k 1) (by decide) rfl (fun ls hl => ?_)
              refine lv_goto (tgt := 23) hx hb dX4_seekGroup_113 (by decide) ?_
              exact ih23 u3_23 (k + 1) wpl5_23 wpl6_23 (by omega) (by omega) _ _ ls hP hD hS (lv_sub hl [4, 5, 6, 7, 0] rfl)
            · refine lv_iload hx hb dX4_seekGroup_78 (lv_at hl 0 rfl) ?_
              refine lv_if_eq (tgt := 110) hx hb dX4_seekGroup_80 (by decide) (fun c_80 => ?_) (fun c_80 => absurd c_80 (by decide))
              refine lv_iinc (v := (nI (k + 1))) (lv' := [(4, .int (nI (k + 1))), (7, .int 0), (6, .int r_40), (5, .int r_33), (0, .ref pl), (1, .int (nI a_)), (2, .int (nI (lim P))), (3, .int u3_23)]) hx hb dX4_seekGroup_110 hl (k := 7) rfl (nI_add k 1) (by decide) rfl (fun ls hl => ?_)
              refine lv_goto (tgt := 23) hx hb dX4_seekGroup_113 (by decide) ?_
              exact ih23 u3_23 (k + 1) wpl5_23 wpl6_23 (by omega) (by omega) _ _ ls hP hD hS (lv_sub hl [4, 5, 6, 7, 0] rfl)
          · refine lv_iload hx hb dX4_seekGroup_57 (lv_at hl 1 rfl) ?_
            refine lv_aload_n hx hb dX4_seekGroup_59 rfl (lv_at hl 2 rfl) ?_
            refine va_get (D := D) (ci := 4) (v := .int wpl5_23) (C := RX4) (T := TX4) (N := 10) hx hb hg gwX4 hown hK hP 0 rfl rfl 5 (by decide) (hg _ kw_225) (fun _ h9 => h9) rfl dX4_seekGroup_60 ?_
            refine lv_icmp_ge (tgt := 70) hx hb dX4_seekGroup_63 (by decide) (fun c_63 => ?_) (fun c_63 => ?_)
            · refine lv_iconst (v := 0) hx hb dX4_seekGroup_70 (by decide) ?_
              refine lv_istore (lv' := [(7, .int 0), (6, .int r_40), (5, .int r_33), (0, .ref pl), (1, .int (nI a_)), (2, .int (nI (lim P))), (3, .int u3_23), (4, .int (nI k))]) hx hb dX4_seekGroup_71 hl (by decide) rfl (fun ls hl => ?_)
              refine lv_iload hx hb dX4_seekGroup_73 (lv_at hl 1 rfl) ?_
              refine lv_if_le (tgt := 110) hx hb dX4_seekGroup_75 (by decide) (fun c_75 => ?_) (fun c_75 => ?_)
              · refine lv_iinc (v := (nI (k + 1))) (lv' := [(4, .int (nI (k + 1))), (7, .int 0), (6, .int r_40), (5, .int r_33), (0, .ref pl), (1, .int (nI a_)), (2, .int (nI (lim P))), (3, .int u3_23)]) hx hb dX4_seekGroup_110 hl (k := 7) rfl (nI_add k 1) (by decide) rfl (fun ls hl => ?_)
                refine lv_goto (tgt := 23) hx hb dX4_seekGroup_113 (by decide) ?_
                exact ih23 u3_23 (k + 1) wpl5_23 wpl6_23 (by omega) (by omega) _ _ ls hP hD hS (lv_sub hl [4, 5, 6, 7, 0] rfl)
              · refine lv_iload hx hb dX4_seekGroup_78 (lv_at hl 0 rfl) ?_
                refine lv_if_eq (tgt := 110) hx hb dX4_seekGroup_80 (by decide) (fun c_80 => ?_) (fun c_80 => absurd c_80 (by decide))
                refine lv_iinc (v := (nI (k + 1))) (lv' := [(4, .int (nI (k + 1))), (7, .int 0), (6, .int r_40), (5, .int r_33), (0, .ref pl), (1, .int (nI a_)), (2, .int (nI (lim P))), (3, .int u3_23)]) hx hb dX4_seekGroup_110 hl (k := 7) rfl (nI_add k 1) (by decide) rfl (fun ls hl => ?_)
                refine lv_goto (tgt := 23) hx hb dX4_seekGroup_113 (by decide) ?_
                exact ih23 u3_23 (k + 1) wpl5_23 wpl6_23 (by omega) (by omega) _ _ ls hP hD hS (lv_sub hl [4, 5, 6, 7, 0] rfl)
            · refine lv_iconst (v := 1) hx hb dX4_seekGroup_66 (by decide) ?_
              refine lv_goto (tgt := 71) hx hb dX4_seekGroup_67 (by decide) ?_
              refine lv_istore (lv' := [(7, .int 1), (6, .int r_40), (5, .int r_33), (0, .ref pl), (1, .int (nI a_)), (2, .int (nI (lim P))), (3, .int u3_23), (4, .int (nI k))]) hx hb dX4_seekGroup_71 hl (by decide) rfl (fun ls hl => ?_)
              refine lv_iload hx hb dX4_seekGroup_73 (lv_at hl 1 rfl) ?_
              refine lv_if_le (tgt := 110) hx hb dX4_seekGroup_75 (by decide) (fun c_75 => ?_) (fun c_75 => ?_)
              · refine lv_iinc (v := (nI (k + 1))) (lv' := [(4, .int (nI (k + 1))), (7, .int 1), (6, .int r_40), (5, .int r_33), (0, .ref pl), (1, .int (nI a_)), (2, .int (nI (lim P))), (3, .int u3_23)]) hx hb dX4_seekGroup_110 hl (k := 7) rfl (nI_add k 1) (by decide) rfl (fun ls hl => ?_)
                refine lv_goto (tgt := 23) hx hb dX4_seekGroup_113 (by decide) ?_
                exact ih23 u3_23 (k + 1) wpl5_23 wpl6_23 (by omega) (by omega) _ _ ls hP hD hS (lv_sub hl [4, 5, 6, 7, 0] rfl)
              · refine lv_iload hx hb dX4_seekGroup_78 (lv_at hl 0 rfl) ?_
                refine lv_if_eq (tgt := 110) hx hb dX4_seekGroup_80 (by decide) (fun c_80 => absurd c_80 (by decide)) (fun c_80 => ?_)
                refine lv_aload_n hx hb dX4_seekGroup_83 rfl (lv_at hl 3 rfl) ?_
                refine lv_iload hx hb dX4_seekGroup_84 (lv_at hl 2 rfl) ?_
                refine lv_iload_n hx hb dX4_seekGroup_86 rfl (lv_at hl 4 rfl) ?_
                refine lv_iload hx hb dX4_seekGroup_87 (lv_at hl 7 rfl) ?_
                have hPc := hP.sub (ws' := [(pl, .inr (4, [.ref aq, .ref nx, .ref sn, .ref va, .long bel, .int wpl5_23, .int wpl6_23, .int la, .int stp, .int rou])), (va, .inl (cs 1, 1024, .inr (.inl fva))), (aq, .inr (5, [.ref aw, .ref ac, .ref ao, .ref am, .int (nI C), .int (nI P), .long tot])), (ao, .inl (cs 0, 4, .inl fao))]) [0, 1, 2, 3] rfl
                refine vp_callSi (W.runV (As := [.int r_33, .int (nI a_), .int (nI k)]) (rest := []) ⟨hx, hb, hml, hown, hg⟩ (y_allGain l D cs pl nx sn bel wpl5_23 wpl6_23 la stp rou va fva aq aw ac ao am C (by omega) P (by omega) tot fao a_ (by omega) k (by omega) r_33) (cwV 3 hg (gw_V kw_232 kw_233 kw_234 kw_196 kw_231) rfl rfl rfl (by decide +kernel) ⟨(Nat.le_of_ble_eq_true rfl), (Nat.le_of_ble_eq_true rfl)⟩) (pr_SV (q := (RX4, TX4, 10)) 4 0 hK hPc rfl rfl) rfl rfl hl.1 rfl (lv_room (Nat.le_of_ble_eq_true rfl)) dX4_seekGroup_89 ⟨(Nat.le_of_ble_eq_true rfl), (Nat.le_of_ble_eq_true rfl)⟩) (fun r_89 h_89 => ?_)
                rcases h_89 with rfl | rfl
                · refine lv_if_eq (tgt := 110) hx hb dX4_seekGroup_92 (by decide) (fun c_92 => ?_) (fun c_92 => absurd c_92 (by decide))
                  refine lv_iinc (v := (nI (k + 1))) (lv' := [(4, .int (nI (k + 1))), (7, .int 1), (6, .int r_40), (5, .int r_33), (0, .ref pl), (1, .int (nI a_)), (2, .int (nI (lim P))), (3, .int u3_23)]) hx hb dX4_seekGroup_110 hl (k := 7) rfl (nI_add k 1) (by decide) rfl (fun ls hl => ?_)
                  refine lv_goto (tgt := 23) hx hb dX4_seekGroup_113 (by decide) ?_
                  exact ih23 u3_23 (k + 1) wpl5_23 wpl6_23 (by omega) (by omega) _ _ ls hP hD hS (lv_sub hl [4, 5, 6, 7, 0] rfl)
                · refine lv_if_eq (tgt := 110) hx hb dX4_seekGroup_92 (by decide) (fun c_92 => absurd c_92 (by decide)) (fun c_92 => ?_)
                  refine lv_iload hx hb dX4_seekGroup_95 (lv_at hl 1 rfl) ?_
                  refine lv_istore_n (lv' := [(3, .int r_40), (7, .int 1), (6, .int r_40), (5, .int r_33), (0, .ref pl), (1, .int (nI a_)), (2, .int (nI (lim P))), (4, .int (nI k))]) hx hb dX4_seekGroup_97 rfl hl (by decide) rfl (fun ls hl => ?_)
                  refine lv_aload_n hx hb dX4_seekGroup_98 rfl (lv_at hl 4 rfl) ?_
                  refine lv_iload hx hb dX4_seekGroup_99 (lv_at hl 3 rfl) ?_
                  refine va_put (D := D) (ci := 4) (v := .int r_33) (ty := .int) (C := RX4) (T := TX4) (N := 10) hx hb hg gwX4 tyX4 tyX4_ok nmX4 hown hK hP hD hS 0 rfl rfl 5 (by decide) (hg _ kw_225) (fun _ h9 => h9) rfl (by decide +kernel) rfl rfl (Nat.le_of_ble_eq_true rfl) dX4_seekGroup_101 (fun H locs hP hD hS => ?_)
                  have hP : va_P D vwCl [(pl, .inr (4, [.ref aq, .ref nx, .ref sn, .ref va, .long bel, .int r_33, .int wpl6_23, .int la, .int stp, .int rou])), (va, .inl (cs 1, 1024, .inr (.inl fva))), (aq, .inr (5, [.ref aw, .ref ac, .ref ao, .ref am, .int (nI C), .int (nI P), .long tot])), (ao, .inl (cs 0, 4, .inl fao))] H := hP
                  have hD : va_D A [(pl, .inr (4, [.ref aq, .ref nx, .ref sn, .ref va, .long bel, .int r_33, .int wpl6_23, .int la, .int stp, .int rou])), (va, .inl (cs 1, 1024, .inr (.inl fva))), (aq, .inr (5, [.ref aw, .ref ac, .ref ao, .ref am, .int (nI C), .int (nI P), .long tot])), (ao, .inl (cs 0, 4, .inl fao))] := hD
                  refine lv_aload_n hx hb dX4_seekGroup_104 rfl (lv_at hl 4 rfl) ?_
                  refine lv_iload hx hb dX4_seekGroup_105 (lv_at hl 7 rfl) ?_
                  refine va_put (D := D) (ci := 4) (v := .int (nI k)) (ty := .int) (C := RX4) (T := TX4) (N := 10) hx hb hg gwX4 tyX4 tyX4_ok nmX4 hown hK hP hD hS 0 rfl rfl 6 (by decide) (hg _ kw_226) (fun _ h9 => h9) rfl (by decide +kernel) rfl rfl (Nat.le_of_ble_eq_true rfl) dX4_seekGroup_107 (fun H locs hP hD hS => ?_)
                  have hP : va_P D vwCl [(pl, .inr (4, [.ref aq, .ref nx, .ref sn, .ref va, .long bel, .int r_33, .int (nI k), .int la, .int stp, .int rou])), (va, .inl (cs 1, 1024, .inr (.inl fva))), (aq, .inr (5, [.ref aw, .ref ac, .ref ao, .ref am, .int (nI C), .int (nI P), .long tot])), (ao, .inl (cs 0, 4, .inl fao))] H := hP
                  have hD : va_D A [(pl, .inr (4, [.ref aq, .ref nx, .ref sn, .ref va, .long bel, .int r_33, .int (nI k), .int la, .int stp, .int rou])), (va, .inl (cs 1, 1024, .inr (.inl fva))), (aq, .inr (5, [.ref aw, .ref ac, .ref ao, .ref am, .int (nI C), .int (nI P), .long tot])), (ao, .inl (cs 0, 4, .inl fao))] := hD
                  refine lv_iinc (v := (nI (k + 1))) (lv' := [(4, .int (nI (k + 1))), (3, .int r_40), (7, .int 1), (6, .int r_40), (5, .int r_33), (0, .ref pl), (1, .int (nI a_)), (2, .int (nI (lim P)))]) hx hb dX4_seekGroup_110 hl (k := 7) rfl (nI_add k 1) (by decide) rfl (fun ls hl => ?_)
                  refine lv_goto (tgt := 23) hx hb dX4_seekGroup_113 (by decide) ?_
                  exact ih23 r_40 (k + 1) r_33 (nI k) (by omega) (by omega) _ _ ls hP hD hS (lv_sub hl [5, 6, 7, 1, 0] rfl)
  exact LOOP23 (lim P - 0 + 1) 5 0 (-1) (-1) (by omega) (Nat.lt_succ_self _) _ _ ls hP hD hS (lv_sub hl [3, 4, 2, 1, 0] rfl)

theorem dX4_travel_0 : decode cX4_travel 0 = .ok (.aload_n 0, 1) := by decide +kernel
theorem dX4_travel_1 : decode cX4_travel 1 = .ok (.getfield 22, 3) := by decide +kernel
theorem dX4_travel_4 : decode cX4_travel 4 = .ok (.invokevirtual 46, 3) := by decide +kernel
theorem dX4_travel_7 : decode cX4_travel 7 = .ok (.istore_n 2, 1) := by decide +kernel
theorem dX4_travel_8 : decode cX4_travel 8 = .ok (.iconst 0, 1) := by decide +kernel
theorem dX4_travel_9 : decode cX4_travel 9 = .ok (.istore_n 3, 1) := by decide +kernel
theorem dX4_travel_10 : decode cX4_travel 10 = .ok (.iload_n 3, 1) := by decide +kernel
theorem dX4_travel_11 : decode cX4_travel 11 = .ok (.iload_n 2, 1) := by decide +kernel
theorem dX4_travel_12 : decode cX4_travel 12 = .ok (.if_icmp .ge 16, 3) := by decide +kernel
theorem dX4_travel_15 : decode cX4_travel 15 = .ok (.aload_n 0, 1) := by decide +kernel
theorem dX4_travel_16 : decode cX4_travel 16 = .ok (.getfield 15, 3) := by decide +kernel
theorem dX4_travel_19 : decode cX4_travel 19 = .ok (.iload_n 3, 1) := by decide +kernel
theorem dX4_travel_20 : decode cX4_travel 20 = .ok (.iconst 0, 1) := by decide +kernel
theorem dX4_travel_21 : decode cX4_travel 21 = .ok (.iastore, 1) := by decide +kernel
theorem dX4_travel_22 : decode cX4_travel 22 = .ok (.iinc 3 1, 3) := by decide +kernel
theorem dX4_travel_25 : decode cX4_travel 25 = .ok (.goto (-15), 3) := by decide +kernel
theorem dX4_travel_28 : decode cX4_travel 28 = .ok (.aload_n 0, 1) := by decide +kernel
theorem dX4_travel_29 : decode cX4_travel 29 = .ok (.iload_n 1, 1) := by decide +kernel
theorem dX4_travel_30 : decode cX4_travel 30 = .ok (.putfield 118, 3) := by decide +kernel
theorem dX4_travel_33 : decode cX4_travel 33 = .ok (.aload_n 0, 1) := by decide +kernel
theorem dX4_travel_34 : decode cX4_travel 34 = .ok (.iconst 0, 1) := by decide +kernel
theorem dX4_travel_35 : decode cX4_travel 35 = .ok (.putfield 121, 3) := by decide +kernel
theorem dX4_travel_38 : decode cX4_travel 38 = .ok (.aload_n 0, 1) := by decide +kernel
theorem dX4_travel_39 : decode cX4_travel 39 = .ok (.iconst 0, 1) := by decide +kernel
theorem dX4_travel_40 : decode cX4_travel 40 = .ok (.putfield 124, 3) := by decide +kernel
theorem dX4_travel_43 : decode cX4_travel 43 = .ok (.aload_n 0, 1) := by decide +kernel
theorem dX4_travel_44 : decode cX4_travel 44 = .ok (.getfield 121, 3) := by decide +kernel
theorem dX4_travel_47 : decode cX4_travel 47 = .ok (.iload_n 2, 1) := by decide +kernel
theorem dX4_travel_48 : decode cX4_travel 48 = .ok (.if_icmp .gt 69, 3) := by decide +kernel
theorem dX4_travel_51 : decode cX4_travel 51 = .ok (.aload_n 0, 1) := by decide +kernel
theorem dX4_travel_52 : decode cX4_travel 52 = .ok (.getfield 124, 3) := by decide +kernel
theorem dX4_travel_55 : decode cX4_travel 55 = .ok (.ifCond .ne 62, 3) := by decide +kernel
theorem dX4_travel_58 : decode cX4_travel 58 = .ok (.aload_n 0, 1) := by decide +kernel
theorem dX4_travel_59 : decode cX4_travel 59 = .ok (.getfield 15, 3) := by decide +kernel
theorem dX4_travel_62 : decode cX4_travel 62 = .ok (.aload_n 0, 1) := by decide +kernel
theorem dX4_travel_63 : decode cX4_travel 63 = .ok (.getfield 118, 3) := by decide +kernel
theorem dX4_travel_66 : decode cX4_travel 66 = .ok (.iconst 1, 1) := by decide +kernel
theorem dX4_travel_67 : decode cX4_travel 67 = .ok (.iastore, 1) := by decide +kernel
theorem dX4_travel_68 : decode cX4_travel 68 = .ok (.aload_n 0, 1) := by decide +kernel
theorem dX4_travel_69 : decode cX4_travel 69 = .ok (.aload_n 0, 1) := by decide +kernel
theorem dX4_travel_70 : decode cX4_travel 70 = .ok (.getfield 118, 3) := by decide +kernel
theorem dX4_travel_73 : decode cX4_travel 73 = .ok (.invokevirtual 127, 3) := by decide +kernel
theorem dX4_travel_76 : decode cX4_travel 76 = .ok (.istore_n 3, 1) := by decide +kernel
theorem dX4_travel_77 : decode cX4_travel 77 = .ok (.iload_n 3, 1) := by decide +kernel
theorem dX4_travel_78 : decode cX4_travel 78 = .ok (.aload_n 0, 1) := by decide +kernel
theorem dX4_travel_79 : decode cX4_travel 79 = .ok (.getfield 118, 3) := by decide +kernel
theorem dX4_travel_82 : decode cX4_travel 82 = .ok (.if_icmp .ne 4, 3) := by decide +kernel
theorem dX4_travel_85 : decode cX4_travel 85 = .ok (.return_, 1) := by decide +kernel
theorem dX4_travel_86 : decode cX4_travel 86 = .ok (.aload_n 0, 1) := by decide +kernel
theorem dX4_travel_87 : decode cX4_travel 87 = .ok (.iload_n 3, 1) := by decide +kernel
theorem dX4_travel_88 : decode cX4_travel 88 = .ok (.putfield 118, 3) := by decide +kernel
theorem dX4_travel_91 : decode cX4_travel 91 = .ok (.aload_n 0, 1) := by decide +kernel
theorem dX4_travel_92 : decode cX4_travel 92 = .ok (.dup, 1) := by decide +kernel
theorem dX4_travel_93 : decode cX4_travel 93 = .ok (.getfield 121, 3) := by decide +kernel
theorem dX4_travel_96 : decode cX4_travel 96 = .ok (.iconst 1, 1) := by decide +kernel
theorem dX4_travel_97 : decode cX4_travel 97 = .ok (.iadd, 1) := by decide +kernel
theorem dX4_travel_98 : decode cX4_travel 98 = .ok (.putfield 121, 3) := by decide +kernel
theorem dX4_travel_101 : decode cX4_travel 101 = .ok (.aload_n 0, 1) := by decide +kernel
theorem dX4_travel_102 : decode cX4_travel 102 = .ok (.aload_n 0, 1) := by decide +kernel
theorem dX4_travel_103 : decode cX4_travel 103 = .ok (.getfield 15, 3) := by decide +kernel
theorem dX4_travel_106 : decode cX4_travel 106 = .ok (.aload_n 0, 1) := by decide +kernel
theorem dX4_travel_107 : decode cX4_travel 107 = .ok (.getfield 118, 3) := by decide +kernel
theorem dX4_travel_110 : decode cX4_travel 110 = .ok (.iaload, 1) := by decide +kernel
theorem dX4_travel_111 : decode cX4_travel 111 = .ok (.putfield 124, 3) := by decide +kernel
theorem dX4_travel_114 : decode cX4_travel 114 = .ok (.goto (-71), 3) := by decide +kernel
theorem dX4_travel_117 : decode cX4_travel 117 = .ok (.return_, 1) := by decide +kernel
theorem kw_235 : (.fieldLink RX4 118 "NobodyChecks$Play" "last" "I" : Cond) ∈ gw_tbl := gw_in (by decide +kernel) (by decide +kernel)
theorem kw_236 : (.fieldLink RX4 121 "NobodyChecks$Play" "steps" "I" : Cond) ∈ gw_tbl := gw_in (by decide +kernel) (by decide +kernel)
theorem kw_237 : (.fieldLink RX4 124 "NobodyChecks$Play" "round" "I" : Cond) ∈ gw_tbl := gw_in (by decide +kernel) (by decide +kernel)
theorem kw_238 : (.fieldLink RX4 15 "NobodyChecks$Play" "seen" "[I" : Cond) ∈ gw_tbl := gw_in (by decide +kernel) (by decide +kernel)
theorem kw_239 : (.code yX4_nextOf cX4_nextOf 3 (some .int) : Cond) ∈ gw_tbl := gw_in (by decide +kernel) (by decide +kernel)
theorem kw_240 : (.methodLink RX4 127 yX4_nextOf : Cond) ∈ gw_tbl := gw_in (by decide +kernel) (by decide +kernel)
theorem kw_241 : (.instanceMethod yX4_nextOf : Cond) ∈ gw_tbl := gw_in (by decide +kernel) (by decide +kernel)
theorem kw_242 : (.selects RX4 yX4_nextOf yX4_nextOf : Cond) ∈ gw_tbl := gw_in (by decide +kernel) (by decide +kernel)

set_option maxHeartbeats 4000000 in
set_option maxRecDepth 100000 in
theorem y_travel (l : Launch) (D : va_G) (cs : Nat → ClassId) (pl : Nat) (nx : Nat) (sn : Nat) (bel : Int64) (gs : Int32) (gp : Int32) (la : Int32) (stp : Int32) (rou : Int32) (va : Nat) (fva : Nat → Int64) (aq : Nat) (aw : Nat) (ac : Nat) (ao : Nat) (am : Nat) (C : Nat) (hC5 : C ≤ 5) (P : Nat) (hP4 : P ≤ 4) (tot : Int64) (fao : Nat → Int32) (fsn : Nat → Int32) (a_ : Nat) (ha_ : a_ < lim P) (sz : Nat) : Met l yX4_travel (Cond.code yX4_travel cX4_travel 4 none :: gw_tbl) ({ frames := 5, cells := 0, slots := 0, locals := 115 }) (pc_M D cs [(pl, .inr (4, [.ref aq, .ref nx, .ref sn, .ref va, .long bel, .int gs, .int gp, .int la, .int stp, .int rou])), (va, .inl (cs 1, 1024, .inr (.inl fva))), (aq, .inr (5, [.ref aw, .ref ac, .ref ao, .ref am, .int (nI C), .int (nI P), .long tot])), (ao, .inl (cs 0, 4, .inl fao)), (sn, .inl (cs 0, 256, .inl fsn))] sz [.ref pl, .int (nI a_)]) (va_Qv (fun (u : Unit) => True) (fun u t => ∃ (la2 : Int32), ∃ (stp2 : Int32), ∃ (rou2 : Int32), ∃ (fsn2 : Nat → Int32), va_P D vwCl [(pl, .inr (4, [.ref aq, .ref nx, .ref sn, .ref va, .long bel, .int gs, .int gp, .int la2, .int stp2, .int rou2])), (va, .inl (cs 1, 1024, .inr (.inl fva))), (aq, .inr (5, [.ref aw, .ref ac, .ref ao, .ref am, .int (nI C), .int (nI P), .long tot])), (ao, .inl (cs 0, 4, .inl fao)), (sn, .inl (cs 0, 256, .inl fsn2))] t.heap ∧ va_D (va_A [(pl, .inr (4, [.ref aq, .ref nx, .ref sn, .ref va, .long bel, .int gs, .int gp, .int la, .int stp, .int rou])), (va, .inl (cs 1, 1024, .inr (.inl fva))), (aq, .inr (5, [.ref aw, .ref ac, .ref ao, .ref am, .int (nI C), .int (nI P), .long tot])), (ao, .inl (cs 0, 4, .inl fao)), (sn, .inl (cs 0, 256, .inl fsn))] sz) [(pl, .inr (4, [.ref aq, .ref nx, .ref sn, .ref va, .long bel, .int gs, .int gp, .int la2, .int stp2, .int rou2])), (va, .inl (cs 1, 1024, .inr (.inl fva))), (aq, .inr (5, [.ref aw, .ref ac, .ref ao, .ref am, .int (nI C), .int (nI P), .long tot])), (ao, .inl (cs 0, 4, .inl fao)), (sn, .inl (cs 0, 256, .inl fsn2))]) (va_A [(pl, .inr (4, [.ref aq, .ref nx, .ref sn, .ref va, .long bel, .int gs, .int gp, .int la, .int stp, .int rou])), (va, .inl (cs 1, 1024, .inr (.inl fva))), (aq, .inr (5, [.ref aw, .ref ac, .ref ao, .ref am, .int (nI C), .int (nI P), .long tot])), (ao, .inl (cs 0, 4, .inl fao)), (sn, .inl (cs 0, 256, .inl fsn))] sz)) 0 0 (va_A [(pl, .inr (4, [.ref aq, .ref nx, .ref sn, .ref va, .long bel, .int gs, .int gp, .int la, .int stp, .int rou])), (va, .inl (cs 1, 1024, .inr (.inl fva))), (aq, .inr (5, [.ref aw, .ref ac, .ref ao, .ref am, .int (nI C), .int (nI P), .long tot])), (ao, .inl (cs 0, 4, .inl fao)), (sn, .inl (cs 0, 256, .inl fsn))] sz) := by
  refine Met.ofW (cc := cX4_travel) (maxL := 4) (ret := none) (by decide) rfl ?_
  intro p e s m args below meth c s₁ B hml hv
  obtain ⟨hargs, hsz, hP, hK, hD0⟩ := hv
  have hx := B.exec
  have hb := B.bytes
  have hr := B.returns
  have hts := atoms_spec (ws := Cond.code yX4_travel cX4_travel 4 none :: gw_tbl) B.pre
  have hg := fun (w : Cond) (h : w ∈ gw_tbl) => hts w (List.mem_cons_of_mem _ h)
  have hown : s.vm.findClass RX4 = some m.cls := findClass_of_methodNamed B.named
  have hlocks := B.notSynchronized
  subst hsz
  have hD := hD0.self (sz := s.heap.size)
  generalize hAe : va_A [(pl, .inr (4, [.ref aq, .ref nx, .ref sn, .ref va, .long bel, .int gs, .int gp, .int la, .int stp, .int rou])), (va, .inl (cs 1, 1024, .inr (.inl fva))), (aq, .inr (5, [.ref aw, .ref ac, .ref ao, .ref am, .int (nI C), .int (nI P), .long tot])), (ao, .inl (cs 0, 4, .inl fao)), (sn, .inl (cs 0, 256, .inl fsn))] s.heap.size = A at hD ⊢
  have hA : ∀ q : Nat, s.heap.size ≤ q → A q := fun q h => by rw [← hAe]; exact Or.inr h
  have hS : va_S A s.heap s.heap [] := va_S.rf
  have hP : va_P D vwCl [(pl, .inr (4, [.ref aq, .ref nx, .ref sn, .ref va, .long bel, .int gs, .int gp, .int la, .int stp, .int rou])), (va, .inl (cs 1, 1024, .inr (.inl fva))), (aq, .inr (5, [.ref aw, .ref ac, .ref ao, .ref am, .int (nI C), .int (nI P), .long tot])), (ao, .inl (cs 0, 4, .inl fao)), (sn, .inl (cs 0, 256, .inl fsn))] s.heap := hP
  have hl := lv_entry ([.ref pl, .int (nI a_)]) (n := 4) (Nat.le_of_ble_eq_true rfl)
  rw [show entryFrame m args 4 = F0 m 0 (lg_sl ([.ref pl, .int (nI a_)]) ++ List.replicate (4 - (lg_sl ([.ref pl, .int (nI a_)])).length) Slot.unset).toArray [] from by rw [hargs]; exact lg_entry_eq ..]
  generalize (lg_sl ([.ref pl, .int (nI a_)]) ++ List.replicate (4 - (lg_sl ([.ref pl, .int (nI a_)])).length) Slot.unset).toArray = ls at hl ⊢
  have hl : lv_has ls 4 [(0, .ref pl), (1, .int (nI a_))] := hl
  refine W_genQ (fun Q hQ => ?_)
  have hlm := lim_le hP4
  have hlq := lim_pos P
  have hsg := sgn_le hP4
  refine lv_aload_n hx hb dX4_travel_0 rfl (lv_at hl 0 rfl) ?_
  refine va_get (D := D) (ci := 4) (v := .ref aq) (C := RX4) (T := TX4) (N := 10) hx hb hg gwX4 hown hK hP 0 rfl rfl 0 (by decide) (hg _ kw_188) (fun _ h9 => h9) rfl dX4_travel_1 ?_
  have hPc := hP.sub (ws' := [(aq, .inr (5, [.ref aw, .ref ac, .ref ao, .ref am, .int (nI C), .int (nI P), .long tot]))]) [2] rfl
  refine vp_callSi (W.runV (As := []) (rest := []) ⟨hx, hb, hml, hown, hg⟩ (q_profileLimit l D cs aq aw ac ao am C (by omega) P (by omega) tot) (cwV 0 hg (gw_V kw_192 kw_17 kw_18 kw_19 kw_15) rfl rfl rfl (by decide +kernel) ⟨(Nat.le_of_ble_eq_true rfl), (Nat.le_of_ble_eq_true rfl)⟩) (pr_SV (q := (RX5, TX5, 7)) 5 0 hK hPc rfl rfl) rfl rfl hl.1 rfl (lv_room (Nat.le_of_ble_eq_true rfl)) dX4_travel_4 ⟨(Nat.le_of_ble_eq_true rfl), (Nat.le_of_ble_eq_true rfl)⟩) (fun r_4 h_4 => ?_)
  obtain rfl : r_4 = nI (lim P) := h_4
  refine lv_istore_n (lv' := [(2, .int (nI (lim P))), (0, .ref pl), (1, .int (nI a_))]) hx hb dX4_travel_7 rfl hl (by decide) rfl (fun ls hl => ?_)
  refine lv_iconst (v := 0) hx hb dX4_travel_8 (by decide) ?_
  refine lv_istore_n (lv' := [(3, .int 0), (2, .int (nI (lim P))), (0, .ref pl), (1, .int (nI a_))]) hx hb dX4_travel_9 rfl hl (by decide) rfl (fun ls hl => ?_)
  have LOOP10 : ∀ (n10 : Nat) (k : Nat) (fsn_10 : Nat → Int32), k ≤ lim P → lim P - k < n10 → ∀ (H : Heap) (locs : List Loc) (ls : Array Slot), va_P D vwCl [(pl, .inr (4, [.ref aq, .ref nx, .ref sn, .ref va, .long bel, .int gs, .int gp, .int la, .int stp, .int rou])), (va, .inl (cs 1, 1024, .inr (.inl fva))), (aq, .inr (5, [.ref aw, .ref ac, .ref ao, .ref am, .int (nI C), .int (nI P), .long tot])), (ao, .inl (cs 0, 4, .inl fao)), (sn, .inl (cs 0, 256, .inl fsn_10))] H → va_D A [(pl, .inr (4, [.ref aq, .ref nx, .ref sn, .ref va, .long bel, .int gs, .int gp, .int la, .int stp, .int rou])), (va, .inl (cs 1, 1024, .inr (.inl fva))), (aq, .inr (5, [.ref aw, .ref ac, .ref ao, .ref am, .int (nI C), .int (nI P), .long tot])), (ao, .inl (cs 0, 4, .inl fao)), (sn, .inl (cs 0, 256, .inl fsn_10))] → va_S A s.heap H locs → lv_has ls 4 [(0, .ref pl), (1, .int (nI a_)), (2, .int (nI (lim P))), (3, .int (nI k))] → W p l e ({ frames := 5, cells := 0, slots := 0, locals := 115 } : Room) s m args below meth c H locs 0 0 Q (F0 m 10 ls []) := by
    intro n10
    induction n10 with
    | zero =>
      intro k fsn_10 hk hn10 H locs ls hP hD hS hl
      exact absurd hn10 (Nat.not_lt_zero _)
    | succ n10 ih10 =>
      intro k fsn_10 hk hn10 H locs ls hP hD hS hl
      refine lv_iload_n hx hb dX4_travel_10 rfl (lv_at hl 3 rfl) ?_
      refine lv_iload_n hx hb dX4_travel_11 rfl (lv_at hl 2 rfl) ?_
      refine lv_icmp_ge (tgt := 28) hx hb dX4_travel_12 (by decide) (fun c_12 => ?_) (fun c_12 => ?_)
      · have n_12 : lim P ≤ k := b_le_t (by omega) (by omega) c_12
        refine lv_aload_n hx hb dX4_travel_28 rfl (lv_at hl 0 rfl) ?_
        refine lv_iload_n hx hb dX4_travel_29 rfl (lv_at hl 1 rfl) ?_
        refine va_put (D := D) (ci := 4) (v := .int (nI a_)) (ty := .int) (C := RX4) (T := TX4) (N := 10) hx hb hg gwX4 tyX4 tyX4_ok nmX4 hown hK hP hD hS 0 rfl rfl 7 (by decide) (hg _ kw_235) (fun _ h9 => h9) rfl (by decide +kernel) rfl rfl (Nat.le_of_ble_eq_true rfl) dX4_travel_30 (fun H locs hP hD hS => ?_)
        have hP : va_P D vwCl [(pl, .inr (4, [.ref aq, .ref nx, .ref sn, .ref va, .long bel, .int gs, .int gp, .int (nI a_), .int stp, .int rou])), (va, .inl (cs 1, 1024, .inr (.inl fva))), (aq, .inr (5, [.ref aw, .ref ac, .ref ao, .ref am, .int (nI C), .int (nI P), .long tot])), (ao, .inl (cs 0, 4, .inl fao)), (sn, .inl (cs 0, 256, .inl fsn_10))] H := hP
        have hD : va_D A [(pl, .inr (4, [.ref aq, .ref nx, .ref sn, .ref va, .long bel, .int gs, .int gp, .int (nI a_), .int stp, .int rou])), (va, .inl (cs 1, 1024, .inr (.inl fva))), (aq, .inr (5, [.ref aw, .ref ac, .ref ao, .ref am, .int (nI C), .int (nI P), .long tot])), (ao, .inl (cs 0, 4, .inl fao)), (sn, .inl (cs 0, 256, .inl fsn_10))] := hD
        refine lv_aload_n hx hb dX4_travel_33 rfl (lv_at hl 0 rfl) ?_
        refine lv_iconst (v := 0) hx hb dX4_travel_34 (by decide) ?_
        refine va_put (D := D) (ci := 4) (v := .int 0) (ty := .int) (C := RX4) (T := TX4) (N := 10) hx hb hg gwX4 tyX4 tyX4_ok nmX4 hown hK hP hD hS 0 rfl rfl 8 (by decide) (hg _ kw_236) (fun _ h9 => h9) rfl (by decide +kernel) rfl rfl (Nat.le_of_ble_eq_true rfl) dX4_travel_35 (fun H locs hP hD hS => ?_)
        have hP : va_P D vwCl [(pl, .inr (4, [.ref aq, .ref nx, .ref sn, .ref va, .long bel, .int gs, .int gp, .int (nI a_), .int 0, .int rou])), (va, .inl (cs 1, 1024, .inr (.inl fva))), (aq, .inr (5, [.ref aw, .ref ac, .ref ao, .ref am, .int (nI C), .int (nI P), .long tot])), (ao, .inl (cs 0, 4, .inl fao)), (sn, .inl (cs 0, 256, .inl fsn_10))] H := hP
        have hD : va_D A [(pl, .inr (4, [.ref aq, .ref nx, .ref sn, .ref va, .long bel, .int gs, .int gp, .int (nI a_), .int 0, .int rou])), (va, .inl (cs 1, 1024, .inr (.inl fva))), (aq, .inr (5, [.ref aw, .ref ac, .ref ao, .ref am, .int (nI C), .int (nI P), .long tot])), (ao, .inl (cs 0, 4, .inl fao)), (sn, .inl (cs 0, 256, .inl fsn_10))] := hD
        refine lv_aload_n hx hb dX4_travel_38 rfl (lv_at hl 0 rfl) ?_
        refine lv_iconst (v := 0) hx hb dX4_travel_39 (by decide) ?_
        refine va_put (D := D) (ci := 4) (v := .int 0) (ty := .int) (C := RX4) (T := TX4) (N := 10) hx hb hg gwX4 tyX4 tyX4_ok nmX4 hown hK hP hD hS 0 rfl rfl 9 (by decide) (hg _ kw_237) (fun _ h9 => h9) rfl (by decide +kernel) rfl rfl (Nat.le_of_ble_eq_true rfl) dX4_travel_40 (fun H locs hP hD hS => ?_)
        have hP : va_P D vwCl [(pl, .inr (4, [.ref aq, .ref nx, .ref sn, .ref va, .long bel, .int gs, .int gp, .int (nI a_), .int 0, .int 0])), (va, .inl (cs 1, 1024, .inr (.inl fva))), (aq, .inr (5, [.ref aw, .ref ac, .ref ao, .ref am, .int (nI C), .int (nI P), .long tot])), (ao, .inl (cs 0, 4, .inl fao)), (sn, .inl (cs 0, 256, .inl fsn_10))] H := hP
        have hD : va_D A [(pl, .inr (4, [.ref aq, .ref nx, .ref sn, .ref va, .long bel, .int gs, .int gp, .int (nI a_), .int 0, .int 0])), (va, .inl (cs 1, 1024, .inr (.inl fva))), (aq, .inr (5, [.ref aw, .ref ac, .ref ao, .ref am, .int (nI C), .int (nI P), .long tot])), (ao, .inl (cs 0, 4, .inl fao)), (sn, .inl (cs 0, 256, .inl fsn_10))] := hD
        have LOOP43 : ∀ (n43 : Nat) (l9 : Nat) (sp : Nat) (wpl9_43 : Int32) (fsn_43 : Nat → Int32), l9 < lim P → sp ≤ lim P + 1 → lim P + 1 - sp < n43 → ∀ (H : Heap) (locs : List Loc) (ls : Array Slot), va_P D vwCl [(pl, .inr (4, [.ref aq, .ref nx, .ref sn, .ref va, .long bel, .int gs, .int gp, .int (nI l9), .int (nI sp), .int wpl9_43])), (va, .inl (cs 1, 1024, .inr (.inl fva))), (aq, .inr (5, [.ref aw, .ref ac, .ref ao, .ref am, .int (nI C), .int (nI P), .long tot])), (ao, .inl (cs 0, 4, .inl fao)), (sn, .inl (cs 0, 256, .inl fsn_43))] H → va_D A [(pl, .inr (4, [.ref aq, .ref nx, .ref sn, .ref va, .long bel, .int gs, .int gp, .int (nI l9), .int (nI sp), .int wpl9_43])), (va, .inl (cs 1, 1024, .inr (.inl fva))), (aq, .inr (5, [.ref aw, .ref ac, .ref ao, .ref am, .int (nI C), .int (nI P), .long tot])), (ao, .inl (cs 0, 4, .inl fao)), (sn, .inl (cs 0, 256, .inl fsn_43))] → va_S A s.heap H locs → lv_has ls 4 [(0, .ref pl), (1, .int (nI a_)), (2, .int (nI (lim P)))] → W p l e ({ frames := 5, cells := 0, slots := 0, locals := 115 } : Room) s m args below meth c H locs 0 0 Q (F0 m 43 ls []) := by
          intro n43
          induction n43 with
          | zero =>
            intro l9 sp wpl9_43 fsn_43 hla9 hsp hn43 H locs ls hP hD hS hl
            exact absurd hn43 (Nat.not_lt_zero _)
          | succ n43 ih43 =>
            intro l9 sp wpl9_43 fsn_43 hla9 hsp hn43 H locs ls hP hD hS hl
            refine lv_aload_n hx hb dX4_travel_43 rfl (lv_at hl 0 rfl) ?_
            refine va_get (D := D) (ci := 4) (v := .int (nI sp)) (C := RX4) (T := TX4) (N := 10) hx hb hg gwX4 hown hK hP 0 rfl rfl 8 (by decide) (hg _ kw_236) (fun _ h9 => h9) rfl dX4_travel_44 ?_
            refine lv_iload_n hx hb dX4_travel_47 rfl (lv_at hl 2 rfl) ?_
            refine lv_icmp_gt (tgt := 117) hx hb dX4_travel_48 (by decide) (fun c_48 => ?_) (fun c_48 => ?_)
            · have n_48 : lim P < sp := b_lt_t (by omega) (by omega) c_48
              refine W_sQ hQ ?_
              refine W.widen (k := 0) (n := 0) (Nat.le_of_ble_eq_true rfl) (Nat.le_of_ble_eq_true rfl) ?_
              have hP9 := hP.sub (ws' := [(pl, .inr (4, [.ref aq, .ref nx, .ref sn, .ref va, .long bel, .int gs, .int gp, .int (nI l9), .int (nI sp), .int wpl9_43])), (va, .inl (cs 1, 1024, .inr (.inl fva))), (aq, .inr (5, [.ref aw, .ref ac, .ref ao, .ref am, .int (nI C), .int (nI P), .long tot])), (ao, .inl (cs 0, 4, .inl fao)), (sn, .inl (cs 0, 256, .inl fsn_43))]) [0, 1, 2, 3, 4] rfl
              have hD9 := hD.sub (ws' := [(pl, .inr (4, [.ref aq, .ref nx, .ref sn, .ref va, .long bel, .int gs, .int gp, .int (nI l9), .int (nI sp), .int wpl9_43])), (va, .inl (cs 1, 1024, .inr (.inl fva))), (aq, .inr (5, [.ref aw, .ref ac, .ref ao, .ref am, .int (nI C), .int (nI P), .long tot])), (ao, .inl (cs 0, 4, .inl fao)), (sn, .inl (cs 0, 256, .inl fsn_43))]) [0, 1, 2, 3, 4] (by decide) rfl
              exact W.vret hx hb hr (fun t ht hW => ⟨⟨(), rfl, trivial, ⟨(nI l9), (nI sp), wpl9_43, fsn_43, by rw [ht]; exact hP9, hD9⟩⟩, hS.F ht⟩) hS.2.2 dX4_travel_117
            · have n_48 : sp ≤ lim P := b_lt_f (by omega) (by omega) c_48
              refine lv_aload_n hx hb dX4_travel_51 rfl (lv_at hl 0 rfl) ?_
              refine va_get (D := D) (ci := 4) (v := .int wpl9_43) (C := RX4) (T := TX4) (N := 10) hx hb hg gwX4 hown hK hP 0 rfl rfl 9 (by decide) (hg _ kw_237) (fun _ h9 => h9) rfl dX4_travel_52 ?_
              refine lv_if_ne (tgt := 117) hx hb dX4_travel_55 (by decide) (fun c_55 => ?_) (fun c_55 => ?_)
              · refine W_sQ hQ ?_
                refine W.widen (k := 0) (n := 0) (Nat.le_of_ble_eq_true rfl) (Nat.le_of_ble_eq_true rfl) ?_
                have hP9 := hP.sub (ws' := [(pl, .inr (4, [.ref aq, .ref nx, .ref sn, .ref va, .long bel, .int gs, .int gp, .int (nI l9), .int (nI sp), .int wpl9_43])), (va, .inl (cs 1, 1024, .inr (.inl fva))), (aq, .inr (5, [.ref aw, .ref ac, .ref ao, .ref am, .int (nI C), .int (nI P), .long tot])), (ao, .inl (cs 0, 4, .inl fao)), (sn, .inl (cs 0, 256, .inl fsn_43))]) [0, 1, 2, 3, 4] rfl
                have hD9 := hD.sub (ws' := [(pl, .inr (4, [.ref aq, .ref nx, .ref sn, .ref va, .long bel, .int gs, .int gp, .int (nI l9), .int (nI sp), .int wpl9_43])), (va, .inl (cs 1, 1024, .inr (.inl fva))), (aq, .inr (5, [.ref aw, .ref ac, .ref ao, .ref am, .int (nI C), .int (nI P), .long tot])), (ao, .inl (cs 0, 4, .inl fao)), (sn, .inl (cs 0, 256, .inl fsn_43))]) [0, 1, 2, 3, 4] (by decide) rfl
                exact W.vret hx hb hr (fun t ht hW => ⟨⟨(), rfl, trivial, ⟨(nI l9), (nI sp), wpl9_43, fsn_43, by rw [ht]; exact hP9, hD9⟩⟩, hS.F ht⟩) hS.2.2 dX4_travel_117
              · refine lv_aload_n hx hb dX4_travel_58 rfl (lv_at hl 0 rfl) ?_
                refine va_get (D := D) (ci := 4) (v := .ref sn) (C := RX4) (T := TX4) (N := 10) hx hb hg gwX4 hown hK hP 0 rfl rfl 2 (by decide) (hg _ kw_238) (fun _ h9 => h9) rfl dX4_travel_59 ?_
                refine lv_aload_n hx hb dX4_travel_62 rfl (lv_at hl 0 rfl) ?_
                refine va_get (D := D) (ci := 4) (v := .int (nI l9)) (C := RX4) (T := TX4) (N := 10) hx hb hg gwX4 hown hK hP 0 rfl rfl 7 (by decide) (hg _ kw_235) (fun _ h9 => h9) rfl dX4_travel_63 ?_
                refine lv_iconst (v := 1) hx hb dX4_travel_66 (by decide) ?_
                refine va_iast hx hb hK hP hD hS 4 0 rfl rfl (vp_in_nI (show l9 < 256 by omega) (by decide)) dX4_travel_67 (fun H locs hP hD hS => ?_)
                obtain ⟨f_67, hf_67⟩ : ∃ f9, f9 = (upd fsn_43 (nI l9).toNatClampNeg 1) := ⟨_, rfl⟩
                rw [← hf_67] at hP hD
                have hP : va_P D vwCl [(pl, .inr (4, [.ref aq, .ref nx, .ref sn, .ref va, .long bel, .int gs, .int gp, .int (nI l9), .int (nI sp), .int wpl9_43])), (va, .inl (cs 1, 1024, .inr (.inl fva))), (aq, .inr (5, [.ref aw, .ref ac, .ref ao, .ref am, .int (nI C), .int (nI P), .long tot])), (ao, .inl (cs 0, 4, .inl fao)), (sn, .inl (cs 0, 256, .inl f_67))] H := hP
                have hD : va_D A [(pl, .inr (4, [.ref aq, .ref nx, .ref sn, .ref va, .long bel, .int gs, .int gp, .int (nI l9), .int (nI sp), .int wpl9_43])), (va, .inl (cs 1, 1024, .inr (.inl fva))), (aq, .inr (5, [.ref aw, .ref ac, .ref ao, .ref am, .int (nI C), .int (nI P), .long tot])), (ao, .inl (cs 0, 4, .inl fao)), (sn, .inl (cs 0, 256, .inl f_67))] := hD
                refine lv_aload_n hx hb dX4_travel_68 rfl (lv_at hl 0 rfl) ?_
                refine lv_aload_n hx hb dX4_travel_69 rfl (lv_at hl 0 rfl) ?_
                refine va_get (D := D) (ci := 4) (v := .int (nI l9)) (C := RX4) (T := TX4) (N := 10) hx hb hg gwX4 hown hK hP 0 rfl rfl 7 (by decide) (hg _ kw_235) (fun _ h9 => h9) rfl dX4_travel_70 ?_
                have hPc := hP.sub (ws' := [(pl, .inr (4, [.ref aq, .ref nx, .ref sn, .ref va, .long bel, .int gs, .int gp, .int (nI l9), .int (nI sp), .int wpl9_43])), (va, .inl (cs 1, 1024, .inr (.inl fva))), (aq, .inr (5, [.ref aw, .ref ac, .ref ao, .ref am, .int (nI C), .int (nI P), .long tot])), (ao, .inl (cs 0, 4, .inl fao))]) [0, 1, 2, 3] rfl
                refine vp_callSi (W.runV (As := [.int (nI l9)]) (rest := []) ⟨hx, hb, hml, hown, hg⟩ (y_nextOf l D cs pl nx sn bel gs gp (nI l9) (nI sp) wpl9_43 va fva aq aw ac ao am C (by omega) P (by omega) tot fao l9 (by omega)) (cwV 1 hg (gw_V kw_240 kw_241 kw_242 kw_196 kw_239) rfl rfl rfl (by decide +kernel) ⟨(Nat.le_of_ble_eq_true rfl), (Nat.le_of_ble_eq_true rfl)⟩) (pr_SV (q := (RX4, TX4, 10)) 4 0 hK hPc rfl rfl) rfl rfl hl.1 rfl (lv_room (Nat.le_of_ble_eq_true rfl)) dX4_travel_73 ⟨(Nat.le_of_ble_eq_true rfl), (Nat.le_of_ble_eq_true rfl)⟩) (fun r_73 h_73 => ?_)
                obtain ⟨k_73, rfl, hk_73⟩ := h_73
                refine lv_istore_n (lv' := [(3, .int (nI k_73)), (0, .ref pl), (1, .int (nI a_)), (2, .int (nI (lim P)))]) hx hb dX4_travel_76 rfl hl (by decide) rfl (fun ls hl => ?_)
                refine lv_iload_n hx hb dX4_travel_77 rfl (lv_at hl 0 rfl) ?_
                refine lv_aload_n hx hb dX4_travel_78 rfl (lv_at hl 1 rfl) ?_
                refine va_get (D := D) (ci := 4) (v := .int (nI l9)) (C := RX4) (T := TX4) (N := 10) hx hb hg gwX4 hown hK hP 0 rfl rfl 7 (by decide) (hg _ kw_235) (fun _ h9 => h9) rfl dX4_travel_79 ?_
                refine lv_icmp_ne (tgt := 86) hx hb dX4_travel_82 (by decide) (fun c_82 => ?_) (fun c_82 => ?_)
                · have n_82 : ¬ k_73 = l9 := b_eq_f (by omega) (by omega) c_82
                  refine lv_aload_n hx hb dX4_travel_86 rfl (lv_at hl 1 rfl) ?_
                  refine lv_iload_n hx hb dX4_travel_87 rfl (lv_at hl 0 rfl) ?_
                  refine va_put (D := D) (ci := 4) (v := .int (nI k_73)) (ty := .int) (C := RX4) (T := TX4) (N := 10) hx hb hg gwX4 tyX4 tyX4_ok nmX4 hown hK hP hD hS 0 rfl rfl 7 (by decide) (hg _ kw_235) (fun _ h9 => h9) rfl (by decide +kernel) rfl rfl (Nat.le_of_ble_eq_true rfl) dX4_travel_88 (fun H locs hP hD hS => ?_)
                  have hP : va_P D vwCl [(pl, .inr (4, [.ref aq, .ref nx, .ref sn, .ref va, .long bel, .int gs, .int gp, .int (nI k_73), .int (nI sp), .int wpl9_43])), (va, .inl (cs 1, 1024, .inr (.inl fva))), (aq, .inr (5, [.ref aw, .ref ac, .ref ao, .ref am, .int (nI C), .int (nI P), .long tot])), (ao, .inl (cs 0, 4, .inl fao)), (sn, .inl (cs 0, 256, .inl f_67))] H := hP
                  have hD : va_D A [(pl, .inr (4, [.ref aq, .ref nx, .ref sn, .ref va, .long bel, .int gs, .int gp, .int (nI k_73), .int (nI sp), .int wpl9_43])), (va, .inl (cs 1, 1024, .inr (.inl fva))), (aq, .inr (5, [.ref aw, .ref ac, .ref ao, .ref am, .int (nI C), .int (nI P), .long tot])), (ao, .inl (cs 0, 4, .inl fao)), (sn, .inl (cs 0, 256, .inl f_67))] := hD
                  refine lv_aload_n hx hb dX4_travel_91 rfl (lv_at hl 1 rfl) ?_
                  refine lv_dup hx hb dX4_travel_92 rfl ?_
                  refine va_get (D := D) (ci := 4) (v := .int (nI sp)) (C := RX4) (T := TX4) (N := 10) hx hb hg gwX4 hown hK hP 0 rfl rfl 8 (by decide) (hg _ kw_236) (fun _ h9 => h9) rfl dX4_travel_93 ?_
                  refine lv_iconst (v := 1) hx hb dX4_travel_96 (by decide) ?_
                  refine lv_iadd hx hb dX4_travel_97 ?_
                  refine lv_topi (fun z_97 e_97 => ?_)
                  obtain rfl : z_97 = nI (sp + 1) := e_97.trans (nI_add _ _)
                  refine va_put (D := D) (ci := 4) (v := .int (nI (sp + 1))) (ty := .int) (C := RX4) (T := TX4) (N := 10) hx hb hg gwX4 tyX4 tyX4_ok nmX4 hown hK hP hD hS 0 rfl rfl 8 (by decide) (hg _ kw_236) (fun _ h9 => h9) rfl (by decide +kernel) rfl rfl (Nat.le_of_ble_eq_true rfl) dX4_travel_98 (fun H locs hP hD hS => ?_)
                  have hP : va_P D vwCl [(pl, .inr (4, [.ref aq, .ref nx, .ref sn, .ref va, .long bel, .int gs, .int gp, .int (nI k_73), .int (nI (sp + 1)), .int wpl9_43])), (va, .inl (cs 1, 1024, .inr (.inl fva))), (aq, .inr (5, [.ref aw, .ref ac, .ref ao, .ref am, .int (nI C), .int (nI P), .long tot])), (ao, .inl (cs 0, 4, .inl fao)), (sn, .inl (cs 0, 256, .inl f_67))] H := hP
                  have hD : va_D A [(pl, .inr (4, [.ref aq, .ref nx, .ref sn, .ref va, .long bel, .int gs, .int gp, .int (nI k_73), .int (nI (sp + 1)), .int wpl9_43])), (va, .inl (cs 1, 1024, .inr (.inl fva))), (aq, .inr (5, [.ref aw, .ref ac, .ref ao, .ref am, .int (nI C), .int (nI P), .long tot])), (ao, .inl (cs 0, 4, .inl fao)), (sn, .inl (cs 0, 256, .inl f_67))] := hD
                  refine lv_aload_n hx hb dX4_travel_101 rfl (lv_at hl 1 rfl) ?_
                  refine lv_aload_n hx hb dX4_travel_102 rfl (lv_at hl 1 rfl) ?_
                  refine va_get (D := D) (ci := 4) (v := .ref sn) (C := RX4) (T := TX4) (N := 10) hx hb hg gwX4 hown hK hP 0 rfl rfl 2 (by decide) (hg _ kw_238) (fun _ h9 => h9) rfl dX4_travel_103 ?_
                  refine lv_aload_n hx hb dX4_travel_106 rfl (lv_at hl 1 rfl) ?_
                  refine va_get (D := D) (ci := 4) (v := .int (nI k_73)) (C := RX4) (T := TX4) (N := 10) hx hb hg gwX4 hown hK hP 0 rfl rfl 7 (by decide) (hg _ kw_235) (fun _ h9 => h9) rfl dX4_travel_107 ?_
                  refine va_iald hx hb hK hP 4 0 rfl rfl (vp_in_nI (show k_73 < 256 by omega) (by decide)) dX4_travel_110 ?_
                  refine lv_topi (fun z_110 e_110 => ?_)
                  refine va_put (D := D) (ci := 4) (v := .int z_110) (ty := .int) (C := RX4) (T := TX4) (N := 10) hx hb hg gwX4 tyX4 tyX4_ok nmX4 hown hK hP hD hS 0 rfl rfl 9 (by decide) (hg _ kw_237) (fun _ h9 => h9) rfl (by decide +kernel) rfl rfl (Nat.le_of_ble_eq_true rfl) dX4_travel_111 (fun H locs hP hD hS => ?_)
                  have hP : va_P D vwCl [(pl, .inr (4, [.ref aq, .ref nx, .ref sn, .ref va, .long bel, .int gs, .int gp, .int (nI k_73), .int (nI (sp + 1)), .int z_110])), (va, .inl (cs 1, 1024, .inr (.inl fva))), (aq, .inr (5, [.ref aw, .ref ac, .ref ao, .ref am, .int (nI C), .int (nI P), .long tot])), (ao, .inl (cs 0, 4, .inl fao)), (sn, .inl (cs 0, 256, .inl f_67))] H := hP
                  have hD : va_D A [(pl, .inr (4, [.ref aq, .ref nx, .ref sn, .ref va, .long bel, .int gs, .int gp, .int (nI k_73), .int (nI (sp + 1)), .int z_110])), (va, .inl (cs 1, 1024, .inr (.inl fva))), (aq, .inr (5, [.ref aw, .ref ac, .ref ao, .ref am, .int (nI C), .int (nI P), .long tot])), (ao, .inl (cs 0, 4, .inl fao)), (sn, .inl (cs 0, 256, .inl f_67))] := hD
                  refine lv_goto (tgt := 43) hx hb dX4_travel_114 (by decide) ?_
                  exact ih43 k_73 (sp + 1) z_110 f_67 (by omega) (by omega) (by omega) _ _ ls hP hD hS (lv_sub hl [1, 2, 3] rfl)
                · have n_82 : k_73 = l9 := b_eq_t (by omega) (by omega) c_82
                  refine W_sQ hQ ?_
                  refine W.widen (k := 0) (n := 0) (Nat.le_of_ble_eq_true rfl) (Nat.le_of_ble_eq_true rfl) ?_
                  have hP9 := hP.sub (ws' := [(pl, .inr (4, [.ref aq, .ref nx, .ref sn, .ref va, .long bel, .int gs, .int gp, .int (nI l9), .int (nI sp), .int wpl9_43])), (va, .inl (cs 1, 1024, .inr (.inl fva))), (aq, .inr (5, [.ref aw, .ref ac, .ref ao, .ref am, .int (nI C), .int (nI P), .long tot])), (ao, .inl (cs 0, 4, .inl fao)), (sn, .inl (cs 0, 256, .inl f_67))]) [0, 1, 2, 3, 4] rfl
                  have hD9 := hD.sub (ws' := [(pl, .inr (4, [.ref aq, .ref nx, .ref sn, .ref va, .long bel, .int gs, .int gp, .int (nI l9), .int (nI sp), .int wpl9_43])), (va, .inl (cs 1, 1024, .inr (.inl fva))), (aq, .inr (5, [.ref aw, .ref ac, .ref ao, .ref am, .int (nI C), .int (nI P), .long tot])), (ao, .inl (cs 0, 4, .inl fao)), (sn, .inl (cs 0, 256, .inl f_67))]) [0, 1, 2, 3, 4] (by decide) rfl
                  exact W.vret hx hb hr (fun t ht hW => ⟨⟨(), rfl, trivial, ⟨(nI l9), (nI sp), wpl9_43, f_67, by rw [ht]; exact hP9, hD9⟩⟩, hS.F ht⟩) hS.2.2 dX4_travel_85
        exact LOOP43 (lim P + 1 - 0 + 1) a_ 0 0 fsn_10 (by omega) (by omega) (Nat.lt_succ_self _) _ _ ls hP hD hS (lv_sub hl [0, 1, 2] rfl)
      · have n_12 : k < lim P := b_le_f (by omega) (by omega) c_12
        refine lv_aload_n hx hb dX4_travel_15 rfl (lv_at hl 0 rfl) ?_
        refine va_get (D := D) (ci := 4) (v := .ref sn) (C := RX4) (T := TX4) (N := 10) hx hb hg gwX4 hown hK hP 0 rfl rfl 2 (by decide) (hg _ kw_238) (fun _ h9 => h9) rfl dX4_travel_16 ?_
        refine lv_iload_n hx hb dX4_travel_19 rfl (lv_at hl 3 rfl) ?_
        refine lv_iconst (v := 0) hx hb dX4_travel_20 (by decide) ?_
        refine va_iast hx hb hK hP hD hS 4 0 rfl rfl (vp_in_nI (show k < 256 by omega) (by decide)) dX4_travel_21 (fun H locs hP hD hS => ?_)
        obtain ⟨f_21, hf_21⟩ : ∃ f9, f9 = (upd fsn_10 (nI k).toNatClampNeg 0) := ⟨_, rfl⟩
        rw [← hf_21] at hP hD
        have hP : va_P D vwCl [(pl, .inr (4, [.ref aq, .ref nx, .ref sn, .ref va, .long bel, .int gs, .int gp, .int la, .int stp, .int rou])), (va, .inl (cs 1, 1024, .inr (.inl fva))), (aq, .inr (5, [.ref aw, .ref ac, .ref ao, .ref am, .int (nI C), .int (nI P), .long tot])), (ao, .inl (cs 0, 4, .inl fao)), (sn, .inl (cs 0, 256, .inl f_21))] H := hP
        have hD : va_D A [(pl, .inr (4, [.ref aq, .ref nx, .ref sn, .ref va, .long bel, .int gs, .int gp, .int la, .int stp, .int rou])), (va, .inl (cs 1, 1024, .inr (.inl fva))), (aq, .inr (5, [.ref aw, .ref ac, .ref ao, .ref am, .int (nI C), .int (nI P), .long tot])), (ao, .inl (cs 0, 4, .inl fao)), (sn, .inl (cs 0, 256, .inl f_21))] := hD
        refine lv_iinc (v := (nI (k + 1))) (lv' := [(3, .int (nI (k + 1))), (0, .ref pl), (1, .int (nI a_)), (2, .int (nI (lim P)))]) hx hb dX4_travel_22 hl (k := 3) rfl (nI_add k 1) (by decide) rfl (fun ls hl => ?_)
        refine lv_goto (tgt := 10) hx hb dX4_travel_25 (by decide) ?_
        exact ih10 (k + 1) f_21 (by omega) (by omega) _ _ ls hP hD hS (lv_sub hl [1, 2, 3, 0] rfl)
  exact LOOP10 (lim P - 0 + 1) 0 fsn (by omega) (Nat.lt_succ_self _) _ _ ls hP hD hS (lv_sub hl [2, 3, 1, 0] rfl)

def nxI (f : Nat → Int32) (n m : Nat) : Prop := ∀ i, i < n → ∃ v : Nat, v < m ∧ f i = nI v
theorem nxI_0 {f : Nat → Int32} {m : Nat} : nxI f 0 m := fun i h => absurd h (Nat.not_lt_zero i)
theorem nxI_s {f f2 : Nat → Int32} {n m v : Nat} (h : nxI f n m) (hn : n < 2 ^ 31) (hv : v < m) (e : f2 = upd f (nI n).toNatClampNeg (nI v)) : nxI f2 (n + 1) m := fun i hi => by
  rw [e, nI_clamp hn]
  by_cases q : i = n
  · exact ⟨v, hv, by rw [q]; exact pk_us⟩
  · obtain ⟨w, hw, ew⟩ := h i (by omega)
    exact ⟨w, hw, by rw [pk_un q]; exact ew⟩
theorem nxI_at {f : Nat → Int32} {n m k : Nat} {z : Int32} (h : nxI f n m) (hk : k < n) (hn : n < 2 ^ 31) (e : z = f (nI k).toNatClampNeg) : ∃ v : Nat, v < m ∧ z = nI v := by
  rw [nI_clamp (by omega)] at e
  obtain ⟨v, hv, ev⟩ := h k hk
  exact ⟨v, hv, e.trans ev⟩

theorem dX4_countDrawn_0 : decode cX4_countDrawn 0 = .ok (.aload_n 0, 1) := by decide +kernel
theorem dX4_countDrawn_1 : decode cX4_countDrawn 1 = .ok (.getfield 22, 3) := by decide +kernel
theorem dX4_countDrawn_4 : decode cX4_countDrawn 4 = .ok (.invokevirtual 46, 3) := by decide +kernel
theorem dX4_countDrawn_7 : decode cX4_countDrawn 7 = .ok (.istore_n 1, 1) := by decide +kernel
theorem dX4_countDrawn_8 : decode cX4_countDrawn 8 = .ok (.iconst 0, 1) := by decide +kernel
theorem dX4_countDrawn_9 : decode cX4_countDrawn 9 = .ok (.istore_n 2, 1) := by decide +kernel
theorem dX4_countDrawn_10 : decode cX4_countDrawn 10 = .ok (.iload_n 2, 1) := by decide +kernel
theorem dX4_countDrawn_11 : decode cX4_countDrawn 11 = .ok (.iload_n 1, 1) := by decide +kernel
theorem dX4_countDrawn_12 : decode cX4_countDrawn 12 = .ok (.if_icmp .ge 20, 3) := by decide +kernel
theorem dX4_countDrawn_15 : decode cX4_countDrawn 15 = .ok (.aload_n 0, 1) := by decide +kernel
theorem dX4_countDrawn_16 : decode cX4_countDrawn 16 = .ok (.getfield 9, 3) := by decide +kernel
theorem dX4_countDrawn_19 : decode cX4_countDrawn 19 = .ok (.iload_n 2, 1) := by decide +kernel
theorem dX4_countDrawn_20 : decode cX4_countDrawn 20 = .ok (.aload_n 0, 1) := by decide +kernel
theorem dX4_countDrawn_21 : decode cX4_countDrawn 21 = .ok (.iload_n 2, 1) := by decide +kernel
theorem dX4_countDrawn_22 : decode cX4_countDrawn 22 = .ok (.invokevirtual 127, 3) := by decide +kernel
theorem dX4_countDrawn_25 : decode cX4_countDrawn 25 = .ok (.iastore, 1) := by decide +kernel
theorem dX4_countDrawn_26 : decode cX4_countDrawn 26 = .ok (.iinc 2 1, 3) := by decide +kernel
theorem dX4_countDrawn_29 : decode cX4_countDrawn 29 = .ok (.goto (-19), 3) := by decide +kernel
theorem dX4_countDrawn_32 : decode cX4_countDrawn 32 = .ok (.iconst 0, 1) := by decide +kernel
theorem dX4_countDrawn_33 : decode cX4_countDrawn 33 = .ok (.istore_n 2, 1) := by decide +kernel
theorem dX4_countDrawn_34 : decode cX4_countDrawn 34 = .ok (.iconst 0, 1) := by decide +kernel
theorem dX4_countDrawn_35 : decode cX4_countDrawn 35 = .ok (.istore_n 3, 1) := by decide +kernel
theorem dX4_countDrawn_36 : decode cX4_countDrawn 36 = .ok (.iload_n 3, 1) := by decide +kernel
theorem dX4_countDrawn_37 : decode cX4_countDrawn 37 = .ok (.iload_n 1, 1) := by decide +kernel
theorem dX4_countDrawn_38 : decode cX4_countDrawn 38 = .ok (.if_icmp .ge 68, 3) := by decide +kernel
theorem dX4_countDrawn_41 : decode cX4_countDrawn 41 = .ok (.iload_n 3, 1) := by decide +kernel
theorem dX4_countDrawn_42 : decode cX4_countDrawn 42 = .ok (.istore 4, 2) := by decide +kernel
theorem dX4_countDrawn_44 : decode cX4_countDrawn 44 = .ok (.iconst 0, 1) := by decide +kernel
theorem dX4_countDrawn_45 : decode cX4_countDrawn 45 = .ok (.istore 5, 2) := by decide +kernel
theorem dX4_countDrawn_47 : decode cX4_countDrawn 47 = .ok (.iload 5, 2) := by decide +kernel
theorem dX4_countDrawn_49 : decode cX4_countDrawn 49 = .ok (.iload_n 1, 1) := by decide +kernel
theorem dX4_countDrawn_50 : decode cX4_countDrawn 50 = .ok (.if_icmp .ge 30, 3) := by decide +kernel
theorem dX4_countDrawn_53 : decode cX4_countDrawn 53 = .ok (.aload_n 0, 1) := by decide +kernel
theorem dX4_countDrawn_54 : decode cX4_countDrawn 54 = .ok (.getfield 9, 3) := by decide +kernel
theorem dX4_countDrawn_57 : decode cX4_countDrawn 57 = .ok (.iload 4, 2) := by decide +kernel
theorem dX4_countDrawn_59 : decode cX4_countDrawn 59 = .ok (.iaload, 1) := by decide +kernel
theorem dX4_countDrawn_60 : decode cX4_countDrawn 60 = .ok (.iload 4, 2) := by decide +kernel
theorem dX4_countDrawn_62 : decode cX4_countDrawn 62 = .ok (.if_icmp .eq 18, 3) := by decide +kernel
theorem dX4_countDrawn_65 : decode cX4_countDrawn 65 = .ok (.aload_n 0, 1) := by decide +kernel
theorem dX4_countDrawn_66 : decode cX4_countDrawn 66 = .ok (.getfield 9, 3) := by decide +kernel
theorem dX4_countDrawn_69 : decode cX4_countDrawn 69 = .ok (.iload 4, 2) := by decide +kernel
theorem dX4_countDrawn_71 : decode cX4_countDrawn 71 = .ok (.iaload, 1) := by decide +kernel
theorem dX4_countDrawn_72 : decode cX4_countDrawn 72 = .ok (.istore 4, 2) := by decide +kernel
theorem dX4_countDrawn_74 : decode cX4_countDrawn 74 = .ok (.iinc 5 1, 3) := by decide +kernel
theorem dX4_countDrawn_77 : decode cX4_countDrawn 77 = .ok (.goto (-30), 3) := by decide +kernel
theorem dX4_countDrawn_80 : decode cX4_countDrawn 80 = .ok (.iload 4, 2) := by decide +kernel
theorem dX4_countDrawn_82 : decode cX4_countDrawn 82 = .ok (.ifCond .ne 18, 3) := by decide +kernel
theorem dX4_countDrawn_85 : decode cX4_countDrawn 85 = .ok (.aload_n 0, 1) := by decide +kernel
theorem dX4_countDrawn_86 : decode cX4_countDrawn 86 = .ok (.getfield 9, 3) := by decide +kernel
theorem dX4_countDrawn_89 : decode cX4_countDrawn 89 = .ok (.iload 4, 2) := by decide +kernel
theorem dX4_countDrawn_91 : decode cX4_countDrawn 91 = .ok (.iaload, 1) := by decide +kernel
theorem dX4_countDrawn_92 : decode cX4_countDrawn 92 = .ok (.iload 4, 2) := by decide +kernel
theorem dX4_countDrawn_94 : decode cX4_countDrawn 94 = .ok (.if_icmp .ne 6, 3) := by decide +kernel
theorem dX4_countDrawn_97 : decode cX4_countDrawn 97 = .ok (.iinc 2 1, 3) := by decide +kernel
theorem dX4_countDrawn_100 : decode cX4_countDrawn 100 = .ok (.iinc 3 1, 3) := by decide +kernel
theorem dX4_countDrawn_103 : decode cX4_countDrawn 103 = .ok (.goto (-67), 3) := by decide +kernel
theorem dX4_countDrawn_106 : decode cX4_countDrawn 106 = .ok (.iload_n 2, 1) := by decide +kernel
theorem dX4_countDrawn_107 : decode cX4_countDrawn 107 = .ok (.ireturn, 1) := by decide +kernel
theorem kw_243 : (.fieldLink RX4 9 "NobodyChecks$Play" "next" "[I" : Cond) ∈ gw_tbl := gw_in (by decide +kernel) (by decide +kernel)

set_option maxHeartbeats 4000000 in
set_option maxRecDepth 100000 in
theorem y_countDrawn (l : Launch) (D : va_G) (cs : Nat → ClassId) (pl : Nat) (nx : Nat) (sn : Nat) (bel : Int64) (gs : Int32) (gp : Int32) (la : Int32) (stp : Int32) (rou : Int32) (va : Nat) (fva : Nat → Int64) (aq : Nat) (aw : Nat) (ac : Nat) (ao : Nat) (am : Nat) (C : Nat) (hC5 : C ≤ 5) (P : Nat) (hP4 : P ≤ 4) (tot : Int64) (fao : Nat → Int32) (fnx : Nat → Int32) (sz : Nat) : Met l yX4_countDrawn (Cond.code yX4_countDrawn cX4_countDrawn 6 (some .int) :: gw_tbl) ({ frames := 5, cells := 0, slots := 0, locals := 115 }) (pc_M D cs [(pl, .inr (4, [.ref aq, .ref nx, .ref sn, .ref va, .long bel, .int gs, .int gp, .int la, .int stp, .int rou])), (va, .inl (cs 1, 1024, .inr (.inl fva))), (aq, .inr (5, [.ref aw, .ref ac, .ref ao, .ref am, .int (nI C), .int (nI P), .long tot])), (ao, .inl (cs 0, 4, .inl fao)), (nx, .inl (cs 0, 256, .inl fnx))] sz [.ref pl]) (va_Qi (fun (r : Int32) (u : Unit) => True) (fun u t => ∃ (fnx2 : Nat → Int32), va_P D vwCl [(pl, .inr (4, [.ref aq, .ref nx, .ref sn, .ref va, .long bel, .int gs, .int gp, .int la, .int stp, .int rou])), (va, .inl (cs 1, 1024, .inr (.inl fva))), (aq, .inr (5, [.ref aw, .ref ac, .ref ao, .ref am, .int (nI C), .int (nI P), .long tot])), (ao, .inl (cs 0, 4, .inl fao)), (nx, .inl (cs 0, 256, .inl fnx2))] t.heap ∧ va_D (va_A [(pl, .inr (4, [.ref aq, .ref nx, .ref sn, .ref va, .long bel, .int gs, .int gp, .int la, .int stp, .int rou])), (va, .inl (cs 1, 1024, .inr (.inl fva))), (aq, .inr (5, [.ref aw, .ref ac, .ref ao, .ref am, .int (nI C), .int (nI P), .long tot])), (ao, .inl (cs 0, 4, .inl fao)), (nx, .inl (cs 0, 256, .inl fnx))] sz) [(pl, .inr (4, [.ref aq, .ref nx, .ref sn, .ref va, .long bel, .int gs, .int gp, .int la, .int stp, .int rou])), (va, .inl (cs 1, 1024, .inr (.inl fva))), (aq, .inr (5, [.ref aw, .ref ac, .ref ao, .ref am, .int (nI C), .int (nI P), .long tot])), (ao, .inl (cs 0, 4, .inl fao)), (nx, .inl (cs 0, 256, .inl fnx2))]) (va_A [(pl, .inr (4, [.ref aq, .ref nx, .ref sn, .ref va, .long bel, .int gs, .int gp, .int la, .int stp, .int rou])), (va, .inl (cs 1, 1024, .inr (.inl fva))), (aq, .inr (5, [.ref aw, .ref ac, .ref ao, .ref am, .int (nI C), .int (nI P), .long tot])), (ao, .inl (cs 0, 4, .inl fao)), (nx, .inl (cs 0, 256, .inl fnx))] sz)) 0 0 (va_A [(pl, .inr (4, [.ref aq, .ref nx, .ref sn, .ref va, .long bel, .int gs, .int gp, .int la, .int stp, .int rou])), (va, .inl (cs 1, 1024, .inr (.inl fva))), (aq, .inr (5, [.ref aw, .ref ac, .ref ao, .ref am, .int (nI C), .int (nI P), .long tot])), (ao, .inl (cs 0, 4, .inl fao)), (nx, .inl (cs 0, 256, .inl fnx))] sz) := by
  refine Met.ofW (cc := cX4_countDrawn) (maxL := 6) (ret := (some .int)) (by decide) rfl ?_
  intro p e s m args below meth c s₁ B hml hv
  obtain ⟨hargs, hsz, hP, hK, hD0⟩ := hv
  have hx := B.exec
  have hb := B.bytes
  have hr := B.returns
  have hts := atoms_spec (ws := Cond.code yX4_countDrawn cX4_countDrawn 6 (some .int) :: gw_tbl) B.pre
  have hg := fun (w : Cond) (h : w ∈ gw_tbl) => hts w (List.mem_cons_of_mem _ h)
  have hown : s.vm.findClass RX4 = some m.cls := findClass_of_methodNamed B.named
  have hlocks := B.notSynchronized
  subst hsz
  have hD := hD0.self (sz := s.heap.size)
  generalize hAe : va_A [(pl, .inr (4, [.ref aq, .ref nx, .ref sn, .ref va, .long bel, .int gs, .int gp, .int la, .int stp, .int rou])), (va, .inl (cs 1, 1024, .inr (.inl fva))), (aq, .inr (5, [.ref aw, .ref ac, .ref ao, .ref am, .int (nI C), .int (nI P), .long tot])), (ao, .inl (cs 0, 4, .inl fao)), (nx, .inl (cs 0, 256, .inl fnx))] s.heap.size = A at hD ⊢
  have hA : ∀ q : Nat, s.heap.size ≤ q → A q := fun q h => by rw [← hAe]; exact Or.inr h
  have hS : va_S A s.heap s.heap [] := va_S.rf
  have hP : va_P D vwCl [(pl, .inr (4, [.ref aq, .ref nx, .ref sn, .ref va, .long bel, .int gs, .int gp, .int la, .int stp, .int rou])), (va, .inl (cs 1, 1024, .inr (.inl fva))), (aq, .inr (5, [.ref aw, .ref ac, .ref ao, .ref am, .int (nI C), .int (nI P), .long tot])), (ao, .inl (cs 0, 4, .inl fao)), (nx, .inl (cs 0, 256, .inl fnx))] s.heap := hP
  have hl := lv_entry ([.ref pl]) (n := 6) (Nat.le_of_ble_eq_true rfl)
  rw [show entryFrame m args 6 = F0 m 0 (lg_sl ([.ref pl]) ++ List.replicate (6 - (lg_sl ([.ref pl])).length) Slot.unset).toArray [] from by rw [hargs]; exact lg_entry_eq ..]
  generalize (lg_sl ([.ref pl]) ++ List.replicate (6 - (lg_sl ([.ref pl])).length) Slot.unset).toArray = ls at hl ⊢
  have hl : lv_has ls 6 [(0, .ref pl)] := hl
  refine W_genQ (fun Q hQ => ?_)
  have hlm := lim_le hP4
  have hlq := lim_pos P
  have hsg := sgn_le hP4
  refine lv_aload_n hx hb dX4_countDrawn_0 rfl (lv_at hl 0 rfl) ?_
  refine va_get (D := D) (ci := 4) (v := .ref aq) (C := RX4) (T := TX4) (N := 10) hx hb hg gwX4 hown hK hP 0 rfl rfl 0 (by decide) (hg _ kw_188) (fun _ h9 => h9) rfl dX4_countDrawn_1 ?_
  have hPc := hP.sub (ws' := [(aq, .inr (5, [.ref aw, .ref ac, .ref ao, .ref am, .int (nI C), .int (nI P), .long tot]))]) [2] rfl
  refine vp_callSi (W.runV (As := []) (rest := []) ⟨hx, hb, hml, hown, hg⟩ (q_profileLimit l D cs aq aw ac ao am C (by omega) P (by omega) tot) (cwV 0 hg (gw_V kw_192 kw_17 kw_18 kw_19 kw_15) rfl rfl rfl (by decide +kernel) ⟨(Nat.le_of_ble_eq_true rfl), (Nat.le_of_ble_eq_true rfl)⟩) (pr_SV (q := (RX5, TX5, 7)) 5 0 hK hPc rfl rfl) rfl rfl hl.1 rfl (lv_room (Nat.le_of_ble_eq_true rfl)) dX4_countDrawn_4 ⟨(Nat.le_of_ble_eq_true rfl), (Nat.le_of_ble_eq_true rfl)⟩) (fun r_4 h_4 => ?_)
  obtain rfl : r_4 = nI (lim P) := h_4
  refine lv_istore_n (lv' := [(1, .int (nI (lim P))), (0, .ref pl)]) hx hb dX4_countDrawn_7 rfl hl (by decide) rfl (fun ls hl => ?_)
  refine lv_iconst (v := 0) hx hb dX4_countDrawn_8 (by decide) ?_
  refine lv_istore_n (lv' := [(2, .int 0), (1, .int (nI (lim P))), (0, .ref pl)]) hx hb dX4_countDrawn_9 rfl hl (by decide) rfl (fun ls hl => ?_)
  have LOOP10 : ∀ (n10 : Nat) (k : Nat) (fnx_10 : Nat → Int32), k ≤ lim P → nxI fnx_10 k (lim P) → lim P - k < n10 → ∀ (H : Heap) (locs : List Loc) (ls : Array Slot), va_P D vwCl [(pl, .inr (4, [.ref aq, .ref nx, .ref sn, .ref va, .long bel, .int gs, .int gp, .int la, .int stp, .int rou])), (va, .inl (cs 1, 1024, .inr (.inl fva))), (aq, .inr (5, [.ref aw, .ref ac, .ref ao, .ref am, .int (nI C), .int (nI P), .long tot])), (ao, .inl (cs 0, 4, .inl fao)), (nx, .inl (cs 0, 256, .inl fnx_10))] H → va_D A [(pl, .inr (4, [.ref aq, .ref nx, .ref sn, .ref va, .long bel, .int gs, .int gp, .int la, .int stp, .int rou])), (va, .inl (cs 1, 1024, .inr (.inl fva))), (aq, .inr (5, [.ref aw, .ref ac, .ref ao, .ref am, .int (nI C), .int (nI P), .long tot])), (ao, .inl (cs 0, 4, .inl fao)), (nx, .inl (cs 0, 256, .inl fnx_10))] → va_S A s.heap H locs → lv_has ls 6 [(0, .ref pl), (1, .int (nI (lim P))), (2, .int (nI k))] → W p l e ({ frames := 5, cells := 0, slots := 0, locals := 115 } : Room) s m args below meth c H locs 0 0 Q (F0 m 10 ls []) := by
    intro n10
    induction n10 with
    | zero =>
      intro k fnx_10 hk hfx hn10 H locs ls hP hD hS hl
      exact absurd hn10 (Nat.not_lt_zero _)
    | succ n10 ih10 =>
      intro k fnx_10 hk hfx hn10 H locs ls hP hD hS hl
      refine lv_iload_n hx hb dX4_countDrawn_10 rfl (lv_at hl 2 rfl) ?_
      refine lv_iload_n hx hb dX4_countDrawn_11 rfl (lv_at hl 1 rfl) ?_
      refine lv_icmp_ge (tgt := 32) hx hb dX4_countDrawn_12 (by decide) (fun c_12 => ?_) (fun c_12 => ?_)
      · have n_12 : lim P ≤ k := b_le_t (by omega) (by omega) c_12
        have hfx : nxI fnx_10 (lim P) (lim P) := by rw [show k = lim P by omega] at hfx; exact hfx
        refine lv_iconst (v := 0) hx hb dX4_countDrawn_32 (by decide) ?_
        refine lv_istore_n (lv' := [(2, .int 0), (0, .ref pl), (1, .int (nI (lim P)))]) hx hb dX4_countDrawn_33 rfl hl (by decide) rfl (fun ls hl => ?_)
        refine lv_iconst (v := 0) hx hb dX4_countDrawn_34 (by decide) ?_
        refine lv_istore_n (lv' := [(3, .int 0), (2, .int 0), (0, .ref pl), (1, .int (nI (lim P)))]) hx hb dX4_countDrawn_35 rfl hl (by decide) rfl (fun ls hl => ?_)
        have LOOP36 : ∀ (n36 : Nat) (u2_36 : Int32) (k2 : Nat), k2 ≤ lim P → lim P - k2 < n36 → ∀ (H : Heap) (locs : List Loc) (ls : Array Slot), va_P D vwCl [(pl, .inr (4, [.ref aq, .ref nx, .ref sn, .ref va, .long bel, .int gs, .int gp, .int la, .int stp, .int rou])), (va, .inl (cs 1, 1024, .inr (.inl fva))), (aq, .inr (5, [.ref aw, .ref ac, .ref ao, .ref am, .int (nI C), .int (nI P), .long tot])), (ao, .inl (cs 0, 4, .inl fao)), (nx, .inl (cs 0, 256, .inl fnx_10))] H → va_D A [(pl, .inr (4, [.ref aq, .ref nx, .ref sn, .ref va, .long bel, .int gs, .int gp, .int la, .int stp, .int rou])), (va, .inl (cs 1, 1024, .inr (.inl fva))), (aq, .inr (5, [.ref aw, .ref ac, .ref ao, .ref am, .int (nI C), .int (nI P), .long tot])), (ao, .inl (cs 0, 4, .inl fao)), (nx, .inl (cs 0, 256, .inl fnx_10))] → va_S A s.heap H locs → lv_has ls 6 [(0, .ref pl), (1, .int (nI (lim P))), (2, .int u2_36), (3, .int (nI k2))] → W p l e ({ frames := 5, cells := 0, slots := 0, locals := 115 } : Room) s m args below meth c H locs 0 0 Q (F0 m 36 ls []) := by
          intro n36
          induction n36 with
          | zero =>
            intro u2_36 k2 hk2 hn36 H locs ls hP hD hS hl
            exact absurd hn36 (Nat.not_lt_zero _)
          | succ n36 ih36 =>
            intro u2_36 k2 hk2 hn36 H locs ls hP hD hS hl
            refine lv_iload_n hx hb dX4_countDrawn_36 rfl (lv_at hl 3 rfl) ?_
            refine lv_iload_n hx hb dX4_countDrawn_37 rfl (lv_at hl 1 rfl) ?_
            refine lv_icmp_ge (tgt := 106) hx hb dX4_countDrawn_38 (by decide) (fun c_38 => ?_) (fun c_38 => ?_)
            · have n_38 : lim P ≤ k2 := b_le_t (by omega) (by omega) c_38
              refine lv_iload_n hx hb dX4_countDrawn_106 rfl (lv_at hl 2 rfl) ?_
              refine W_sQ hQ ?_
              refine W.widen (k := 0) (n := 0) (Nat.le_of_ble_eq_true rfl) (Nat.le_of_ble_eq_true rfl) ?_
              have hP9 := hP.sub (ws' := [(pl, .inr (4, [.ref aq, .ref nx, .ref sn, .ref va, .long bel, .int gs, .int gp, .int la, .int stp, .int rou])), (va, .inl (cs 1, 1024, .inr (.inl fva))), (aq, .inr (5, [.ref aw, .ref ac, .ref ao, .ref am, .int (nI C), .int (nI P), .long tot])), (ao, .inl (cs 0, 4, .inl fao)), (nx, .inl (cs 0, 256, .inl fnx_10))]) [0, 1, 2, 3, 4] rfl
              have hD9 := hD.sub (ws' := [(pl, .inr (4, [.ref aq, .ref nx, .ref sn, .ref va, .long bel, .int gs, .int gp, .int la, .int stp, .int rou])), (va, .inl (cs 1, 1024, .inr (.inl fva))), (aq, .inr (5, [.ref aw, .ref ac, .ref ao, .ref am, .int (nI C), .int (nI P), .long tot])), (ao, .inl (cs 0, 4, .inl fao)), (nx, .inl (cs 0, 256, .inl fnx_10))]) [0, 1, 2, 3, 4] (by decide) rfl
              exact W.iret (v := u2_36) hx hb hr (fun t ht hW => ⟨⟨u2_36, (), rfl, trivial, ⟨fnx_10, by rw [ht]; exact hP9, hD9⟩⟩, hS.F ht⟩) hS.2.2 dX4_countDrawn_107
            · have n_38 : k2 < lim P := b_le_f (by omega) (by omega) c_38
              refine lv_iload_n hx hb dX4_countDrawn_41 rfl (lv_at hl 3 rfl) ?_
              refine lv_istore (lv' := [(4, .int (nI k2)), (0, .ref pl), (1, .int (nI (lim P))), (2, .int u2_36), (3, .int (nI k2))]) hx hb dX4_countDrawn_42 hl (by decide) rfl (fun ls hl => ?_)
              refine lv_iconst (v := 0) hx hb dX4_countDrawn_44 (by decide) ?_
              refine lv_istore (lv' := [(5, .int 0), (4, .int (nI k2)), (0, .ref pl), (1, .int (nI (lim P))), (2, .int u2_36), (3, .int (nI k2))]) hx hb dX4_countDrawn_45 hl (by decide) rfl (fun ls hl => ?_)
              have LOOP47 : ∀ (n47 : Nat) (pr : Nat) (k3 : Nat), k3 ≤ lim P → pr < lim P → lim P - k3 < n47 → ∀ (H : Heap) (locs : List Loc) (ls : Array Slot), va_P D vwCl [(pl, .inr (4, [.ref aq, .ref nx, .ref sn, .ref va, .long bel, .int gs, .int gp, .int la, .int stp, .int rou])), (va, .inl (cs 1, 1024, .inr (.inl fva))), (aq, .inr (5, [.ref aw, .ref ac, .ref ao, .ref am, .int (nI C), .int (nI P), .long tot])), (ao, .inl (cs 0, 4, .inl fao)), (nx, .inl (cs 0, 256, .inl fnx_10))] H → va_D A [(pl, .inr (4, [.ref aq, .ref nx, .ref sn, .ref va, .long bel, .int gs, .int gp, .int la, .int stp, .int rou])), (va, .inl (cs 1, 1024, .inr (.inl fva))), (aq, .inr (5, [.ref aw, .ref ac, .ref ao, .ref am, .int (nI C), .int (nI P), .long tot])), (ao, .inl (cs 0, 4, .inl fao)), (nx, .inl (cs 0, 256, .inl fnx_10))] → va_S A s.heap H locs → lv_has ls 6 [(0, .ref pl), (1, .int (nI (lim P))), (2, .int u2_36), (3, .int (nI k2)), (4, .int (nI pr)), (5, .int (nI k3))] → W p l e ({ frames := 5, cells := 0, slots := 0, locals := 115 } : Room) s m args below meth c H locs 0 0 Q (F0 m 47 ls []) := by
                intro n47
                induction n47 with
                | zero =>
                  intro pr k3 hk3 hpr hn47 H locs ls hP hD hS hl
                  exact absurd hn47 (Nat.not_lt_zero _)
                | succ n47 ih47 =>
                  intro pr k3 hk3 hpr hn47 H locs ls hP hD hS hl
                  refine lv_iload hx hb dX4_countDrawn_47 (lv_at hl 5 rfl) ?_
                  refine lv_iload_n hx hb dX4_countDrawn_49 rfl (lv_at hl 1 rfl) ?_
                  refine lv_icmp_ge (tgt := 80) hx hb dX4_countDrawn_50 (by decide) (fun c_50 => ?_) (fun c_50 => ?_)
                  · have n_50 : lim P ≤ k3 := b_le_t (by omega) (by omega) c_50
                    refine lv_iload hx hb dX4_countDrawn_80 (lv_at hl 4 rfl) ?_
                    refine lv_if_ne (tgt := 100) hx hb dX4_countDrawn_82 (by decide) (fun c_82 => ?_) (fun c_82 => ?_)
                    · have n_82 : ¬ pr = 0 := b_eq_f (by omega) (by omega) c_82
                      refine lv_iinc (v := (nI (k2 + 1))) (lv' := [(3, .int (nI (k2 + 1))), (0, .ref pl), (1, .int (nI (lim P))), (2, .int u2_36), (4, .int (nI pr)), (5, .int (nI k3))]) hx hb dX4_countDrawn_100 hl (k := 3) rfl (nI_add k2 1) (by decide) rfl (fun ls hl => ?_)
                      refine lv_goto (tgt := 36) hx hb dX4_countDrawn_103 (by decide) ?_
                      exact ih36 u2_36 (k2 + 1) (by omega) (by omega) _ _ ls hP hD hS (lv_sub hl [1, 2, 3, 0] rfl)
                    · have n_82 : pr = 0 := b_eq_t (by omega) (by omega) c_82
                      refine lv_aload_n hx hb dX4_countDrawn_85 rfl (lv_at hl 0 rfl) ?_
                      refine va_get (D := D) (ci := 4) (v := .ref nx) (C := RX4) (T := TX4) (N := 10) hx hb hg gwX4 hown hK hP 0 rfl rfl 1 (by decide) (hg _ kw_243) (fun _ h9 => h9) rfl dX4_countDrawn_86 ?_
                      refine lv_iload hx hb dX4_countDrawn_89 (lv_at hl 4 rfl) ?_
                      refine va_iald hx hb hK hP 4 0 rfl rfl (vp_in_nI (show pr < 256 by omega) (by decide)) dX4_countDrawn_91 ?_
                      refine lv_topi (fun z_91 e_91 => ?_)
                      obtain ⟨nv_91, hnv_91, rfl⟩ := nxI_at hfx (show pr < lim P by omega) (by omega) e_91
                      refine lv_iload hx hb dX4_countDrawn_92 (lv_at hl 4 rfl) ?_
                      refine lv_icmp_ne (tgt := 100) hx hb dX4_countDrawn_94 (by decide) (fun c_94 => ?_) (fun c_94 => ?_)
                      · have n_94 : ¬ nv_91 = pr := b_eq_f (by omega) (by omega) c_94
                        refine lv_iinc (v := (nI (k2 + 1))) (lv' := [(3, .int (nI (k2 + 1))), (0, .ref pl), (1, .int (nI (lim P))), (2, .int u2_36), (4, .int (nI pr)), (5, .int (nI k3))]) hx hb dX4_countDrawn_100 hl (k := 3) rfl (nI_add k2 1) (by decide) rfl (fun ls hl => ?_)
                        refine lv_goto (tgt := 36) hx hb dX4_countDrawn_103 (by decide) ?_
                        exact ih36 u2_36 (k2 + 1) (by omega) (by omega) _ _ ls hP hD hS (lv_sub hl [1, 2, 3, 0] rfl)
                      · have n_94 : nv_91 = pr := b_eq_t (by omega) (by omega) c_94
                        obtain ⟨z_97, e_97⟩ : ∃ y : Int32, y = u2_36 + 1 := ⟨_, rfl⟩
                        refine lv_iinc (v := z_97) (lv' := [(2, .int z_97), (0, .ref pl), (1, .int (nI (lim P))), (3, .int (nI k2)), (4, .int (nI pr)), (5, .int (nI k3))]) hx hb dX4_countDrawn_97 hl (k := 2) rfl (by rw [e_97]; rfl) (by decide) rfl (fun ls hl => ?_)
                        refine lv_iinc (v := (nI (k2 + 1))) (lv' := [(3, .int (nI (k2 + 1))), (2, .int z_97), (0, .ref pl), (1, .int (nI (lim P))), (4, .int (nI pr)), (5, .int (nI k3))]) hx hb dX4_countDrawn_100 hl (k := 3) rfl (nI_add k2 1) (by decide) rfl (fun ls hl => ?_)
                        refine lv_goto (tgt := 36) hx hb dX4_countDrawn_103 (by decide) ?_
                        exact ih36 z_97 (k2 + 1) (by omega) (by omega) _ _ ls hP hD hS (lv_sub hl [2, 3, 1, 0] rfl)
                  · have n_50 : k3 < lim P := b_le_f (by omega) (by omega) c_50
                    refine lv_aload_n hx hb dX4_countDrawn_53 rfl (lv_at hl 0 rfl) ?_
                    refine va_get (D := D) (ci := 4) (v := .ref nx) (C := RX4) (T := TX4) (N := 10) hx hb hg gwX4 hown hK hP 0 rfl rfl 1 (by decide) (hg _ kw_243) (fun _ h9 => h9) rfl dX4_countDrawn_54 ?_
                    refine lv_iload hx hb dX4_countDrawn_57 (lv_at hl 4 rfl) ?_
                    refine va_iald hx hb hK hP 4 0 rfl rfl (vp_in_nI (show pr < 256 by omega) (by decide)) dX4_countDrawn_59 ?_
                    refine lv_topi (fun z_59 e_59 => ?_)
                    obtain ⟨nv_59, hnv_59, rfl⟩ := nxI_at hfx (show pr < lim P by omega) (by omega) e_59
                    refine lv_iload hx hb dX4_countDrawn_60 (lv_at hl 4 rfl) ?_
                    refine lv_icmp_eq (tgt := 80) hx hb dX4_countDrawn_62 (by decide) (fun c_62 => ?_) (fun c_62 => ?_)
                    · have n_62 : nv_59 = pr := b_eq_t (by omega) (by omega) c_62
                      refine lv_iload hx hb dX4_countDrawn_80 (lv_at hl 4 rfl) ?_
                      refine lv_if_ne (tgt := 100) hx hb dX4_countDrawn_82 (by decide) (fun c_82 => ?_) (fun c_82 => ?_)
                      · have n_82 : ¬ pr = 0 := b_eq_f (by omega) (by omega) c_82
                        refine lv_iinc (v := (nI (k2 + 1))) (lv' := [(3, .int (nI (k2 + 1))), (0, .ref pl), (1, .int (nI (lim P))), (2, .int u2_36), (4, .int (nI pr)), (5, .int (nI k3))]) hx hb dX4_countDrawn_100 hl (k := 3) rfl (nI_add k2 1) (by decide) rfl (fun ls hl => ?_)
                        refine lv_goto (tgt := 36) hx hb dX4_countDrawn_103 (by decide) ?_
                        exact ih36 u2_36 (k2 + 1) (by omega) (by omega) _ _ ls hP hD hS (lv_sub hl [1, 2, 3, 0] rfl)
                      · have n_82 : pr = 0 := b_eq_t (by omega) (by omega) c_82
                        refine lv_aload_n hx hb dX4_countDrawn_85 rfl (lv_at hl 0 rfl) ?_
                        refine va_get (D := D) (ci := 4) (v := .ref nx) (C := RX4) (T := TX4) (N := 10) hx hb hg gwX4 hown hK hP 0 rfl rfl 1 (by decide) (hg _ kw_243) (fun _ h9 => h9) rfl dX4_countDrawn_86 ?_
                        refine lv_iload hx hb dX4_countDrawn_89 (lv_at hl 4 rfl) ?_
                        refine va_iald hx hb hK hP 4 0 rfl rfl (vp_in_nI (show pr < 256 by omega) (by decide)) dX4_countDrawn_91 ?_
                        refine lv_topi (fun z_91 e_91 => ?_)
                        obtain ⟨nv_91, hnv_91, rfl⟩ := nxI_at hfx (show pr < lim P by omega) (by omega) e_91
                        refine lv_iload hx hb dX4_countDrawn_92 (lv_at hl 4 rfl) ?_
                        refine lv_icmp_ne (tgt := 100) hx hb dX4_countDrawn_94 (by decide) (fun c_94 => ?_) (fun c_94 => ?_)
                        · have n_94 : ¬ nv_91 = pr := b_eq_f (by omega) (by omega) c_94
                          refine lv_iinc (v := (nI (k2 + 1))) (lv' := [(3, .int (nI (k2 + 1))), (0, .ref pl), (1, .int (nI (lim P))), (2, .int u2_36), (4, .int (nI pr)), (5, .int (nI k3))]) hx hb dX4_countDrawn_100 hl (k := 3) rfl (nI_add k2 1) (by decide) rfl (fun ls hl => ?_)
                          refine lv_goto (tgt := 36) hx hb dX4_countDrawn_103 (by decide) ?_
                          exact ih36 u2_36 (k2 + 1) (by omega) (by omega) _ _ ls hP hD hS (lv_sub hl [1, 2, 3, 0] rfl)
                        · have n_94 : nv_91 = pr := b_eq_t (by omega) (by omega) c_94
                          obtain ⟨z_97, e_97⟩ : ∃ y : Int32, y = u2_36 + 1 := ⟨_, rfl⟩
                          refine lv_iinc (v := z_97) (lv' := [(2, .int z_97), (0, .ref pl), (1, .int (nI (lim P))), (3, .int (nI k2)), (4, .int (nI pr)), (5, .int (nI k3))]) hx hb dX4_countDrawn_97 hl (k := 2) rfl (by rw [e_97]; rfl) (by decide) rfl (fun ls hl => ?_)
                          refine lv_iinc (v := (nI (k2 + 1))) (lv' := [(3, .int (nI (k2 + 1))), (2, .int z_97), (0, .ref pl), (1, .int (nI (lim P))), (4, .int (nI pr)), (5, .int (nI k3))]) hx hb dX4_countDrawn_100 hl (k := 3) rfl (nI_add k2 1) (by decide) rfl (fun ls hl => ?_)
                          refine lv_goto (tgt := 36) hx hb dX4_countDrawn_103 (by decide) ?_
                          exact ih36 z_97 (k2 + 1) (by omega) (by omega) _ _ ls hP hD hS (lv_sub hl [2, 3, 1, 0] rfl)
                    · have n_62 : ¬ nv_59 = pr := b_eq_f (by omega) (by omega) c_62
                      refine lv_aload_n hx hb dX4_countDrawn_65 rfl (lv_at hl 0 rfl) ?_
                      refine va_get (D := D) (ci := 4) (v := .ref nx) (C := RX4) (T := TX4) (N := 10) hx hb hg gwX4 hown hK hP 0 rfl rfl 1 (by decide) (hg _ kw_243) (fun _ h9 => h9) rfl dX4_countDrawn_66 ?_
                      refine lv_iload hx hb dX4_countDrawn_69 (lv_at hl 4 rfl) ?_
                      refine va_iald hx hb hK hP 4 0 rfl rfl (vp_in_nI (show pr < 256 by omega) (by decide)) dX4_countDrawn_71 ?_
                      refine lv_topi (fun z_71 e_71 => ?_)
                      obtain ⟨nv_71, hnv_71, rfl⟩ := nxI_at hfx (show pr < lim P by omega) (by omega) e_71
                      refine lv_istore (lv' := [(4, .int (nI nv_71)), (0, .ref pl), (1, .int (nI (lim P))), (2, .int u2_36), (3, .int (nI k2)), (5, .int (nI k3))]) hx hb dX4_countDrawn_72 hl (by decide) rfl (fun ls hl => ?_)
                      refine lv_iinc (v := (nI (k3 + 1))) (lv' := [(5, .int (nI (k3 + 1))), (4, .int (nI nv_71)), (0, .ref pl), (1, .int (nI (lim P))), (2, .int u2_36), (3, .int (nI k2))]) hx hb dX4_countDrawn_74 hl (k := 5) rfl (nI_add k3 1) (by decide) rfl (fun ls hl => ?_)
                      refine lv_goto (tgt := 47) hx hb dX4_countDrawn_77 (by decide) ?_
                      exact ih47 nv_71 (k3 + 1) (by omega) (by omega) (by omega) _ _ ls hP hD hS (lv_sub hl [2, 3, 4, 5, 1, 0] rfl)
              exact LOOP47 (lim P - 0 + 1) k2 0 (by omega) (by omega) (Nat.lt_succ_self _) _ _ ls hP hD hS (lv_sub hl [2, 3, 4, 5, 1, 0] rfl)
        exact LOOP36 (lim P - 0 + 1) 0 0 (by omega) (Nat.lt_succ_self _) _ _ ls hP hD hS (lv_sub hl [2, 3, 1, 0] rfl)
      · have n_12 : k < lim P := b_le_f (by omega) (by omega) c_12
        refine lv_aload_n hx hb dX4_countDrawn_15 rfl (lv_at hl 0 rfl) ?_
        refine va_get (D := D) (ci := 4) (v := .ref nx) (C := RX4) (T := TX4) (N := 10) hx hb hg gwX4 hown hK hP 0 rfl rfl 1 (by decide) (hg _ kw_243) (fun _ h9 => h9) rfl dX4_countDrawn_16 ?_
        refine lv_iload_n hx hb dX4_countDrawn_19 rfl (lv_at hl 2 rfl) ?_
        refine lv_aload_n hx hb dX4_countDrawn_20 rfl (lv_at hl 0 rfl) ?_
        refine lv_iload_n hx hb dX4_countDrawn_21 rfl (lv_at hl 2 rfl) ?_
        have hPc := hP.sub (ws' := [(pl, .inr (4, [.ref aq, .ref nx, .ref sn, .ref va, .long bel, .int gs, .int gp, .int la, .int stp, .int rou])), (va, .inl (cs 1, 1024, .inr (.inl fva))), (aq, .inr (5, [.ref aw, .ref ac, .ref ao, .ref am, .int (nI C), .int (nI P), .long tot])), (ao, .inl (cs 0, 4, .inl fao))]) [0, 1, 2, 3] rfl
        refine vp_callSi (W.runV (As := [.int (nI k)]) (rest := [.int (nI k), .ref nx]) ⟨hx, hb, hml, hown, hg⟩ (y_nextOf l D cs pl nx sn bel gs gp la stp rou va fva aq aw ac ao am C (by omega) P (by omega) tot fao k (by omega)) (cwV 1 hg (gw_V kw_240 kw_241 kw_242 kw_196 kw_239) rfl rfl rfl (by decide +kernel) ⟨(Nat.le_of_ble_eq_true rfl), (Nat.le_of_ble_eq_true rfl)⟩) (pr_SV (q := (RX4, TX4, 10)) 4 0 hK hPc rfl rfl) rfl rfl hl.1 rfl (lv_room (Nat.le_of_ble_eq_true rfl)) dX4_countDrawn_22 ⟨(Nat.le_of_ble_eq_true rfl), (Nat.le_of_ble_eq_true rfl)⟩) (fun r_22 h_22 => ?_)
        obtain ⟨k_22, rfl, hk_22⟩ := h_22
        refine va_iast hx hb hK hP hD hS 4 0 rfl rfl (vp_in_nI (show k < 256 by omega) (by decide)) dX4_countDrawn_25 (fun H locs hP hD hS => ?_)
        obtain ⟨f_25, hf_25⟩ : ∃ f9, f9 = (upd fnx_10 (nI k).toNatClampNeg (nI k_22)) := ⟨_, rfl⟩
        rw [← hf_25] at hP hD
        have hP : va_P D vwCl [(pl, .inr (4, [.ref aq, .ref nx, .ref sn, .ref va, .long bel, .int gs, .int gp, .int la, .int stp, .int rou])), (va, .inl (cs 1, 1024, .inr (.inl fva))), (aq, .inr (5, [.ref aw, .ref ac, .ref ao, .ref am, .int (nI C), .int (nI P), .long tot])), (ao, .inl (cs 0, 4, .inl fao)), (nx, .inl (cs 0, 256, .inl f_25))] H := hP
        have hD : va_D A [(pl, .inr (4, [.ref aq, .ref nx, .ref sn, .ref va, .long bel, .int gs, .int gp, .int la, .int stp, .int rou])), (va, .inl (cs 1, 1024, .inr (.inl fva))), (aq, .inr (5, [.ref aw, .ref ac, .ref ao, .ref am, .int (nI C), .int (nI P), .long tot])), (ao, .inl (cs 0, 4, .inl fao)), (nx, .inl (cs 0, 256, .inl f_25))] := hD
        refine lv_iinc (v := (nI (k + 1))) (lv' := [(2, .int (nI (k + 1))), (0, .ref pl), (1, .int (nI (lim P)))]) hx hb dX4_countDrawn_26 hl (k := 2) rfl (nI_add k 1) (by decide) rfl (fun ls hl => ?_)
        refine lv_goto (tgt := 10) hx hb dX4_countDrawn_29 (by decide) ?_
        exact ih10 (k + 1) f_25 (by omega) (nxI_s hfx (by omega) (by omega) hf_25) (by omega) _ _ ls hP hD hS (lv_sub hl [1, 2, 0] rfl)
  exact LOOP10 (lim P - 0 + 1) 0 fnx (by omega) nxI_0 (Nat.lt_succ_self _) _ _ ls hP hD hS (lv_sub hl [2, 1, 0] rfl)
