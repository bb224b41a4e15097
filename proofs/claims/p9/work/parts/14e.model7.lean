theorem dX12_question_0 : decode cX12_question 0 = .ok (.aload_n 0, 1) := by decide +kernel
theorem dX12_question_1 : decode cX12_question 1 = .ok (.invokevirtual 99, 3) := by decide +kernel
theorem dX12_question_4 : decode cX12_question 4 = .ok (.aload_n 0, 1) := by decide +kernel
theorem dX12_question_5 : decode cX12_question 5 = .ok (.getfield 63, 3) := by decide +kernel
theorem dX12_question_8 : decode cX12_question 8 = .ok (.if_icmp .ne 15, 3) := by decide +kernel
theorem dX12_question_11 : decode cX12_question 11 = .ok (.aload_n 0, 1) := by decide +kernel
theorem dX12_question_12 : decode cX12_question 12 = .ok (.getfield 86, 3) := by decide +kernel
theorem dX12_question_15 : decode cX12_question 15 = .ok (.iconst 4, 1) := by decide +kernel
theorem dX12_question_16 : decode cX12_question 16 = .ok (.if_icmp .ne 7, 3) := by decide +kernel
theorem dX12_question_19 : decode cX12_question 19 = .ok (.iconst 1, 1) := by decide +kernel
theorem dX12_question_20 : decode cX12_question 20 = .ok (.goto 4, 3) := by decide +kernel
theorem dX12_question_23 : decode cX12_question 23 = .ok (.iconst 0, 1) := by decide +kernel
theorem dX12_question_24 : decode cX12_question 24 = .ok (.istore_n 1, 1) := by decide +kernel
theorem dX12_question_25 : decode cX12_question 25 = .ok (.iload_n 1, 1) := by decide +kernel
theorem dX12_question_26 : decode cX12_question 26 = .ok (.ifCond .eq 37, 3) := by decide +kernel
theorem dX12_question_29 : decode cX12_question 29 = .ok (.aload_n 0, 1) := by decide +kernel
theorem dX12_question_30 : decode cX12_question 30 = .ok (.getfield 80, 3) := by decide +kernel
theorem dX12_question_33 : decode cX12_question 33 = .ok (.ifCond .ne 13, 3) := by decide +kernel
theorem dX12_question_36 : decode cX12_question 36 = .ok (.aload_n 0, 1) := by decide +kernel
theorem dX12_question_37 : decode cX12_question 37 = .ok (.getfield 83, 3) := by decide +kernel
theorem dX12_question_40 : decode cX12_question 40 = .ok (.ifCond .le 23, 3) := by decide +kernel
theorem dX12_question_43 : decode cX12_question 43 = .ok (.goto 16, 3) := by decide +kernel
theorem dX12_question_46 : decode cX12_question 46 = .ok (.aload_n 0, 1) := by decide +kernel
theorem dX12_question_47 : decode cX12_question 47 = .ok (.getfield 83, 3) := by decide +kernel
theorem dX12_question_50 : decode cX12_question 50 = .ok (.aload_n 0, 1) := by decide +kernel
theorem dX12_question_51 : decode cX12_question 51 = .ok (.getfield 89, 3) := by decide +kernel
theorem dX12_question_54 : decode cX12_question 54 = .ok (.iconst 1, 1) := by decide +kernel
theorem dX12_question_55 : decode cX12_question 55 = .ok (.isub, 1) := by decide +kernel
theorem dX12_question_56 : decode cX12_question 56 = .ok (.if_icmp .ne 7, 3) := by decide +kernel
theorem dX12_question_59 : decode cX12_question 59 = .ok (.iconst 1, 1) := by decide +kernel
theorem dX12_question_60 : decode cX12_question 60 = .ok (.goto 4, 3) := by decide +kernel
theorem dX12_question_63 : decode cX12_question 63 = .ok (.iconst 0, 1) := by decide +kernel
theorem dX12_question_64 : decode cX12_question 64 = .ok (.istore_n 1, 1) := by decide +kernel
theorem dX12_question_65 : decode cX12_question 65 = .ok (.iload_n 1, 1) := by decide +kernel
theorem dX12_question_66 : decode cX12_question 66 = .ok (.ifCond .ne 6, 3) := by decide +kernel
theorem dX12_question_69 : decode cX12_question 69 = .ok (.bipush (-103), 2) := by decide +kernel
theorem dX12_question_71 : decode cX12_question 71 = .ok (.ireturn, 1) := by decide +kernel
theorem dX12_question_72 : decode cX12_question 72 = .ok (.aload_n 0, 1) := by decide +kernel
theorem dX12_question_73 : decode cX12_question 73 = .ok (.getfield 25, 3) := by decide +kernel
theorem dX12_question_76 : decode cX12_question 76 = .ok (.iconst 4, 1) := by decide +kernel
theorem dX12_question_77 : decode cX12_question 77 = .ok (.aload_n 0, 1) := by decide +kernel
theorem dX12_question_78 : decode cX12_question 78 = .ok (.getfield 80, 3) := by decide +kernel
theorem dX12_question_81 : decode cX12_question 81 = .ok (.imul, 1) := by decide +kernel
theorem dX12_question_82 : decode cX12_question 82 = .ok (.aload_n 0, 1) := by decide +kernel
theorem dX12_question_83 : decode cX12_question 83 = .ok (.getfield 83, 3) := by decide +kernel
theorem dX12_question_86 : decode cX12_question 86 = .ok (.iadd, 1) := by decide +kernel
theorem dX12_question_87 : decode cX12_question 87 = .ok (.aload_n 0, 1) := by decide +kernel
theorem dX12_question_88 : decode cX12_question 88 = .ok (.getfield 77, 3) := by decide +kernel
theorem dX12_question_91 : decode cX12_question 91 = .ok (.iastore, 1) := by decide +kernel
theorem dX12_question_92 : decode cX12_question 92 = .ok (.aload_n 0, 1) := by decide +kernel
theorem dX12_question_93 : decode cX12_question 93 = .ok (.aload_n 0, 1) := by decide +kernel
theorem dX12_question_94 : decode cX12_question 94 = .ok (.getfield 83, 3) := by decide +kernel
theorem dX12_question_97 : decode cX12_question 97 = .ok (.iconst 1, 1) := by decide +kernel
theorem dX12_question_98 : decode cX12_question 98 = .ok (.iadd, 1) := by decide +kernel
theorem dX12_question_99 : decode cX12_question 99 = .ok (.putfield 57, 3) := by decide +kernel
theorem dX12_question_102 : decode cX12_question 102 = .ok (.aload_n 0, 1) := by decide +kernel
theorem dX12_question_103 : decode cX12_question 103 = .ok (.aload_n 0, 1) := by decide +kernel
theorem dX12_question_104 : decode cX12_question 104 = .ok (.getfield 80, 3) := by decide +kernel
theorem dX12_question_107 : decode cX12_question 107 = .ok (.iconst 1, 1) := by decide +kernel
theorem dX12_question_108 : decode cX12_question 108 = .ok (.iadd, 1) := by decide +kernel
theorem dX12_question_109 : decode cX12_question 109 = .ok (.putfield 103, 3) := by decide +kernel
theorem dX12_question_112 : decode cX12_question 112 = .ok (.iconst 0, 1) := by decide +kernel
theorem dX12_question_113 : decode cX12_question 113 = .ok (.istore_n 2, 1) := by decide +kernel
theorem dX12_question_114 : decode cX12_question 114 = .ok (.iload_n 2, 1) := by decide +kernel
theorem dX12_question_115 : decode cX12_question 115 = .ok (.iconst 5, 1) := by decide +kernel
theorem dX12_question_116 : decode cX12_question 116 = .ok (.if_icmp .ge 21, 3) := by decide +kernel
theorem dX12_question_119 : decode cX12_question 119 = .ok (.aload_n 0, 1) := by decide +kernel
theorem dX12_question_120 : decode cX12_question 120 = .ok (.getfield 13, 3) := by decide +kernel
theorem dX12_question_123 : decode cX12_question 123 = .ok (.iload_n 2, 1) := by decide +kernel
theorem dX12_question_124 : decode cX12_question 124 = .ok (.aload_n 0, 1) := by decide +kernel
theorem dX12_question_125 : decode cX12_question 125 = .ok (.getfield 22, 3) := by decide +kernel
theorem dX12_question_128 : decode cX12_question 128 = .ok (.iload_n 2, 1) := by decide +kernel
theorem dX12_question_129 : decode cX12_question 129 = .ok (.iaload, 1) := by decide +kernel
theorem dX12_question_130 : decode cX12_question 130 = .ok (.iastore, 1) := by decide +kernel
theorem dX12_question_131 : decode cX12_question 131 = .ok (.iinc 2 1, 3) := by decide +kernel
theorem dX12_question_134 : decode cX12_question 134 = .ok (.goto (-20), 3) := by decide +kernel
theorem dX12_question_137 : decode cX12_question 137 = .ok (.iconst 0, 1) := by decide +kernel
theorem dX12_question_138 : decode cX12_question 138 = .ok (.istore_n 2, 1) := by decide +kernel
theorem dX12_question_139 : decode cX12_question 139 = .ok (.iload_n 2, 1) := by decide +kernel
theorem dX12_question_140 : decode cX12_question 140 = .ok (.bipush 20, 2) := by decide +kernel
theorem dX12_question_142 : decode cX12_question 142 = .ok (.if_icmp .ge 21, 3) := by decide +kernel
theorem dX12_question_145 : decode cX12_question 145 = .ok (.aload_n 0, 1) := by decide +kernel
theorem dX12_question_146 : decode cX12_question 146 = .ok (.getfield 16, 3) := by decide +kernel
theorem dX12_question_149 : decode cX12_question 149 = .ok (.iload_n 2, 1) := by decide +kernel
theorem dX12_question_150 : decode cX12_question 150 = .ok (.aload_n 0, 1) := by decide +kernel
theorem dX12_question_151 : decode cX12_question 151 = .ok (.getfield 25, 3) := by decide +kernel
theorem dX12_question_154 : decode cX12_question 154 = .ok (.iload_n 2, 1) := by decide +kernel
theorem dX12_question_155 : decode cX12_question 155 = .ok (.iaload, 1) := by decide +kernel
theorem dX12_question_156 : decode cX12_question 156 = .ok (.iastore, 1) := by decide +kernel
theorem dX12_question_157 : decode cX12_question 157 = .ok (.iinc 2 1, 3) := by decide +kernel
theorem dX12_question_160 : decode cX12_question 160 = .ok (.goto (-21), 3) := by decide +kernel
theorem dX12_question_163 : decode cX12_question 163 = .ok (.iconst 0, 1) := by decide +kernel
theorem dX12_question_164 : decode cX12_question 164 = .ok (.istore_n 2, 1) := by decide +kernel
theorem dX12_question_165 : decode cX12_question 165 = .ok (.iload_n 2, 1) := by decide +kernel
theorem dX12_question_166 : decode cX12_question 166 = .ok (.iconst 4, 1) := by decide +kernel
theorem dX12_question_167 : decode cX12_question 167 = .ok (.if_icmp .ge 16, 3) := by decide +kernel
theorem dX12_question_170 : decode cX12_question 170 = .ok (.aload_n 0, 1) := by decide +kernel
theorem dX12_question_171 : decode cX12_question 171 = .ok (.getfield 19, 3) := by decide +kernel
theorem dX12_question_174 : decode cX12_question 174 = .ok (.iload_n 2, 1) := by decide +kernel
theorem dX12_question_175 : decode cX12_question 175 = .ok (.iconst 0, 1) := by decide +kernel
theorem dX12_question_176 : decode cX12_question 176 = .ok (.iastore, 1) := by decide +kernel
theorem dX12_question_177 : decode cX12_question 177 = .ok (.iinc 2 1, 3) := by decide +kernel
theorem dX12_question_180 : decode cX12_question 180 = .ok (.goto (-15), 3) := by decide +kernel
theorem dX12_question_183 : decode cX12_question 183 = .ok (.aload_n 0, 1) := by decide +kernel
theorem dX12_question_184 : decode cX12_question 184 = .ok (.iconst 0, 1) := by decide +kernel
theorem dX12_question_185 : decode cX12_question 185 = .ok (.putfield 106, 3) := by decide +kernel
theorem dX12_question_188 : decode cX12_question 188 = .ok (.aload_n 0, 1) := by decide +kernel
theorem dX12_question_189 : decode cX12_question 189 = .ok (.iconst 0, 1) := by decide +kernel
theorem dX12_question_190 : decode cX12_question 190 = .ok (.putfield 63, 3) := by decide +kernel
theorem dX12_question_193 : decode cX12_question 193 = .ok (.aload_n 0, 1) := by decide +kernel
theorem dX12_question_194 : decode cX12_question 194 = .ok (.invokevirtual 109, 3) := by decide +kernel
theorem dX12_question_197 : decode cX12_question 197 = .ok (.aload_n 0, 1) := by decide +kernel
theorem dX12_question_198 : decode cX12_question 198 = .ok (.getfield 57, 3) := by decide +kernel
theorem dX12_question_201 : decode cX12_question 201 = .ok (.ireturn, 1) := by decide +kernel

set_option maxHeartbeats 4000000 in
set_option maxRecDepth 100000 in
theorem m_question (l : Launch) (D : va_G) (cs : Nat → ClassId) (m0 : Nat) (mp : Nat) (mw : Nat) (mh : Nat) (mo : Nat) (m5 : Nat) (m6 : Nat) (m7 : Nat) (mk : Nat) (mn : Nat) (mq : Nat) (m8 : Nat) (m9 : Nat) (mz : Nat) (mb : Nat) (md : Nat) (ms : Nat) (C : Nat) (P : Nat) (mpn : Nat) (mrs : Nat) (sS : Nat) (rc : Nat) (rp : Nat) (ic : Nat) (hms : ms ≤ 90) (hC5 : C ≤ 5) (hP4 : P ≤ 4) (hmpn : mpn ≤ 8) (hmrs : mrs ≤ 24) (hsS : sS ≤ 4) (hrc : rc ≤ 5) (hrp : rp ≤ 4) (hic : ic ≤ 4) (x_value : Int32) (x_digits : Int32) (x_all : Int64) (x_kind : Int32) (x_last : Int32) (x_steps : Int32) (x_isRound : Int32) (x_tablesDone : Int32) (x_hash : Int64) (fmp : Nat → Int32) (fm5 : Nat → Int32) (fm6 : Nat → Int32) (fmw : Nat → Int32) (fmh : Nat → Int32) (fmo : Nat → Int32) (fm7 : Nat → Int64) (hwI : wI fmw C) (hal : alK C x_all) (hPC : 1 ≤ P → 1 ≤ C) (sz : Nat) : Met l yX12_question (Cond.code yX12_question cX12_question 3 (some .int) :: gw_tbl) ({ frames := 4, cells := 0, slots := 0, locals := 91 }) (pc_M D cs [(m0, .inr (12, [.ref mp, .int (nI ms), .int (nI C), .int (nI P), .ref mw, .ref mh, .ref mo, .int (nI sS), .int x_value, .int x_digits, .int (nI rc), .int (nI rp), .int (nI ic), .ref m5, .ref m6, .ref m7, .long x_all, .int (nI mpn), .ref mk, .ref mn, .int x_kind, .ref mq, .ref m8, .ref m9, .int x_last, .int x_steps, .int x_isRound, .int x_tablesDone, .ref mz, .int (nI mrs), .ref mb, .ref md, .long x_hash])), (mp, .inl (cs 0, 90, .inl fmp)), (m5, .inl (cs 0, 5, .inl fm5)), (m6, .inl (cs 0, 20, .inl fm6)), (mw, .inl (cs 0, 5, .inl fmw)), (mh, .inl (cs 0, 20, .inl fmh)), (mo, .inl (cs 0, 4, .inl fmo)), (m7, .inl (cs 1, 16, .inr (.inl fm7)))] sz [.ref m0]) (va_Qi (fun (r : Int32) (u : Unit) => True) (fun u t => ∃ (s2 : Nat), ∃ (v2 : Int32), ∃ (dg2 : Int32), ∃ (rc2 : Nat), ∃ (rp2 : Nat), ∃ (ic2 : Nat), ∃ (P2 : Nat), ∃ (C2 : Nat), ∃ (rs2 : Nat), ∃ (ms2 : Nat), ∃ (al2 : Int64), ∃ (fm52 : Nat → Int32), ∃ (fm62 : Nat → Int32), ∃ (fmw2 : Nat → Int32), ∃ (fmh2 : Nat → Int32), ∃ (fmo2 : Nat → Int32), ∃ (fm72 : Nat → Int64), (s2 ≤ 4) ∧ (rc2 ≤ 5) ∧ (rp2 ≤ 4) ∧ (ic2 ≤ 4) ∧ (P2 ≤ 4) ∧ (C2 ≤ 5) ∧ (rs2 ≤ 24) ∧ (ms2 ≤ 90) ∧ (wI fmw2 C2) ∧ (alK C2 al2) ∧ (1 ≤ P2 → 1 ≤ C2) ∧ va_P D vwCl [(m0, .inr (12, [.ref mp, .int (nI ms2), .int (nI C2), .int (nI P2), .ref mw, .ref mh, .ref mo, .int (nI s2), .int v2, .int dg2, .int (nI rc2), .int (nI rp2), .int (nI ic2), .ref m5, .ref m6, .ref m7, .long al2, .int (nI mpn), .ref mk, .ref mn, .int x_kind, .ref mq, .ref m8, .ref m9, .int x_last, .int x_steps, .int x_isRound, .int x_tablesDone, .ref mz, .int (nI rs2), .ref mb, .ref md, .long x_hash])), (mp, .inl (cs 0, 90, .inl fmp)), (m5, .inl (cs 0, 5, .inl fm52)), (m6, .inl (cs 0, 20, .inl fm62)), (mw, .inl (cs 0, 5, .inl fmw2)), (mh, .inl (cs 0, 20, .inl fmh2)), (mo, .inl (cs 0, 4, .inl fmo2)), (m7, .inl (cs 1, 16, .inr (.inl fm72)))] t.heap ∧ va_D (va_A [(m0, .inr (12, [.ref mp, .int (nI ms), .int (nI C), .int (nI P), .ref mw, .ref mh, .ref mo, .int (nI sS), .int x_value, .int x_digits, .int (nI rc), .int (nI rp), .int (nI ic), .ref m5, .ref m6, .ref m7, .long x_all, .int (nI mpn), .ref mk, .ref mn, .int x_kind, .ref mq, .ref m8, .ref m9, .int x_last, .int x_steps, .int x_isRound, .int x_tablesDone, .ref mz, .int (nI mrs), .ref mb, .ref md, .long x_hash])), (mp, .inl (cs 0, 90, .inl fmp)), (m5, .inl (cs 0, 5, .inl fm5)), (m6, .inl (cs 0, 20, .inl fm6)), (mw, .inl (cs 0, 5, .inl fmw)), (mh, .inl (cs 0, 20, .inl fmh)), (mo, .inl (cs 0, 4, .inl fmo)), (m7, .inl (cs 1, 16, .inr (.inl fm7)))] sz) [(m0, .inr (12, [.ref mp, .int (nI ms2), .int (nI C2), .int (nI P2), .ref mw, .ref mh, .ref mo, .int (nI s2), .int v2, .int dg2, .int (nI rc2), .int (nI rp2), .int (nI ic2), .ref m5, .ref m6, .ref m7, .long al2, .int (nI mpn), .ref mk, .ref mn, .int x_kind, .ref mq, .ref m8, .ref m9, .int x_last, .int x_steps, .int x_isRound, .int x_tablesDone, .ref mz, .int (nI rs2), .ref mb, .ref md, .long x_hash])), (mp, .inl (cs 0, 90, .inl fmp)), (m5, .inl (cs 0, 5, .inl fm52)), (m6, .inl (cs 0, 20, .inl fm62)), (mw, .inl (cs 0, 5, .inl fmw2)), (mh, .inl (cs 0, 20, .inl fmh2)), (mo, .inl (cs 0, 4, .inl fmo2)), (m7, .inl (cs 1, 16, .inr (.inl fm72)))]) (va_A [(m0, .inr (12, [.ref mp, .int (nI ms), .int (nI C), .int (nI P), .ref mw, .ref mh, .ref mo, .int (nI sS), .int x_value, .int x_digits, .int (nI rc), .int (nI rp), .int (nI ic), .ref m5, .ref m6, .ref m7, .long x_all, .int (nI mpn), .ref mk, .ref mn, .int x_kind, .ref mq, .ref m8, .ref m9, .int x_last, .int x_steps, .int x_isRound, .int x_tablesDone, .ref mz, .int (nI mrs), .ref mb, .ref md, .long x_hash])), (mp, .inl (cs 0, 90, .inl fmp)), (m5, .inl (cs 0, 5, .inl fm5)), (m6, .inl (cs 0, 20, .inl fm6)), (mw, .inl (cs 0, 5, .inl fmw)), (mh, .inl (cs 0, 20, .inl fmh)), (mo, .inl (cs 0, 4, .inl fmo)), (m7, .inl (cs 1, 16, .inr (.inl fm7)))] sz)) 0 0 (va_A [(m0, .inr (12, [.ref mp, .int (nI ms), .int (nI C), .int (nI P), .ref mw, .ref mh, .ref mo, .int (nI sS), .int x_value, .int x_digits, .int (nI rc), .int (nI rp), .int (nI ic), .ref m5, .ref m6, .ref m7, .long x_all, .int (nI mpn), .ref mk, .ref mn, .int x_kind, .ref mq, .ref m8, .ref m9, .int x_last, .int x_steps, .int x_isRound, .int x_tablesDone, .ref mz, .int (nI mrs), .ref mb, .ref md, .long x_hash])), (mp, .inl (cs 0, 90, .inl fmp)), (m5, .inl (cs 0, 5, .inl fm5)), (m6, .inl (cs 0, 20, .inl fm6)), (mw, .inl (cs 0, 5, .inl fmw)), (mh, .inl (cs 0, 20, .inl fmh)), (mo, .inl (cs 0, 4, .inl fmo)), (m7, .inl (cs 1, 16, .inr (.inl fm7)))] sz) := by
  refine Met.ofW (cc := cX12_question) (maxL := 3) (ret := (some .int)) (by decide) rfl ?_
  intro p e s m args below meth c s₁ B hml hv
  obtain ⟨hargs, hsz, hP, hK, hD0⟩ := hv
  have hx := B.exec
  have hb := B.bytes
  have hr := B.returns
  have hts := atoms_spec (ws := Cond.code yX12_question cX12_question 3 (some .int) :: gw_tbl) B.pre
  have hg := fun (w : Cond) (h : w ∈ gw_tbl) => hts w (List.mem_cons_of_mem _ h)
  have hown : s.vm.findClass RX12 = some m.cls := findClass_of_methodNamed B.named
  have hlocks := B.notSynchronized
  subst hsz
  have hD := hD0.self (sz := s.heap.size)
  generalize hAe : va_A [(m0, .inr (12, [.ref mp, .int (nI ms), .int (nI C), .int (nI P), .ref mw, .ref mh, .ref mo, .int (nI sS), .int x_value, .int x_digits, .int (nI rc), .int (nI rp), .int (nI ic), .ref m5, .ref m6, .ref m7, .long x_all, .int (nI mpn), .ref mk, .ref mn, .int x_kind, .ref mq, .ref m8, .ref m9, .int x_last, .int x_steps, .int x_isRound, .int x_tablesDone, .ref mz, .int (nI mrs), .ref mb, .ref md, .long x_hash])), (mp, .inl (cs 0, 90, .inl fmp)), (m5, .inl (cs 0, 5, .inl fm5)), (m6, .inl (cs 0, 20, .inl fm6)), (mw, .inl (cs 0, 5, .inl fmw)), (mh, .inl (cs 0, 20, .inl fmh)), (mo, .inl (cs 0, 4, .inl fmo)), (m7, .inl (cs 1, 16, .inr (.inl fm7)))] s.heap.size = A at hD ⊢
  have hA : ∀ q : Nat, s.heap.size ≤ q → A q := fun q h => by rw [← hAe]; exact Or.inr h
  have hS : va_S A s.heap s.heap [] := va_S.rf
  have hP : va_P D vwCl [(m0, .inr (12, [.ref mp, .int (nI ms), .int (nI C), .int (nI P), .ref mw, .ref mh, .ref mo, .int (nI sS), .int x_value, .int x_digits, .int (nI rc), .int (nI rp), .int (nI ic), .ref m5, .ref m6, .ref m7, .long x_all, .int (nI mpn), .ref mk, .ref mn, .int x_kind, .ref mq, .ref m8, .ref m9, .int x_last, .int x_steps, .int x_isRound, .int x_tablesDone, .ref mz, .int (nI mrs), .ref mb, .ref md, .long x_hash])), (mp, .inl (cs 0, 90, .inl fmp)), (m5, .inl (cs 0, 5, .inl fm5)), (m6, .inl (cs 0, 20, .inl fm6)), (mw, .inl (cs 0, 5, .inl fmw)), (mh, .inl (cs 0, 20, .inl fmh)), (mo, .inl (cs 0, 4, .inl fmo)), (m7, .inl (cs 1, 16, .inr (.inl fm7)))] s.heap := hP
  have hl := lv_entry ([.ref m0]) (n := 3) (Nat.le_of_ble_eq_true rfl)
  rw [show entryFrame m args 3 = F0 m 0 (lg_sl ([.ref m0]) ++ List.replicate (3 - (lg_sl ([.ref m0])).length) Slot.unset).toArray [] from by rw [hargs]; exact lg_entry_eq ..]
  generalize (lg_sl ([.ref m0]) ++ List.replicate (3 - (lg_sl ([.ref m0])).length) Slot.unset).toArray = ls at hl ⊢
  have hl : lv_has ls 3 [(0, .ref m0)] := hl
  refine W_genQ (fun Q hQ => ?_)
  have hlm := lim_le hP4
  have hlq := lim_pos P
  have hsg := sgn_le hP4
  refine lv_aload_n hx hb dX12_question_0 rfl (lv_at hl 0 rfl) ?_
  have hPc := hP.sub (ws' := [(m0, .inr (12, [.ref mp, .int (nI ms), .int (nI C), .int (nI P), .ref mw, .ref mh, .ref mo, .int (nI sS), .int x_value, .int x_digits, .int (nI rc), .int (nI rp), .int (nI ic), .ref m5, .ref m6, .ref m7, .long x_all, .int (nI mpn), .ref mk, .ref mn, .int x_kind, .ref mq, .ref m8, .ref m9, .int x_last, .int x_steps, .int x_isRound, .int x_tablesDone, .ref mz, .int (nI mrs), .ref mb, .ref md, .long x_hash])), (mp, .inl (cs 0, 90, .inl fmp)), (m5, .inl (cs 0, 5, .inl fm5)), (m6, .inl (cs 0, 20, .inl fm6))]) [0, 1, 2, 3] rfl
  have hDc := hD.sub (ws' := [(m0, .inr (12, [.ref mp, .int (nI ms), .int (nI C), .int (nI P), .ref mw, .ref mh, .ref mo, .int (nI sS), .int x_value, .int x_digits, .int (nI rc), .int (nI rp), .int (nI ic), .ref m5, .ref m6, .ref m7, .long x_all, .int (nI mpn), .ref mk, .ref mn, .int x_kind, .ref mq, .ref m8, .ref m9, .int x_last, .int x_steps, .int x_isRound, .int x_tablesDone, .ref mz, .int (nI mrs), .ref mb, .ref md, .long x_hash])), (mp, .inl (cs 0, 90, .inl fmp)), (m5, .inl (cs 0, 5, .inl fm5)), (m6, .inl (cs 0, 20, .inl fm6))]) [0, 1, 2, 3] (by decide) rfl
  have hFc := va_free (wc := [(m0, .inr (12, [.ref mp, .int (nI ms), .int (nI C), .int (nI P), .ref mw, .ref mh, .ref mo, .int (nI sS), .int x_value, .int x_digits, .int (nI rc), .int (nI rp), .int (nI ic), .ref m5, .ref m6, .ref m7, .long x_all, .int (nI mpn), .ref mk, .ref mn, .int x_kind, .ref mq, .ref m8, .ref m9, .int x_last, .int x_steps, .int x_isRound, .int x_tablesDone, .ref mz, .int (nI mrs), .ref mb, .ref md, .long x_hash])), (mp, .inl (cs 0, 90, .inl fmp)), (m5, .inl (cs 0, 5, .inl fm5)), (m6, .inl (cs 0, 20, .inl fm6))]) hD hS hA [0, 1, 2, 3] rfl
  refine va_calli (va_runV (As := []) (rest := []) ⟨hx, hb, hml, hown, hg⟩ (m_faultOf l D cs m0 mp mw mh mo m5 m6 m7 mk mn mq m8 m9 mz mb md ms C P mpn mrs sS rc rp ic (by omega) (by omega) (by omega) (by omega) (by omega) (by omega) (by omega) (by omega) (by omega) x_value x_digits x_all x_kind x_last x_steps x_isRound x_tablesDone x_hash fmp fm5 fm6 _) (cwV 0 hg (gw_V kw_497 kw_498 kw_499 kw_319 kw_496) rfl rfl rfl (by decide +kernel) ⟨(Nat.le_of_ble_eq_true rfl), (Nat.le_of_ble_eq_true rfl)⟩) (pr_MV (q := (RX12, TX12, 33)) 12 0 hK hPc hDc rfl rfl) rfl rfl hl.1 rfl (lv_room (Nat.le_of_ble_eq_true rfl)) dX12_question_1 ⟨(Nat.le_of_ble_eq_true rfl), (Nat.le_of_ble_eq_true rfl)⟩) hS (fun q _ h => hFc q h) hFc (fun r_1 u t H1 locs ht hvm h_1 hB hz1 hk1 hS => ?_)
  obtain ⟨s2_1, v2_1, dg2_1, rc2_1, rp2_1, ic2_1, fm52_1, fm62_1, hs2_1, hrc2_1, hrp2_1, hic2_1, hg2_1, hP1, hD1⟩ := hB
  rw [ht] at hP1
  obtain ⟨hP, hD⟩ := va_join (wr := [(mw, .inl (cs 0, 5, .inl fmw)), (mh, .inl (cs 0, 20, .inl fmh)), (mo, .inl (cs 0, 4, .inl fmo)), (m7, .inl (cs 1, 16, .inr (.inl fm7)))]) (w1 := [(m0, .inr (12, [.ref mp, .int (nI ms), .int (nI C), .int (nI P), .ref mw, .ref mh, .ref mo, .int (nI s2_1), .int v2_1, .int dg2_1, .int (nI rc2_1), .int (nI rp2_1), .int (nI ic2_1), .ref m5, .ref m6, .ref m7, .long x_all, .int (nI mpn), .ref mk, .ref mn, .int x_kind, .ref mq, .ref m8, .ref m9, .int x_last, .int x_steps, .int x_isRound, .int x_tablesDone, .ref mz, .int (nI mrs), .ref mb, .ref md, .long x_hash])), (mp, .inl (cs 0, 90, .inl fmp)), (m5, .inl (cs 0, 5, .inl fm52_1)), (m6, .inl (cs 0, 20, .inl fm62_1))]) hP hD [0, 1, 2, 3] [4, 5, 6, 7] rfl rfl (by decide) (by decide) hk1 hFc hP1 hD1
  generalize H1 = H at hP hS ⊢
  have hP : va_P D vwCl [(mw, .inl (cs 0, 5, .inl fmw)), (mh, .inl (cs 0, 20, .inl fmh)), (mo, .inl (cs 0, 4, .inl fmo)), (m7, .inl (cs 1, 16, .inr (.inl fm7))), (m0, .inr (12, [.ref mp, .int (nI ms), .int (nI C), .int (nI P), .ref mw, .ref mh, .ref mo, .int (nI s2_1), .int v2_1, .int dg2_1, .int (nI rc2_1), .int (nI rp2_1), .int (nI ic2_1), .ref m5, .ref m6, .ref m7, .long x_all, .int (nI mpn), .ref mk, .ref mn, .int x_kind, .ref mq, .ref m8, .ref m9, .int x_last, .int x_steps, .int x_isRound, .int x_tablesDone, .ref mz, .int (nI mrs), .ref mb, .ref md, .long x_hash])), (mp, .inl (cs 0, 90, .inl fmp)), (m5, .inl (cs 0, 5, .inl fm52_1)), (m6, .inl (cs 0, 20, .inl fm62_1))] H := hP
  have hD : va_D A [(mw, .inl (cs 0, 5, .inl fmw)), (mh, .inl (cs 0, 20, .inl fmh)), (mo, .inl (cs 0, 4, .inl fmo)), (m7, .inl (cs 1, 16, .inr (.inl fm7))), (m0, .inr (12, [.ref mp, .int (nI ms), .int (nI C), .int (nI P), .ref mw, .ref mh, .ref mo, .int (nI s2_1), .int v2_1, .int dg2_1, .int (nI rc2_1), .int (nI rp2_1), .int (nI ic2_1), .ref m5, .ref m6, .ref m7, .long x_all, .int (nI mpn), .ref mk, .ref mn, .int x_kind, .ref mq, .ref m8, .ref m9, .int x_last, .int x_steps, .int x_isRound, .int x_tablesDone, .ref mz, .int (nI mrs), .ref mb, .ref md, .long x_hash])), (mp, .inl (cs 0, 90, .inl fmp)), (m5, .inl (cs 0, 5, .inl fm52_1)), (m6, .inl (cs 0, 20, .inl fm62_1))] := hD
  refine W.cs (cells' := 0) (slots' := 0) rfl rfl ?_
  obtain ⟨rfl, hu_1⟩ := h_1
  refine lv_aload_n hx hb dX12_question_4 rfl (lv_at hl 0 rfl) ?_
  refine va_get (D := D) (ci := 12) (v := .int (nI ms)) (C := RX12) (T := TX12) (N := 33) hx hb hg gwX12 hown hK hP 4 rfl rfl 1 (by decide) (hg _ kw_397) (fun _ h9 => h9) rfl dX12_question_5 ?_
  refine lv_icmp_ne (tgt := 23) hx hb dX12_question_8 (by decide) (fun c_8 => ?_) (fun c_8 => ?_)
  · have n_8 : ¬ u = ms := b_eq_f (by omega) (by omega) c_8
    refine lv_iconst (v := 0) hx hb dX12_question_23 (by decide) ?_
    refine lv_istore_n (lv' := [(1, .int 0), (0, .ref m0)]) hx hb dX12_question_24 rfl hl (by decide) rfl (fun ls hl => ?_)
    refine lv_iload_n hx hb dX12_question_25 rfl (lv_at hl 0 rfl) ?_
    refine lv_if_eq (tgt := 63) hx hb dX12_question_26 (by decide) (fun c_26 => ?_) (fun c_26 => absurd c_26 (by decide))
    refine lv_iconst (v := 0) hx hb dX12_question_63 (by decide) ?_
    refine lv_istore_n (lv' := [(1, .int 0), (0, .ref m0)]) hx hb dX12_question_64 rfl hl (by decide) rfl (fun ls hl => ?_)
    refine lv_iload_n hx hb dX12_question_65 rfl (lv_at hl 0 rfl) ?_
    refine lv_if_ne (tgt := 72) hx hb dX12_question_66 (by decide) (fun c_66 => absurd c_66 (by decide)) (fun c_66 => ?_)
    refine lv_bipush (v := (-103)) hx hb dX12_question_69 (by decide) ?_
    subst hQ
    refine W.widen (k := 0) (n := 0) (Nat.le_of_ble_eq_true rfl) (Nat.le_of_ble_eq_true rfl) ?_
    have hP9 := hP.sub (ws' := [(m0, .inr (12, [.ref mp, .int (nI ms), .int (nI C), .int (nI P), .ref mw, .ref mh, .ref mo, .int (nI s2_1), .int v2_1, .int dg2_1, .int (nI rc2_1), .int (nI rp2_1), .int (nI ic2_1), .ref m5, .ref m6, .ref m7, .long x_all, .int (nI mpn), .ref mk, .ref mn, .int x_kind, .ref mq, .ref m8, .ref m9, .int x_last, .int x_steps, .int x_isRound, .int x_tablesDone, .ref mz, .int (nI mrs), .ref mb, .ref md, .long x_hash])), (mp, .inl (cs 0, 90, .inl fmp)), (m5, .inl (cs 0, 5, .inl fm52_1)), (m6, .inl (cs 0, 20, .inl fm62_1)), (mw, .inl (cs 0, 5, .inl fmw)), (mh, .inl (cs 0, 20, .inl fmh)), (mo, .inl (cs 0, 4, .inl fmo)), (m7, .inl (cs 1, 16, .inr (.inl fm7)))]) [4, 5, 6, 7, 0, 1, 2, 3] rfl
    have hD9 := hD.sub (ws' := [(m0, .inr (12, [.ref mp, .int (nI ms), .int (nI C), .int (nI P), .ref mw, .ref mh, .ref mo, .int (nI s2_1), .int v2_1, .int dg2_1, .int (nI rc2_1), .int (nI rp2_1), .int (nI ic2_1), .ref m5, .ref m6, .ref m7, .long x_all, .int (nI mpn), .ref mk, .ref mn, .int x_kind, .ref mq, .ref m8, .ref m9, .int x_last, .int x_steps, .int x_isRound, .int x_tablesDone, .ref mz, .int (nI mrs), .ref mb, .ref md, .long x_hash])), (mp, .inl (cs 0, 90, .inl fmp)), (m5, .inl (cs 0, 5, .inl fm52_1)), (m6, .inl (cs 0, 20, .inl fm62_1)), (mw, .inl (cs 0, 5, .inl fmw)), (mh, .inl (cs 0, 20, .inl fmh)), (mo, .inl (cs 0, 4, .inl fmo)), (m7, .inl (cs 1, 16, .inr (.inl fm7)))]) [4, 5, 6, 7, 0, 1, 2, 3] (by decide) rfl
    exact W.iret (v := (-103)) hx hb hr (fun t ht hW => ⟨⟨(-103), (), rfl, trivial, ⟨s2_1, v2_1, dg2_1, rc2_1, rp2_1, ic2_1, P, C, mrs, ms, x_all, fm52_1, fm62_1, fmw, fmh, fmo, fm7, (by omega), (by omega), (by omega), (by omega), (by omega), (by omega), (by omega), (by omega), hwI, hal, hPC, by rw [ht]; exact hP9, hD9⟩⟩, hS.F ht⟩) hS.2.2 dX12_question_71
  · have n_8 : u = ms := b_eq_t (by omega) (by omega) c_8
    refine lv_aload_n hx hb dX12_question_11 rfl (lv_at hl 0 rfl) ?_
    refine va_get (D := D) (ci := 12) (v := .int (nI s2_1)) (C := RX12) (T := TX12) (N := 33) hx hb hg gwX12 hown hK hP 4 rfl rfl 7 (by decide) (hg _ kw_485) (fun _ h9 => h9) rfl dX12_question_12 ?_
    refine lv_iconst (v := 4) hx hb dX12_question_15 (by decide) ?_
    refine lv_icmp_ne (tgt := 23) hx hb dX12_question_16 (by decide) (fun c_16 => ?_) (fun c_16 => ?_)
    · have n_16 : ¬ s2_1 = 4 := b_eq_f (by omega) (by omega) c_16
      refine lv_iconst (v := 0) hx hb dX12_question_23 (by decide) ?_
      refine lv_istore_n (lv' := [(1, .int 0), (0, .ref m0)]) hx hb dX12_question_24 rfl hl (by decide) rfl (fun ls hl => ?_)
      refine lv_iload_n hx hb dX12_question_25 rfl (lv_at hl 0 rfl) ?_
      refine lv_if_eq (tgt := 63) hx hb dX12_question_26 (by decide) (fun c_26 => ?_) (fun c_26 => absurd c_26 (by decide))
      refine lv_iconst (v := 0) hx hb dX12_question_63 (by decide) ?_
      refine lv_istore_n (lv' := [(1, .int 0), (0, .ref m0)]) hx hb dX12_question_64 rfl hl (by decide) rfl (fun ls hl => ?_)
      refine lv_iload_n hx hb dX12_question_65 rfl (lv_at hl 0 rfl) ?_
      refine lv_if_ne (tgt := 72) hx hb dX12_question_66 (by decide) (fun c_66 => absurd c_66 (by decide)) (fun c_66 => ?_)
      refine lv_bipush (v := (-103)) hx hb dX12_question_69 (by decide) ?_
      subst hQ
      refine W.widen (k := 0) (n := 0) (Nat.le_of_ble_eq_true rfl) (Nat.le_of_ble_eq_true rfl) ?_
      have hP9 := hP.sub (ws' := [(m0, .inr (12, [.ref mp, .int (nI ms), .int (nI C), .int (nI P), .ref mw, .ref mh, .ref mo, .int (nI s2_1), .int v2_1, .int dg2_1, .int (nI rc2_1), .int (nI rp2_1), .int (nI ic2_1), .ref m5, .ref m6, .ref m7, .long x_all, .int (nI mpn), .ref mk, .ref mn, .int x_kind, .ref mq, .ref m8, .ref m9, .int x_last, .int x_steps, .int x_isRound, .int x_tablesDone, .ref mz, .int (nI mrs), .ref mb, .ref md, .long x_hash])), (mp, .inl (cs 0, 90, .inl fmp)), (m5, .inl (cs 0, 5, .inl fm52_1)), (m6, .inl (cs 0, 20, .inl fm62_1)), (mw, .inl (cs 0, 5, .inl fmw)), (mh, .inl (cs 0, 20, .inl fmh)), (mo, .inl (cs 0, 4, .inl fmo)), (m7, .inl (cs 1, 16, .inr (.inl fm7)))]) [4, 5, 6, 7, 0, 1, 2, 3] rfl
      have hD9 := hD.sub (ws' := [(m0, .inr (12, [.ref mp, .int (nI ms), .int (nI C), .int (nI P), .ref mw, .ref mh, .ref mo, .int (nI s2_1), .int v2_1, .int dg2_1, .int (nI rc2_1), .int (nI rp2_1), .int (nI ic2_1), .ref m5, .ref m6, .ref m7, .long x_all, .int (nI mpn), .ref mk, .ref mn, .int x_kind, .ref mq, .ref m8, .ref m9, .int x_last, .int x_steps, .int x_isRound, .int x_tablesDone, .ref mz, .int (nI mrs), .ref mb, .ref md, .long x_hash])), (mp, .inl (cs 0, 90, .inl fmp)), (m5, .inl (cs 0, 5, .inl fm52_1)), (m6, .inl (cs 0, 20, .inl fm62_1)), (mw, .inl (cs 0, 5, .inl fmw)), (mh, .inl (cs 0, 20, .inl fmh)), (mo, .inl (cs 0, 4, .inl fmo)), (m7, .inl (cs 1, 16, .inr (.inl fm7)))]) [4, 5, 6, 7, 0, 1, 2, 3] (by decide) rfl
      exact W.iret (v := (-103)) hx hb hr (fun t ht hW => ⟨⟨(-103), (), rfl, trivial, ⟨s2_1, v2_1, dg2_1, rc2_1, rp2_1, ic2_1, P, C, mrs, ms, x_all, fm52_1, fm62_1, fmw, fmh, fmo, fm7, (by omega), (by omega), (by omega), (by omega), (by omega), (by omega), (by omega), (by omega), hwI, hal, hPC, by rw [ht]; exact hP9, hD9⟩⟩, hS.F ht⟩) hS.2.2 dX12_question_71
    · have n_16 : s2_1 = 4 := b_eq_t (by omega) (by omega) c_16
      refine lv_iconst (v := 1) hx hb dX12_question_19 (by decide) ?_
      refine lv_goto (tgt := 24) hx hb dX12_question_20 (by decide) ?_
      refine lv_istore_n (lv' := [(1, .int 1), (0, .ref m0)]) hx hb dX12_question_24 rfl hl (by decide) rfl (fun ls hl => ?_)
      refine lv_iload_n hx hb dX12_question_25 rfl (lv_at hl 0 rfl) ?_
      refine lv_if_eq (tgt := 63) hx hb dX12_question_26 (by decide) (fun c_26 => absurd c_26 (by decide)) (fun c_26 => ?_)
      refine lv_aload_n hx hb dX12_question_29 rfl (lv_at hl 1 rfl) ?_
      refine va_get (D := D) (ci := 12) (v := .int (nI rc2_1)) (C := RX12) (T := TX12) (N := 33) hx hb hg gwX12 hown hK hP 4 rfl rfl 10 (by decide) (hg _ kw_481) (fun _ h9 => h9) rfl dX12_question_30 ?_
      refine lv_if_ne (tgt := 46) hx hb dX12_question_33 (by decide) (fun c_33 => ?_) (fun c_33 => ?_)
      · have n_33 : ¬ rc2_1 = 0 := b_eq_f (by omega) (by omega) c_33
        refine lv_aload_n hx hb dX12_question_46 rfl (lv_at hl 1 rfl) ?_
        refine va_get (D := D) (ci := 12) (v := .int (nI ic2_1)) (C := RX12) (T := TX12) (N := 33) hx hb hg gwX12 hown hK hP 4 rfl rfl 12 (by decide) (hg _ kw_482) (fun _ h9 => h9) rfl dX12_question_47 ?_
        refine lv_aload_n hx hb dX12_question_50 rfl (lv_at hl 1 rfl) ?_
        refine va_get (D := D) (ci := 12) (v := .int (nI rp2_1)) (C := RX12) (T := TX12) (N := 33) hx hb hg gwX12 hown hK hP 4 rfl rfl 11 (by decide) (hg _ kw_484) (fun _ h9 => h9) rfl dX12_question_51 ?_
        refine lv_iconst (v := 1) hx hb dX12_question_54 (by decide) ?_
        refine lv_isub hx hb dX12_question_55 ?_
        refine lv_topi (fun z_55 e_55 => ?_)
        refine lv_icmp_ne (tgt := 63) hx hb dX12_question_56 (by decide) (fun c_56 => ?_) (fun c_56 => ?_)
        · refine lv_iconst (v := 0) hx hb dX12_question_63 (by decide) ?_
          refine lv_istore_n (lv' := [(1, .int 0), (0, .ref m0)]) hx hb dX12_question_64 rfl hl (by decide) rfl (fun ls hl => ?_)
          refine lv_iload_n hx hb dX12_question_65 rfl (lv_at hl 0 rfl) ?_
          refine lv_if_ne (tgt := 72) hx hb dX12_question_66 (by decide) (fun c_66 => absurd c_66 (by decide)) (fun c_66 => ?_)
          refine lv_bipush (v := (-103)) hx hb dX12_question_69 (by decide) ?_
          subst hQ
          refine W.widen (k := 0) (n := 0) (Nat.le_of_ble_eq_true rfl) (Nat.le_of_ble_eq_true rfl) ?_
          have hP9 := hP.sub (ws' := [(m0, .inr (12, [.ref mp, .int (nI ms), .int (nI C), .int (nI P), .ref mw, .ref mh, .ref mo, .int (nI s2_1), .int v2_1, .int dg2_1, .int (nI rc2_1), .int (nI rp2_1), .int (nI ic2_1), .ref m5, .ref m6, .ref m7, .long x_all, .int (nI mpn), .ref mk, .ref mn, .int x_kind, .ref mq, .ref m8, .ref m9, .int x_last, .int x_steps, .int x_isRound, .int x_tablesDone, .ref mz, .int (nI mrs), .ref mb, .ref md, .long x_hash])), (mp, .inl (cs 0, 90, .inl fmp)), (m5, .inl (cs 0, 5, .inl fm52_1)), (m6, .inl (cs 0, 20, .inl fm62_1)), (mw, .inl (cs 0, 5, .inl fmw)), (mh, .inl (cs 0, 20, .inl fmh)), (mo, .inl (cs 0, 4, .inl fmo)), (m7, .inl (cs 1, 16, .inr (.inl fm7)))]) [4, 5, 6, 7, 0, 1, 2, 3] rfl
          have hD9 := hD.sub (ws' := [(m0, .inr (12, [.ref mp, .int (nI ms), .int (nI C), .int (nI P), .ref mw, .ref mh, .ref mo, .int (nI s2_1), .int v2_1, .int dg2_1, .int (nI rc2_1), .int (nI rp2_1), .int (nI ic2_1), .ref m5, .ref m6, .ref m7, .long x_all, .int (nI mpn), .ref mk, .ref mn, .int x_kind, .ref mq, .ref m8, .ref m9, .int x_last, .int x_steps, .int x_isRound, .int x_tablesDone, .ref mz, .int (nI mrs), .ref mb, .ref md, .long x_hash])), (mp, .inl (cs 0, 90, .inl fmp)), (m5, .inl (cs 0, 5, .inl fm52_1)), (m6, .inl (cs 0, 20, .inl fm62_1)), (mw, .inl (cs 0, 5, .inl fmw)), (mh, .inl (cs 0, 20, .inl fmh)), (mo, .inl (cs 0, 4, .inl fmo)), (m7, .inl (cs 1, 16, .inr (.inl fm7)))]) [4, 5, 6, 7, 0, 1, 2, 3] (by decide) rfl
          exact W.iret (v := (-103)) hx hb hr (fun t ht hW => ⟨⟨(-103), (), rfl, trivial, ⟨s2_1, v2_1, dg2_1, rc2_1, rp2_1, ic2_1, P, C, mrs, ms, x_all, fm52_1, fm62_1, fmw, fmh, fmo, fm7, (by omega), (by omega), (by omega), (by omega), (by omega), (by omega), (by omega), (by omega), hwI, hal, hPC, by rw [ht]; exact hP9, hD9⟩⟩, hS.F ht⟩) hS.2.2 dX12_question_71
        · refine lv_iconst (v := 1) hx hb dX12_question_59 (by decide) ?_
          refine lv_goto (tgt := 64) hx hb dX12_question_60 (by decide) ?_
          refine lv_istore_n (lv' := [(1, .int 1), (0, .ref m0)]) hx hb dX12_question_64 rfl hl (by decide) rfl (fun ls hl => ?_)
          refine lv_iload_n hx hb dX12_question_65 rfl (lv_at hl 0 rfl) ?_
          refine lv_if_ne (tgt := 72) hx hb dX12_question_66 (by decide) (fun c_66 => ?_) (fun c_66 => absurd c_66 (by decide))
          have hgv := hg2_1 (by omega)
          have hic3 := hgv.2.2.1 (by omega)
          have hw3 := hgv.2.2.2.1 (by omega)
          have hrc4 := hgv.1
          refine lv_aload_n hx hb dX12_question_72 rfl (lv_at hl 1 rfl) ?_
          refine va_get (D := D) (ci := 12) (v := .ref m6) (C := RX12) (T := TX12) (N := 33) hx hb hg gwX12 hown hK hP 4 rfl rfl 14 (by decide) (hg _ kw_480) (fun _ h9 => h9) rfl dX12_question_73 ?_
          refine lv_iconst (v := 4) hx hb dX12_question_76 (by decide) ?_
          refine lv_aload_n hx hb dX12_question_77 rfl (lv_at hl 1 rfl) ?_
          refine va_get (D := D) (ci := 12) (v := .int (nI rc2_1)) (C := RX12) (T := TX12) (N := 33) hx hb hg gwX12 hown hK hP 4 rfl rfl 10 (by decide) (hg _ kw_481) (fun _ h9 => h9) rfl dX12_question_78 ?_
          refine lv_imul hx hb dX12_question_81 ?_
          refine lv_topi (fun z_81 e_81 => ?_)
          obtain rfl : z_81 = nI (4 * rc2_1) := e_81.trans (pk_mul _ _)
          refine lv_aload_n hx hb dX12_question_82 rfl (lv_at hl 1 rfl) ?_
          refine va_get (D := D) (ci := 12) (v := .int (nI ic2_1)) (C := RX12) (T := TX12) (N := 33) hx hb hg gwX12 hown hK hP 4 rfl rfl 12 (by decide) (hg _ kw_482) (fun _ h9 => h9) rfl dX12_question_83 ?_
          refine lv_iadd hx hb dX12_question_86 ?_
          refine lv_topi (fun z_86 e_86 => ?_)
          obtain rfl : z_86 = nI (4 * rc2_1 + ic2_1) := e_86.trans (nI_add _ _)
          refine lv_aload_n hx hb dX12_question_87 rfl (lv_at hl 1 rfl) ?_
          refine va_get (D := D) (ci := 12) (v := .int v2_1) (C := RX12) (T := TX12) (N := 33) hx hb hg gwX12 hown hK hP 4 rfl rfl 8 (by decide) (hg _ kw_483) (fun _ h9 => h9) rfl dX12_question_88 ?_
          refine va_iast hx hb hK hP hD hS 7 0 rfl rfl (vp_in_nI (show 4 * rc2_1 + ic2_1 < 20 by omega) (by decide)) dX12_question_91 (fun H locs hP hD hS => ?_)
          obtain ⟨f_91, hf_91⟩ : ∃ f9, f9 = (upd fm62_1 (nI (4 * rc2_1 + ic2_1)).toNatClampNeg v2_1) := ⟨_, rfl⟩
          rw [← hf_91] at hP hD
          have hP : va_P D vwCl [(mw, .inl (cs 0, 5, .inl fmw)), (mh, .inl (cs 0, 20, .inl fmh)), (mo, .inl (cs 0, 4, .inl fmo)), (m7, .inl (cs 1, 16, .inr (.inl fm7))), (m0, .inr (12, [.ref mp, .int (nI ms), .int (nI C), .int (nI P), .ref mw, .ref mh, .ref mo, .int (nI s2_1), .int v2_1, .int dg2_1, .int (nI rc2_1), .int (nI rp2_1), .int (nI ic2_1), .ref m5, .ref m6, .ref m7, .long x_all, .int (nI mpn), .ref mk, .ref mn, .int x_kind, .ref mq, .ref m8, .ref m9, .int x_last, .int x_steps, .int x_isRound, .int x_tablesDone, .ref mz, .int (nI mrs), .ref mb, .ref md, .long x_hash])), (mp, .inl (cs 0, 90, .inl fmp)), (m5, .inl (cs 0, 5, .inl fm52_1)), (m6, .inl (cs 0, 20, .inl f_91))] H := hP
          have hD : va_D A [(mw, .inl (cs 0, 5, .inl fmw)), (mh, .inl (cs 0, 20, .inl fmh)), (mo, .inl (cs 0, 4, .inl fmo)), (m7, .inl (cs 1, 16, .inr (.inl fm7))), (m0, .inr (12, [.ref mp, .int (nI ms), .int (nI C), .int (nI P), .ref mw, .ref mh, .ref mo, .int (nI s2_1), .int v2_1, .int dg2_1, .int (nI rc2_1), .int (nI rp2_1), .int (nI ic2_1), .ref m5, .ref m6, .ref m7, .long x_all, .int (nI mpn), .ref mk, .ref mn, .int x_kind, .ref mq, .ref m8, .ref m9, .int x_last, .int x_steps, .int x_isRound, .int x_tablesDone, .ref mz, .int (nI mrs), .ref mb, .ref md, .long x_hash])), (mp, .inl (cs 0, 90, .inl fmp)), (m5, .inl (cs 0, 5, .inl fm52_1)), (m6, .inl (cs 0, 20, .inl f_91))] := hD
          refine lv_aload_n hx hb dX12_question_92 rfl (lv_at hl 1 rfl) ?_
          refine lv_aload_n hx hb dX12_question_93 rfl (lv_at hl 1 rfl) ?_
          refine va_get (D := D) (ci := 12) (v := .int (nI ic2_1)) (C := RX12) (T := TX12) (N := 33) hx hb hg gwX12 hown hK hP 4 rfl rfl 12 (by decide) (hg _ kw_482) (fun _ h9 => h9) rfl dX12_question_94 ?_
          refine lv_iconst (v := 1) hx hb dX12_question_97 (by decide) ?_
          refine lv_iadd hx hb dX12_question_98 ?_
          refine lv_topi (fun z_98 e_98 => ?_)
          obtain rfl : z_98 = nI (ic2_1 + 1) := e_98.trans (nI_add _ _)
          refine va_put (D := D) (ci := 12) (v := .int (nI (ic2_1 + 1))) (ty := .int) (C := RX12) (T := TX12) (N := 33) hx hb hg gwX12 tyX12 tyX12_ok nmX12 hown hK hP hD hS 4 rfl rfl 3 (by decide) (hg _ kw_315) (fun _ h9 => h9) rfl (by decide +kernel) rfl rfl (Nat.le_of_ble_eq_true rfl) dX12_question_99 (fun H locs hP hD hS => ?_)
          have hP : va_P D vwCl [(mw, .inl (cs 0, 5, .inl fmw)), (mh, .inl (cs 0, 20, .inl fmh)), (mo, .inl (cs 0, 4, .inl fmo)), (m7, .inl (cs 1, 16, .inr (.inl fm7))), (m0, .inr (12, [.ref mp, .int (nI ms), .int (nI C), .int (nI (ic2_1 + 1)), .ref mw, .ref mh, .ref mo, .int (nI s2_1), .int v2_1, .int dg2_1, .int (nI rc2_1), .int (nI rp2_1), .int (nI ic2_1), .ref m5, .ref m6, .ref m7, .long x_all, .int (nI mpn), .ref mk, .ref mn, .int x_kind, .ref mq, .ref m8, .ref m9, .int x_last, .int x_steps, .int x_isRound, .int x_tablesDone, .ref mz, .int (nI mrs), .ref mb, .ref md, .long x_hash])), (mp, .inl (cs 0, 90, .inl fmp)), (m5, .inl (cs 0, 5, .inl fm52_1)), (m6, .inl (cs 0, 20, .inl f_91))] H := hP
          have hD : va_D A [(mw, .inl (cs 0, 5, .inl fmw)), (mh, .inl (cs 0, 20, .inl fmh)), (mo, .inl (cs 0, 4, .inl fmo)), (m7, .inl (cs 1, 16, .inr (.inl fm7))), (m0, .inr (12, [.ref mp, .int (nI ms), .int (nI C), .int (nI (ic2_1 + 1)), .ref mw, .ref mh, .ref mo, .int (nI s2_1), .int v2_1, .int dg2_1, .int (nI rc2_1), .int (nI rp2_1), .int (nI ic2_1), .ref m5, .ref m6, .ref m7, .long x_all, .int (nI mpn), .ref mk, .ref mn, .int x_kind, .ref mq, .ref m8, .ref m9, .int x_last, .int x_steps, .int x_isRound, .int x_tablesDone, .ref mz, .int (nI mrs), .ref mb, .ref md, .long x_hash])), (mp, .inl (cs 0, 90, .inl fmp)), (m5, .inl (cs 0, 5, .inl fm52_1)), (m6, .inl (cs 0, 20, .inl f_91))] := hD
          refine lv_aload_n hx hb dX12_question_102 rfl (lv_at hl 1 rfl) ?_
          refine lv_aload_n hx hb dX12_question_103 rfl (lv_at hl 1 rfl) ?_
          refine va_get (D := D) (ci := 12) (v := .int (nI rc2_1)) (C := RX12) (T := TX12) (N := 33) hx hb hg gwX12 hown hK hP 4 rfl rfl 10 (by decide) (hg _ kw_481) (fun _ h9 => h9) rfl dX12_question_104 ?_
          refine lv_iconst (v := 1) hx hb dX12_question_107 (by decide) ?_
          refine lv_iadd hx hb dX12_question_108 ?_
          refine lv_topi (fun z_108 e_108 => ?_)
          obtain rfl : z_108 = nI (rc2_1 + 1) := e_108.trans (nI_add _ _)
          refine va_put (D := D) (ci := 12) (v := .int (nI (rc2_1 + 1))) (ty := .int) (C := RX12) (T := TX12) (N := 33) hx hb hg gwX12 tyX12 tyX12_ok nmX12 hown hK hP hD hS 4 rfl rfl 2 (by decide) (hg _ kw_395) (fun _ h9 => h9) rfl (by decide +kernel) rfl rfl (Nat.le_of_ble_eq_true rfl) dX12_question_109 (fun H locs hP hD hS => ?_)
          have hP : va_P D vwCl [(mw, .inl (cs 0, 5, .inl fmw)), (mh, .inl (cs 0, 20, .inl fmh)), (mo, .inl (cs 0, 4, .inl fmo)), (m7, .inl (cs 1, 16, .inr (.inl fm7))), (m0, .inr (12, [.ref mp, .int (nI ms), .int (nI (rc2_1 + 1)), .int (nI (ic2_1 + 1)), .ref mw, .ref mh, .ref mo, .int (nI s2_1), .int v2_1, .int dg2_1, .int (nI rc2_1), .int (nI rp2_1), .int (nI ic2_1), .ref m5, .ref m6, .ref m7, .long x_all, .int (nI mpn), .ref mk, .ref mn, .int x_kind, .ref mq, .ref m8, .ref m9, .int x_last, .int x_steps, .int x_isRound, .int x_tablesDone, .ref mz, .int (nI mrs), .ref mb, .ref md, .long x_hash])), (mp, .inl (cs 0, 90, .inl fmp)), (m5, .inl (cs 0, 5, .inl fm52_1)), (m6, .inl (cs 0, 20, .inl f_91))] H := hP
          have hD : va_D A [(mw, .inl (cs 0, 5, .inl fmw)), (mh, .inl (cs 0, 20, .inl fmh)), (mo, .inl (cs 0, 4, .inl fmo)), (m7, .inl (cs 1, 16, .inr (.inl fm7))), (m0, .inr (12, [.ref mp, .int (nI ms), .int (nI (rc2_1 + 1)), .int (nI (ic2_1 + 1)), .ref mw, .ref mh, .ref mo, .int (nI s2_1), .int v2_1, .int dg2_1, .int (nI rc2_1), .int (nI rp2_1), .int (nI ic2_1), .ref m5, .ref m6, .ref m7, .long x_all, .int (nI mpn), .ref mk, .ref mn, .int x_kind, .ref mq, .ref m8, .ref m9, .int x_last, .int x_steps, .int x_isRound, .int x_tablesDone, .ref mz, .int (nI mrs), .ref mb, .ref md, .long x_hash])), (mp, .inl (cs 0, 90, .inl fmp)), (m5, .inl (cs 0, 5, .inl fm52_1)), (m6, .inl (cs 0, 20, .inl f_91))] := hD
          refine lv_iconst (v := 0) hx hb dX12_question_112 (by decide) ?_
          refine lv_istore_n (lv' := [(2, .int 0), (1, .int 1), (0, .ref m0)]) hx hb dX12_question_113 rfl hl (by decide) rfl (fun ls hl => ?_)
          have LOOP114 : ∀ (n114 : Nat) (k : Nat) (fmw_114 : Nat → Int32), k ≤ 5 → cpI fmw_114 fm52_1 k → 5 - k < n114 → ∀ (H : Heap) (locs : List Loc) (ls : Array Slot), va_P D vwCl [(mw, .inl (cs 0, 5, .inl fmw_114)), (mh, .inl (cs 0, 20, .inl fmh)), (mo, .inl (cs 0, 4, .inl fmo)), (m7, .inl (cs 1, 16, .inr (.inl fm7))), (m0, .inr (12, [.ref mp, .int (nI ms), .int (nI (rc2_1 + 1)), .int (nI (ic2_1 + 1)), .ref mw, .ref mh, .ref mo, .int (nI s2_1), .int v2_1, .int dg2_1, .int (nI rc2_1), .int (nI rp2_1), .int (nI ic2_1), .ref m5, .ref m6, .ref m7, .long x_all, .int (nI mpn), .ref mk, .ref mn, .int x_kind, .ref mq, .ref m8, .ref m9, .int x_last, .int x_steps, .int x_isRound, .int x_tablesDone, .ref mz, .int (nI mrs), .ref mb, .ref md, .long x_hash])), (mp, .inl (cs 0, 90, .inl fmp)), (m5, .inl (cs 0, 5, .inl fm52_1)), (m6, .inl (cs 0, 20, .inl f_91))] H → va_D A [(mw, .inl (cs 0, 5, .inl fmw_114)), (mh, .inl (cs 0, 20, .inl fmh)), (mo, .inl (cs 0, 4, .inl fmo)), (m7, .inl (cs 1, 16, .inr (.inl fm7))), (m0, .inr (12, [.ref mp, .int (nI ms), .int (nI (rc2_1 + 1)), .int (nI (ic2_1 + 1)), .ref mw, .ref mh, .ref mo, .int (nI s2_1), .int v2_1, .int dg2_1, .int (nI rc2_1), .int (nI rp2_1), .int (nI ic2_1), .ref m5, .ref m6, .ref m7, .long x_all, .int (nI mpn), .ref mk, .ref mn, .int x_kind, .ref mq, .ref m8, .ref m9, .int x_last, .int x_steps, .int x_isRound, .int x_tablesDone, .ref mz, .int (nI mrs), .ref mb, .ref md, .long x_hash])), (mp, .inl (cs 0, 90, .inl fmp)), (m5, .inl (cs 0, 5, .inl fm52_1)), (m6, .inl (cs 0, 20, .inl f_91))] → va_S A s.heap H locs → lv_has ls 3 [(0, .ref m0), (1, .int 1), (2, .int (nI k))] → W p l e ({ frames := 4, cells := 0, slots := 0, locals := 91 } : Room) s m args below meth c H locs 0 0 Q (F0 m 114 ls []) := by
            intro n114
            induction n114 with
            | zero =>
              intro k fmw_114 hk hcp hn114 H locs ls hP hD hS hl
              exact absurd hn114 (Nat.not_lt_zero _)
            | succ n114 ih114 =>
              intro k fmw_114 hk hcp hn114 H locs ls hP hD hS hl
              refine lv_iload_n hx hb dX12_question_114 rfl (lv_at hl 2 rfl) ?_
              refine lv_iconst (v := 5) hx hb dX12_question_115 (by decide) ?_
              refine lv_icmp_ge (tgt := 137) hx hb dX12_question_116 (by decide) (fun c_116 => ?_) (fun c_116 => ?_)
              · have n_116 : 5 ≤ k := b_le_t (by omega) (by omega) c_116
                have hcp5 : cpI fmw_114 fm52_1 5 := by rw [show k = 5 by omega] at hcp; exact hcp
                refine lv_iconst (v := 0) hx hb dX12_question_137 (by decide) ?_
                refine lv_istore_n (lv' := [(2, .int 0), (0, .ref m0), (1, .int 1)]) hx hb dX12_question_138 rfl hl (by decide) rfl (fun ls hl => ?_)
                have LOOP139 : ∀ (n139 : Nat) (k2 : Nat) (fmh_139 : Nat → Int32), k2 ≤ 20 → 20 - k2 < n139 → ∀ (H : Heap) (locs : List Loc) (ls : Array Slot), va_P D vwCl [(mw, .inl (cs 0, 5, .inl fmw_114)), (mh, .inl (cs 0, 20, .inl fmh_139)), (mo, .inl (cs 0, 4, .inl fmo)), (m7, .inl (cs 1, 16, .inr (.inl fm7))), (m0, .inr (12, [.ref mp, .int (nI ms), .int (nI (rc2_1 + 1)), .int (nI (ic2_1 + 1)), .ref mw, .ref mh, .ref mo, .int (nI s2_1), .int v2_1, .int dg2_1, .int (nI rc2_1), .int (nI rp2_1), .int (nI ic2_1), .ref m5, .ref m6, .ref m7, .long x_all, .int (nI mpn), .ref mk, .ref mn, .int x_kind, .ref mq, .ref m8, .ref m9, .int x_last, .int x_steps, .int x_isRound, .int x_tablesDone, .ref mz, .int (nI mrs), .ref mb, .ref md, .long x_hash])), (mp, .inl (cs 0, 90, .inl fmp)), (m5, .inl (cs 0, 5, .inl fm52_1)), (m6, .inl (cs 0, 20, .inl f_91))] H → va_D A [(mw, .inl (cs 0, 5, .inl fmw_114)), (mh, .inl (cs 0, 20, .inl fmh_139)), (mo, .inl (cs 0, 4, .inl fmo)), (m7, .inl (cs 1, 16, .inr (.inl fm7))), (m0, .inr (12, [.ref mp, .int (nI ms), .int (nI (rc2_1 + 1)), .int (nI (ic2_1 + 1)), .ref mw, .ref mh, .ref mo, .int (nI s2_1), .int v2_1, .int dg2_1, .int (nI rc2_1), .int (nI rp2_1), .int (nI ic2_1), .ref m5, .ref m6, .ref m7, .long x_all, .int (nI mpn), .ref mk, .ref mn, .int x_kind, .ref mq, .ref m8, .ref m9, .int x_last, .int x_steps, .int x_isRound, .int x_tablesDone, .ref mz, .int (nI mrs), .ref mb, .ref md, .long x_hash])), (mp, .inl (cs 0, 90, .inl fmp)), (m5, .inl (cs 0, 5, .inl fm52_1)), (m6, .inl (cs 0, 20, .inl f_91))] → va_S A s.heap H locs → lv_has ls 3 [(0, .ref m0), (1, .int 1), (2, .int (nI k2))] → W p l e ({ frames := 4, cells := 0, slots := 0, locals := 91 } : Room) s m args below meth c H locs 0 0 Q (F0 m 139 ls []) := by
                  intro n139
                  induction n139 with
                  | zero =>
                    intro k2 fmh_139 hk2 hn139 H locs ls hP hD hS hl
                    exact absurd hn139 (Nat.not_lt_zero _)
                  | succ n139 ih139 =>
                    intro k2 fmh_139 hk2 hn139 H locs ls hP hD hS hl
                    refine lv_iload_n hx hb dX12_question_139 rfl (lv_at hl 2 rfl) ?_
                    refine lv_bipush (v := 20) hx hb dX12_question_140 (by decide) ?_
                    refine lv_icmp_ge (tgt := 163) hx hb dX12_question_142 (by decide) (fun c_142 => ?_) (fun c_142 => ?_)
                    · have n_142 : 20 ≤ k2 := b_le_t (by omega) (by omega) c_142
                      refine lv_iconst (v := 0) hx hb dX12_question_163 (by decide) ?_
                      refine lv_istore_n (lv' := [(2, .int 0), (0, .ref m0), (1, .int 1)]) hx hb dX12_question_164 rfl hl (by decide) rfl (fun ls hl => ?_)
                      have LOOP165 : ∀ (n165 : Nat) (k3 : Nat) (fmo_165 : Nat → Int32), k3 ≤ 4 → 4 - k3 < n165 → ∀ (H : Heap) (locs : List Loc) (ls : Array Slot), va_P D vwCl [(mw, .inl (cs 0, 5, .inl fmw_114)), (mh, .inl (cs 0, 20, .inl fmh_139)), (mo, .inl (cs 0, 4, .inl fmo_165)), (m7, .inl (cs 1, 16, .inr (.inl fm7))), (m0, .inr (12, [.ref mp, .int (nI ms), .int (nI (rc2_1 + 1)), .int (nI (ic2_1 + 1)), .ref mw, .ref mh, .ref mo, .int (nI s2_1), .int v2_1, .int dg2_1, .int (nI rc2_1), .int (nI rp2_1), .int (nI ic2_1), .ref m5, .ref m6, .ref m7, .long x_all, .int (nI mpn), .ref mk, .ref mn, .int x_kind, .ref mq, .ref m8, .ref m9, .int x_last, .int x_steps, .int x_isRound, .int x_tablesDone, .ref mz, .int (nI mrs), .ref mb, .ref md, .long x_hash])), (mp, .inl (cs 0, 90, .inl fmp)), (m5, .inl (cs 0, 5, .inl fm52_1)), (m6, .inl (cs 0, 20, .inl f_91))] H → va_D A [(mw, .inl (cs 0, 5, .inl fmw_114)), (mh, .inl (cs 0, 20, .inl fmh_139)), (mo, .inl (cs 0, 4, .inl fmo_165)), (m7, .inl (cs 1, 16, .inr (.inl fm7))), (m0, .inr (12, [.ref mp, .int (nI ms), .int (nI (rc2_1 + 1)), .int (nI (ic2_1 + 1)), .ref mw, .ref mh, .ref mo, .int (nI s2_1), .int v2_1, .int dg2_1, .int (nI rc2_1), .int (nI rp2_1), .int (nI ic2_1), .ref m5, .ref m6, .ref m7, .long x_all, .int (nI mpn), .ref mk, .ref mn, .int x_kind, .ref mq, .ref m8, .ref m9, .int x_last, .int x_steps, .int x_isRound, .int x_tablesDone, .ref mz, .int (nI mrs), .ref mb, .ref md, .long x_hash])), (mp, .inl (cs 0, 90, .inl fmp)), (m5, .inl (cs 0, 5, .inl fm52_1)), (m6, .inl (cs 0, 20, .inl f_91))] → va_S A s.heap H locs → lv_has ls 3 [(0, .ref m0), (1, .int 1), (2, .int (nI k3))] → W p l e ({ frames := 4, cells := 0, slots := 0, locals := 91 } : Room) s m args below meth c H locs 0 0 Q (F0 m 165 ls []) := by
                        intro n165
                        induction n165 with
                        | zero =>
                          intro k3 fmo_165 hk3 hn165 H locs ls hP hD hS hl
                          exact absurd hn165 (Nat.not_lt_zero _)
                        | succ n165 ih165 =>
                          intro k3 fmo_165 hk3 hn165 H locs ls hP hD hS hl
                          refine lv_iload_n hx hb dX12_question_165 rfl (lv_at hl 2 rfl) ?_
                          refine lv_iconst (v := 4) hx hb dX12_question_166 (by decide) ?_
                          refine lv_icmp_ge (tgt := 183) hx hb dX12_question_167 (by decide) (fun c_167 => ?_) (fun c_167 => ?_)
                          · have n_167 : 4 ≤ k3 := b_le_t (by omega) (by omega) c_167
                            refine lv_aload_n hx hb dX12_question_183 rfl (lv_at hl 0 rfl) ?_
                            refine lv_iconst (v := 0) hx hb dX12_question_184 (by decide) ?_
                            refine va_put (D := D) (ci := 12) (v := .int 0) (ty := .int) (C := RX12) (T := TX12) (N := 33) hx hb hg gwX12 tyX12 tyX12_ok nmX12 hown hK hP hD hS 4 rfl rfl 29 (by decide) (hg _ kw_396) (fun _ h9 => h9) rfl (by decide +kernel) rfl rfl (Nat.le_of_ble_eq_true rfl) dX12_question_185 (fun H locs hP hD hS => ?_)
                            have hP : va_P D vwCl [(mw, .inl (cs 0, 5, .inl fmw_114)), (mh, .inl (cs 0, 20, .inl fmh_139)), (mo, .inl (cs 0, 4, .inl fmo_165)), (m7, .inl (cs 1, 16, .inr (.inl fm7))), (m0, .inr (12, [.ref mp, .int (nI ms), .int (nI (rc2_1 + 1)), .int (nI (ic2_1 + 1)), .ref mw, .ref mh, .ref mo, .int (nI s2_1), .int v2_1, .int dg2_1, .int (nI rc2_1), .int (nI rp2_1), .int (nI ic2_1), .ref m5, .ref m6, .ref m7, .long x_all, .int (nI mpn), .ref mk, .ref mn, .int x_kind, .ref mq, .ref m8, .ref m9, .int x_last, .int x_steps, .int x_isRound, .int x_tablesDone, .ref mz, .int 0, .ref mb, .ref md, .long x_hash])), (mp, .inl (cs 0, 90, .inl fmp)), (m5, .inl (cs 0, 5, .inl fm52_1)), (m6, .inl (cs 0, 20, .inl f_91))] H := hP
                            have hD : va_D A [(mw, .inl (cs 0, 5, .inl fmw_114)), (mh, .inl (cs 0, 20, .inl fmh_139)), (mo, .inl (cs 0, 4, .inl fmo_165)), (m7, .inl (cs 1, 16, .inr (.inl fm7))), (m0, .inr (12, [.ref mp, .int (nI ms), .int (nI (rc2_1 + 1)), .int (nI (ic2_1 + 1)), .ref mw, .ref mh, .ref mo, .int (nI s2_1), .int v2_1, .int dg2_1, .int (nI rc2_1), .int (nI rp2_1), .int (nI ic2_1), .ref m5, .ref m6, .ref m7, .long x_all, .int (nI mpn), .ref mk, .ref mn, .int x_kind, .ref mq, .ref m8, .ref m9, .int x_last, .int x_steps, .int x_isRound, .int x_tablesDone, .ref mz, .int 0, .ref mb, .ref md, .long x_hash])), (mp, .inl (cs 0, 90, .inl fmp)), (m5, .inl (cs 0, 5, .inl fm52_1)), (m6, .inl (cs 0, 20, .inl f_91))] := hD
                            refine lv_aload_n hx hb dX12_question_188 rfl (lv_at hl 0 rfl) ?_
                            refine lv_iconst (v := 0) hx hb dX12_question_189 (by decide) ?_
                            refine va_put (D := D) (ci := 12) (v := .int 0) (ty := .int) (C := RX12) (T := TX12) (N := 33) hx hb hg gwX12 tyX12 tyX12_ok nmX12 hown hK hP hD hS 4 rfl rfl 1 (by decide) (hg _ kw_397) (fun _ h9 => h9) rfl (by decide +kernel) rfl rfl (Nat.le_of_ble_eq_true rfl) dX12_question_190 (fun H locs hP hD hS => ?_)
                            have hP : va_P D vwCl [(mw, .inl (cs 0, 5, .inl fmw_114)), (mh, .inl (cs 0, 20, .inl fmh_139)), (mo, .inl (cs 0, 4, .inl fmo_165)), (m7, .inl (cs 1, 16, .inr (.inl fm7))), (m0, .inr (12, [.ref mp, .int 0, .int (nI (rc2_1 + 1)), .int (nI (ic2_1 + 1)), .ref mw, .ref mh, .ref mo, .int (nI s2_1), .int v2_1, .int dg2_1, .int (nI rc2_1), .int (nI rp2_1), .int (nI ic2_1), .ref m5, .ref m6, .ref m7, .long x_all, .int (nI mpn), .ref mk, .ref mn, .int x_kind, .ref mq, .ref m8, .ref m9, .int x_last, .int x_steps, .int x_isRound, .int x_tablesDone, .ref mz, .int 0, .ref mb, .ref md, .long x_hash])), (mp, .inl (cs 0, 90, .inl fmp)), (m5, .inl (cs 0, 5, .inl fm52_1)), (m6, .inl (cs 0, 20, .inl f_91))] H := hP
                            have hD : va_D A [(mw, .inl (cs 0, 5, .inl fmw_114)), (mh, .inl (cs 0, 20, .inl fmh_139)), (mo, .inl (cs 0, 4, .inl fmo_165)), (m7, .inl (cs 1, 16, .inr (.inl fm7))), (m0, .inr (12, [.ref mp, .int 0, .int (nI (rc2_1 + 1)), .int (nI (ic2_1 + 1)), .ref mw, .ref mh, .ref mo, .int (nI s2_1), .int v2_1, .int dg2_1, .int (nI rc2_1), .int (nI rp2_1), .int (nI ic2_1), .ref m5, .ref m6, .ref m7, .long x_all, .int (nI mpn), .ref mk, .ref mn, .int x_kind, .ref mq, .ref m8, .ref m9, .int x_last, .int x_steps, .int x_isRound, .int x_tablesDone, .ref mz, .int 0, .ref mb, .ref md, .long x_hash])), (mp, .inl (cs 0, 90, .inl fmp)), (m5, .inl (cs 0, 5, .inl fm52_1)), (m6, .inl (cs 0, 20, .inl f_91))] := hD
                            refine lv_aload_n hx hb dX12_question_193 rfl (lv_at hl 0 rfl) ?_
                            have hPc := hP.sub (ws' := [(m0, .inr (12, [.ref mp, .int 0, .int (nI (rc2_1 + 1)), .int (nI (ic2_1 + 1)), .ref mw, .ref mh, .ref mo, .int (nI s2_1), .int v2_1, .int dg2_1, .int (nI rc2_1), .int (nI rp2_1), .int (nI ic2_1), .ref m5, .ref m6, .ref m7, .long x_all, .int (nI mpn), .ref mk, .ref mn, .int x_kind, .ref mq, .ref m8, .ref m9, .int x_last, .int x_steps, .int x_isRound, .int x_tablesDone, .ref mz, .int 0, .ref mb, .ref md, .long x_hash])), (mw, .inl (cs 0, 5, .inl fmw_114)), (mh, .inl (cs 0, 20, .inl fmh_139)), (m7, .inl (cs 1, 16, .inr (.inl fm7)))]) [4, 0, 1, 3] rfl
                            have hDc := hD.sub (ws' := [(m0, .inr (12, [.ref mp, .int 0, .int (nI (rc2_1 + 1)), .int (nI (ic2_1 + 1)), .ref mw, .ref mh, .ref mo, .int (nI s2_1), .int v2_1, .int dg2_1, .int (nI rc2_1), .int (nI rp2_1), .int (nI ic2_1), .ref m5, .ref m6, .ref m7, .long x_all, .int (nI mpn), .ref mk, .ref mn, .int x_kind, .ref mq, .ref m8, .ref m9, .int x_last, .int x_steps, .int x_isRound, .int x_tablesDone, .ref mz, .int 0, .ref mb, .ref md, .long x_hash])), (mw, .inl (cs 0, 5, .inl fmw_114)), (mh, .inl (cs 0, 20, .inl fmh_139)), (m7, .inl (cs 1, 16, .inr (.inl fm7)))]) [4, 0, 1, 3] (by decide) rfl
                            have hFc := va_free (wc := [(m0, .inr (12, [.ref mp, .int 0, .int (nI (rc2_1 + 1)), .int (nI (ic2_1 + 1)), .ref mw, .ref mh, .ref mo, .int (nI s2_1), .int v2_1, .int dg2_1, .int (nI rc2_1), .int (nI rp2_1), .int (nI ic2_1), .ref m5, .ref m6, .ref m7, .long x_all, .int (nI mpn), .ref mk, .ref mn, .int x_kind, .ref mq, .ref m8, .ref m9, .int x_last, .int x_steps, .int x_isRound, .int x_tablesDone, .ref mz, .int 0, .ref mb, .ref md, .long x_hash])), (mw, .inl (cs 0, 5, .inl fmw_114)), (mh, .inl (cs 0, 20, .inl fmh_139)), (m7, .inl (cs 1, 16, .inr (.inl fm7)))]) hD hS hA [4, 0, 1, 3] rfl
                            refine va_callv (va_runV (As := []) (rest := []) ⟨hx, hb, hml, hown, hg⟩ (m_layLikely l D cs m0 mp mw mh mo m5 m6 m7 mk mn mq m8 m9 mz mb md 0 (rc2_1 + 1) (ic2_1 + 1) mpn 0 s2_1 rc2_1 rp2_1 ic2_1 (by omega) (by omega) (by omega) (by omega) (by omega) (by omega) (by omega) (by omega) (by omega) v2_1 dg2_1 x_all x_kind x_last x_steps x_isRound x_tablesDone x_hash fmw_114 fmh_139 fm7 (cp_wI hcp5 (by omega) hw3) _) (cwV 0 hg (gw_V kw_457 kw_458 kw_459 kw_319 kw_456) rfl rfl rfl (by decide +kernel) ⟨(Nat.le_of_ble_eq_true rfl), (Nat.le_of_ble_eq_true rfl)⟩) (pr_MV (q := (RX12, TX12, 33)) 12 0 hK hPc hDc rfl rfl) rfl rfl hl.1 rfl (lv_room (Nat.le_of_ble_eq_true rfl)) dX12_question_194 ⟨(Nat.le_of_ble_eq_true rfl), (Nat.le_of_ble_eq_true rfl)⟩) hS (fun q _ h => hFc q h) hFc (fun u t H1 locs ht hvm h_194 hB hz1 hk1 hS => ?_)
                            obtain ⟨al2_194, fm72_194, hal2_194, hP1, hD1⟩ := hB
                            rw [ht] at hP1
                            obtain ⟨hP, hD⟩ := va_join (wr := [(mo, .inl (cs 0, 4, .inl fmo_165)), (mp, .inl (cs 0, 90, .inl fmp)), (m5, .inl (cs 0, 5, .inl fm52_1)), (m6, .inl (cs 0, 20, .inl f_91))]) (w1 := [(m0, .inr (12, [.ref mp, .int (nI 0), .int (nI (rc2_1 + 1)), .int (nI (ic2_1 + 1)), .ref mw, .ref mh, .ref mo, .int (nI s2_1), .int v2_1, .int dg2_1, .int (nI rc2_1), .int (nI rp2_1), .int (nI ic2_1), .ref m5, .ref m6, .ref m7, .long al2_194, .int (nI mpn), .ref mk, .ref mn, .int x_kind, .ref mq, .ref m8, .ref m9, .int x_last, .int x_steps, .int x_isRound, .int x_tablesDone, .ref mz, .int (nI 0), .ref mb, .ref md, .long x_hash])), (mw, .inl (cs 0, 5, .inl fmw_114)), (mh, .inl (cs 0, 20, .inl fmh_139)), (m7, .inl (cs 1, 16, .inr (.inl fm72_194)))]) hP hD [4, 0, 1, 3] [2, 5, 6, 7] rfl rfl (by decide) (by decide) hk1 hFc hP1 hD1
                            generalize H1 = H at hP hS ⊢
                            have hP : va_P D vwCl [(mo, .inl (cs 0, 4, .inl fmo_165)), (mp, .inl (cs 0, 90, .inl fmp)), (m5, .inl (cs 0, 5, .inl fm52_1)), (m6, .inl (cs 0, 20, .inl f_91)), (m0, .inr (12, [.ref mp, .int (nI 0), .int (nI (rc2_1 + 1)), .int (nI (ic2_1 + 1)), .ref mw, .ref mh, .ref mo, .int (nI s2_1), .int v2_1, .int dg2_1, .int (nI rc2_1), .int (nI rp2_1), .int (nI ic2_1), .ref m5, .ref m6, .ref m7, .long al2_194, .int (nI mpn), .ref mk, .ref mn, .int x_kind, .ref mq, .ref m8, .ref m9, .int x_last, .int x_steps, .int x_isRound, .int x_tablesDone, .ref mz, .int (nI 0), .ref mb, .ref md, .long x_hash])), (mw, .inl (cs 0, 5, .inl fmw_114)), (mh, .inl (cs 0, 20, .inl fmh_139)), (m7, .inl (cs 1, 16, .inr (.inl fm72_194)))] H := hP
                            have hD : va_D A [(mo, .inl (cs 0, 4, .inl fmo_165)), (mp, .inl (cs 0, 90, .inl fmp)), (m5, .inl (cs 0, 5, .inl fm52_1)), (m6, .inl (cs 0, 20, .inl f_91)), (m0, .inr (12, [.ref mp, .int (nI 0), .int (nI (rc2_1 + 1)), .int (nI (ic2_1 + 1)), .ref mw, .ref mh, .ref mo, .int (nI s2_1), .int v2_1, .int dg2_1, .int (nI rc2_1), .int (nI rp2_1), .int (nI ic2_1), .ref m5, .ref m6, .ref m7, .long al2_194, .int (nI mpn), .ref mk, .ref mn, .int x_kind, .ref mq, .ref m8, .ref m9, .int x_last, .int x_steps, .int x_isRound, .int x_tablesDone, .ref mz, .int (nI 0), .ref mb, .ref md, .long x_hash])), (mw, .inl (cs 0, 5, .inl fmw_114)), (mh, .inl (cs 0, 20, .inl fmh_139)), (m7, .inl (cs 1, 16, .inr (.inl fm72_194)))] := hD
                            refine W.cs (cells' := 0) (slots' := 0) rfl rfl ?_
                            refine lv_aload_n hx hb dX12_question_197 rfl (lv_at hl 0 rfl) ?_
                            refine va_get (D := D) (ci := 12) (v := .int (nI (ic2_1 + 1))) (C := RX12) (T := TX12) (N := 33) hx hb hg gwX12 hown hK hP 4 rfl rfl 3 (by decide) (hg _ kw_315) (fun _ h9 => h9) rfl dX12_question_198 ?_
                            subst hQ
                            refine W.widen (k := 0) (n := 0) (Nat.le_of_ble_eq_true rfl) (Nat.le_of_ble_eq_true rfl) ?_
                            have hP9 := hP.sub (ws' := [(m0, .inr (12, [.ref mp, .int (nI 0), .int (nI (rc2_1 + 1)), .int (nI (ic2_1 + 1)), .ref mw, .ref mh, .ref mo, .int (nI s2_1), .int v2_1, .int dg2_1, .int (nI rc2_1), .int (nI rp2_1), .int (nI ic2_1), .ref m5, .ref m6, .ref m7, .long al2_194, .int (nI mpn), .ref mk, .ref mn, .int x_kind, .ref mq, .ref m8, .ref m9, .int x_last, .int x_steps, .int x_isRound, .int x_tablesDone, .ref mz, .int (nI 0), .ref mb, .ref md, .long x_hash])), (mp, .inl (cs 0, 90, .inl fmp)), (m5, .inl (cs 0, 5, .inl fm52_1)), (m6, .inl (cs 0, 20, .inl f_91)), (mw, .inl (cs 0, 5, .inl fmw_114)), (mh, .inl (cs 0, 20, .inl fmh_139)), (mo, .inl (cs 0, 4, .inl fmo_165)), (m7, .inl (cs 1, 16, .inr (.inl fm72_194)))]) [4, 1, 2, 3, 5, 6, 0, 7] rfl
                            have hD9 := hD.sub (ws' := [(m0, .inr (12, [.ref mp, .int (nI 0), .int (nI (rc2_1 + 1)), .int (nI (ic2_1 + 1)), .ref mw, .ref mh, .ref mo, .int (nI s2_1), .int v2_1, .int dg2_1, .int (nI rc2_1), .int (nI rp2_1), .int (nI ic2_1), .ref m5, .ref m6, .ref m7, .long al2_194, .int (nI mpn), .ref mk, .ref mn, .int x_kind, .ref mq, .ref m8, .ref m9, .int x_last, .int x_steps, .int x_isRound, .int x_tablesDone, .ref mz, .int (nI 0), .ref mb, .ref md, .long x_hash])), (mp, .inl (cs 0, 90, .inl fmp)), (m5, .inl (cs 0, 5, .inl fm52_1)), (m6, .inl (cs 0, 20, .inl f_91)), (mw, .inl (cs 0, 5, .inl fmw_114)), (mh, .inl (cs 0, 20, .inl fmh_139)), (mo, .inl (cs 0, 4, .inl fmo_165)), (m7, .inl (cs 1, 16, .inr (.inl fm72_194)))]) [4, 1, 2, 3, 5, 6, 0, 7] (by decide) rfl
                            exact W.iret (v := (nI (ic2_1 + 1))) hx hb hr (fun t ht hW => ⟨⟨(nI (ic2_1 + 1)), (), rfl, trivial, ⟨s2_1, v2_1, dg2_1, rc2_1, rp2_1, ic2_1, ic2_1 + 1, rc2_1 + 1, 0, 0, al2_194, fm52_1, f_91, fmw_114, fmh_139, fmo_165, fm72_194, (by omega), (by omega), (by omega), (by omega), (by omega), (by omega), (by omega), (by omega), (cp_wI hcp5 (by omega) hw3), hal2_194, (by omega), by rw [ht]; exact hP9, hD9⟩⟩, hS.F ht⟩) hS.2.2 dX12_question_201
                          · have n_167 : k3 < 4 := b_le_f (by omega) (by omega) c_167
                            refine lv_aload_n hx hb dX12_question_170 rfl (lv_at hl 0 rfl) ?_
                            refine va_get (D := D) (ci := 12) (v := .ref mo) (C := RX12) (T := TX12) (N := 33) hx hb hg gwX12 hown hK hP 4 rfl rfl 6 (by decide) (hg _ kw_336) (fun _ h9 => h9) rfl dX12_question_171 ?_
                            refine lv_iload_n hx hb dX12_question_174 rfl (lv_at hl 2 rfl) ?_
                            refine lv_iconst (v := 0) hx hb dX12_question_175 (by decide) ?_
                            refine va_iast hx hb hK hP hD hS 2 0 rfl rfl (vp_in_nI (show k3 < 4 by omega) (by decide)) dX12_question_176 (fun H locs hP hD hS => ?_)
                            obtain ⟨f_176, hf_176⟩ : ∃ f9, f9 = (upd fmo_165 (nI k3).toNatClampNeg 0) := ⟨_, rfl⟩
                            rw [← hf_176] at hP hD
                            have hP : va_P D vwCl [(mw, .inl (cs 0, 5, .inl fmw_114)), (mh, .inl (cs 0, 20, .inl fmh_139)), (mo, .inl (cs 0, 4, .inl f_176)), (m7, .inl (cs 1, 16, .inr (.inl fm7))), (m0, .inr (12, [.ref mp, .int (nI ms), .int (nI (rc2_1 + 1)), .int (nI (ic2_1 + 1)), .ref mw, .ref mh, .ref mo, .int (nI s2_1), .int v2_1, .int dg2_1, .int (nI rc2_1), .int (nI rp2_1), .int (nI ic2_1), .ref m5, .ref m6, .ref m7, .long x_all, .int (nI mpn), .ref mk, .ref mn, .int x_kind, .ref mq, .ref m8, .ref m9, .int x_last, .int x_steps, .int x_isRound, .int x_tablesDone, .ref mz, .int (nI mrs), .ref mb, .ref md, .long x_hash])), (mp, .inl (cs 0, 90, .inl fmp)), (m5, .inl (cs 0, 5, .inl fm52_1)), (m6, .inl (cs 0, 20, .inl f_91))] H := hP
                            have hD : va_D A [(mw, .inl (cs 0, 5, .inl fmw_114)), (mh, .inl (cs 0, 20, .inl fmh_139)), (mo, .inl (cs 0, 4, .inl f_176)), (m7, .inl (cs 1, 16, .inr (.inl fm7))), (m0, .inr (12, [.ref mp, .int (nI ms), .int (nI (rc2_1 + 1)), .int (nI (ic2_1 + 1)), .ref mw, .ref mh, .ref mo, .int (nI s2_1), .int v2_1, .int dg2_1, .int (nI rc2_1), .int (nI rp2_1), .int (nI ic2_1), .ref m5, .ref m6, .ref m7, .long x_all, .int (nI mpn), .ref mk, .ref mn, .int x_kind, .ref mq, .ref m8, .ref m9, .int x_last, .int x_steps, .int x_isRound, .int x_tablesDone, .ref mz, .int (nI mrs), .ref mb, .ref md, .long x_hash])), (mp, .inl (cs 0, 90, .inl fmp)), (m5, .inl (cs 0, 5, .inl fm52_1)), (m6, .inl (cs 0, 20, .inl f_91))] := hD
                            refine lv_iinc (v := (nI (k3 + 1))) (lv' := [(2, .int (nI (k3 + 1))), (0, .ref m0), (1, .int 1)]) hx hb dX12_question_177 hl (k := 2) rfl (nI_add k3 1) (by decide) rfl (fun ls hl => ?_)
                            refine lv_goto (tgt := 165) hx hb dX12_question_180 (by decide) ?_
                            exact ih165 (k3 + 1) f_176 (by omega) (by omega) _ _ ls hP hD hS (lv_sub hl [1, 2, 0] rfl)
                      exact LOOP165 (4 - 0 + 1) 0 fmo (by omega) (Nat.lt_succ_self _) _ _ ls hP hD hS (lv_sub hl [1, 2, 0] rfl)
                    · have n_142 : k2 < 20 := b_le_f (by omega) (by omega) c_142
                      refine lv_aload_n hx hb dX12_question_145 rfl (lv_at hl 0 rfl) ?_
                      refine va_get (D := D) (ci := 12) (v := .ref mh) (C := RX12) (T := TX12) (N := 33) hx hb hg gwX12 hown hK hP 4 rfl rfl 5 (by decide) (hg _ kw_402) (fun _ h9 => h9) rfl dX12_question_146 ?_
                      refine lv_iload_n hx hb dX12_question_149 rfl (lv_at hl 2 rfl) ?_
                      refine lv_aload_n hx hb dX12_question_150 rfl (lv_at hl 0 rfl) ?_
                      refine va_get (D := D) (ci := 12) (v := .ref m6) (C := RX12) (T := TX12) (N := 33) hx hb hg gwX12 hown hK hP 4 rfl rfl 14 (by decide) (hg _ kw_480) (fun _ h9 => h9) rfl dX12_question_151 ?_
                      refine lv_iload_n hx hb dX12_question_154 rfl (lv_at hl 2 rfl) ?_
                      refine va_iald hx hb hK hP 7 0 rfl rfl (vp_in_nI (show k2 < 20 by omega) (by decide)) dX12_question_155 ?_
                      refine lv_topi (fun z_155 e_155 => ?_)
                      refine va_iast hx hb hK hP hD hS 1 0 rfl rfl (vp_in_nI (show k2 < 20 by omega) (by decide)) dX12_question_156 (fun H locs hP hD hS => ?_)
                      obtain ⟨f_156, hf_156⟩ : ∃ f9, f9 = (upd fmh_139 (nI k2).toNatClampNeg z_155) := ⟨_, rfl⟩
                      rw [← hf_156] at hP hD
                      have hP : va_P D vwCl [(mw, .inl (cs 0, 5, .inl fmw_114)), (mh, .inl (cs 0, 20, .inl f_156)), (mo, .inl (cs 0, 4, .inl fmo)), (m7, .inl (cs 1, 16, .inr (.inl fm7))), (m0, .inr (12, [.ref mp, .int (nI ms), .int (nI (rc2_1 + 1)), .int (nI (ic2_1 + 1)), .ref mw, .ref mh, .ref mo, .int (nI s2_1), .int v2_1, .int dg2_1, .int (nI rc2_1), .int (nI rp2_1), .int (nI ic2_1), .ref m5, .ref m6, .ref m7, .long x_all, .int (nI mpn), .ref mk, .ref mn, .int x_kind, .ref mq, .ref m8, .ref m9, .int x_last, .int x_steps, .int x_isRound, .int x_tablesDone, .ref mz, .int (nI mrs), .ref mb, .ref md, .long x_hash])), (mp, .inl (cs 0, 90, .inl fmp)), (m5, .inl (cs 0, 5, .inl fm52_1)), (m6, .inl (cs 0, 20, .inl f_91))] H := hP
                      have hD : va_D A [(mw, .inl (cs 0, 5, .inl fmw_114)), (mh, .inl (cs 0, 20, .inl f_156)), (mo, .inl (cs 0, 4, .inl fmo)), (m7, .inl (cs 1, 16, .inr (.inl fm7))), (m0, .inr (12, [.ref mp, .int (nI ms), .int (nI (rc2_1 + 1)), .int (nI (ic2_1 + 1)), .ref mw, .ref mh, .ref mo, .int (nI s2_1), .int v2_1, .int dg2_1, .int (nI rc2_1), .int (nI rp2_1), .int (nI ic2_1), .ref m5, .ref m6, .ref m7, .long x_all, .int (nI mpn), .ref mk, .ref mn, .int x_kind, .ref mq, .ref m8, .ref m9, .int x_last, .int x_steps, .int x_isRound, .int x_tablesDone, .ref mz, .int (nI mrs), .ref mb, .ref md, .long x_hash])), (mp, .inl (cs 0, 90, .inl fmp)), (m5, .inl (cs 0, 5, .inl fm52_1)), (m6, .inl (cs 0, 20, .inl f_91))] := hD
                      refine lv_iinc (v := (nI (k2 + 1))) (lv' := [(2, .int (nI (k2 + 1))), (0, .ref m0), (1, .int 1)]) hx hb dX12_question_157 hl (k := 2) rfl (nI_add k2 1) (by decide) rfl (fun ls hl => ?_)
                      refine lv_goto (tgt := 139) hx hb dX12_question_160 (by decide) ?_
                      exact ih139 (k2 + 1) f_156 (by omega) (by omega) _ _ ls hP hD hS (lv_sub hl [1, 2, 0] rfl)
                exact LOOP139 (20 - 0 + 1) 0 fmh (by omega) (Nat.lt_succ_self _) _ _ ls hP hD hS (lv_sub hl [1, 2, 0] rfl)
              · have n_116 : k < 5 := b_le_f (by omega) (by omega) c_116
                refine lv_aload_n hx hb dX12_question_119 rfl (lv_at hl 0 rfl) ?_
                refine va_get (D := D) (ci := 12) (v := .ref mw) (C := RX12) (T := TX12) (N := 33) hx hb hg gwX12 hown hK hP 4 rfl rfl 4 (by decide) (hg _ kw_401) (fun _ h9 => h9) rfl dX12_question_120 ?_
                refine lv_iload_n hx hb dX12_question_123 rfl (lv_at hl 2 rfl) ?_
                refine lv_aload_n hx hb dX12_question_124 rfl (lv_at hl 0 rfl) ?_
                refine va_get (D := D) (ci := 12) (v := .ref m5) (C := RX12) (T := TX12) (N := 33) hx hb hg gwX12 hown hK hP 4 rfl rfl 13 (by decide) (hg _ kw_487) (fun _ h9 => h9) rfl dX12_question_125 ?_
                refine lv_iload_n hx hb dX12_question_128 rfl (lv_at hl 2 rfl) ?_
                refine va_iald hx hb hK hP 6 0 rfl rfl (vp_in_nI (show k < 5 by omega) (by decide)) dX12_question_129 ?_
                refine lv_topi (fun z_129 e_129 => ?_)
                refine va_iast hx hb hK hP hD hS 0 0 rfl rfl (vp_in_nI (show k < 5 by omega) (by decide)) dX12_question_130 (fun H locs hP hD hS => ?_)
                obtain ⟨f_130, hf_130⟩ : ∃ f9, f9 = (upd fmw_114 (nI k).toNatClampNeg z_129) := ⟨_, rfl⟩
                rw [← hf_130] at hP hD
                have hP : va_P D vwCl [(mw, .inl (cs 0, 5, .inl f_130)), (mh, .inl (cs 0, 20, .inl fmh)), (mo, .inl (cs 0, 4, .inl fmo)), (m7, .inl (cs 1, 16, .inr (.inl fm7))), (m0, .inr (12, [.ref mp, .int (nI ms), .int (nI (rc2_1 + 1)), .int (nI (ic2_1 + 1)), .ref mw, .ref mh, .ref mo, .int (nI s2_1), .int v2_1, .int dg2_1, .int (nI rc2_1), .int (nI rp2_1), .int (nI ic2_1), .ref m5, .ref m6, .ref m7, .long x_all, .int (nI mpn), .ref mk, .ref mn, .int x_kind, .ref mq, .ref m8, .ref m9, .int x_last, .int x_steps, .int x_isRound, .int x_tablesDone, .ref mz, .int (nI mrs), .ref mb, .ref md, .long x_hash])), (mp, .inl (cs 0, 90, .inl fmp)), (m5, .inl (cs 0, 5, .inl fm52_1)), (m6, .inl (cs 0, 20, .inl f_91))] H := hP
                have hD : va_D A [(mw, .inl (cs 0, 5, .inl f_130)), (mh, .inl (cs 0, 20, .inl fmh)), (mo, .inl (cs 0, 4, .inl fmo)), (m7, .inl (cs 1, 16, .inr (.inl fm7))), (m0, .inr (12, [.ref mp, .int (nI ms), .int (nI (rc2_1 + 1)), .int (nI (ic2_1 + 1)), .ref mw, .ref mh, .ref mo, .int (nI s2_1), .int v2_1, .int dg2_1, .int (nI rc2_1), .int (nI rp2_1), .int (nI ic2_1), .ref m5, .ref m6, .ref m7, .long x_all, .int (nI mpn), .ref mk, .ref mn, .int x_kind, .ref mq, .ref m8, .ref m9, .int x_last, .int x_steps, .int x_isRound, .int x_tablesDone, .ref mz, .int (nI mrs), .ref mb, .ref md, .long x_hash])), (mp, .inl (cs 0, 90, .inl fmp)), (m5, .inl (cs 0, 5, .inl fm52_1)), (m6, .inl (cs 0, 20, .inl f_91))] := hD
                refine lv_iinc (v := (nI (k + 1))) (lv' := [(2, .int (nI (k + 1))), (0, .ref m0), (1, .int 1)]) hx hb dX12_question_131 hl (k := 2) rfl (nI_add k 1) (by decide) rfl (fun ls hl => ?_)
                refine lv_goto (tgt := 114) hx hb dX12_question_134 (by decide) ?_
                exact ih114 (k + 1) f_130 (by omega) (cp_s hcp (by omega) e_129 hf_130) (by omega) _ _ ls hP hD hS (lv_sub hl [1, 2, 0] rfl)
          exact LOOP114 (5 - 0 + 1) 0 fmw (by omega) cp_0 (Nat.lt_succ_self _) _ _ ls hP hD hS (lv_sub hl [2, 1, 0] rfl)
      · have n_33 : rc2_1 = 0 := b_eq_t (by omega) (by omega) c_33
        refine lv_aload_n hx hb dX12_question_36 rfl (lv_at hl 1 rfl) ?_
        refine va_get (D := D) (ci := 12) (v := .int (nI ic2_1)) (C := RX12) (T := TX12) (N := 33) hx hb hg gwX12 hown hK hP 4 rfl rfl 12 (by decide) (hg _ kw_482) (fun _ h9 => h9) rfl dX12_question_37 ?_
        refine lv_if_le (tgt := 63) hx hb dX12_question_40 (by decide) (fun c_40 => ?_) (fun c_40 => ?_)
        · have n_40 : ic2_1 ≤ 0 := b_le_t (by omega) (by omega) c_40
          refine lv_iconst (v := 0) hx hb dX12_question_63 (by decide) ?_
          refine lv_istore_n (lv' := [(1, .int 0), (0, .ref m0)]) hx hb dX12_question_64 rfl hl (by decide) rfl (fun ls hl => ?_)
          refine lv_iload_n hx hb dX12_question_65 rfl (lv_at hl 0 rfl) ?_
          refine lv_if_ne (tgt := 72) hx hb dX12_question_66 (by decide) (fun c_66 => absurd c_66 (by decide)) (fun c_66 => ?_)
          refine lv_bipush (v := (-103)) hx hb dX12_question_69 (by decide) ?_
          subst hQ
          refine W.widen (k := 0) (n := 0) (Nat.le_of_ble_eq_true rfl) (Nat.le_of_ble_eq_true rfl) ?_
          have hP9 := hP.sub (ws' := [(m0, .inr (12, [.ref mp, .int (nI ms), .int (nI C), .int (nI P), .ref mw, .ref mh, .ref mo, .int (nI s2_1), .int v2_1, .int dg2_1, .int (nI rc2_1), .int (nI rp2_1), .int (nI ic2_1), .ref m5, .ref m6, .ref m7, .long x_all, .int (nI mpn), .ref mk, .ref mn, .int x_kind, .ref mq, .ref m8, .ref m9, .int x_last, .int x_steps, .int x_isRound, .int x_tablesDone, .ref mz, .int (nI mrs), .ref mb, .ref md, .long x_hash])), (mp, .inl (cs 0, 90, .inl fmp)), (m5, .inl (cs 0, 5, .inl fm52_1)), (m6, .inl (cs 0, 20, .inl fm62_1)), (mw, .inl (cs 0, 5, .inl fmw)), (mh, .inl (cs 0, 20, .inl fmh)), (mo, .inl (cs 0, 4, .inl fmo)), (m7, .inl (cs 1, 16, .inr (.inl fm7)))]) [4, 5, 6, 7, 0, 1, 2, 3] rfl
          have hD9 := hD.sub (ws' := [(m0, .inr (12, [.ref mp, .int (nI ms), .int (nI C), .int (nI P), .ref mw, .ref mh, .ref mo, .int (nI s2_1), .int v2_1, .int dg2_1, .int (nI rc2_1), .int (nI rp2_1), .int (nI ic2_1), .ref m5, .ref m6, .ref m7, .long x_all, .int (nI mpn), .ref mk, .ref mn, .int x_kind, .ref mq, .ref m8, .ref m9, .int x_last, .int x_steps, .int x_isRound, .int x_tablesDone, .ref mz, .int (nI mrs), .ref mb, .ref md, .long x_hash])), (mp, .inl (cs 0, 90, .inl fmp)), (m5, .inl (cs 0, 5, .inl fm52_1)), (m6, .inl (cs 0, 20, .inl fm62_1)), (mw, .inl (cs 0, 5, .inl fmw)), (mh, .inl (cs 0, 20, .inl fmh)), (mo, .inl (cs 0, 4, .inl fmo)), (m7, .inl (cs 1, 16, .inr (.inl fm7)))]) [4, 5, 6, 7, 0, 1, 2, 3] (by decide) rfl
          exact W.iret (v := (-103)) hx hb hr (fun t ht hW => ⟨⟨(-103), (), rfl, trivial, ⟨s2_1, v2_1, dg2_1, rc2_1, rp2_1, ic2_1, P, C, mrs, ms, x_all, fm52_1, fm62_1, fmw, fmh, fmo, fm7, (by omega), (by omega), (by omega), (by omega), (by omega), (by omega), (by omega), (by omega), hwI, hal, hPC, by rw [ht]; exact hP9, hD9⟩⟩, hS.F ht⟩) hS.2.2 dX12_question_71
        · have n_40 : 0 < ic2_1 := b_le_f (by omega) (by omega) c_40
          refine lv_goto (tgt := 59) hx hb dX12_question_43 (by decide) ?_
          refine lv_iconst (v := 1) hx hb dX12_question_59 (by decide) ?_
          refine lv_goto (tgt := 64) hx hb dX12_question_60 (by decide) ?_
          refine lv_istore_n (lv' := [(1, .int 1), (0, .ref m0)]) hx hb dX12_question_64 rfl hl (by decide) rfl (fun ls hl => ?_)
          refine lv_iload_n hx hb dX12_question_65 rfl (lv_at hl 0 rfl) ?_
          refine lv_if_ne (tgt := 72) hx hb dX12_question_66 (by decide) (fun c_66 => ?_) (fun c_66 => absurd c_66 (by decide))
          have hgv := hg2_1 (by omega)
          have hic3 := hgv.2.2.1 (by omega)
          have hw3 := hgv.2.2.2.1 (by omega)
          have hrc4 := hgv.1
          refine lv_aload_n hx hb dX12_question_72 rfl (lv_at hl 1 rfl) ?_
          refine va_get (D := D) (ci := 12) (v := .ref m6) (C := RX12) (T := TX12) (N := 33) hx hb hg gwX12 hown hK hP 4 rfl rfl 14 (by decide) (hg _ kw_480) (fun _ h9 => h9) rfl dX12_question_73 ?_
          refine lv_iconst (v := 4) hx hb dX12_question_76 (by decide) ?_
          refine lv_aload_n hx hb dX12_question_77 rfl (lv_at hl 1 rfl) ?_
          refine va_get (D := D) (ci := 12) (v := .int (nI rc2_1)) (C := RX12) (T := TX12) (N := 33) hx hb hg gwX12 hown hK hP 4 rfl rfl 10 (by decide) (hg _ kw_481) (fun _ h9 => h9) rfl dX12_question_78 ?_
          refine lv_imul hx hb dX12_question_81 ?_
          refine lv_topi (fun z_81 e_81 => ?_)
          obtain rfl : z_81 = nI (4 * rc2_1) := e_81.trans (pk_mul _ _)
          refine lv_aload_n hx hb dX12_question_82 rfl (lv_at hl 1 rfl) ?_
          refine va_get (D := D) (ci := 12) (v := .int (nI ic2_1)) (C := RX12) (T := TX12) (N := 33) hx hb hg gwX12 hown hK hP 4 rfl rfl 12 (by decide) (hg _ kw_482) (fun _ h9 => h9) rfl dX12_question_83 ?_
          refine lv_iadd hx hb dX12_question_86 ?_
          refine lv_topi (fun z_86 e_86 => ?_)
          obtain rfl : z_86 = nI (4 * rc2_1 + ic2_1) := e_86.trans (nI_add _ _)
          refine lv_aload_n hx hb dX12_question_87 rfl (lv_at hl 1 rfl) ?_
          refine va_get (D := D) (ci := 12) (v := .int v2_1) (C := RX12) (T := TX12) (N := 33) hx hb hg gwX12 hown hK hP 4 rfl rfl 8 (by decide) (hg _ kw_483) (fun _ h9 => h9) rfl dX12_question_88 ?_
          refine va_iast hx hb hK hP hD hS 7 0 rfl rfl (vp_in_nI (show 4 * rc2_1 + ic2_1 < 20 by omega) (by decide)) dX12_question_91 (fun H locs hP hD hS => ?_)
          obtain ⟨f_91, hf_91⟩ : ∃ f9, f9 = (upd fm62_1 (nI (4 * rc2_1 + ic2_1)).toNatClampNeg v2_1) := ⟨_, rfl⟩
          rw [← hf_91] at hP hD
          have hP : va_P D vwCl [(mw, .inl (cs 0, 5, .inl fmw)), (mh, .inl (cs 0, 20, .inl fmh)), (mo, .inl (cs 0, 4, .inl fmo)), (m7, .inl (cs 1, 16, .inr (.inl fm7))), (m0, .inr (12, [.ref mp, .int (nI ms), .int (nI C), .int (nI P), .ref mw, .ref mh, .ref mo, .int (nI s2_1), .int v2_1, .int dg2_1, .int (nI rc2_1), .int (nI rp2_1), .int (nI ic2_1), .ref m5, .ref m6, .ref m7, .long x_all, .int (nI mpn), .ref mk, .ref mn, .int x_kind, .ref mq, .ref m8, .ref m9, .int x_last, .int x_steps, .int x_isRound, .int x_tablesDone, .ref mz, .int (nI mrs), .ref mb, .ref md, .long x_hash])), (mp, .inl (cs 0, 90, .inl fmp)), (m5, .inl (cs 0, 5, .inl fm52_1)), (m6, .inl (cs 0, 20, .inl f_91))] H := hP
          have hD : va_D A [(mw, .inl (cs 0, 5, .inl fmw)), (mh, .inl (cs 0, 20, .inl fmh)), (mo, .inl (cs 0, 4, .inl fmo)), (m7, .inl (cs 1, 16, .inr (.inl fm7))), (m0, .inr (12, [.ref mp, .int (nI ms), .int (nI C), .int (nI P), .ref mw, .ref mh, .ref mo, .int (nI s2_1), .int v2_1, .int dg2_1, .int (nI rc2_1), .int (nI rp2_1), .int (nI ic2_1), .ref m5, .ref m6, .ref m7, .long x_all, .int (nI mpn), .ref mk, .ref mn, .int x_kind, .ref mq, .ref m8, .ref m9, .int x_last, .int x_steps, .int x_isRound, .int x_tablesDone, .ref mz, .int (nI mrs), .ref mb, .ref md, .long x_hash])), (mp, .inl (cs 0, 90, .inl fmp)), (m5, .inl (cs 0, 5, .inl fm52_1)), (m6, .inl (cs 0, 20, .inl f_91))] := hD
          refine lv_aload_n hx hb dX12_question_92 rfl (lv_at hl 1 rfl) ?_
          refine lv_aload_n hx hb dX12_question_93 rfl (lv_at hl 1 rfl) ?_
          refine va_get (D := D) (ci := 12) (v := .int (nI ic2_1)) (C := RX12) (T := TX12) (N := 33) hx hb hg gwX12 hown hK hP 4 rfl rfl 12 (by decide) (hg _ kw_482) (fun _ h9 => h9) rfl dX12_question_94 ?_
          refine lv_iconst (v := 1) hx hb dX12_question_97 (by decide) ?_
          refine lv_iadd hx hb dX12_question_98 ?_
          refine lv_topi (fun z_98 e_98 => ?_)
          obtain rfl : z_98 = nI (ic2_1 + 1) := e_98.trans (nI_add _ _)
          refine va_put (D := D) (ci := 12) (v := .int (nI (ic2_1 + 1))) (ty := .int) (C := RX12) (T := TX12) (N := 33) hx hb hg gwX12 tyX12 tyX12_ok nmX12 hown hK hP hD hS 4 rfl rfl 3 (by decide) (hg _ kw_315) (fun _ h9 => h9) rfl (by decide +kernel) rfl rfl (Nat.le_of_ble_eq_true rfl) dX12_question_99 (fun H locs hP hD hS => ?_)
          have hP : va_P D vwCl [(mw, .inl (cs 0, 5, .inl fmw)), (mh, .inl (cs 0, 20, .inl fmh)), (mo, .inl (cs 0, 4, .inl fmo)), (m7, .inl (cs 1, 16, .inr (.inl fm7))), (m0, .inr (12, [.ref mp, .int (nI ms), .int (nI C), .int (nI (ic2_1 + 1)), .ref mw, .ref mh, .ref mo, .int (nI s2_1), .int v2_1, .int dg2_1, .int (nI rc2_1), .int (nI rp2_1), .int (nI ic2_1), .ref m5, .ref m6, .ref m7, .long x_all, .int (nI mpn), .ref mk, .ref mn, .int x_kind, .ref mq, .ref m8, .ref m9, .int x_last, .int x_steps, .int x_isRound, .int x_tablesDone, .ref mz, .int (nI mrs), .ref mb, .ref md, .long x_hash])), (mp, .inl (cs 0, 90, .inl fmp)), (m5, .inl (cs 0, 5, .inl fm52_1)), (m6, .inl (cs 0, 20, .inl f_91))] H := hP
          have hD : va_D A [(mw, .inl (cs 0, 5, .inl fmw)), (mh, .inl (cs 0, 20, .inl fmh)), (mo, .inl (cs 0, 4, .inl fmo)), (m7, .inl (cs 1, 16, .inr (.inl fm7))), (m0, .inr (12, [.ref mp, .int (nI ms), .int (nI C), .int (nI (ic2_1 + 1)), .ref mw, .ref mh, .ref mo, .int (nI s2_1), .int v2_1, .int dg2_1, .int (nI rc2_1), .int (nI rp2_1), .int (nI ic2_1), .ref m5, .ref m6, .ref m7, .long x_all, .int (nI mpn), .ref mk, .ref mn, .int x_kind, .ref mq, .ref m8, .ref m9, .int x_last, .int x_steps, .int x_isRound, .int x_tablesDone, .ref mz, .int (nI mrs), .ref mb, .ref md, .long x_hash])), (mp, .inl (cs 0, 90, .inl fmp)), (m5, .inl (cs 0, 5, .inl fm52_1)), (m6, .inl (cs 0, 20, .inl f_91))] := hD
          refine lv_aload_n hx hb dX12_question_102 rfl (lv_at hl 1 rfl) ?_
          refine lv_aload_n hx hb dX12_question_103 rfl (lv_at hl 1 rfl) ?_
          refine va_get (D := D) (ci := 12) (v := .int (nI rc2_1)) (C := RX12) (T := TX12) (N := 33) hx hb hg gwX12 hown hK hP 4 rfl rfl 10 (by decide) (hg _ kw_481) (fun _ h9 => h9) rfl dX12_question_104 ?_
          refine lv_iconst (v := 1) hx hb dX12_question_107 (by decide) ?_
          refine lv_iadd hx hb dX12_question_108 ?_
          refine lv_topi (fun z_108 e_108 => ?_)
          obtain rfl : z_108 = nI (rc2_1 + 1) := e_108.trans (nI_add _ _)
          refine va_put (D := D) (ci := 12) (v := .int (nI (rc2_1 + 1))) (ty := .int) (C := RX12) (T := TX12) (N := 33) hx hb hg gwX12 tyX12 tyX12_ok nmX12 hown hK hP hD hS 4 rfl rfl 2 (by decide) (hg _ kw_395) (fun _ h9 => h9) rfl (by decide +kernel) rfl rfl (Nat.le_of_ble_eq_true rfl) dX12_question_109 (fun H locs hP hD hS => ?_)
          have hP : va_P D vwCl [(mw, .inl (cs 0, 5, .inl fmw)), (mh, .inl (cs 0, 20, .inl fmh)), (mo, .inl (cs 0, 4, .inl fmo)), (m7, .inl (cs 1, 16, .inr (.inl fm7))), (m0, .inr (12, [.ref mp, .int (nI ms), .int (nI (rc2_1 + 1)), .int (nI (ic2_1 + 1)), .ref mw, .ref mh, .ref mo, .int (nI s2_1), .int v2_1, .int dg2_1, .int (nI rc2_1), .int (nI rp2_1), .int (nI ic2_1), .ref m5, .ref m6, .ref m7, .long x_all, .int (nI mpn), .ref mk, .ref mn, .int x_kind, .ref mq, .ref m8, .ref m9, .int x_last, .int x_steps, .int x_isRound, .int x_tablesDone, .ref mz, .int (nI mrs), .ref mb, .ref md, .long x_hash])), (mp, .inl (cs 0, 90, .inl fmp)), (m5, .inl (cs 0, 5, .inl fm52_1)), (m6, .inl (cs 0, 20, .inl f_91))] H := hP
          have hD : va_D A [(mw, .inl (cs 0, 5, .inl fmw)), (mh, .inl (cs 0, 20, .inl fmh)), (mo, .inl (cs 0, 4, .inl fmo)), (m7, .inl (cs 1, 16, .inr (.inl fm7))), (m0, .inr (12, [.ref mp, .int (nI ms), .int (nI (rc2_1 + 1)), .int (nI (ic2_1 + 1)), .ref mw, .ref mh, .ref mo, .int (nI s2_1), .int v2_1, .int dg2_1, .int (nI rc2_1), .int (nI rp2_1), .int (nI ic2_1), .ref m5, .ref m6, .ref m7, .long x_all, .int (nI mpn), .ref mk, .ref mn, .int x_kind, .ref mq, .ref m8, .ref m9, .int x_last, .int x_steps, .int x_isRound, .int x_tablesDone, .ref mz, .int (nI mrs), .ref mb, .ref md, .long x_hash])), (mp, .inl (cs 0, 90, .inl fmp)), (m5, .inl (cs 0, 5, .inl fm52_1)), (m6, .inl (cs 0, 20, .inl f_91))] := hD
          refine lv_iconst (v := 0) hx hb dX12_question_112 (by decide) ?_
          refine lv_istore_n (lv' := [(2, .int 0), (1, .int 1), (0, .ref m0)]) hx hb dX12_question_113 rfl hl (by decide) rfl (fun ls hl => ?_)
          have LOOP114 : ∀ (n114 : Nat) (k : Nat) (fmw_114 : Nat → Int32), k ≤ 5 → cpI fmw_114 fm52_1 k → 5 - k < n114 → ∀ (H : Heap) (locs : List Loc) (ls : Array Slot), va_P D vwCl [(mw, .inl (cs 0, 5, .inl fmw_114)), (mh, .inl (cs 0, 20, .inl fmh)), (mo, .inl (cs 0, 4, .inl fmo)), (m7, .inl (cs 1, 16, .inr (.inl fm7))), (m0, .inr (12, [.ref mp, .int (nI ms), .int (nI (rc2_1 + 1)), .int (nI (ic2_1 + 1)), .ref mw, .ref mh, .ref mo, .int (nI s2_1), .int v2_1, .int dg2_1, .int (nI rc2_1), .int (nI rp2_1), .int (nI ic2_1), .ref m5, .ref m6, .ref m7, .long x_all, .int (nI mpn), .ref mk, .ref mn, .int x_kind, .ref mq, .ref m8, .ref m9, .int x_last, .int x_steps, .int x_isRound, .int x_tablesDone, .ref mz, .int (nI mrs), .ref mb, .ref md, .long x_hash])), (mp, .inl (cs 0, 90, .inl fmp)), (m5, .inl (cs 0, 5, .inl fm52_1)), (m6, .inl (cs 0, 20, .inl f_91))] H → va_D A [(mw, .inl (cs 0, 5, .inl fmw_114)), (mh, .inl (cs 0, 20, .inl fmh)), (mo, .inl (cs 0, 4, .inl fmo)), (m7, .inl (cs 1, 16, .inr (.inl fm7))), (m0, .inr (12, [.ref mp, .int (nI ms), .int (nI (rc2_1 + 1)), .int (nI (ic2_1 + 1)), .ref mw, .ref mh, .ref mo, .int (nI s2_1), .int v2_1, .int dg2_1, .int (nI rc2_1), .int (nI rp2_1), .int (nI ic2_1), .ref m5, .ref m6, .ref m7, .long x_all, .int (nI mpn), .ref mk, .ref mn, .int x_kind, .ref mq, .ref m8, .ref m9, .int x_last, .int x_steps, .int x_isRound, .int x_tablesDone, .ref mz, .int (nI mrs), .ref mb, .ref md, .long x_hash])), (mp, .inl (cs 0, 90, .inl fmp)), (m5, .inl (cs 0, 5, .inl fm52_1)), (m6, .inl (cs 0, 20, .inl f_91))] → va_S A s.heap H locs → lv_has ls 3 [(0, .ref m0), (1, .int 1), (2, .int (nI k))] → W p l e ({ frames := 4, cells := 0, slots := 0, locals := 91 } : Room) s m args below meth c H locs 0 0 Q (F0 m 114 ls []) := by
            intro n114
            induction n114 with
            | zero =>
              intro k fmw_114 hk hcp hn114 H locs ls hP hD hS hl
              exact absurd hn114 (Nat.not_lt_zero _)
            | succ n114 ih114 =>
              intro k fmw_114 hk hcp hn114 H locs ls hP hD hS hl
              refine lv_iload_n hx hb dX12_question_114 rfl (lv_at hl 2 rfl) ?_
              refine lv_iconst (v := 5) hx hb dX12_question_115 (by decide) ?_
              refine lv_icmp_ge (tgt := 137) hx hb dX12_question_116 (by decide) (fun c_116 => ?_) (fun c_116 => ?_)
              · have n_116 : 5 ≤ k := b_le_t (by omega) (by omega) c_116
                have hcp5 : cpI fmw_114 fm52_1 5 := by rw [show k = 5 by omega] at hcp; exact hcp
                refine lv_iconst (v := 0) hx hb dX12_question_137 (by decide) ?_
                refine lv_istore_n (lv' := [(2, .int 0), (0, .ref m0), (1, .int 1)]) hx hb dX12_question_138 rfl hl (by decide) rfl (fun ls hl => ?_)
                have LOOP139 : ∀ (n139 : Nat) (k2 : Nat) (fmh_139 : Nat → Int32), k2 ≤ 20 → 20 - k2 < n139 → ∀ (H : Heap) (locs : List Loc) (ls : Array Slot), va_P D vwCl [(mw, .inl (cs 0, 5, .inl fmw_114)), (mh, .inl (cs 0, 20, .inl fmh_139)), (mo, .inl (cs 0, 4, .inl fmo)), (m7, .inl (cs 1, 16, .inr (.inl fm7))), (m0, .inr (12, [.ref mp, .int (nI ms), .int (nI (rc2_1 + 1)), .int (nI (ic2_1 + 1)), .ref mw, .ref mh, .ref mo, .int (nI s2_1), .int v2_1, .int dg2_1, .int (nI rc2_1), .int (nI rp2_1), .int (nI ic2_1), .ref m5, .ref m6, .ref m7, .long x_all, .int (nI mpn), .ref mk, .ref mn, .int x_kind, .ref mq, .ref m8, .ref m9, .int x_last, .int x_steps, .int x_isRound, .int x_tablesDone, .ref mz, .int (nI mrs), .ref mb, .ref md, .long x_hash])), (mp, .inl (cs 0, 90, .inl fmp)), (m5, .inl (cs 0, 5, .inl fm52_1)), (m6, .inl (cs 0, 20, .inl f_91))] H → va_D A [(mw, .inl (cs 0, 5, .inl fmw_114)), (mh, .inl (cs 0, 20, .inl fmh_139)), (mo, .inl (cs 0, 4, .inl fmo)), (m7, .inl (cs 1, 16, .inr (.inl fm7))), (m0, .inr (12, [.ref mp, .int (nI ms), .int (nI (rc2_1 + 1)), .int (nI (ic2_1 + 1)), .ref mw, .ref mh, .ref mo, .int (nI s2_1), .int v2_1, .int dg2_1, .int (nI rc2_1), .int (nI rp2_1), .int (nI ic2_1), .ref m5, .ref m6, .ref m7, .long x_all, .int (nI mpn), .ref mk, .ref mn, .int x_kind, .ref mq, .ref m8, .ref m9, .int x_last, .int x_steps, .int x_isRound, .int x_tablesDone, .ref mz, .int (nI mrs), .ref mb, .ref md, .long x_hash])), (mp, .inl (cs 0, 90, .inl fmp)), (m5, .inl (cs 0, 5, .inl fm52_1)), (m6, .inl (cs 0, 20, .inl f_91))] → va_S A s.heap H locs → lv_has ls 3 [(0, .ref m0), (1, .int 1), (2, .int (nI k2))] → W p l e ({ frames := 4, cells := 0, slots := 0, locals := 91 } : Room) s m args below meth c H locs 0 0 Q (F0 m 139 ls []) := by
                  intro n139
                  induction n139 with
                  | zero =>
                    intro k2 fmh_139 hk2 hn139 H locs ls hP hD hS hl
                    exact absurd hn139 (Nat.not_lt_zero _)
                  | succ n139 ih139 =>
                    intro k2 fmh_139 hk2 hn139 H locs ls hP hD hS hl
                    refine lv_iload_n hx hb dX12_question_139 rfl (lv_at hl 2 rfl) ?_
                    refine lv_bipush (v := 20) hx hb dX12_question_140 (by decide) ?_
                    refine lv_icmp_ge (tgt := 163) hx hb dX12_question_142 (by decide) (fun c_142 => ?_) (fun c_142 => ?_)
                    · have n_142 : 20 ≤ k2 := b_le_t (by omega) (by omega) c_142
                      refine lv_iconst (v := 0) hx hb dX12_question_163 (by decide) ?_
                      refine lv_istore_n (lv' := [(2, .int 0), (0, .ref m0), (1, .int 1)]) hx hb dX12_question_164 rfl hl (by decide) rfl (fun ls hl => ?_)
                      have LOOP165 : ∀ (n165 : Nat) (k3 : Nat) (fmo_165 : Nat → Int32), k3 ≤ 4 → 4 - k3 < n165 → ∀ (H : Heap) (locs : List Loc) (ls : Array Slot), va_P D vwCl [(mw, .inl (cs 0, 5, .inl fmw_114)), (mh, .inl (cs 0, 20, .inl fmh_139)), (mo, .inl (cs 0, 4, .inl fmo_165)), (m7, .inl (cs 1, 16, .inr (.inl fm7))), (m0, .inr (12, [.ref mp, .int (nI ms), .int (nI (rc2_1 + 1)), .int (nI (ic2_1 + 1)), .ref mw, .ref mh, .ref mo, .int (nI s2_1), .int v2_1, .int dg2_1, .int (nI rc2_1), .int (nI rp2_1), .int (nI ic2_1), .ref m5, .ref m6, .ref m7, .long x_all, .int (nI mpn), .ref mk, .ref mn, .int x_kind, .ref mq, .ref m8, .ref m9, .int x_last, .int x_steps, .int x_isRound, .int x_tablesDone, .ref mz, .int (nI mrs), .ref mb, .ref md, .long x_hash])), (mp, .inl (cs 0, 90, .inl fmp)), (m5, .inl (cs 0, 5, .inl fm52_1)), (m6, .inl (cs 0, 20, .inl f_91))] H → va_D A [(mw, .inl (cs 0, 5, .inl fmw_114)), (mh, .inl (cs 0, 20, .inl fmh_139)), (mo, .inl (cs 0, 4, .inl fmo_165)), (m7, .inl (cs 1, 16, .inr (.inl fm7))), (m0, .inr (12, [.ref mp, .int (nI ms), .int (nI (rc2_1 + 1)), .int (nI (ic2_1 + 1)), .ref mw, .ref mh, .ref mo, .int (nI s2_1), .int v2_1, .int dg2_1, .int (nI rc2_1), .int (nI rp2_1), .int (nI ic2_1), .ref m5, .ref m6, .ref m7, .long x_all, .int (nI mpn), .ref mk, .ref mn, .int x_kind, .ref mq, .ref m8, .ref m9, .int x_last, .int x_steps, .int x_isRound, .int x_tablesDone, .ref mz, .int (nI mrs), .ref mb, .ref md, .long x_hash])), (mp, .inl (cs 0, 90, .inl fmp)), (m5, .inl (cs 0, 5, .inl fm52_1)), (m6, .inl (cs 0, 20, .inl f_91))] → va_S A s.heap H locs → lv_has ls 3 [(0, .ref m0), (1, .int 1), (2, .int (nI k3))] → W p l e ({ frames := 4, cells := 0, slots := 0, locals := 91 } : Room) s m args below meth c H locs 0 0 Q (F0 m 165 ls []) := by
                        intro n165
                        induction n165 with
                        | zero =>
                          intro k3 fmo_165 hk3 hn165 H locs ls hP hD hS hl
                          exact absurd hn165 (Nat.not_lt_zero _)
                        | succ n165 ih165 =>
                          intro k3 fmo_165 hk3 hn165 H locs ls hP hD hS hl
                          refine lv_iload_n hx hb dX12_question_165 rfl (lv_at hl 2 rfl) ?_
                          refine lv_iconst (v := 4) hx hb dX12_question_166 (by decide) ?_
                          refine lv_icmp_ge (tgt := 183) hx hb dX12_question_167 (by decide) (fun c_167 => ?_) (fun c_167 => ?_)
                          · have n_167 : 4 ≤ k3 := b_le_t (by omega) (by omega) c_167
                            refine lv_aload_n hx hb dX12_question_183 rfl (lv_at hl 0 rfl) ?_
                            refine lv_iconst (v := 0) hx hb dX12_question_184 (by decide) ?_
                            refine va_put (D := D) (ci := 12) (v := .int 0) (ty := .int) (C := RX12) (T := TX12) (N := 33) hx hb hg gwX12 tyX12 tyX12_ok nmX12 hown hK hP hD hS 4 rfl rfl 29 (by decide) (hg _ kw_396) (fun _ h9 => h9) rfl (by decide +kernel) rfl rfl (Nat.le_of_ble_eq_true rfl) dX12_question_185 (fun H locs hP hD hS => ?_)
                            have hP : va_P D vwCl [(mw, .inl (cs 0, 5, .inl fmw_114)), (mh, .inl (cs 0, 20, .inl fmh_139)), (mo, .inl (cs 0, 4, .inl fmo_165)), (m7, .inl (cs 1, 16, .inr (.inl fm7))), (m0, .inr (12, [.ref mp, .int (nI ms), .int (nI (rc2_1 + 1)), .int (nI (ic2_1 + 1)), .ref mw, .ref mh, .ref mo, .int (nI s2_1), .int v2_1, .int dg2_1, .int (nI rc2_1), .int (nI rp2_1), .int (nI ic2_1), .ref m5, .ref m6, .ref m7, .long x_all, .int (nI mpn), .ref mk, .ref mn, .int x_kind, .ref mq, .ref m8, .ref m9, .int x_last, .int x_steps, .int x_isRound, .int x_tablesDone, .ref mz, .int 0, .ref mb, .ref md, .long x_hash])), (mp, .inl (cs 0, 90, .inl fmp)), (m5, .inl (cs 0, 5, .inl fm52_1)), (m6, .inl (cs 0, 20, .inl f_91))] H := hP
                            have hD : va_D A [(mw, .inl (cs 0, 5, .inl fmw_114)), (mh, .inl (cs 0, 20, .inl fmh_139)), (mo, .inl (cs 0, 4, .inl fmo_165)), (m7, .inl (cs 1, 16, .inr (.inl fm7))), (m0, .inr (12, [.ref mp, .int (nI ms), .int (nI (rc2_1 + 1)), .int (nI (ic2_1 + 1)), .ref mw, .ref mh, .ref mo, .int (nI s2_1), .int v2_1, .int dg2_1, .int (nI rc2_1), .int (nI rp2_1), .int (nI ic2_1), .ref m5, .ref m6, .ref m7, .long x_all, .int (nI mpn), .ref mk, .ref mn, .int x_kind, .ref mq, .ref m8, .ref m9, .int x_last, .int x_steps, .int x_isRound, .int x_tablesDone, .ref mz, .int 0, .ref mb, .ref md, .long x_hash])), (mp, .inl (cs 0, 90, .inl fmp)), (m5, .inl (cs 0, 5, .inl fm52_1)), (m6, .inl (cs 0, 20, .inl f_91))] := hD
                            refine lv_aload_n hx hb dX12_question_188 rfl (lv_at hl 0 rfl) ?_
                            refine lv_iconst (v := 0) hx hb dX12_question_189 (by decide) ?_
                            refine va_put (D := D) (ci := 12) (v := .int 0) (ty := .int) (C := RX12) (T := TX12) (N := 33) hx hb hg gwX12 tyX12 tyX12_ok nmX12 hown hK hP hD hS 4 rfl rfl 1 (by decide) (hg _ kw_397) (fun _ h9 => h9) rfl (by decide +kernel) rfl rfl (Nat.le_of_ble_eq_true rfl) dX12_question_190 (fun H locs hP hD hS => ?_)
                            have hP : va_P D vwCl [(mw, .inl (cs 0, 5, .inl fmw_114)), (mh, .inl (cs 0, 20, .inl fmh_139)), (mo, .inl (cs 0, 4, .inl fmo_165)), (m7, .inl (cs 1, 16, .inr (.inl fm7))), (m0, .inr (12, [.ref mp, .int 0, .int (nI (rc2_1 + 1)), .int (nI (ic2_1 + 1)), .ref mw, .ref mh, .ref mo, .int (nI s2_1), .int v2_1, .int dg2_1, .int (nI rc2_1), .int (nI rp2_1), .int (nI ic2_1), .ref m5, .ref m6, .ref m7, .long x_all, .int (nI mpn), .ref mk, .ref mn, .int x_kind, .ref mq, .ref m8, .ref m9, .int x_last, .int x_steps, .int x_isRound, .int x_tablesDone, .ref mz, .int 0, .ref mb, .ref md, .long x_hash])), (mp, .inl (cs 0, 90, .inl fmp)), (m5, .inl (cs 0, 5, .inl fm52_1)), (m6, .inl (cs 0, 20, .inl f_91))] H := hP
                            have hD : va_D A [(mw, .inl (cs 0, 5, .inl fmw_114)), (mh, .inl (cs 0, 20, .inl fmh_139)), (mo, .inl (cs 0, 4, .inl fmo_165)), (m7, .inl (cs 1, 16, .inr (.inl fm7))), (m0, .inr (12, [.ref mp, .int 0, .int (nI (rc2_1 + 1)), .int (nI (ic2_1 + 1)), .ref mw, .ref mh, .ref mo, .int (nI s2_1), .int v2_1, .int dg2_1, .int (nI rc2_1), .int (nI rp2_1), .int (nI ic2_1), .ref m5, .ref m6, .ref m7, .long x_all, .int (nI mpn), .ref mk, .ref mn, .int x_kind, .ref mq, .ref m8, .ref m9, .int x_last, .int x_steps, .int x_isRound, .int x_tablesDone, .ref mz, .int 0, .ref mb, .ref md, .long x_hash])), (mp, .inl (cs 0, 90, .inl fmp)), (m5, .inl (cs 0, 5, .inl fm52_1)), (m6, .inl (cs 0, 20, .inl f_91))] := hD
                            refine lv_aload_n hx hb dX12_question_193 rfl (lv_at hl 0 rfl) ?_
                            have hPc := hP.sub (ws' := [(m0, .inr (12, [.ref mp, .int 0, .int (nI (rc2_1 + 1)), .int (nI (ic2_1 + 1)), .ref mw, .ref mh, .ref mo, .int (nI s2_1), .int v2_1, .int dg2_1, .int (nI rc2_1), .int (nI rp2_1), .int (nI ic2_1), .ref m5, .ref m6, .ref m7, .long x_all, .int (nI mpn), .ref mk, .ref mn, .int x_kind, .ref mq, .ref m8, .ref m9, .int x_last, .int x_steps, .int x_isRound, .int x_tablesDone, .ref mz, .int 0, .ref mb, .ref md, .long x_hash])), (mw, .inl (cs 0, 5, .inl fmw_114)), (mh, .inl (cs 0, 20, .inl fmh_139)), (m7, .inl (cs 1, 16, .inr (.inl fm7)))]) [4, 0, 1, 3] rfl
                            have hDc := hD.sub (ws' := [(m0, .inr (12, [.ref mp, .int 0, .int (nI (rc2_1 + 1)), .int (nI (ic2_1 + 1)), .ref mw, .ref mh, .ref mo, .int (nI s2_1), .int v2_1, .int dg2_1, .int (nI rc2_1), .int (nI rp2_1), .int (nI ic2_1), .ref m5, .ref m6, .ref m7, .long x_all, .int (nI mpn), .ref mk, .ref mn, .int x_kind, .ref mq, .ref m8, .ref m9, .int x_last, .int x_steps, .int x_isRound, .int x_tablesDone, .ref mz, .int 0, .ref mb, .ref md, .long x_hash])), (mw, .inl (cs 0, 5, .inl fmw_114)), (mh, .inl (cs 0, 20, .inl fmh_139)), (m7, .inl (cs 1, 16, .inr (.inl fm7)))]) [4, 0, 1, 3] (by decide) rfl
                            have hFc := va_free (wc := [(m0, .inr (12, [.ref mp, .int 0, .int (nI (rc2_1 + 1)), .int (nI (ic2_1 + 1)), .ref mw, .ref mh, .ref mo, .int (nI s2_1), .int v2_1, .int dg2_1, .int (nI rc2_1), .int (nI rp2_1), .int (nI ic2_1), .ref m5, .ref m6, .ref m7, .long x_all, .int (nI mpn), .ref mk, .ref mn, .int x_kind, .ref mq, .ref m8, .ref m9, .int x_last, .int x_steps, .int x_isRound, .int x_tablesDone, .ref mz, .int 0, .ref mb, .ref md, .long x_hash])), (mw, .inl (cs 0, 5, .inl fmw_114)), (mh, .inl (cs 0, 20, .inl fmh_139)), (m7, .inl (cs 1, 16, .inr (.inl fm7)))]) hD hS hA [4, 0, 1, 3] rfl
                            refine va_callv (va_runV (As := []) (rest := []) ⟨hx, hb, hml, hown, hg⟩ (m_layLikely l D cs m0 mp mw mh mo m5 m6 m7 mk mn mq m8 m9 mz mb md 0 (rc2_1 + 1) (ic2_1 + 1) mpn 0 s2_1 rc2_1 rp2_1 ic2_1 (by omega) (by omega) (by omega) (by omega) (by omega) (by omega) (by omega) (by omega) (by omega) v2_1 dg2_1 x_all x_kind x_last x_steps x_isRound x_tablesDone x_hash fmw_114 fmh_139 fm7 (cp_wI hcp5 (by omega) hw3) _) (cwV 0 hg (gw_V kw_457 kw_458 kw_459 kw_319 kw_456) rfl rfl rfl (by decide +kernel) ⟨(Nat.le_of_ble_eq_true rfl), (Nat.le_of_ble_eq_true rfl)⟩) (pr_MV (q := (RX12, TX12, 33)) 12 0 hK hPc hDc rfl rfl) rfl rfl hl.1 rfl (lv_room (Nat.le_of_ble_eq_true rfl)) dX12_question_194 ⟨(Nat.le_of_ble_eq_true rfl), (Nat.le_of_ble_eq_true rfl)⟩) hS (fun q _ h => hFc q h) hFc (fun u t H1 locs ht hvm h_194 hB hz1 hk1 hS => ?_)
                            obtain ⟨al2_194, fm72_194, hal2_194, hP1, hD1⟩ := hB
                            rw [ht] at hP1
                            obtain ⟨hP, hD⟩ := va_join (wr := [(mo, .inl (cs 0, 4, .inl fmo_165)), (mp, .inl (cs 0, 90, .inl fmp)), (m5, .inl (cs 0, 5, .inl fm52_1)), (m6, .inl (cs 0, 20, .inl f_91))]) (w1 := [(m0, .inr (12, [.ref mp, .int (nI 0), .int (nI (rc2_1 + 1)), .int (nI (ic2_1 + 1)), .ref mw, .ref mh, .ref mo, .int (nI s2_1), .int v2_1, .int dg2_1, .int (nI rc2_1), .int (nI rp2_1), .int (nI ic2_1), .ref m5, .ref m6, .ref m7, .long al2_194, .int (nI mpn), .ref mk, .ref mn, .int x_kind, .ref mq, .ref m8, .ref m9, .int x_last, .int x_steps, .int x_isRound, .int x_tablesDone, .ref mz, .int (nI 0), .ref mb, .ref md, .long x_hash])), (mw, .inl (cs 0, 5, .inl fmw_114)), (mh, .inl (cs 0, 20, .inl fmh_139)), (m7, .inl (cs 1, 16, .inr (.inl fm72_194)))]) hP hD [4, 0, 1, 3] [2, 5, 6, 7] rfl rfl (by decide) (by decide) hk1 hFc hP1 hD1
                            generalize H1 = H at hP hS ⊢
                            have hP : va_P D vwCl [(mo, .inl (cs 0, 4, .inl fmo_165)), (mp, .inl (cs 0, 90, .inl fmp)), (m5, .inl (cs 0, 5, .inl fm52_1)), (m6, .inl (cs 0, 20, .inl f_91)), (m0, .inr (12, [.ref mp, .int (nI 0), .int (nI (rc2_1 + 1)), .int (nI (ic2_1 + 1)), .ref mw, .ref mh, .ref mo, .int (nI s2_1), .int v2_1, .int dg2_1, .int (nI rc2_1), .int (nI rp2_1), .int (nI ic2_1), .ref m5, .ref m6, .ref m7, .long al2_194, .int (nI mpn), .ref mk, .ref mn, .int x_kind, .ref mq, .ref m8, .ref m9, .int x_last, .int x_steps, .int x_isRound, .int x_tablesDone, .ref mz, .int (nI 0), .ref mb, .ref md, .long x_hash])), (mw, .inl (cs 0, 5, .inl fmw_114)), (mh, .inl (cs 0, 20, .inl fmh_139)), (m7, .inl (cs 1, 16, .inr (.inl fm72_194)))] H := hP
                            have hD : va_D A [(mo, .inl (cs 0, 4, .inl fmo_165)), (mp, .inl (cs 0, 90, .inl fmp)), (m5, .inl (cs 0, 5, .inl fm52_1)), (m6, .inl (cs 0, 20, .inl f_91)), (m0, .inr (12, [.ref mp, .int (nI 0), .int (nI (rc2_1 + 1)), .int (nI (ic2_1 + 1)), .ref mw, .ref mh, .ref mo, .int (nI s2_1), .int v2_1, .int dg2_1, .int (nI rc2_1), .int (nI rp2_1), .int (nI ic2_1), .ref m5, .ref m6, .ref m7, .long al2_194, .int (nI mpn), .ref mk, .ref mn, .int x_kind, .ref mq, .ref m8, .ref m9, .int x_last, .int x_steps, .int x_isRound, .int x_tablesDone, .ref mz, .int (nI 0), .ref mb, .ref md, .long x_hash])), (mw, .inl (cs 0, 5, .inl fmw_114)), (mh, .inl (cs 0, 20, .inl fmh_139)), (m7, .inl (cs 1, 16, .inr (.inl fm72_194)))] := hD
                            refine W.cs (cells' := 0) (slots' := 0) rfl rfl ?_
                            refine lv_aload_n hx hb dX12_question_197 rfl (lv_at hl 0 rfl) ?_
                            refine va_get (D := D) (ci := 12) (v := .int (nI (ic2_1 + 1))) (C := RX12) (T := TX12) (N := 33) hx hb hg gwX12 hown hK hP 4 rfl rfl 3 (by decide) (hg _ kw_315) (fun _ h9 => h9) rfl dX12_question_198 ?_
                            subst hQ
                            refine W.widen (k := 0) (n := 0) (Nat.le_of_ble_eq_true rfl) (Nat.le_of_ble_eq_true rfl) ?_
                            have hP9 := hP.sub (ws' := [(m0, .inr (12, [.ref mp, .int (nI 0), .int (nI (rc2_1 + 1)), .int (nI (ic2_1 + 1)), .ref mw, .ref mh, .ref mo, .int (nI s2_1), .int v2_1, .int dg2_1, .int (nI rc2_1), .int (nI rp2_1), .int (nI ic2_1), .ref m5, .ref m6, .ref m7, .long al2_194, .int (nI mpn), .ref mk, .ref mn, .int x_kind, .ref mq, .ref m8, .ref m9, .int x_last, .int x_steps, .int x_isRound, .int x_tablesDone, .ref mz, .int (nI 0), .ref mb, .ref md, .long x_hash])), (mp, .inl (cs 0, 90, .inl fmp)), (m5, .inl (cs 0, 5, .inl fm52_1)), (m6, .inl (cs 0, 20, .inl f_91)), (mw, .inl (cs 0, 5, .inl fmw_114)), (mh, .inl (cs 0, 20, .inl fmh_139)), (mo, .inl (cs 0, 4, .inl fmo_165)), (m7, .inl (cs 1, 16, .inr (.inl fm72_194)))]) [4, 1, 2, 3, 5, 6, 0, 7] rfl
                            have hD9 := hD.sub (ws' := [(m0, .inr (12, [.ref mp, .int (nI 0), .int (nI (rc2_1 + 1)), .int (nI (ic2_1 + 1)), .ref mw, .ref mh, .ref mo, .int (nI s2_1), .int v2_1, .int dg2_1, .int (nI rc2_1), .int (nI rp2_1), .int (nI ic2_1), .ref m5, .ref m6, .ref m7, .long al2_194, .int (nI mpn), .ref mk, .ref mn, .int x_kind, .ref mq, .ref m8, .ref m9, .int x_last, .int x_steps, .int x_isRound, .int x_tablesDone, .ref mz, .int (nI 0), .ref mb, .ref md, .long x_hash])), (mp, .inl (cs 0, 90, .inl fmp)), (m5, .inl (cs 0, 5, .inl fm52_1)), (m6, .inl (cs 0, 20, .inl f_91)), (mw, .inl (cs 0, 5, .inl fmw_114)), (mh, .inl (cs 0, 20, .inl fmh_139)), (mo, .inl (cs 0, 4, .inl fmo_165)), (m7, .inl (cs 1, 16, .inr (.inl fm72_194)))]) [4, 1, 2, 3, 5, 6, 0, 7] (by decide) rfl
                            exact W.iret (v := (nI (ic2_1 + 1))) hx hb hr (fun t ht hW => ⟨⟨(nI (ic2_1 + 1)), (), rfl, trivial, ⟨s2_1, v2_1, dg2_1, rc2_1, rp2_1, ic2_1, ic2_1 + 1, rc2_1 + 1, 0, 0, al2_194, fm52_1, f_91, fmw_114, fmh_139, fmo_165, fm72_194, (by omega), (by omega), (by omega), (by omega), (by omega), (by omega), (by omega), (by omega), (cp_wI hcp5 (by omega) hw3), hal2_194, (by omega), by rw [ht]; exact hP9, hD9⟩⟩, hS.F ht⟩) hS.2.2 dX12_question_201
                          · have n_167 : k3 < 4 := b_le_f (by omega) (by omega) c_167
                            refine lv_aload_n hx hb dX12_question_170 rfl (lv_at hl 0 rfl) ?_
                            refine va_get (D := D) (ci := 12) (v := .ref mo) (C := RX12) (T := TX12) (N := 33) hx hb hg gwX12 hown hK hP 4 rfl rfl 6 (by decide) (hg _ kw_336) (fun _ h9 => h9) rfl dX12_question_171 ?_
                            refine lv_iload_n hx hb dX12_question_174 rfl (lv_at hl 2 rfl) ?_
                            refine lv_iconst (v := 0) hx hb dX12_question_175 (by decide) ?_
                            refine va_iast hx hb hK hP hD hS 2 0 rfl rfl (vp_in_nI (show k3 < 4 by omega) (by decide)) dX12_question_176 (fun H locs hP hD hS => ?_)
                            obtain ⟨f_176, hf_176⟩ : ∃ f9, f9 = (upd fmo_165 (nI k3).toNatClampNeg 0) := ⟨_, rfl⟩
                            rw [← hf_176] at hP hD
                            have hP : va_P D vwCl [(mw, .inl (cs 0, 5, .inl fmw_114)), (mh, .inl (cs 0, 20, .inl fmh_139)), (mo, .inl (cs 0, 4, .inl f_176)), (m7, .inl (cs 1, 16, .inr (.inl fm7))), (m0, .inr (12, [.ref mp, .int (nI ms), .int (nI (rc2_1 + 1)), .int (nI (ic2_1 + 1)), .ref mw, .ref mh, .ref mo, .int (nI s2_1), .int v2_1, .int dg2_1, .int (nI rc2_1), .int (nI rp2_1), .int (nI ic2_1), .ref m5, .ref m6, .ref m7, .long x_all, .int (nI mpn), .ref mk, .ref mn, .int x_kind, .ref mq, .ref m8, .ref m9, .int x_last, .int x_steps, .int x_isRound, .int x_tablesDone, .ref mz, .int (nI mrs), .ref mb, .ref md, .long x_hash])), (mp, .inl (cs 0, 90, .inl fmp)), (m5, .inl (cs 0, 5, .inl fm52_1)), (m6, .inl (cs 0, 20, .inl f_91))] H := hP
                            have hD : va_D A [(mw, .inl (cs 0, 5, .inl fmw_114)), (mh, .inl (cs 0, 20, .inl fmh_139)), (mo, .inl (cs 0, 4, .inl f_176)), (m7, .inl (cs 1, 16, .inr (.inl fm7))), (m0, .inr (12, [.ref mp, .int (nI ms), .int (nI (rc2_1 + 1)), .int (nI (ic2_1 + 1)), .ref mw, .ref mh, .ref mo, .int (nI s2_1), .int v2_1, .int dg2_1, .int (nI rc2_1), .int (nI rp2_1), .int (nI ic2_1), .ref m5, .ref m6, .ref m7, .long x_all, .int (nI mpn), .ref mk, .ref mn, .int x_kind, .ref mq, .ref m8, .ref m9, .int x_last, .int x_steps, .int x_isRound, .int x_tablesDone, .ref mz, .int (nI mrs), .ref mb, .ref md, .long x_hash])), (mp, .inl (cs 0, 90, .inl fmp)), (m5, .inl (cs 0, 5, .inl fm52_1)), (m6, .inl (cs 0, 20, .inl f_91))] := hD
                            refine lv_iinc (v := (nI (k3 + 1))) (lv' := [(2, .int (nI (k3 + 1))), (0, .ref m0), (1, .int 1)]) hx hb dX12_question_177 hl (k := 2) rfl (nI_add k3 1) (by decide) rfl (fun ls hl => ?_)
                            refine lv_goto (tgt := 165) hx hb dX12_question_180 (by decide) ?_
                            exact ih165 (k3 + 1) f_176 (by omega) (by omega) _ _ ls hP hD hS (lv_sub hl [1, 2, 0] rfl)
                      exact LOOP165 (4 - 0 + 1) 0 fmo (by omega) (Nat.lt_succ_self _) _ _ ls hP hD hS (lv_sub hl [1, 2, 0] rfl)
                    · have n_142 : k2 < 20 := b_le_f (by omega) (by omega) c_142
                      refine lv_aload_n hx hb dX12_question_145 rfl (lv_at hl 0 rfl) ?_
                      refine va_get (D := D) (ci := 12) (v := .ref mh) (C := RX12) (T := TX12) (N := 33) hx hb hg gwX12 hown hK hP 4 rfl rfl 5 (by decide) (hg _ kw_402) (fun _ h9 => h9) rfl dX12_question_146 ?_
                      refine lv_iload_n hx hb dX12_question_149 rfl (lv_at hl 2 rfl) ?_
                      refine lv_aload_n hx hb dX12_question_150 rfl (lv_at hl 0 rfl) ?_
                      refine va_get (D := D) (ci := 12) (v := .ref m6) (C := RX12) (T := TX12) (N := 33) hx hb hg gwX12 hown hK hP 4 rfl rfl 14 (by decide) (hg _ kw_480) (fun _ h9 => h9) rfl dX12_question_151 ?_
                      refine lv_iload_n hx hb dX12_question_154 rfl (lv_at hl 2 rfl) ?_
                      refine va_iald hx hb hK hP 7 0 rfl rfl (vp_in_nI (show k2 < 20 by omega) (by decide)) dX12_question_155 ?_
                      refine lv_topi (fun z_155 e_155 => ?_)
                      refine va_iast hx hb hK hP hD hS 1 0 rfl rfl (vp_in_nI (show k2 < 20 by omega) (by decide)) dX12_question_156 (fun H locs hP hD hS => ?_)
                      obtain ⟨f_156, hf_156⟩ : ∃ f9, f9 = (upd fmh_139 (nI k2).toNatClampNeg z_155) := ⟨_, rfl⟩
                      rw [← hf_156] at hP hD
                      have hP : va_P D vwCl [(mw, .inl (cs 0, 5, .inl fmw_114)), (mh, .inl (cs 0, 20, .inl f_156)), (mo, .inl (cs 0, 4, .inl fmo)), (m7, .inl (cs 1, 16, .inr (.inl fm7))), (m0, .inr (12, [.ref mp, .int (nI ms), .int (nI (rc2_1 + 1)), .int (nI (ic2_1 + 1)), .ref mw, .ref mh, .ref mo, .int (nI s2_1), .int v2_1, .int dg2_1, .int (nI rc2_1), .int (nI rp2_1), .int (nI ic2_1), .ref m5, .ref m6, .ref m7, .long x_all, .int (nI mpn), .ref mk, .ref mn, .int x_kind, .ref mq, .ref m8, .ref m9, .int x_last, .int x_steps, .int x_isRound, .int x_tablesDone, .ref mz, .int (nI mrs), .ref mb, .ref md, .long x_hash])), (mp, .inl (cs 0, 90, .inl fmp)), (m5, .inl (cs 0, 5, .inl fm52_1)), (m6, .inl (cs 0, 20, .inl f_91))] H := hP
                      have hD : va_D A [(mw, .inl (cs 0, 5, .inl fmw_114)), (mh, .inl (cs 0, 20, .inl f_156)), (mo, .inl (cs 0, 4, .inl fmo)), (m7, .inl (cs 1, 16, .inr (.inl fm7))), (m0, .inr (12, [.ref mp, .int (nI ms), .int (nI (rc2_1 + 1)), .int (nI (ic2_1 + 1)), .ref mw, .ref mh, .ref mo, .int (nI s2_1), .int v2_1, .int dg2_1, .int (nI rc2_1), .int (nI rp2_1), .int (nI ic2_1), .ref m5, .ref m6, .ref m7, .long x_all, .int (nI mpn), .ref mk, .ref mn, .int x_kind, .ref mq, .ref m8, .ref m9, .int x_last, .int x_steps, .int x_isRound, .int x_tablesDone, .ref mz, .int (nI mrs), .ref mb, .ref md, .long x_hash])), (mp, .inl (cs 0, 90, .inl fmp)), (m5, .inl (cs 0, 5, .inl fm52_1)), (m6, .inl (cs 0, 20, .inl f_91))] := hD
                      refine lv_iinc (v := (nI (k2 + 1))) (lv' := [(2, .int (nI (k2 + 1))), (0, .ref m0), (1, .int 1)]) hx hb dX12_question_157 hl (k := 2) rfl (nI_add k2 1) (by decide) rfl (fun ls hl => ?_)
                      refine lv_goto (tgt := 139) hx hb dX12_question_160 (by decide) ?_
                      exact ih139 (k2 + 1) f_156 (by omega) (by omega) _ _ ls hP hD hS (lv_sub hl [1, 2, 0] rfl)
                exact LOOP139 (20 - 0 + 1) 0 fmh (by omega) (Nat.lt_succ_self _) _ _ ls hP hD hS (lv_sub hl [1, 2, 0] rfl)
              · have n_116 : k < 5 := b_le_f (by omega) (by omega) c_116
                refine lv_aload_n hx hb dX12_question_119 rfl (lv_at hl 0 rfl) ?_
                refine va_get (D := D) (ci := 12) (v := .ref mw) (C := RX12) (T := TX12) (N := 33) hx hb hg gwX12 hown hK hP 4 rfl rfl 4 (by decide) (hg _ kw_401) (fun _ h9 => h9) rfl dX12_question_120 ?_
                refine lv_iload_n hx hb dX12_question_123 rfl (lv_at hl 2 rfl) ?_
                refine lv_aload_n hx hb dX12_question_124 rfl (lv_at hl 0 rfl) ?_
                refine va_get (D := D) (ci := 12) (v := .ref m5) (C := RX12) (T := TX12) (N := 33) hx hb hg gwX12 hown hK hP 4 rfl rfl 13 (by decide) (hg _ kw_487) (fun _ h9 => h9) rfl dX12_question_125 ?_
                refine lv_iload_n hx hb dX12_question_128 rfl (lv_at hl 2 rfl) ?_
                refine va_iald hx hb hK hP 6 0 rfl rfl (vp_in_nI (show k < 5 by omega) (by decide)) dX12_question_129 ?_
                refine lv_topi (fun z_129 e_129 => ?_)
                refine va_iast hx hb hK hP hD hS 0 0 rfl rfl (vp_in_nI (show k < 5 by omega) (by decide)) dX12_question_130 (fun H locs hP hD hS => ?_)
                obtain ⟨f_130, hf_130⟩ : ∃ f9, f9 = (upd fmw_114 (nI k).toNatClampNeg z_129) := ⟨_, rfl⟩
                rw [← hf_130] at hP hD
                have hP : va_P D vwCl [(mw, .inl (cs 0, 5, .inl f_130)), (mh, .inl (cs 0, 20, .inl fmh)), (mo, .inl (cs 0, 4, .inl fmo)), (m7, .inl (cs 1, 16, .inr (.inl fm7))), (m0, .inr (12, [.ref mp, .int (nI ms), .int (nI (rc2_1 + 1)), .int (nI (ic2_1 + 1)), .ref mw, .ref mh, .ref mo, .int (nI s2_1), .int v2_1, .int dg2_1, .int (nI rc2_1), .int (nI rp2_1), .int (nI ic2_1), .ref m5, .ref m6, .ref m7, .long x_all, .int (nI mpn), .ref mk, .ref mn, .int x_kind, .ref mq, .ref m8, .ref m9, .int x_last, .int x_steps, .int x_isRound, .int x_tablesDone, .ref mz, .int (nI mrs), .ref mb, .ref md, .long x_hash])), (mp, .inl (cs 0, 90, .inl fmp)), (m5, .inl (cs 0, 5, .inl fm52_1)), (m6, .inl (cs 0, 20, .inl f_91))] H := hP
                have hD : va_D A [(mw, .inl (cs 0, 5, .inl f_130)), (mh, .inl (cs 0, 20, .inl fmh)), (mo, .inl (cs 0, 4, .inl fmo)), (m7, .inl (cs 1, 16, .inr (.inl fm7))), (m0, .inr (12, [.ref mp, .int (nI ms), .int (nI (rc2_1 + 1)), .int (nI (ic2_1 + 1)), .ref mw, .ref mh, .ref mo, .int (nI s2_1), .int v2_1, .int dg2_1, .int (nI rc2_1), .int (nI rp2_1), .int (nI ic2_1), .ref m5, .ref m6, .ref m7, .long x_all, .int (nI mpn), .ref mk, .ref mn, .int x_kind, .ref mq, .ref m8, .ref m9, .int x_last, .int x_steps, .int x_isRound, .int x_tablesDone, .ref mz, .int (nI mrs), .ref mb, .ref md, .long x_hash])), (mp, .inl (cs 0, 90, .inl fmp)), (m5, .inl (cs 0, 5, .inl fm52_1)), (m6, .inl (cs 0, 20, .inl f_91))] := hD
                refine lv_iinc (v := (nI (k + 1))) (lv' := [(2, .int (nI (k + 1))), (0, .ref m0), (1, .int 1)]) hx hb dX12_question_131 hl (k := 2) rfl (nI_add k 1) (by decide) rfl (fun ls hl => ?_)
                refine lv_goto (tgt := 114) hx hb dX12_question_134 (by decide) ?_
                exact ih114 (k + 1) f_130 (by omega) (cp_s hcp (by omega) e_129 hf_130) (by omega) _ _ ls hP hD hS (lv_sub hl [1, 2, 0] rfl)
          exact LOOP114 (5 - 0 + 1) 0 fmw (by omega) cp_0 (Nat.lt_succ_self _) _ _ ls hP hD hS (lv_sub hl [2, 1, 0] rfl)
