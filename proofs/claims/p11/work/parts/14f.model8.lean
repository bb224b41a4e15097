def pTop (k : Int32) : Int32 := if k = 4 then 100 else 999
theorem pTop_n {k : Int32} (h : ¬ k = 4) : pTop k = 999 := if_neg h
theorem pTop_4 : pTop 4 = 100 := if_pos rfl
def pOK (k a b d f : Int32) : Prop := iw k 0 4 = 1 ∧ iw a 0 999 = 1 ∧ iw b 0 (pTop k) = 1 ∧ iw d 0 999 = 1 ∧ iw f 0 (pTop k) = 1
theorem ok_no {a : Int32} (h : 0 = a) (q : a = 1) : False := absurd (h.trans q) (by decide)
/-- what a pay answers, and how many stand then -/
def stepN (n n2 : Nat) (k a b d f r : Int32) : Prop := (¬ pOK k a b d f ∧ r = -102 ∧ n2 = n) ∨ (pOK k a b d f ∧ n = 8 ∧ r = -104 ∧ n2 = n) ∨ (pOK k a b d f ∧ n < 8 ∧ r = nI n ∧ n2 = n + 1)
theorem stepN_same {n n1 n2 : Nat} {k a b d f r1 r2 : Int32} (h : stepN n n1 k a b d f r1) (h2 : stepN n n2 k a b d f r2) : r1 = r2 ∧ n1 = n2 := by
  rcases h with ⟨p, q, w⟩ | ⟨p, o, q, w⟩ | ⟨p, o, q, w⟩ <;> rcases h2 with ⟨p2, q2, w2⟩ | ⟨p2, o2, q2, w2⟩ | ⟨p2, o2, q2, w2⟩ <;> first | exact absurd p2 p | exact absurd p p2 | (exfalso; omega) | exact ⟨q.trans q2.symm, w.trans w2.symm⟩
theorem up_k {f f2 : Nat → Int32} {n : Nat} {v : Int32} (hn : n < 2 ^ 31) (e : f2 = upd f (nI n).toNatClampNeg v) : f2 n = v ∧ ∀ i, ¬ i = n → f2 i = f i := by
  rw [nI_clamp hn] at e
  exact ⟨by rw [e]; exact pk_us, fun i hi => by rw [e]; exact pk_un hi⟩
theorem up_4 {f f1 f2 f3 f4 : Nat → Int32} {n : Nat} {a b d w : Int32} (hn : n < 8) (e1 : f1 = upd f (nI (4 * n)).toNatClampNeg a) (e2 : f2 = upd f1 (nI (4 * n + 1)).toNatClampNeg b) (e3 : f3 = upd f2 (nI (4 * n + 2)).toNatClampNeg d) (e4 : f4 = upd f3 (nI (4 * n + 3)).toNatClampNeg w) : (f4 (4 * n) = a ∧ f4 (4 * n + 1) = b ∧ f4 (4 * n + 2) = d ∧ f4 (4 * n + 3) = w) ∧ ∀ i, i < 4 * n → f4 i = f i := by
  obtain ⟨a1, b1⟩ := up_k (by omega) e1
  obtain ⟨a2, b2⟩ := up_k (by omega) e2
  obtain ⟨a3, b3⟩ := up_k (by omega) e3
  obtain ⟨a4, b4⟩ := up_k (by omega) e4
  refine ⟨⟨?_, ?_, ?_, a4⟩, fun i hi => ?_⟩
  · rw [b4 _ (by omega), b3 _ (by omega), b2 _ (by omega), a1]
  · rw [b4 _ (by omega), b3 _ (by omega), a2]
  · rw [b4 _ (by omega), a3]
  · rw [b4 _ (by omega), b3 _ (by omega), b2 _ (by omega), b1 _ (by omega)]

theorem dX12_pay_0 : decode cX12_pay 0 = .ok (.iload_n 1, 1) := by decide +kernel
theorem dX12_pay_1 : decode cX12_pay 1 = .ok (.iconst 4, 1) := by decide +kernel
theorem dX12_pay_2 : decode cX12_pay 2 = .ok (.if_icmp .ne 8, 3) := by decide +kernel
theorem dX12_pay_5 : decode cX12_pay 5 = .ok (.bipush 100, 2) := by decide +kernel
theorem dX12_pay_7 : decode cX12_pay 7 = .ok (.goto 6, 3) := by decide +kernel
theorem dX12_pay_10 : decode cX12_pay 10 = .ok (.sipush 999, 3) := by decide +kernel
theorem dX12_pay_13 : decode cX12_pay 13 = .ok (.istore 6, 2) := by decide +kernel
theorem dX12_pay_15 : decode cX12_pay 15 = .ok (.iload_n 1, 1) := by decide +kernel
theorem dX12_pay_16 : decode cX12_pay 16 = .ok (.i2l, 1) := by decide +kernel
theorem dX12_pay_17 : decode cX12_pay 17 = .ok (.lconst 0, 1) := by decide +kernel
theorem dX12_pay_18 : decode cX12_pay 18 = .ok (.ldc2_w 137, 3) := by decide +kernel
theorem dX12_pay_21 : decode cX12_pay 21 = .ok (.invokestatic 70, 3) := by decide +kernel
theorem dX12_pay_24 : decode cX12_pay 24 = .ok (.ifCond .eq 53, 3) := by decide +kernel
theorem dX12_pay_27 : decode cX12_pay 27 = .ok (.iload_n 2, 1) := by decide +kernel
theorem dX12_pay_28 : decode cX12_pay 28 = .ok (.i2l, 1) := by decide +kernel
theorem dX12_pay_29 : decode cX12_pay 29 = .ok (.lconst 0, 1) := by decide +kernel
theorem dX12_pay_30 : decode cX12_pay 30 = .ok (.ldc2_w 115, 3) := by decide +kernel
theorem dX12_pay_33 : decode cX12_pay 33 = .ok (.invokestatic 70, 3) := by decide +kernel
theorem dX12_pay_36 : decode cX12_pay 36 = .ok (.ifCond .eq 41, 3) := by decide +kernel
theorem dX12_pay_39 : decode cX12_pay 39 = .ok (.iload_n 3, 1) := by decide +kernel
theorem dX12_pay_40 : decode cX12_pay 40 = .ok (.i2l, 1) := by decide +kernel
theorem dX12_pay_41 : decode cX12_pay 41 = .ok (.lconst 0, 1) := by decide +kernel
theorem dX12_pay_42 : decode cX12_pay 42 = .ok (.iload 6, 2) := by decide +kernel
theorem dX12_pay_44 : decode cX12_pay 44 = .ok (.i2l, 1) := by decide +kernel
theorem dX12_pay_45 : decode cX12_pay 45 = .ok (.invokestatic 70, 3) := by decide +kernel
theorem dX12_pay_48 : decode cX12_pay 48 = .ok (.ifCond .eq 29, 3) := by decide +kernel
theorem dX12_pay_51 : decode cX12_pay 51 = .ok (.iload 4, 2) := by decide +kernel
theorem dX12_pay_53 : decode cX12_pay 53 = .ok (.i2l, 1) := by decide +kernel
theorem dX12_pay_54 : decode cX12_pay 54 = .ok (.lconst 0, 1) := by decide +kernel
theorem dX12_pay_55 : decode cX12_pay 55 = .ok (.ldc2_w 115, 3) := by decide +kernel
theorem dX12_pay_58 : decode cX12_pay 58 = .ok (.invokestatic 70, 3) := by decide +kernel
theorem dX12_pay_61 : decode cX12_pay 61 = .ok (.ifCond .eq 16, 3) := by decide +kernel
theorem dX12_pay_64 : decode cX12_pay 64 = .ok (.iload 5, 2) := by decide +kernel
theorem dX12_pay_66 : decode cX12_pay 66 = .ok (.i2l, 1) := by decide +kernel
theorem dX12_pay_67 : decode cX12_pay 67 = .ok (.lconst 0, 1) := by decide +kernel
theorem dX12_pay_68 : decode cX12_pay 68 = .ok (.iload 6, 2) := by decide +kernel
theorem dX12_pay_70 : decode cX12_pay 70 = .ok (.i2l, 1) := by decide +kernel
theorem dX12_pay_71 : decode cX12_pay 71 = .ok (.invokestatic 70, 3) := by decide +kernel
theorem dX12_pay_74 : decode cX12_pay 74 = .ok (.ifCond .ne 6, 3) := by decide +kernel
theorem dX12_pay_77 : decode cX12_pay 77 = .ok (.bipush (-102), 2) := by decide +kernel
theorem dX12_pay_79 : decode cX12_pay 79 = .ok (.ireturn, 1) := by decide +kernel
theorem dX12_pay_80 : decode cX12_pay 80 = .ok (.aload_n 0, 1) := by decide +kernel
theorem dX12_pay_81 : decode cX12_pay 81 = .ok (.getfield 139, 3) := by decide +kernel
theorem dX12_pay_84 : decode cX12_pay 84 = .ok (.bipush 8, 2) := by decide +kernel
theorem dX12_pay_86 : decode cX12_pay 86 = .ok (.if_icmp .ne 6, 3) := by decide +kernel
theorem dX12_pay_89 : decode cX12_pay 89 = .ok (.bipush (-104), 2) := by decide +kernel
theorem dX12_pay_91 : decode cX12_pay 91 = .ok (.ireturn, 1) := by decide +kernel
theorem dX12_pay_92 : decode cX12_pay 92 = .ok (.aload_n 0, 1) := by decide +kernel
theorem dX12_pay_93 : decode cX12_pay 93 = .ok (.getfield 32, 3) := by decide +kernel
theorem dX12_pay_96 : decode cX12_pay 96 = .ok (.aload_n 0, 1) := by decide +kernel
theorem dX12_pay_97 : decode cX12_pay 97 = .ok (.getfield 139, 3) := by decide +kernel
theorem dX12_pay_100 : decode cX12_pay 100 = .ok (.iload_n 1, 1) := by decide +kernel
theorem dX12_pay_101 : decode cX12_pay 101 = .ok (.iastore, 1) := by decide +kernel
theorem dX12_pay_102 : decode cX12_pay 102 = .ok (.aload_n 0, 1) := by decide +kernel
theorem dX12_pay_103 : decode cX12_pay 103 = .ok (.getfield 35, 3) := by decide +kernel
theorem dX12_pay_106 : decode cX12_pay 106 = .ok (.iconst 4, 1) := by decide +kernel
theorem dX12_pay_107 : decode cX12_pay 107 = .ok (.aload_n 0, 1) := by decide +kernel
theorem dX12_pay_108 : decode cX12_pay 108 = .ok (.getfield 139, 3) := by decide +kernel
theorem dX12_pay_111 : decode cX12_pay 111 = .ok (.imul, 1) := by decide +kernel
theorem dX12_pay_112 : decode cX12_pay 112 = .ok (.iload_n 2, 1) := by decide +kernel
theorem dX12_pay_113 : decode cX12_pay 113 = .ok (.iastore, 1) := by decide +kernel
theorem dX12_pay_114 : decode cX12_pay 114 = .ok (.aload_n 0, 1) := by decide +kernel
theorem dX12_pay_115 : decode cX12_pay 115 = .ok (.getfield 35, 3) := by decide +kernel
theorem dX12_pay_118 : decode cX12_pay 118 = .ok (.iconst 4, 1) := by decide +kernel
theorem dX12_pay_119 : decode cX12_pay 119 = .ok (.aload_n 0, 1) := by decide +kernel
theorem dX12_pay_120 : decode cX12_pay 120 = .ok (.getfield 139, 3) := by decide +kernel
theorem dX12_pay_123 : decode cX12_pay 123 = .ok (.imul, 1) := by decide +kernel
theorem dX12_pay_124 : decode cX12_pay 124 = .ok (.iconst 1, 1) := by decide +kernel
theorem dX12_pay_125 : decode cX12_pay 125 = .ok (.iadd, 1) := by decide +kernel
theorem dX12_pay_126 : decode cX12_pay 126 = .ok (.iload_n 3, 1) := by decide +kernel
theorem dX12_pay_127 : decode cX12_pay 127 = .ok (.iastore, 1) := by decide +kernel
theorem dX12_pay_128 : decode cX12_pay 128 = .ok (.aload_n 0, 1) := by decide +kernel
theorem dX12_pay_129 : decode cX12_pay 129 = .ok (.getfield 35, 3) := by decide +kernel
theorem dX12_pay_132 : decode cX12_pay 132 = .ok (.iconst 4, 1) := by decide +kernel
theorem dX12_pay_133 : decode cX12_pay 133 = .ok (.aload_n 0, 1) := by decide +kernel
theorem dX12_pay_134 : decode cX12_pay 134 = .ok (.getfield 139, 3) := by decide +kernel
theorem dX12_pay_137 : decode cX12_pay 137 = .ok (.imul, 1) := by decide +kernel
theorem dX12_pay_138 : decode cX12_pay 138 = .ok (.iconst 2, 1) := by decide +kernel
theorem dX12_pay_139 : decode cX12_pay 139 = .ok (.iadd, 1) := by decide +kernel
theorem dX12_pay_140 : decode cX12_pay 140 = .ok (.iload 4, 2) := by decide +kernel
theorem dX12_pay_142 : decode cX12_pay 142 = .ok (.iastore, 1) := by decide +kernel
theorem dX12_pay_143 : decode cX12_pay 143 = .ok (.aload_n 0, 1) := by decide +kernel
theorem dX12_pay_144 : decode cX12_pay 144 = .ok (.getfield 35, 3) := by decide +kernel
theorem dX12_pay_147 : decode cX12_pay 147 = .ok (.iconst 4, 1) := by decide +kernel
theorem dX12_pay_148 : decode cX12_pay 148 = .ok (.aload_n 0, 1) := by decide +kernel
theorem dX12_pay_149 : decode cX12_pay 149 = .ok (.getfield 139, 3) := by decide +kernel
theorem dX12_pay_152 : decode cX12_pay 152 = .ok (.imul, 1) := by decide +kernel
theorem dX12_pay_153 : decode cX12_pay 153 = .ok (.iconst 3, 1) := by decide +kernel
theorem dX12_pay_154 : decode cX12_pay 154 = .ok (.iadd, 1) := by decide +kernel
theorem dX12_pay_155 : decode cX12_pay 155 = .ok (.iload 5, 2) := by decide +kernel
theorem dX12_pay_157 : decode cX12_pay 157 = .ok (.iastore, 1) := by decide +kernel
theorem dX12_pay_158 : decode cX12_pay 158 = .ok (.aload_n 0, 1) := by decide +kernel
theorem dX12_pay_159 : decode cX12_pay 159 = .ok (.dup, 1) := by decide +kernel
theorem dX12_pay_160 : decode cX12_pay 160 = .ok (.getfield 139, 3) := by decide +kernel
theorem dX12_pay_163 : decode cX12_pay 163 = .ok (.iconst 1, 1) := by decide +kernel
theorem dX12_pay_164 : decode cX12_pay 164 = .ok (.iadd, 1) := by decide +kernel
theorem dX12_pay_165 : decode cX12_pay 165 = .ok (.putfield 139, 3) := by decide +kernel
theorem dX12_pay_168 : decode cX12_pay 168 = .ok (.aload_n 0, 1) := by decide +kernel
theorem dX12_pay_169 : decode cX12_pay 169 = .ok (.getfield 139, 3) := by decide +kernel
theorem dX12_pay_172 : decode cX12_pay 172 = .ok (.iconst 1, 1) := by decide +kernel
theorem dX12_pay_173 : decode cX12_pay 173 = .ok (.isub, 1) := by decide +kernel
theorem dX12_pay_174 : decode cX12_pay 174 = .ok (.ireturn, 1) := by decide +kernel

set_option maxHeartbeats 4000000 in
set_option maxRecDepth 100000 in
theorem m_pay (l : Launch) (D : va_G) (cs : Nat → ClassId) (m0 : Nat) (mp : Nat) (mw : Nat) (mh : Nat) (mo : Nat) (m5 : Nat) (m6 : Nat) (m7 : Nat) (mk : Nat) (mn : Nat) (mq : Nat) (m8 : Nat) (m9 : Nat) (mz : Nat) (mb : Nat) (md : Nat) (ms : Nat) (C : Nat) (P : Nat) (mpn : Nat) (mrs : Nat) (sS : Nat) (rc : Nat) (rp : Nat) (ic : Nat) (hms : ms ≤ 90) (hC5 : C ≤ 5) (hP4 : P ≤ 4) (hmpn : mpn ≤ 8) (hmrs : mrs ≤ 24) (hsS : sS ≤ 4) (hrc : rc ≤ 5) (hrp : rp ≤ 4) (hic : ic ≤ 4) (x_value : Int32) (x_digits : Int32) (x_all : Int64) (x_kind : Int32) (x_last : Int32) (x_steps : Int32) (x_isRound : Int32) (x_tablesDone : Int32) (x_hash : Int64) (fmk : Nat → Int32) (fmn : Nat → Int32) (p1 : Int32) (p2 : Int32) (p3 : Int32) (p4 : Int32) (p5 : Int32) (sz : Nat) : Met l yX12_pay (Cond.code yX12_pay cX12_pay 7 (some .int) :: gw_tbl) ({ frames := 1, cells := 0, slots := 0, locals := 25 }) (pc_M D cs [(m0, .inr (12, [.ref mp, .int (nI ms), .int (nI C), .int (nI P), .ref mw, .ref mh, .ref mo, .int (nI sS), .int x_value, .int x_digits, .int (nI rc), .int (nI rp), .int (nI ic), .ref m5, .ref m6, .ref m7, .long x_all, .int (nI mpn), .ref mk, .ref mn, .int x_kind, .ref mq, .ref m8, .ref m9, .int x_last, .int x_steps, .int x_isRound, .int x_tablesDone, .ref mz, .int (nI mrs), .ref mb, .ref md, .long x_hash])), (mk, .inl (cs 0, 8, .inl fmk)), (mn, .inl (cs 0, 32, .inl fmn))] sz [.ref m0, .int p1, .int p2, .int p3, .int p4, .int p5]) (va_Qi (fun (r : Int32) (u : Int32) => u = r) (fun u t => ∃ (mpn2 : Nat), ∃ (fmk2 : Nat → Int32), ∃ (fmn2 : Nat → Int32), (mpn2 ≤ 8) ∧ (stepN mpn mpn2 p1 p2 p3 p4 p5 u) ∧ ((mpn2 = mpn + 1 → fmk2 mpn = p1 ∧ (fmn2 (4 * mpn) = p2 ∧ fmn2 (4 * mpn + 1) = p3 ∧ fmn2 (4 * mpn + 2) = p4 ∧ fmn2 (4 * mpn + 3) = p5)) ∧ (∀ i, i < mpn → fmk2 i = fmk i) ∧ (∀ i, i < 4 * mpn → fmn2 i = fmn i)) ∧ va_P D vwCl [(m0, .inr (12, [.ref mp, .int (nI ms), .int (nI C), .int (nI P), .ref mw, .ref mh, .ref mo, .int (nI sS), .int x_value, .int x_digits, .int (nI rc), .int (nI rp), .int (nI ic), .ref m5, .ref m6, .ref m7, .long x_all, .int (nI mpn2), .ref mk, .ref mn, .int x_kind, .ref mq, .ref m8, .ref m9, .int x_last, .int x_steps, .int x_isRound, .int x_tablesDone, .ref mz, .int (nI mrs), .ref mb, .ref md, .long x_hash])), (mk, .inl (cs 0, 8, .inl fmk2)), (mn, .inl (cs 0, 32, .inl fmn2))] t.heap ∧ va_D (va_A [(m0, .inr (12, [.ref mp, .int (nI ms), .int (nI C), .int (nI P), .ref mw, .ref mh, .ref mo, .int (nI sS), .int x_value, .int x_digits, .int (nI rc), .int (nI rp), .int (nI ic), .ref m5, .ref m6, .ref m7, .long x_all, .int (nI mpn), .ref mk, .ref mn, .int x_kind, .ref mq, .ref m8, .ref m9, .int x_last, .int x_steps, .int x_isRound, .int x_tablesDone, .ref mz, .int (nI mrs), .ref mb, .ref md, .long x_hash])), (mk, .inl (cs 0, 8, .inl fmk)), (mn, .inl (cs 0, 32, .inl fmn))] sz) [(m0, .inr (12, [.ref mp, .int (nI ms), .int (nI C), .int (nI P), .ref mw, .ref mh, .ref mo, .int (nI sS), .int x_value, .int x_digits, .int (nI rc), .int (nI rp), .int (nI ic), .ref m5, .ref m6, .ref m7, .long x_all, .int (nI mpn2), .ref mk, .ref mn, .int x_kind, .ref mq, .ref m8, .ref m9, .int x_last, .int x_steps, .int x_isRound, .int x_tablesDone, .ref mz, .int (nI mrs), .ref mb, .ref md, .long x_hash])), (mk, .inl (cs 0, 8, .inl fmk2)), (mn, .inl (cs 0, 32, .inl fmn2))]) (va_A [(m0, .inr (12, [.ref mp, .int (nI ms), .int (nI C), .int (nI P), .ref mw, .ref mh, .ref mo, .int (nI sS), .int x_value, .int x_digits, .int (nI rc), .int (nI rp), .int (nI ic), .ref m5, .ref m6, .ref m7, .long x_all, .int (nI mpn), .ref mk, .ref mn, .int x_kind, .ref mq, .ref m8, .ref m9, .int x_last, .int x_steps, .int x_isRound, .int x_tablesDone, .ref mz, .int (nI mrs), .ref mb, .ref md, .long x_hash])), (mk, .inl (cs 0, 8, .inl fmk)), (mn, .inl (cs 0, 32, .inl fmn))] sz)) 0 0 (va_A [(m0, .inr (12, [.ref mp, .int (nI ms), .int (nI C), .int (nI P), .ref mw, .ref mh, .ref mo, .int (nI sS), .int x_value, .int x_digits, .int (nI rc), .int (nI rp), .int (nI ic), .ref m5, .ref m6, .ref m7, .long x_all, .int (nI mpn), .ref mk, .ref mn, .int x_kind, .ref mq, .ref m8, .ref m9, .int x_last, .int x_steps, .int x_isRound, .int x_tablesDone, .ref mz, .int (nI mrs), .ref mb, .ref md, .long x_hash])), (mk, .inl (cs 0, 8, .inl fmk)), (mn, .inl (cs 0, 32, .inl fmn))] sz) := by
  refine Met.ofW (cc := cX12_pay) (maxL := 7) (ret := (some .int)) (by decide) rfl ?_
  intro p e s m args below meth c s₁ B hml hv
  obtain ⟨hargs, hsz, hP, hK, hD0⟩ := hv
  have hx := B.exec
  have hb := B.bytes
  have hr := B.returns
  have hts := atoms_spec (ws := Cond.code yX12_pay cX12_pay 7 (some .int) :: gw_tbl) B.pre
  have hg := fun (w : Cond) (h : w ∈ gw_tbl) => hts w (List.mem_cons_of_mem _ h)
  have hown : s.vm.findClass RX12 = some m.cls := findClass_of_methodNamed B.named
  have hlocks := B.notSynchronized
  subst hsz
  have hD := hD0.self (sz := s.heap.size)
  generalize hAe : va_A [(m0, .inr (12, [.ref mp, .int (nI ms), .int (nI C), .int (nI P), .ref mw, .ref mh, .ref mo, .int (nI sS), .int x_value, .int x_digits, .int (nI rc), .int (nI rp), .int (nI ic), .ref m5, .ref m6, .ref m7, .long x_all, .int (nI mpn), .ref mk, .ref mn, .int x_kind, .ref mq, .ref m8, .ref m9, .int x_last, .int x_steps, .int x_isRound, .int x_tablesDone, .ref mz, .int (nI mrs), .ref mb, .ref md, .long x_hash])), (mk, .inl (cs 0, 8, .inl fmk)), (mn, .inl (cs 0, 32, .inl fmn))] s.heap.size = A at hD ⊢
  have hA : ∀ q : Nat, s.heap.size ≤ q → A q := fun q h => by rw [← hAe]; exact Or.inr h
  have hS : va_S A s.heap s.heap [] := va_S.rf
  have hP : va_P D vwCl [(m0, .inr (12, [.ref mp, .int (nI ms), .int (nI C), .int (nI P), .ref mw, .ref mh, .ref mo, .int (nI sS), .int x_value, .int x_digits, .int (nI rc), .int (nI rp), .int (nI ic), .ref m5, .ref m6, .ref m7, .long x_all, .int (nI mpn), .ref mk, .ref mn, .int x_kind, .ref mq, .ref m8, .ref m9, .int x_last, .int x_steps, .int x_isRound, .int x_tablesDone, .ref mz, .int (nI mrs), .ref mb, .ref md, .long x_hash])), (mk, .inl (cs 0, 8, .inl fmk)), (mn, .inl (cs 0, 32, .inl fmn))] s.heap := hP
  have hl := lv_entry ([.ref m0, .int p1, .int p2, .int p3, .int p4, .int p5]) (n := 7) (Nat.le_of_ble_eq_true rfl)
  rw [show entryFrame m args 7 = F0 m 0 (lg_sl ([.ref m0, .int p1, .int p2, .int p3, .int p4, .int p5]) ++ List.replicate (7 - (lg_sl ([.ref m0, .int p1, .int p2, .int p3, .int p4, .int p5])).length) Slot.unset).toArray [] from by rw [hargs]; exact lg_entry_eq ..]
  generalize (lg_sl ([.ref m0, .int p1, .int p2, .int p3, .int p4, .int p5]) ++ List.replicate (7 - (lg_sl ([.ref m0, .int p1, .int p2, .int p3, .int p4, .int p5])).length) Slot.unset).toArray = ls at hl ⊢
  have hl : lv_has ls 7 [(0, .ref m0), (1, .int p1), (2, .int p2), (3, .int p3), (4, .int p4), (5, .int p5)] := hl
  refine W_genQ (fun Q hQ => ?_)
  have hlm := lim_le hP4
  have hlq := lim_pos P
  have hsg := sgn_le hP4
  refine lv_iload_n hx hb dX12_pay_0 rfl (lv_at hl 1 rfl) ?_
  refine lv_iconst (v := 4) hx hb dX12_pay_1 (by decide) ?_
  refine lv_icmp_ne (tgt := 10) hx hb dX12_pay_2 (by decide) (fun c_2 => ?_) (fun c_2 => ?_)
  · refine lv_sipush (v := 999) hx hb dX12_pay_10 (by decide) ?_
    refine lv_istore (lv' := [(6, .int 999), (0, .ref m0), (1, .int p1), (2, .int p2), (3, .int p3), (4, .int p4), (5, .int p5)]) hx hb dX12_pay_13 hl (by decide) rfl (fun ls hl => ?_)
    refine lv_iload_n hx hb dX12_pay_15 rfl (lv_at hl 2 rfl) ?_
    refine lv_i2l hx hb dX12_pay_16 rfl ?_
    refine lv_topl (fun z_16 e_16 => ?_)
    refine lv_lconst (v := 0) hx hb dX12_pay_17 (by decide) ?_
    refine lv_ldc2 hx hb hown (hg _ kw_447) dX12_pay_18 ?_
    refine vp_callSi (W.runS (As := [.long z_16, .long 0, .long 4]) (rest := []) ⟨hx, hb, hml, hown, hg⟩ (c_in l z_16 0 4) (va_cwS 3 hg (gw_S kw_317 kw_318 kw_319 kw_316) rfl rfl rfl (by decide +kernel) ⟨(Nat.le_of_ble_eq_true rfl), (Nat.le_of_ble_eq_true rfl)⟩) pr_0 rfl rfl hl.1 rfl (lv_room (Nat.le_of_ble_eq_true rfl)) dX12_pay_21 ⟨(Nat.le_of_ble_eq_true rfl), (Nat.le_of_ble_eq_true rfl)⟩) (fun r_21 h_21 => ?_)
    replace h_21 : r_21 = iw p1 (0 : Int32) (4 : Int32) := h_21.trans (by rw [e_16]; exact il_iw (by decide) (by decide))
    rcases (show r_21 = 0 ∨ r_21 = 1 by rw [h_21]; exact iw_01) with rfl | rfl
    · refine lv_if_eq (tgt := 77) hx hb dX12_pay_24 (by decide) (fun c_24 => ?_) (fun c_24 => absurd c_24 (by decide))
      refine lv_bipush (v := (-102)) hx hb dX12_pay_77 (by decide) ?_
      refine W_sQ hQ ?_
      refine W.widen (k := 0) (n := 0) (Nat.le_of_ble_eq_true rfl) (Nat.le_of_ble_eq_true rfl) ?_
      have hP9 := hP.sub (ws' := [(m0, .inr (12, [.ref mp, .int (nI ms), .int (nI C), .int (nI P), .ref mw, .ref mh, .ref mo, .int (nI sS), .int x_value, .int x_digits, .int (nI rc), .int (nI rp), .int (nI ic), .ref m5, .ref m6, .ref m7, .long x_all, .int (nI mpn), .ref mk, .ref mn, .int x_kind, .ref mq, .ref m8, .ref m9, .int x_last, .int x_steps, .int x_isRound, .int x_tablesDone, .ref mz, .int (nI mrs), .ref mb, .ref md, .long x_hash])), (mk, .inl (cs 0, 8, .inl fmk)), (mn, .inl (cs 0, 32, .inl fmn))]) [0, 1, 2] rfl
      have hD9 := hD.sub (ws' := [(m0, .inr (12, [.ref mp, .int (nI ms), .int (nI C), .int (nI P), .ref mw, .ref mh, .ref mo, .int (nI sS), .int x_value, .int x_digits, .int (nI rc), .int (nI rp), .int (nI ic), .ref m5, .ref m6, .ref m7, .long x_all, .int (nI mpn), .ref mk, .ref mn, .int x_kind, .ref mq, .ref m8, .ref m9, .int x_last, .int x_steps, .int x_isRound, .int x_tablesDone, .ref mz, .int (nI mrs), .ref mb, .ref md, .long x_hash])), (mk, .inl (cs 0, 8, .inl fmk)), (mn, .inl (cs 0, 32, .inl fmn))]) [0, 1, 2] (by decide) rfl
      exact W.iret (v := (-102)) hx hb hr (fun t ht hW => ⟨⟨(-102), (-102), rfl, rfl, ⟨mpn, fmk, fmn, (by omega), (Or.inl ⟨fun q9 => ok_no h_21 (by have q8 := q9.1; exact q8), rfl, rfl⟩), ⟨fun q9 => absurd q9 (by omega), fun _ _ => rfl, fun _ _ => rfl⟩, by rw [ht]; exact hP9, hD9⟩⟩, hS.F ht⟩) hS.2.2 dX12_pay_79
    · refine lv_if_eq (tgt := 77) hx hb dX12_pay_24 (by decide) (fun c_24 => absurd c_24 (by decide)) (fun c_24 => ?_)
      refine lv_iload_n hx hb dX12_pay_27 rfl (lv_at hl 3 rfl) ?_
      refine lv_i2l hx hb dX12_pay_28 rfl ?_
      refine lv_topl (fun z_28 e_28 => ?_)
      refine lv_lconst (v := 0) hx hb dX12_pay_29 (by decide) ?_
      refine lv_ldc2 hx hb hown (hg _ kw_412) dX12_pay_30 ?_
      refine vp_callSi (W.runS (As := [.long z_28, .long 0, .long 999]) (rest := []) ⟨hx, hb, hml, hown, hg⟩ (c_in l z_28 0 999) (va_cwS 3 hg (gw_S kw_317 kw_318 kw_319 kw_316) rfl rfl rfl (by decide +kernel) ⟨(Nat.le_of_ble_eq_true rfl), (Nat.le_of_ble_eq_true rfl)⟩) pr_0 rfl rfl hl.1 rfl (lv_room (Nat.le_of_ble_eq_true rfl)) dX12_pay_33 ⟨(Nat.le_of_ble_eq_true rfl), (Nat.le_of_ble_eq_true rfl)⟩) (fun r_33 h_33 => ?_)
      replace h_33 : r_33 = iw p2 (0 : Int32) (999 : Int32) := h_33.trans (by rw [e_28]; exact il_iw (by decide) (by decide))
      rcases (show r_33 = 0 ∨ r_33 = 1 by rw [h_33]; exact iw_01) with rfl | rfl
      · refine lv_if_eq (tgt := 77) hx hb dX12_pay_36 (by decide) (fun c_36 => ?_) (fun c_36 => absurd c_36 (by decide))
        refine lv_bipush (v := (-102)) hx hb dX12_pay_77 (by decide) ?_
        refine W_sQ hQ ?_
        refine W.widen (k := 0) (n := 0) (Nat.le_of_ble_eq_true rfl) (Nat.le_of_ble_eq_true rfl) ?_
        have hP9 := hP.sub (ws' := [(m0, .inr (12, [.ref mp, .int (nI ms), .int (nI C), .int (nI P), .ref mw, .ref mh, .ref mo, .int (nI sS), .int x_value, .int x_digits, .int (nI rc), .int (nI rp), .int (nI ic), .ref m5, .ref m6, .ref m7, .long x_all, .int (nI mpn), .ref mk, .ref mn, .int x_kind, .ref mq, .ref m8, .ref m9, .int x_last, .int x_steps, .int x_isRound, .int x_tablesDone, .ref mz, .int (nI mrs), .ref mb, .ref md, .long x_hash])), (mk, .inl (cs 0, 8, .inl fmk)), (mn, .inl (cs 0, 32, .inl fmn))]) [0, 1, 2] rfl
        have hD9 := hD.sub (ws' := [(m0, .inr (12, [.ref mp, .int (nI ms), .int (nI C), .int (nI P), .ref mw, .ref mh, .ref mo, .int (nI sS), .int x_value, .int x_digits, .int (nI rc), .int (nI rp), .int (nI ic), .ref m5, .ref m6, .ref m7, .long x_all, .int (nI mpn), .ref mk, .ref mn, .int x_kind, .ref mq, .ref m8, .ref m9, .int x_last, .int x_steps, .int x_isRound, .int x_tablesDone, .ref mz, .int (nI mrs), .ref mb, .ref md, .long x_hash])), (mk, .inl (cs 0, 8, .inl fmk)), (mn, .inl (cs 0, 32, .inl fmn))]) [0, 1, 2] (by decide) rfl
        exact W.iret (v := (-102)) hx hb hr (fun t ht hW => ⟨⟨(-102), (-102), rfl, rfl, ⟨mpn, fmk, fmn, (by omega), (Or.inl ⟨fun q9 => ok_no h_33 (by have q8 := q9.2.1; exact q8), rfl, rfl⟩), ⟨fun q9 => absurd q9 (by omega), fun _ _ => rfl, fun _ _ => rfl⟩, by rw [ht]; exact hP9, hD9⟩⟩, hS.F ht⟩) hS.2.2 dX12_pay_79
      · refine lv_if_eq (tgt := 77) hx hb dX12_pay_36 (by decide) (fun c_36 => absurd c_36 (by decide)) (fun c_36 => ?_)
        refine lv_iload_n hx hb dX12_pay_39 rfl (lv_at hl 4 rfl) ?_
        refine lv_i2l hx hb dX12_pay_40 rfl ?_
        refine lv_topl (fun z_40 e_40 => ?_)
        refine lv_lconst (v := 0) hx hb dX12_pay_41 (by decide) ?_
        refine lv_iload hx hb dX12_pay_42 (lv_at hl 0 rfl) ?_
        refine lv_i2l hx hb dX12_pay_44 rfl ?_
        refine lv_topl (fun z_44 e_44 => ?_)
        obtain rfl : z_44 = (999 : Int64) := e_44.trans (by decide)
        refine vp_callSi (W.runS (As := [.long z_40, .long 0, .long 999]) (rest := []) ⟨hx, hb, hml, hown, hg⟩ (c_in l z_40 0 999) (va_cwS 3 hg (gw_S kw_317 kw_318 kw_319 kw_316) rfl rfl rfl (by decide +kernel) ⟨(Nat.le_of_ble_eq_true rfl), (Nat.le_of_ble_eq_true rfl)⟩) pr_0 rfl rfl hl.1 rfl (lv_room (Nat.le_of_ble_eq_true rfl)) dX12_pay_45 ⟨(Nat.le_of_ble_eq_true rfl), (Nat.le_of_ble_eq_true rfl)⟩) (fun r_45 h_45 => ?_)
        replace h_45 : r_45 = iw p3 (0 : Int32) (999 : Int32) := h_45.trans (by rw [e_40]; exact il_iw (by decide) (by decide))
        rcases (show r_45 = 0 ∨ r_45 = 1 by rw [h_45]; exact iw_01) with rfl | rfl
        · refine lv_if_eq (tgt := 77) hx hb dX12_pay_48 (by decide) (fun c_48 => ?_) (fun c_48 => absurd c_48 (by decide))
          refine lv_bipush (v := (-102)) hx hb dX12_pay_77 (by decide) ?_
          refine W_sQ hQ ?_
          refine W.widen (k := 0) (n := 0) (Nat.le_of_ble_eq_true rfl) (Nat.le_of_ble_eq_true rfl) ?_
          have hP9 := hP.sub (ws' := [(m0, .inr (12, [.ref mp, .int (nI ms), .int (nI C), .int (nI P), .ref mw, .ref mh, .ref mo, .int (nI sS), .int x_value, .int x_digits, .int (nI rc), .int (nI rp), .int (nI ic), .ref m5, .ref m6, .ref m7, .long x_all, .int (nI mpn), .ref mk, .ref mn, .int x_kind, .ref mq, .ref m8, .ref m9, .int x_last, .int x_steps, .int x_isRound, .int x_tablesDone, .ref mz, .int (nI mrs), .ref mb, .ref md, .long x_hash])), (mk, .inl (cs 0, 8, .inl fmk)), (mn, .inl (cs 0, 32, .inl fmn))]) [0, 1, 2] rfl
          have hD9 := hD.sub (ws' := [(m0, .inr (12, [.ref mp, .int (nI ms), .int (nI C), .int (nI P), .ref mw, .ref mh, .ref mo, .int (nI sS), .int x_value, .int x_digits, .int (nI rc), .int (nI rp), .int (nI ic), .ref m5, .ref m6, .ref m7, .long x_all, .int (nI mpn), .ref mk, .ref mn, .int x_kind, .ref mq, .ref m8, .ref m9, .int x_last, .int x_steps, .int x_isRound, .int x_tablesDone, .ref mz, .int (nI mrs), .ref mb, .ref md, .long x_hash])), (mk, .inl (cs 0, 8, .inl fmk)), (mn, .inl (cs 0, 32, .inl fmn))]) [0, 1, 2] (by decide) rfl
          exact W.iret (v := (-102)) hx hb hr (fun t ht hW => ⟨⟨(-102), (-102), rfl, rfl, ⟨mpn, fmk, fmn, (by omega), (Or.inl ⟨fun q9 => ok_no h_45 (by have q8 := q9.2.2.1; rw [pTop_n c_2] at q8; exact q8), rfl, rfl⟩), ⟨fun q9 => absurd q9 (by omega), fun _ _ => rfl, fun _ _ => rfl⟩, by rw [ht]; exact hP9, hD9⟩⟩, hS.F ht⟩) hS.2.2 dX12_pay_79
        · refine lv_if_eq (tgt := 77) hx hb dX12_pay_48 (by decide) (fun c_48 => absurd c_48 (by decide)) (fun c_48 => ?_)
          refine lv_iload hx hb dX12_pay_51 (lv_at hl 5 rfl) ?_
          refine lv_i2l hx hb dX12_pay_53 rfl ?_
          refine lv_topl (fun z_53 e_53 => ?_)
          refine lv_lconst (v := 0) hx hb dX12_pay_54 (by decide) ?_
          refine lv_ldc2 hx hb hown (hg _ kw_412) dX12_pay_55 ?_
          refine vp_callSi (W.runS (As := [.long z_53, .long 0, .long 999]) (rest := []) ⟨hx, hb, hml, hown, hg⟩ (c_in l z_53 0 999) (va_cwS 3 hg (gw_S kw_317 kw_318 kw_319 kw_316) rfl rfl rfl (by decide +kernel) ⟨(Nat.le_of_ble_eq_true rfl), (Nat.le_of_ble_eq_true rfl)⟩) pr_0 rfl rfl hl.1 rfl (lv_room (Nat.le_of_ble_eq_true rfl)) dX12_pay_58 ⟨(Nat.le_of_ble_eq_true rfl), (Nat.le_of_ble_eq_true rfl)⟩) (fun r_58 h_58 => ?_)
          replace h_58 : r_58 = iw p4 (0 : Int32) (999 : Int32) := h_58.trans (by rw [e_53]; exact il_iw (by decide) (by decide))
          rcases (show r_58 = 0 ∨ r_58 = 1 by rw [h_58]; exact iw_01) with rfl | rfl
          · refine lv_if_eq (tgt := 77) hx hb dX12_pay_61 (by decide) (fun c_61 => ?_) (fun c_61 => absurd c_61 (by decide))
            refine lv_bipush (v := (-102)) hx hb dX12_pay_77 (by decide) ?_
            refine W_sQ hQ ?_
            refine W.widen (k := 0) (n := 0) (Nat.le_of_ble_eq_true rfl) (Nat.le_of_ble_eq_true rfl) ?_
            have hP9 := hP.sub (ws' := [(m0, .inr (12, [.ref mp, .int (nI ms), .int (nI C), .int (nI P), .ref mw, .ref mh, .ref mo, .int (nI sS), .int x_value, .int x_digits, .int (nI rc), .int (nI rp), .int (nI ic), .ref m5, .ref m6, .ref m7, .long x_all, .int (nI mpn), .ref mk, .ref mn, .int x_kind, .ref mq, .ref m8, .ref m9, .int x_last, .int x_steps, .int x_isRound, .int x_tablesDone, .ref mz, .int (nI mrs), .ref mb, .ref md, .long x_hash])), (mk, .inl (cs 0, 8, .inl fmk)), (mn, .inl (cs 0, 32, .inl fmn))]) [0, 1, 2] rfl
            have hD9 := hD.sub (ws' := [(m0, .inr (12, [.ref mp, .int (nI ms), .int (nI C), .int (nI P), .ref mw, .ref mh, .ref mo, .int (nI sS), .int x_value, .int x_digits, .int (nI rc), .int (nI rp), .int (nI ic), .ref m5, .ref m6, .ref m7, .long x_all, .int (nI mpn), .ref mk, .ref mn, .int x_kind, .ref mq, .ref m8, .ref m9, .int x_last, .int x_steps, .int x_isRound, .int x_tablesDone, .ref mz, .int (nI mrs), .ref mb, .ref md, .long x_hash])), (mk, .inl (cs 0, 8, .inl fmk)), (mn, .inl (cs 0, 32, .inl fmn))]) [0, 1, 2] (by decide) rfl
            exact W.iret (v := (-102)) hx hb hr (fun t ht hW => ⟨⟨(-102), (-102), rfl, rfl, ⟨mpn, fmk, fmn, (by omega), (Or.inl ⟨fun q9 => ok_no h_58 (by have q8 := q9.2.2.2.1; exact q8), rfl, rfl⟩), ⟨fun q9 => absurd q9 (by omega), fun _ _ => rfl, fun _ _ => rfl⟩, by rw [ht]; exact hP9, hD9⟩⟩, hS.F ht⟩) hS.2.2 dX12_pay_79
          · refine lv_if_eq (tgt := 77) hx hb dX12_pay_61 (by decide) (fun c_61 => absurd c_61 (by decide)) (fun c_61 => ?_)
            refine lv_iload hx hb dX12_pay_64 (lv_at hl 6 rfl) ?_
            refine lv_i2l hx hb dX12_pay_66 rfl ?_
            refine lv_topl (fun z_66 e_66 => ?_)
            refine lv_lconst (v := 0) hx hb dX12_pay_67 (by decide) ?_
            refine lv_iload hx hb dX12_pay_68 (lv_at hl 0 rfl) ?_
            refine lv_i2l hx hb dX12_pay_70 rfl ?_
            refine lv_topl (fun z_70 e_70 => ?_)
            obtain rfl : z_70 = (999 : Int64) := e_70.trans (by decide)
            refine vp_callSi (W.runS (As := [.long z_66, .long 0, .long 999]) (rest := []) ⟨hx, hb, hml, hown, hg⟩ (c_in l z_66 0 999) (va_cwS 3 hg (gw_S kw_317 kw_318 kw_319 kw_316) rfl rfl rfl (by decide +kernel) ⟨(Nat.le_of_ble_eq_true rfl), (Nat.le_of_ble_eq_true rfl)⟩) pr_0 rfl rfl hl.1 rfl (lv_room (Nat.le_of_ble_eq_true rfl)) dX12_pay_71 ⟨(Nat.le_of_ble_eq_true rfl), (Nat.le_of_ble_eq_true rfl)⟩) (fun r_71 h_71 => ?_)
            replace h_71 : r_71 = iw p5 (0 : Int32) (999 : Int32) := h_71.trans (by rw [e_66]; exact il_iw (by decide) (by decide))
            rcases (show r_71 = 0 ∨ r_71 = 1 by rw [h_71]; exact iw_01) with rfl | rfl
            · refine lv_if_ne (tgt := 80) hx hb dX12_pay_74 (by decide) (fun c_74 => absurd c_74 (by decide)) (fun c_74 => ?_)
              refine lv_bipush (v := (-102)) hx hb dX12_pay_77 (by decide) ?_
              refine W_sQ hQ ?_
              refine W.widen (k := 0) (n := 0) (Nat.le_of_ble_eq_true rfl) (Nat.le_of_ble_eq_true rfl) ?_
              have hP9 := hP.sub (ws' := [(m0, .inr (12, [.ref mp, .int (nI ms), .int (nI C), .int (nI P), .ref mw, .ref mh, .ref mo, .int (nI sS), .int x_value, .int x_digits, .int (nI rc), .int (nI rp), .int (nI ic), .ref m5, .ref m6, .ref m7, .long x_all, .int (nI mpn), .ref mk, .ref mn, .int x_kind, .ref mq, .ref m8, .ref m9, .int x_last, .int x_steps, .int x_isRound, .int x_tablesDone, .ref mz, .int (nI mrs), .ref mb, .ref md, .long x_hash])), (mk, .inl (cs 0, 8, .inl fmk)), (mn, .inl (cs 0, 32, .inl fmn))]) [0, 1, 2] rfl
              have hD9 := hD.sub (ws' := [(m0, .inr (12, [.ref mp, .int (nI ms), .int (nI C), .int (nI P), .ref mw, .ref mh, .ref mo, .int (nI sS), .int x_value, .int x_digits, .int (nI rc), .int (nI rp), .int (nI ic), .ref m5, .ref m6, .ref m7, .long x_all, .int (nI mpn), .ref mk, .ref mn, .int x_kind, .ref mq, .ref m8, .ref m9, .int x_last, .int x_steps, .int x_isRound, .int x_tablesDone, .ref mz, .int (nI mrs), .ref mb, .ref md, .long x_hash])), (mk, .inl (cs 0, 8, .inl fmk)), (mn, .inl (cs 0, 32, .inl fmn))]) [0, 1, 2] (by decide) rfl
              exact W.iret (v := (-102)) hx hb hr (fun t ht hW => ⟨⟨(-102), (-102), rfl, rfl, ⟨mpn, fmk, fmn, (by omega), (Or.inl ⟨fun q9 => ok_no h_71 (by have q8 := q9.2.2.2.2; rw [pTop_n c_2] at q8; exact q8), rfl, rfl⟩), ⟨fun q9 => absurd q9 (by omega), fun _ _ => rfl, fun _ _ => rfl⟩, by rw [ht]; exact hP9, hD9⟩⟩, hS.F ht⟩) hS.2.2 dX12_pay_79
            · refine lv_if_ne (tgt := 80) hx hb dX12_pay_74 (by decide) (fun c_74 => ?_) (fun c_74 => absurd c_74 (by decide))
              refine lv_aload_n hx hb dX12_pay_80 rfl (lv_at hl 1 rfl) ?_
              refine va_get (D := D) (ci := 12) (v := .int (nI mpn)) (C := RX12) (T := TX12) (N := 33) hx hb hg gwX12 hown hK hP 0 rfl rfl 17 (by decide) (hg _ kw_320) (fun _ h9 => h9) rfl dX12_pay_81 ?_
              refine lv_bipush (v := 8) hx hb dX12_pay_84 (by decide) ?_
              refine lv_icmp_ne (tgt := 92) hx hb dX12_pay_86 (by decide) (fun c_86 => ?_) (fun c_86 => ?_)
              · have n_86 : ¬ mpn = 8 := b_eq_f (by omega) (by omega) c_86
                refine lv_aload_n hx hb dX12_pay_92 rfl (lv_at hl 1 rfl) ?_
                refine va_get (D := D) (ci := 12) (v := .ref mk) (C := RX12) (T := TX12) (N := 33) hx hb hg gwX12 hown hK hP 0 rfl rfl 18 (by decide) (hg _ kw_324) (fun _ h9 => h9) rfl dX12_pay_93 ?_
                refine lv_aload_n hx hb dX12_pay_96 rfl (lv_at hl 1 rfl) ?_
                refine va_get (D := D) (ci := 12) (v := .int (nI mpn)) (C := RX12) (T := TX12) (N := 33) hx hb hg gwX12 hown hK hP 0 rfl rfl 17 (by decide) (hg _ kw_320) (fun _ h9 => h9) rfl dX12_pay_97 ?_
                refine lv_iload_n hx hb dX12_pay_100 rfl (lv_at hl 2 rfl) ?_
                refine va_iast hx hb hK hP hD hS 1 0 rfl rfl (vp_in_nI (show mpn < 8 by omega) (by decide)) dX12_pay_101 (fun H locs hP hD hS => ?_)
                obtain ⟨f_101, hf_101⟩ : ∃ f9, f9 = (upd fmk (nI mpn).toNatClampNeg p1) := ⟨_, rfl⟩
                rw [← hf_101] at hP hD
                have hP : va_P D vwCl [(m0, .inr (12, [.ref mp, .int (nI ms), .int (nI C), .int (nI P), .ref mw, .ref mh, .ref mo, .int (nI sS), .int x_value, .int x_digits, .int (nI rc), .int (nI rp), .int (nI ic), .ref m5, .ref m6, .ref m7, .long x_all, .int (nI mpn), .ref mk, .ref mn, .int x_kind, .ref mq, .ref m8, .ref m9, .int x_last, .int x_steps, .int x_isRound, .int x_tablesDone, .ref mz, .int (nI mrs), .ref mb, .ref md, .long x_hash])), (mk, .inl (cs 0, 8, .inl f_101)), (mn, .inl (cs 0, 32, .inl fmn))] H := hP
                have hD : va_D A [(m0, .inr (12, [.ref mp, .int (nI ms), .int (nI C), .int (nI P), .ref mw, .ref mh, .ref mo, .int (nI sS), .int x_value, .int x_digits, .int (nI rc), .int (nI rp), .int (nI ic), .ref m5, .ref m6, .ref m7, .long x_all, .int (nI mpn), .ref mk, .ref mn, .int x_kind, .ref mq, .ref m8, .ref m9, .int x_last, .int x_steps, .int x_isRound, .int x_tablesDone, .ref mz, .int (nI mrs), .ref mb, .ref md, .long x_hash])), (mk, .inl (cs 0, 8, .inl f_101)), (mn, .inl (cs 0, 32, .inl fmn))] := hD
                refine lv_aload_n hx hb dX12_pay_102 rfl (lv_at hl 1 rfl) ?_
                refine va_get (D := D) (ci := 12) (v := .ref mn) (C := RX12) (T := TX12) (N := 33) hx hb hg gwX12 hown hK hP 0 rfl rfl 19 (by decide) (hg _ kw_327) (fun _ h9 => h9) rfl dX12_pay_103 ?_
                refine lv_iconst (v := 4) hx hb dX12_pay_106 (by decide) ?_
                refine lv_aload_n hx hb dX12_pay_107 rfl (lv_at hl 1 rfl) ?_
                refine va_get (D := D) (ci := 12) (v := .int (nI mpn)) (C := RX12) (T := TX12) (N := 33) hx hb hg gwX12 hown hK hP 0 rfl rfl 17 (by decide) (hg _ kw_320) (fun _ h9 => h9) rfl dX12_pay_108 ?_
                refine lv_imul hx hb dX12_pay_111 ?_
                refine lv_topi (fun z_111 e_111 => ?_)
                obtain rfl : z_111 = nI (4 * mpn) := e_111.trans (pk_mul _ _)
                refine lv_iload_n hx hb dX12_pay_112 rfl (lv_at hl 3 rfl) ?_
                refine va_iast hx hb hK hP hD hS 2 0 rfl rfl (vp_in_nI (show 4 * mpn < 32 by omega) (by decide)) dX12_pay_113 (fun H locs hP hD hS => ?_)
                obtain ⟨f_113, hf_113⟩ : ∃ f9, f9 = (upd fmn (nI (4 * mpn)).toNatClampNeg p2) := ⟨_, rfl⟩
                rw [← hf_113] at hP hD
                have hP : va_P D vwCl [(m0, .inr (12, [.ref mp, .int (nI ms), .int (nI C), .int (nI P), .ref mw, .ref mh, .ref mo, .int (nI sS), .int x_value, .int x_digits, .int (nI rc), .int (nI rp), .int (nI ic), .ref m5, .ref m6, .ref m7, .long x_all, .int (nI mpn), .ref mk, .ref mn, .int x_kind, .ref mq, .ref m8, .ref m9, .int x_last, .int x_steps, .int x_isRound, .int x_tablesDone, .ref mz, .int (nI mrs), .ref mb, .ref md, .long x_hash])), (mk, .inl (cs 0, 8, .inl f_101)), (mn, .inl (cs 0, 32, .inl f_113))] H := hP
                have hD : va_D A [(m0, .inr (12, [.ref mp, .int (nI ms), .int (nI C), .int (nI P), .ref mw, .ref mh, .ref mo, .int (nI sS), .int x_value, .int x_digits, .int (nI rc), .int (nI rp), .int (nI ic), .ref m5, .ref m6, .ref m7, .long x_all, .int (nI mpn), .ref mk, .ref mn, .int x_kind, .ref mq, .ref m8, .ref m9, .int x_last, .int x_steps, .int x_isRound, .int x_tablesDone, .ref mz, .int (nI mrs), .ref mb, .ref md, .long x_hash])), (mk, .inl (cs 0, 8, .inl f_101)), (mn, .inl (cs 0, 32, .inl f_113))] := hD
                refine lv_aload_n hx hb dX12_pay_114 rfl (lv_at hl 1 rfl) ?_
                refine va_get (D := D) (ci := 12) (v := .ref mn) (C := RX12) (T := TX12) (N := 33) hx hb hg gwX12 hown hK hP 0 rfl rfl 19 (by decide) (hg _ kw_327) (fun _ h9 => h9) rfl dX12_pay_115 ?_
                refine lv_iconst (v := 4) hx hb dX12_pay_118 (by decide) ?_
                refine lv_aload_n hx hb dX12_pay_119 rfl (lv_at hl 1 rfl) ?_
                refine va_get (D := D) (ci := 12) (v := .int (nI mpn)) (C := RX12) (T := TX12) (N := 33) hx hb hg gwX12 hown hK hP 0 rfl rfl 17 (by decide) (hg _ kw_320) (fun _ h9 => h9) rfl dX12_pay_120 ?_
                refine lv_imul hx hb dX12_pay_123 ?_
                refine lv_topi (fun z_123 e_123 => ?_)
                obtain rfl : z_123 = nI (4 * mpn) := e_123.trans (pk_mul _ _)
                refine lv_iconst (v := 1) hx hb dX12_pay_124 (by decide) ?_
                refine lv_iadd hx hb dX12_pay_125 ?_
                refine lv_topi (fun z_125 e_125 => ?_)
                obtain rfl : z_125 = nI (4 * mpn + 1) := e_125.trans (nI_add _ _)
                refine lv_iload_n hx hb dX12_pay_126 rfl (lv_at hl 4 rfl) ?_
                refine va_iast hx hb hK hP hD hS 2 0 rfl rfl (vp_in_nI (show 4 * mpn + 1 < 32 by omega) (by decide)) dX12_pay_127 (fun H locs hP hD hS => ?_)
                obtain ⟨f_127, hf_127⟩ : ∃ f9, f9 = (upd f_113 (nI (4 * mpn + 1)).toNatClampNeg p3) := ⟨_, rfl⟩
                rw [← hf_127] at hP hD
                have hP : va_P D vwCl [(m0, .inr (12, [.ref mp, .int (nI ms), .int (nI C), .int (nI P), .ref mw, .ref mh, .ref mo, .int (nI sS), .int x_value, .int x_digits, .int (nI rc), .int (nI rp), .int (nI ic), .ref m5, .ref m6, .ref m7, .long x_all, .int (nI mpn), .ref mk, .ref mn, .int x_kind, .ref mq, .ref m8, .ref m9, .int x_last, .int x_steps, .int x_isRound, .int x_tablesDone, .ref mz, .int (nI mrs), .ref mb, .ref md, .long x_hash])), (mk, .inl (cs 0, 8, .inl f_101)), (mn, .inl (cs 0, 32, .inl f_127))] H := hP
                have hD : va_D A [(m0, .inr (12, [.ref mp, .int (nI ms), .int (nI C), .int (nI P), .ref mw, .ref mh, .ref mo, .int (nI sS), .int x_value, .int x_digits, .int (nI rc), .int (nI rp), .int (nI ic), .ref m5, .ref m6, .ref m7, .long x_all, .int (nI mpn), .ref mk, .ref mn, .int x_kind, .ref mq, .ref m8, .ref m9, .int x_last, .int x_steps, .int x_isRound, .int x_tablesDone, .ref mz, .int (nI mrs), .ref mb, .ref md, .long x_hash])), (mk, .inl (cs 0, 8, .inl f_101)), (mn, .inl (cs 0, 32, .inl f_127))] := hD
                refine lv_aload_n hx hb dX12_pay_128 rfl (lv_at hl 1 rfl) ?_
                refine va_get (D := D) (ci := 12) (v := .ref mn) (C := RX12) (T := TX12) (N := 33) hx hb hg gwX12 hown hK hP 0 rfl rfl 19 (by decide) (hg _ kw_327) (fun _ h9 => h9) rfl dX12_pay_129 ?_
                refine lv_iconst (v := 4) hx hb dX12_pay_132 (by decide) ?_
                refine lv_aload_n hx hb dX12_pay_133 rfl (lv_at hl 1 rfl) ?_
                refine va_get (D := D) (ci := 12) (v := .int (nI mpn)) (C := RX12) (T := TX12) (N := 33) hx hb hg gwX12 hown hK hP 0 rfl rfl 17 (by decide) (hg _ kw_320) (fun _ h9 => h9) rfl dX12_pay_134 ?_
                refine lv_imul hx hb dX12_pay_137 ?_
                refine lv_topi (fun z_137 e_137 => ?_)
                obtain rfl : z_137 = nI (4 * mpn) := e_137.trans (pk_mul _ _)
                refine lv_iconst (v := 2) hx hb dX12_pay_138 (by decide) ?_
                refine lv_iadd hx hb dX12_pay_139 ?_
                refine lv_topi (fun z_139 e_139 => ?_)
                obtain rfl : z_139 = nI (4 * mpn + 2) := e_139.trans (nI_add _ _)
                refine lv_iload hx hb dX12_pay_140 (lv_at hl 5 rfl) ?_
                refine va_iast hx hb hK hP hD hS 2 0 rfl rfl (vp_in_nI (show 4 * mpn + 2 < 32 by omega) (by decide)) dX12_pay_142 (fun H locs hP hD hS => ?_)
                obtain ⟨f_142, hf_142⟩ : ∃ f9, f9 = (upd f_127 (nI (4 * mpn + 2)).toNatClampNeg p4) := ⟨_, rfl⟩
                rw [← hf_142] at hP hD
                have hP : va_P D vwCl [(m0, .inr (12, [.ref mp, .int (nI ms), .int (nI C), .int (nI P), .ref mw, .ref mh, .ref mo, .int (nI sS), .int x_value, .int x_digits, .int (nI rc), .int (nI rp), .int (nI ic), .ref m5, .ref m6, .ref m7, .long x_all, .int (nI mpn), .ref mk, .ref mn, .int x_kind, .ref mq, .ref m8, .ref m9, .int x_last, .int x_steps, .int x_isRound, .int x_tablesDone, .ref mz, .int (nI mrs), .ref mb, .ref md, .long x_hash])), (mk, .inl (cs 0, 8, .inl f_101)), (mn, .inl (cs 0, 32, .inl f_142))] H := hP
                have hD : va_D A [(m0, .inr (12, [.ref mp, .int (nI ms), .int (nI C), .int (nI P), .ref mw, .ref mh, .ref mo, .int (nI sS), .int x_value, .int x_digits, .int (nI rc), .int (nI rp), .int (nI ic), .ref m5, .ref m6, .ref m7, .long x_all, .int (nI mpn), .ref mk, .ref mn, .int x_kind, .ref mq, .ref m8, .ref m9, .int x_last, .int x_steps, .int x_isRound, .int x_tablesDone, .ref mz, .int (nI mrs), .ref mb, .ref md, .long x_hash])), (mk, .inl (cs 0, 8, .inl f_101)), (mn, .inl (cs 0, 32, .inl f_142))] := hD
                refine lv_aload_n hx hb dX12_pay_143 rfl (lv_at hl 1 rfl) ?_
                refine va_get (D := D) (ci := 12) (v := .ref mn) (C := RX12) (T := TX12) (N := 33) hx hb hg gwX12 hown hK hP 0 rfl rfl 19 (by decide) (hg _ kw_327) (fun _ h9 => h9) rfl dX12_pay_144 ?_
                refine lv_iconst (v := 4) hx hb dX12_pay_147 (by decide) ?_
                refine lv_aload_n hx hb dX12_pay_148 rfl (lv_at hl 1 rfl) ?_
                refine va_get (D := D) (ci := 12) (v := .int (nI mpn)) (C := RX12) (T := TX12) (N := 33) hx hb hg gwX12 hown hK hP 0 rfl rfl 17 (by decide) (hg _ kw_320) (fun _ h9 => h9) rfl dX12_pay_149 ?_
                refine lv_imul hx hb dX12_pay_152 ?_
                refine lv_topi (fun z_152 e_152 => ?_)
                obtain rfl : z_152 = nI (4 * mpn) := e_152.trans (pk_mul _ _)
                refine lv_iconst (v := 3) hx hb dX12_pay_153 (by decide) ?_
                refine lv_iadd hx hb dX12_pay_154 ?_
                refine lv_topi (fun z_154 e_154 => ?_)
                obtain rfl : z_154 = nI (4 * mpn + 3) := e_154.trans (nI_add _ _)
                refine lv_iload hx hb dX12_pay_155 (lv_at hl 6 rfl) ?_
                refine va_iast hx hb hK hP hD hS 2 0 rfl rfl (vp_in_nI (show 4 * mpn + 3 < 32 by omega) (by decide)) dX12_pay_157 (fun H locs hP hD hS => ?_)
                obtain ⟨f_157, hf_157⟩ : ∃ f9, f9 = (upd f_142 (nI (4 * mpn + 3)).toNatClampNeg p5) := ⟨_, rfl⟩
                rw [← hf_157] at hP hD
                have hP : va_P D vwCl [(m0, .inr (12, [.ref mp, .int (nI ms), .int (nI C), .int (nI P), .ref mw, .ref mh, .ref mo, .int (nI sS), .int x_value, .int x_digits, .int (nI rc), .int (nI rp), .int (nI ic), .ref m5, .ref m6, .ref m7, .long x_all, .int (nI mpn), .ref mk, .ref mn, .int x_kind, .ref mq, .ref m8, .ref m9, .int x_last, .int x_steps, .int x_isRound, .int x_tablesDone, .ref mz, .int (nI mrs), .ref mb, .ref md, .long x_hash])), (mk, .inl (cs 0, 8, .inl f_101)), (mn, .inl (cs 0, 32, .inl f_157))] H := hP
                have hD : va_D A [(m0, .inr (12, [.ref mp, .int (nI ms), .int (nI C), .int (nI P), .ref mw, .ref mh, .ref mo, .int (nI sS), .int x_value, .int x_digits, .int (nI rc), .int (nI rp), .int (nI ic), .ref m5, .ref m6, .ref m7, .long x_all, .int (nI mpn), .ref mk, .ref mn, .int x_kind, .ref mq, .ref m8, .ref m9, .int x_last, .int x_steps, .int x_isRound, .int x_tablesDone, .ref mz, .int (nI mrs), .ref mb, .ref md, .long x_hash])), (mk, .inl (cs 0, 8, .inl f_101)), (mn, .inl (cs 0, 32, .inl f_157))] := hD
                refine lv_aload_n hx hb dX12_pay_158 rfl (lv_at hl 1 rfl) ?_
                refine lv_dup hx hb dX12_pay_159 rfl ?_
                refine va_get (D := D) (ci := 12) (v := .int (nI mpn)) (C := RX12) (T := TX12) (N := 33) hx hb hg gwX12 hown hK hP 0 rfl rfl 17 (by decide) (hg _ kw_320) (fun _ h9 => h9) rfl dX12_pay_160 ?_
                refine lv_iconst (v := 1) hx hb dX12_pay_163 (by decide) ?_
                refine lv_iadd hx hb dX12_pay_164 ?_
                refine lv_topi (fun z_164 e_164 => ?_)
                obtain rfl : z_164 = nI (mpn + 1) := e_164.trans (nI_add _ _)
                refine va_put (D := D) (ci := 12) (v := .int (nI (mpn + 1))) (ty := .int) (C := RX12) (T := TX12) (N := 33) hx hb hg gwX12 tyX12 tyX12_ok nmX12 hown hK hP hD hS 0 rfl rfl 17 (by decide) (hg _ kw_320) (fun _ h9 => h9) rfl (by decide +kernel) rfl rfl (Nat.le_of_ble_eq_true rfl) dX12_pay_165 (fun H locs hP hD hS => ?_)
                have hP : va_P D vwCl [(m0, .inr (12, [.ref mp, .int (nI ms), .int (nI C), .int (nI P), .ref mw, .ref mh, .ref mo, .int (nI sS), .int x_value, .int x_digits, .int (nI rc), .int (nI rp), .int (nI ic), .ref m5, .ref m6, .ref m7, .long x_all, .int (nI (mpn + 1)), .ref mk, .ref mn, .int x_kind, .ref mq, .ref m8, .ref m9, .int x_last, .int x_steps, .int x_isRound, .int x_tablesDone, .ref mz, .int (nI mrs), .ref mb, .ref md, .long x_hash])), (mk, .inl (cs 0, 8, .inl f_101)), (mn, .inl (cs 0, 32, .inl f_157))] H := hP
                have hD : va_D A [(m0, .inr (12, [.ref mp, .int (nI ms), .int (nI C), .int (nI P), .ref mw, .ref mh, .ref mo, .int (nI sS), .int x_value, .int x_digits, .int (nI rc), .int (nI rp), .int (nI ic), .ref m5, .ref m6, .ref m7, .long x_all, .int (nI (mpn + 1)), .ref mk, .ref mn, .int x_kind, .ref mq, .ref m8, .ref m9, .int x_last, .int x_steps, .int x_isRound, .int x_tablesDone, .ref mz, .int (nI mrs), .ref mb, .ref md, .long x_hash])), (mk, .inl (cs 0, 8, .inl f_101)), (mn, .inl (cs 0, 32, .inl f_157))] := hD
                refine lv_aload_n hx hb dX12_pay_168 rfl (lv_at hl 1 rfl) ?_
                refine va_get (D := D) (ci := 12) (v := .int (nI (mpn + 1))) (C := RX12) (T := TX12) (N := 33) hx hb hg gwX12 hown hK hP 0 rfl rfl 17 (by decide) (hg _ kw_320) (fun _ h9 => h9) rfl dX12_pay_169 ?_
                refine lv_iconst (v := 1) hx hb dX12_pay_172 (by decide) ?_
                refine lv_isub hx hb dX12_pay_173 ?_
                refine lv_topi (fun z_173 e_173 => ?_)
                obtain rfl : z_173 = nI mpn := e_173.trans (nI_pred mpn)
                refine W_sQ hQ ?_
                refine W.widen (k := 0) (n := 0) (Nat.le_of_ble_eq_true rfl) (Nat.le_of_ble_eq_true rfl) ?_
                have hk9 := up_k (by omega) hf_101
                have hn9 := up_4 (by omega) hf_113 hf_127 hf_142 hf_157
                have hP9 := hP.sub (ws' := [(m0, .inr (12, [.ref mp, .int (nI ms), .int (nI C), .int (nI P), .ref mw, .ref mh, .ref mo, .int (nI sS), .int x_value, .int x_digits, .int (nI rc), .int (nI rp), .int (nI ic), .ref m5, .ref m6, .ref m7, .long x_all, .int (nI (mpn + 1)), .ref mk, .ref mn, .int x_kind, .ref mq, .ref m8, .ref m9, .int x_last, .int x_steps, .int x_isRound, .int x_tablesDone, .ref mz, .int (nI mrs), .ref mb, .ref md, .long x_hash])), (mk, .inl (cs 0, 8, .inl f_101)), (mn, .inl (cs 0, 32, .inl f_157))]) [0, 1, 2] rfl
                have hD9 := hD.sub (ws' := [(m0, .inr (12, [.ref mp, .int (nI ms), .int (nI C), .int (nI P), .ref mw, .ref mh, .ref mo, .int (nI sS), .int x_value, .int x_digits, .int (nI rc), .int (nI rp), .int (nI ic), .ref m5, .ref m6, .ref m7, .long x_all, .int (nI (mpn + 1)), .ref mk, .ref mn, .int x_kind, .ref mq, .ref m8, .ref m9, .int x_last, .int x_steps, .int x_isRound, .int x_tablesDone, .ref mz, .int (nI mrs), .ref mb, .ref md, .long x_hash])), (mk, .inl (cs 0, 8, .inl f_101)), (mn, .inl (cs 0, 32, .inl f_157))]) [0, 1, 2] (by decide) rfl
                exact W.iret (v := (nI mpn)) hx hb hr (fun t ht hW => ⟨⟨(nI mpn), (nI mpn), rfl, rfl, ⟨mpn + 1, f_101, f_157, (by omega), (Or.inr (Or.inr ⟨⟨h_21.symm, h_33.symm, by rw [pTop_n c_2]; exact h_45.symm, h_58.symm, by rw [pTop_n c_2]; exact h_71.symm⟩, by omega, rfl, rfl⟩)), ⟨fun _ => ⟨hk9.1, hn9.1⟩, fun i hi => hk9.2 i (by omega), hn9.2⟩, by rw [ht]; exact hP9, hD9⟩⟩, hS.F ht⟩) hS.2.2 dX12_pay_174
              · have n_86 : mpn = 8 := b_eq_t (by omega) (by omega) c_86
                refine lv_bipush (v := (-104)) hx hb dX12_pay_89 (by decide) ?_
                refine W_sQ hQ ?_
                refine W.widen (k := 0) (n := 0) (Nat.le_of_ble_eq_true rfl) (Nat.le_of_ble_eq_true rfl) ?_
                have hP9 := hP.sub (ws' := [(m0, .inr (12, [.ref mp, .int (nI ms), .int (nI C), .int (nI P), .ref mw, .ref mh, .ref mo, .int (nI sS), .int x_value, .int x_digits, .int (nI rc), .int (nI rp), .int (nI ic), .ref m5, .ref m6, .ref m7, .long x_all, .int (nI mpn), .ref mk, .ref mn, .int x_kind, .ref mq, .ref m8, .ref m9, .int x_last, .int x_steps, .int x_isRound, .int x_tablesDone, .ref mz, .int (nI mrs), .ref mb, .ref md, .long x_hash])), (mk, .inl (cs 0, 8, .inl fmk)), (mn, .inl (cs 0, 32, .inl fmn))]) [0, 1, 2] rfl
                have hD9 := hD.sub (ws' := [(m0, .inr (12, [.ref mp, .int (nI ms), .int (nI C), .int (nI P), .ref mw, .ref mh, .ref mo, .int (nI sS), .int x_value, .int x_digits, .int (nI rc), .int (nI rp), .int (nI ic), .ref m5, .ref m6, .ref m7, .long x_all, .int (nI mpn), .ref mk, .ref mn, .int x_kind, .ref mq, .ref m8, .ref m9, .int x_last, .int x_steps, .int x_isRound, .int x_tablesDone, .ref mz, .int (nI mrs), .ref mb, .ref md, .long x_hash])), (mk, .inl (cs 0, 8, .inl fmk)), (mn, .inl (cs 0, 32, .inl fmn))]) [0, 1, 2] (by decide) rfl
                exact W.iret (v := (-104)) hx hb hr (fun t ht hW => ⟨⟨(-104), (-104), rfl, rfl, ⟨mpn, fmk, fmn, (by omega), (Or.inr (Or.inl ⟨⟨h_21.symm, h_33.symm, by rw [pTop_n c_2]; exact h_45.symm, h_58.symm, by rw [pTop_n c_2]; exact h_71.symm⟩, by omega, rfl, rfl⟩)), ⟨fun q9 => absurd q9 (by omega), fun _ _ => rfl, fun _ _ => rfl⟩, by rw [ht]; exact hP9, hD9⟩⟩, hS.F ht⟩) hS.2.2 dX12_pay_91
  · subst c_2
    refine lv_bipush (v := 100) hx hb dX12_pay_5 (by decide) ?_
    refine lv_goto (tgt := 13) hx hb dX12_pay_7 (by decide) ?_
    refine lv_istore (lv' := [(6, .int 100), (0, .ref m0), (1, .int 4), (2, .int p2), (3, .int p3), (4, .int p4), (5, .int p5)]) hx hb dX12_pay_13 hl (by decide) rfl (fun ls hl => ?_)
    refine lv_iload_n hx hb dX12_pay_15 rfl (lv_at hl 2 rfl) ?_
    refine lv_i2l hx hb dX12_pay_16 rfl ?_
    refine lv_topl (fun z_16 e_16 => ?_)
    obtain rfl : z_16 = (4 : Int64) := e_16.trans (by decide)
    refine lv_lconst (v := 0) hx hb dX12_pay_17 (by decide) ?_
    refine lv_ldc2 hx hb hown (hg _ kw_447) dX12_pay_18 ?_
    refine vp_callSi (W.runS (As := [.long 4, .long 0, .long 4]) (rest := []) ⟨hx, hb, hml, hown, hg⟩ (c_in l 4 0 4) (va_cwS 3 hg (gw_S kw_317 kw_318 kw_319 kw_316) rfl rfl rfl (by decide +kernel) ⟨(Nat.le_of_ble_eq_true rfl), (Nat.le_of_ble_eq_true rfl)⟩) pr_0 rfl rfl hl.1 rfl (lv_room (Nat.le_of_ble_eq_true rfl)) dX12_pay_21 ⟨(Nat.le_of_ble_eq_true rfl), (Nat.le_of_ble_eq_true rfl)⟩) (fun r_21 h_21 => ?_)
    replace h_21 : r_21 = iw (4 : Int32) (0 : Int32) (4 : Int32) := h_21.trans (by decide)
    rcases (show r_21 = 0 ∨ r_21 = 1 by rw [h_21]; exact iw_01) with rfl | rfl
    · refine lv_if_eq (tgt := 77) hx hb dX12_pay_24 (by decide) (fun c_24 => ?_) (fun c_24 => absurd c_24 (by decide))
      refine lv_bipush (v := (-102)) hx hb dX12_pay_77 (by decide) ?_
      refine W_sQ hQ ?_
      refine W.widen (k := 0) (n := 0) (Nat.le_of_ble_eq_true rfl) (Nat.le_of_ble_eq_true rfl) ?_
      have hP9 := hP.sub (ws' := [(m0, .inr (12, [.ref mp, .int (nI ms), .int (nI C), .int (nI P), .ref mw, .ref mh, .ref mo, .int (nI sS), .int x_value, .int x_digits, .int (nI rc), .int (nI rp), .int (nI ic), .ref m5, .ref m6, .ref m7, .long x_all, .int (nI mpn), .ref mk, .ref mn, .int x_kind, .ref mq, .ref m8, .ref m9, .int x_last, .int x_steps, .int x_isRound, .int x_tablesDone, .ref mz, .int (nI mrs), .ref mb, .ref md, .long x_hash])), (mk, .inl (cs 0, 8, .inl fmk)), (mn, .inl (cs 0, 32, .inl fmn))]) [0, 1, 2] rfl
      have hD9 := hD.sub (ws' := [(m0, .inr (12, [.ref mp, .int (nI ms), .int (nI C), .int (nI P), .ref mw, .ref mh, .ref mo, .int (nI sS), .int x_value, .int x_digits, .int (nI rc), .int (nI rp), .int (nI ic), .ref m5, .ref m6, .ref m7, .long x_all, .int (nI mpn), .ref mk, .ref mn, .int x_kind, .ref mq, .ref m8, .ref m9, .int x_last, .int x_steps, .int x_isRound, .int x_tablesDone, .ref mz, .int (nI mrs), .ref mb, .ref md, .long x_hash])), (mk, .inl (cs 0, 8, .inl fmk)), (mn, .inl (cs 0, 32, .inl fmn))]) [0, 1, 2] (by decide) rfl
      exact W.iret (v := (-102)) hx hb hr (fun t ht hW => ⟨⟨(-102), (-102), rfl, rfl, ⟨mpn, fmk, fmn, (by omega), (Or.inl ⟨fun q9 => ok_no h_21 (by have q8 := q9.1; exact q8), rfl, rfl⟩), ⟨fun q9 => absurd q9 (by omega), fun _ _ => rfl, fun _ _ => rfl⟩, by rw [ht]; exact hP9, hD9⟩⟩, hS.F ht⟩) hS.2.2 dX12_pay_79
    · refine lv_if_eq (tgt := 77) hx hb dX12_pay_24 (by decide) (fun c_24 => absurd c_24 (by decide)) (fun c_24 => ?_)
      refine lv_iload_n hx hb dX12_pay_27 rfl (lv_at hl 3 rfl) ?_
      refine lv_i2l hx hb dX12_pay_28 rfl ?_
      refine lv_topl (fun z_28 e_28 => ?_)
      refine lv_lconst (v := 0) hx hb dX12_pay_29 (by decide) ?_
      refine lv_ldc2 hx hb hown (hg _ kw_412) dX12_pay_30 ?_
      refine vp_callSi (W.runS (As := [.long z_28, .long 0, .long 999]) (rest := []) ⟨hx, hb, hml, hown, hg⟩ (c_in l z_28 0 999) (va_cwS 3 hg (gw_S kw_317 kw_318 kw_319 kw_316) rfl rfl rfl (by decide +kernel) ⟨(Nat.le_of_ble_eq_true rfl), (Nat.le_of_ble_eq_true rfl)⟩) pr_0 rfl rfl hl.1 rfl (lv_room (Nat.le_of_ble_eq_true rfl)) dX12_pay_33 ⟨(Nat.le_of_ble_eq_true rfl), (Nat.le_of_ble_eq_true rfl)⟩) (fun r_33 h_33 => ?_)
      replace h_33 : r_33 = iw p2 (0 : Int32) (999 : Int32) := h_33.trans (by rw [e_28]; exact il_iw (by decide) (by decide))
      rcases (show r_33 = 0 ∨ r_33 = 1 by rw [h_33]; exact iw_01) with rfl | rfl
      · refine lv_if_eq (tgt := 77) hx hb dX12_pay_36 (by decide) (fun c_36 => ?_) (fun c_36 => absurd c_36 (by decide))
        refine lv_bipush (v := (-102)) hx hb dX12_pay_77 (by decide) ?_
        refine W_sQ hQ ?_
        refine W.widen (k := 0) (n := 0) (Nat.le_of_ble_eq_true rfl) (Nat.le_of_ble_eq_true rfl) ?_
        have hP9 := hP.sub (ws' := [(m0, .inr (12, [.ref mp, .int (nI ms), .int (nI C), .int (nI P), .ref mw, .ref mh, .ref mo, .int (nI sS), .int x_value, .int x_digits, .int (nI rc), .int (nI rp), .int (nI ic), .ref m5, .ref m6, .ref m7, .long x_all, .int (nI mpn), .ref mk, .ref mn, .int x_kind, .ref mq, .ref m8, .ref m9, .int x_last, .int x_steps, .int x_isRound, .int x_tablesDone, .ref mz, .int (nI mrs), .ref mb, .ref md, .long x_hash])), (mk, .inl (cs 0, 8, .inl fmk)), (mn, .inl (cs 0, 32, .inl fmn))]) [0, 1, 2] rfl
        have hD9 := hD.sub (ws' := [(m0, .inr (12, [.ref mp, .int (nI ms), .int (nI C), .int (nI P), .ref mw, .ref mh, .ref mo, .int (nI sS), .int x_value, .int x_digits, .int (nI rc), .int (nI rp), .int (nI ic), .ref m5, .ref m6, .ref m7, .long x_all, .int (nI mpn), .ref mk, .ref mn, .int x_kind, .ref mq, .ref m8, .ref m9, .int x_last, .int x_steps, .int x_isRound, .int x_tablesDone, .ref mz, .int (nI mrs), .ref mb, .ref md, .long x_hash])), (mk, .inl (cs 0, 8, .inl fmk)), (mn, .inl (cs 0, 32, .inl fmn))]) [0, 1, 2] (by decide) rfl
        exact W.iret (v := (-102)) hx hb hr (fun t ht hW => ⟨⟨(-102), (-102), rfl, rfl, ⟨mpn, fmk, fmn, (by omega), (Or.inl ⟨fun q9 => ok_no h_33 (by have q8 := q9.2.1; exact q8), rfl, rfl⟩), ⟨fun q9 => absurd q9 (by omega), fun _ _ => rfl, fun _ _ => rfl⟩, by rw [ht]; exact hP9, hD9⟩⟩, hS.F ht⟩) hS.2.2 dX12_pay_79
      · refine lv_if_eq (tgt := 77) hx hb dX12_pay_36 (by decide) (fun c_36 => absurd c_36 (by decide)) (fun c_36 => ?_)
        refine lv_iload_n hx hb dX12_pay_39 rfl (lv_at hl 4 rfl) ?_
        refine lv_i2l hx hb dX12_pay_40 rfl ?_
        refine lv_topl (fun z_40 e_40 => ?_)
        refine lv_lconst (v := 0) hx hb dX12_pay_41 (by decide) ?_
        refine lv_iload hx hb dX12_pay_42 (lv_at hl 0 rfl) ?_
        refine lv_i2l hx hb dX12_pay_44 rfl ?_
        refine lv_topl (fun z_44 e_44 => ?_)
        obtain rfl : z_44 = (100 : Int64) := e_44.trans (by decide)
        refine vp_callSi (W.runS (As := [.long z_40, .long 0, .long 100]) (rest := []) ⟨hx, hb, hml, hown, hg⟩ (c_in l z_40 0 100) (va_cwS 3 hg (gw_S kw_317 kw_318 kw_319 kw_316) rfl rfl rfl (by decide +kernel) ⟨(Nat.le_of_ble_eq_true rfl), (Nat.le_of_ble_eq_true rfl)⟩) pr_0 rfl rfl hl.1 rfl (lv_room (Nat.le_of_ble_eq_true rfl)) dX12_pay_45 ⟨(Nat.le_of_ble_eq_true rfl), (Nat.le_of_ble_eq_true rfl)⟩) (fun r_45 h_45 => ?_)
        replace h_45 : r_45 = iw p3 (0 : Int32) (100 : Int32) := h_45.trans (by rw [e_40]; exact il_iw (by decide) (by decide))
        rcases (show r_45 = 0 ∨ r_45 = 1 by rw [h_45]; exact iw_01) with rfl | rfl
        · refine lv_if_eq (tgt := 77) hx hb dX12_pay_48 (by decide) (fun c_48 => ?_) (fun c_48 => absurd c_48 (by decide))
          refine lv_bipush (v := (-102)) hx hb dX12_pay_77 (by decide) ?_
          refine W_sQ hQ ?_
          refine W.widen (k := 0) (n := 0) (Nat.le_of_ble_eq_true rfl) (Nat.le_of_ble_eq_true rfl) ?_
          have hP9 := hP.sub (ws' := [(m0, .inr (12, [.ref mp, .int (nI ms), .int (nI C), .int (nI P), .ref mw, .ref mh, .ref mo, .int (nI sS), .int x_value, .int x_digits, .int (nI rc), .int (nI rp), .int (nI ic), .ref m5, .ref m6, .ref m7, .long x_all, .int (nI mpn), .ref mk, .ref mn, .int x_kind, .ref mq, .ref m8, .ref m9, .int x_last, .int x_steps, .int x_isRound, .int x_tablesDone, .ref mz, .int (nI mrs), .ref mb, .ref md, .long x_hash])), (mk, .inl (cs 0, 8, .inl fmk)), (mn, .inl (cs 0, 32, .inl fmn))]) [0, 1, 2] rfl
          have hD9 := hD.sub (ws' := [(m0, .inr (12, [.ref mp, .int (nI ms), .int (nI C), .int (nI P), .ref mw, .ref mh, .ref mo, .int (nI sS), .int x_value, .int x_digits, .int (nI rc), .int (nI rp), .int (nI ic), .ref m5, .ref m6, .ref m7, .long x_all, .int (nI mpn), .ref mk, .ref mn, .int x_kind, .ref mq, .ref m8, .ref m9, .int x_last, .int x_steps, .int x_isRound, .int x_tablesDone, .ref mz, .int (nI mrs), .ref mb, .ref md, .long x_hash])), (mk, .inl (cs 0, 8, .inl fmk)), (mn, .inl (cs 0, 32, .inl fmn))]) [0, 1, 2] (by decide) rfl
          exact W.iret (v := (-102)) hx hb hr (fun t ht hW => ⟨⟨(-102), (-102), rfl, rfl, ⟨mpn, fmk, fmn, (by omega), (Or.inl ⟨fun q9 => ok_no h_45 (by have q8 := q9.2.2.1; rw [pTop_4] at q8; exact q8), rfl, rfl⟩), ⟨fun q9 => absurd q9 (by omega), fun _ _ => rfl, fun _ _ => rfl⟩, by rw [ht]; exact hP9, hD9⟩⟩, hS.F ht⟩) hS.2.2 dX12_pay_79
        · refine lv_if_eq (tgt := 77) hx hb dX12_pay_48 (by decide) (fun c_48 => absurd c_48 (by decide)) (fun c_48 => ?_)
          refine lv_iload hx hb dX12_pay_51 (lv_at hl 5 rfl) ?_
          refine lv_i2l hx hb dX12_pay_53 rfl ?_
          refine lv_topl (fun z_53 e_53 => ?_)
          refine lv_lconst (v := 0) hx hb dX12_pay_54 (by decide) ?_
          refine lv_ldc2 hx hb hown (hg _ kw_412) dX12_pay_55 ?_
          refine vp_callSi (W.runS (As := [.long z_53, .long 0, .long 999]) (rest := []) ⟨hx, hb, hml, hown, hg⟩ (c_in l z_53 0 999) (va_cwS 3 hg (gw_S kw_317 kw_318 kw_319 kw_316) rfl rfl rfl (by decide +kernel) ⟨(Nat.le_of_ble_eq_true rfl), (Nat.le_of_ble_eq_true rfl)⟩) pr_0 rfl rfl hl.1 rfl (lv_room (Nat.le_of_ble_eq_true rfl)) dX12_pay_58 ⟨(Nat.le_of_ble_eq_true rfl), (Nat.le_of_ble_eq_true rfl)⟩) (fun r_58 h_58 => ?_)
          replace h_58 : r_58 = iw p4 (0 : Int32) (999 : Int32) := h_58.trans (by rw [e_53]; exact il_iw (by decide) (by decide))
          rcases (show r_58 = 0 ∨ r_58 = 1 by rw [h_58]; exact iw_01) with rfl | rfl
          · refine lv_if_eq (tgt := 77) hx hb dX12_pay_61 (by decide) (fun c_61 => ?_) (fun c_61 => absurd c_61 (by decide))
            refine lv_bipush (v := (-102)) hx hb dX12_pay_77 (by decide) ?_
            refine W_sQ hQ ?_
            refine W.widen (k := 0) (n := 0) (Nat.le_of_ble_eq_true rfl) (Nat.le_of_ble_eq_true rfl) ?_
            have hP9 := hP.sub (ws' := [(m0, .inr (12, [.ref mp, .int (nI ms), .int (nI C), .int (nI P), .ref mw, .ref mh, .ref mo, .int (nI sS), .int x_value, .int x_digits, .int (nI rc), .int (nI rp), .int (nI ic), .ref m5, .ref m6, .ref m7, .long x_all, .int (nI mpn), .ref mk, .ref mn, .int x_kind, .ref mq, .ref m8, .ref m9, .int x_last, .int x_steps, .int x_isRound, .int x_tablesDone, .ref mz, .int (nI mrs), .ref mb, .ref md, .long x_hash])), (mk, .inl (cs 0, 8, .inl fmk)), (mn, .inl (cs 0, 32, .inl fmn))]) [0, 1, 2] rfl
            have hD9 := hD.sub (ws' := [(m0, .inr (12, [.ref mp, .int (nI ms), .int (nI C), .int (nI P), .ref mw, .ref mh, .ref mo, .int (nI sS), .int x_value, .int x_digits, .int (nI rc), .int (nI rp), .int (nI ic), .ref m5, .ref m6, .ref m7, .long x_all, .int (nI mpn), .ref mk, .ref mn, .int x_kind, .ref mq, .ref m8, .ref m9, .int x_last, .int x_steps, .int x_isRound, .int x_tablesDone, .ref mz, .int (nI mrs), .ref mb, .ref md, .long x_hash])), (mk, .inl (cs 0, 8, .inl fmk)), (mn, .inl (cs 0, 32, .inl fmn))]) [0, 1, 2] (by decide) rfl
            exact W.iret (v := (-102)) hx hb hr (fun t ht hW => ⟨⟨(-102), (-102), rfl, rfl, ⟨mpn, fmk, fmn, (by omega), (Or.inl ⟨fun q9 => ok_no h_58 (by have q8 := q9.2.2.2.1; exact q8), rfl, rfl⟩), ⟨fun q9 => absurd q9 (by omega), fun _ _ => rfl, fun _ _ => rfl⟩, by rw [ht]; exact hP9, hD9⟩⟩, hS.F ht⟩) hS.2.2 dX12_pay_79
          · refine lv_if_eq (tgt := 77) hx hb dX12_pay_61 (by decide) (fun c_61 => absurd c_61 (by decide)) (fun c_61 => ?_)
            refine lv_iload hx hb dX12_pay_64 (lv_at hl 6 rfl) ?_
            refine lv_i2l hx hb dX12_pay_66 rfl ?_
            refine lv_topl (fun z_66 e_66 => ?_)
            refine lv_lconst (v := 0) hx hb dX12_pay_67 (by decide) ?_
            refine lv_iload hx hb dX12_pay_68 (lv_at hl 0 rfl) ?_
            refine lv_i2l hx hb dX12_pay_70 rfl ?_
            refine lv_topl (fun z_70 e_70 => ?_)
            obtain rfl : z_70 = (100 : Int64) := e_70.trans (by decide)
            refine vp_callSi (W.runS (As := [.long z_66, .long 0, .long 100]) (rest := []) ⟨hx, hb, hml, hown, hg⟩ (c_in l z_66 0 100) (va_cwS 3 hg (gw_S kw_317 kw_318 kw_319 kw_316) rfl rfl rfl (by decide +kernel) ⟨(Nat.le_of_ble_eq_true rfl), (Nat.le_of_ble_eq_true rfl)⟩) pr_0 rfl rfl hl.1 rfl (lv_room (Nat.le_of_ble_eq_true rfl)) dX12_pay_71 ⟨(Nat.le_of_ble_eq_true rfl), (Nat.le_of_ble_eq_true rfl)⟩) (fun r_71 h_71 => ?_)
            replace h_71 : r_71 = iw p5 (0 : Int32) (100 : Int32) := h_71.trans (by rw [e_66]; exact il_iw (by decide) (by decide))
            rcases (show r_71 = 0 ∨ r_71 = 1 by rw [h_71]; exact iw_01) with rfl | rfl
            · refine lv_if_ne (tgt := 80) hx hb dX12_pay_74 (by decide) (fun c_74 => absurd c_74 (by decide)) (fun c_74 => ?_)
              refine lv_bipush (v := (-102)) hx hb dX12_pay_77 (by decide) ?_
              refine W_sQ hQ ?_
              refine W.widen (k := 0) (n := 0) (Nat.le_of_ble_eq_true rfl) (Nat.le_of_ble_eq_true rfl) ?_
              have hP9 := hP.sub (ws' := [(m0, .inr (12, [.ref mp, .int (nI ms), .int (nI C), .int (nI P), .ref mw, .ref mh, .ref mo, .int (nI sS), .int x_value, .int x_digits, .int (nI rc), .int (nI rp), .int (nI ic), .ref m5, .ref m6, .ref m7, .long x_all, .int (nI mpn), .ref mk, .ref mn, .int x_kind, .ref mq, .ref m8, .ref m9, .int x_last, .int x_steps, .int x_isRound, .int x_tablesDone, .ref mz, .int (nI mrs), .ref mb, .ref md, .long x_hash])), (mk, .inl (cs 0, 8, .inl fmk)), (mn, .inl (cs 0, 32, .inl fmn))]) [0, 1, 2] rfl
              have hD9 := hD.sub (ws' := [(m0, .inr (12, [.ref mp, .int (nI ms), .int (nI C), .int (nI P), .ref mw, .ref mh, .ref mo, .int (nI sS), .int x_value, .int x_digits, .int (nI rc), .int (nI rp), .int (nI ic), .ref m5, .ref m6, .ref m7, .long x_all, .int (nI mpn), .ref mk, .ref mn, .int x_kind, .ref mq, .ref m8, .ref m9, .int x_last, .int x_steps, .int x_isRound, .int x_tablesDone, .ref mz, .int (nI mrs), .ref mb, .ref md, .long x_hash])), (mk, .inl (cs 0, 8, .inl fmk)), (mn, .inl (cs 0, 32, .inl fmn))]) [0, 1, 2] (by decide) rfl
              exact W.iret (v := (-102)) hx hb hr (fun t ht hW => ⟨⟨(-102), (-102), rfl, rfl, ⟨mpn, fmk, fmn, (by omega), (Or.inl ⟨fun q9 => ok_no h_71 (by have q8 := q9.2.2.2.2; rw [pTop_4] at q8; exact q8), rfl, rfl⟩), ⟨fun q9 => absurd q9 (by omega), fun _ _ => rfl, fun _ _ => rfl⟩, by rw [ht]; exact hP9, hD9⟩⟩, hS.F ht⟩) hS.2.2 dX12_pay_79
            · refine lv_if_ne (tgt := 80) hx hb dX12_pay_74 (by decide) (fun c_74 => ?_) (fun c_74 => absurd c_74 (by decide))
              refine lv_aload_n hx hb dX12_pay_80 rfl (lv_at hl 1 rfl) ?_
              refine va_get (D := D) (ci := 12) (v := .int (nI mpn)) (C := RX12) (T := TX12) (N := 33) hx hb hg gwX12 hown hK hP 0 rfl rfl 17 (by decide) (hg _ kw_320) (fun _ h9 => h9) rfl dX12_pay_81 ?_
              refine lv_bipush (v := 8) hx hb dX12_pay_84 (by decide) ?_
              refine lv_icmp_ne (tgt := 92) hx hb dX12_pay_86 (by decide) (fun c_86 => ?_) (fun c_86 => ?_)
              · have n_86 : ¬ mpn = 8 := b_eq_f (by omega) (by omega) c_86
                refine lv_aload_n hx hb dX12_pay_92 rfl (lv_at hl 1 rfl) ?_
                refine va_get (D := D) (ci := 12) (v := .ref mk) (C := RX12) (T := TX12) (N := 33) hx hb hg gwX12 hown hK hP 0 rfl rfl 18 (by decide) (hg _ kw_324) (fun _ h9 => h9) rfl dX12_pay_93 ?_
                refine lv_aload_n hx hb dX12_pay_96 rfl (lv_at hl 1 rfl) ?_
                refine va_get (D := D) (ci := 12) (v := .int (nI mpn)) (C := RX12) (T := TX12) (N := 33) hx hb hg gwX12 hown hK hP 0 rfl rfl 17 (by decide) (hg _ kw_320) (fun _ h9 => h9) rfl dX12_pay_97 ?_
                refine lv_iload_n hx hb dX12_pay_100 rfl (lv_at hl 2 rfl) ?_
                refine va_iast hx hb hK hP hD hS 1 0 rfl rfl (vp_in_nI (show mpn < 8 by omega) (by decide)) dX12_pay_101 (fun H locs hP hD hS => ?_)
                obtain ⟨f_101, hf_101⟩ : ∃ f9, f9 = (upd fmk (nI mpn).toNatClampNeg 4) := ⟨_, rfl⟩
                rw [← hf_101] at hP hD
                have hP : va_P D vwCl [(m0, .inr (12, [.ref mp, .int (nI ms), .int (nI C), .int (nI P), .ref mw, .ref mh, .ref mo, .int (nI sS), .int x_value, .int x_digits, .int (nI rc), .int (nI rp), .int (nI ic), .ref m5, .ref m6, .ref m7, .long x_all, .int (nI mpn), .ref mk, .ref mn, .int x_kind, .ref mq, .ref m8, .ref m9, .int x_last, .int x_steps, .int x_isRound, .int x_tablesDone, .ref mz, .int (nI mrs), .ref mb, .ref md, .long x_hash])), (mk, .inl (cs 0, 8, .inl f_101)), (mn, .inl (cs 0, 32, .inl fmn))] H := hP
                have hD : va_D A [(m0, .inr (12, [.ref mp, .int (nI ms), .int (nI C), .int (nI P), .ref mw, .ref mh, .ref mo, .int (nI sS), .int x_value, .int x_digits, .int (nI rc), .int (nI rp), .int (nI ic), .ref m5, .ref m6, .ref m7, .long x_all, .int (nI mpn), .ref mk, .ref mn, .int x_kind, .ref mq, .ref m8, .ref m9, .int x_last, .int x_steps, .int x_isRound, .int x_tablesDone, .ref mz, .int (nI mrs), .ref mb, .ref md, .long x_hash])), (mk, .inl (cs 0, 8, .inl f_101)), (mn, .inl (cs 0, 32, .inl fmn))] := hD
                refine lv_aload_n hx hb dX12_pay_102 rfl (lv_at hl 1 rfl) ?_
                refine va_get (D := D) (ci := 12) (v := .ref mn) (C := RX12) (T := TX12) (N := 33) hx hb hg gwX12 hown hK hP 0 rfl rfl 19 (by decide) (hg _ kw_327) (fun _ h9 => h9) rfl dX12_pay_103 ?_
                refine lv_iconst (v := 4) hx hb dX12_pay_106 (by decide) ?_
                refine lv_aload_n hx hb dX12_pay_107 rfl (lv_at hl 1 rfl) ?_
                refine va_get (D := D) (ci := 12) (v := .int (nI mpn)) (C := RX12) (T := TX12) (N := 33) hx hb hg gwX12 hown hK hP 0 rfl rfl 17 (by decide) (hg _ kw_320) (fun _ h9 => h9) rfl dX12_pay_108 ?_
                refine lv_imul hx hb dX12_pay_111 ?_
                refine lv_topi (fun z_111 e_111 => ?_)
                obtain rfl : z_111 = nI (4 * mpn) := e_111.trans (pk_mul _ _)
                refine lv_iload_n hx hb dX12_pay_112 rfl (lv_at hl 3 rfl) ?_
                refine va_iast hx hb hK hP hD hS 2 0 rfl rfl (vp_in_nI (show 4 * mpn < 32 by omega) (by decide)) dX12_pay_113 (fun H locs hP hD hS => ?_)
                obtain ⟨f_113, hf_113⟩ : ∃ f9, f9 = (upd fmn (nI (4 * mpn)).toNatClampNeg p2) := ⟨_, rfl⟩
                rw [← hf_113] at hP hD
                have hP : va_P D vwCl [(m0, .inr (12, [.ref mp, .int (nI ms), .int (nI C), .int (nI P), .ref mw, .ref mh, .ref mo, .int (nI sS), .int x_value, .int x_digits, .int (nI rc), .int (nI rp), .int (nI ic), .ref m5, .ref m6, .ref m7, .long x_all, .int (nI mpn), .ref mk, .ref mn, .int x_kind, .ref mq, .ref m8, .ref m9, .int x_last, .int x_steps, .int x_isRound, .int x_tablesDone, .ref mz, .int (nI mrs), .ref mb, .ref md, .long x_hash])), (mk, .inl (cs 0, 8, .inl f_101)), (mn, .inl (cs 0, 32, .inl f_113))] H := hP
                have hD : va_D A [(m0, .inr (12, [.ref mp, .int (nI ms), .int (nI C), .int (nI P), .ref mw, .ref mh, .ref mo, .int (nI sS), .int x_value, .int x_digits, .int (nI rc), .int (nI rp), .int (nI ic), .ref m5, .ref m6, .ref m7, .long x_all, .int (nI mpn), .ref mk, .ref mn, .int x_kind, .ref mq, .ref m8, .ref m9, .int x_last, .int x_steps, .int x_isRound, .int x_tablesDone, .ref mz, .int (nI mrs), .ref mb, .ref md, .long x_hash])), (mk, .inl (cs 0, 8, .inl f_101)), (mn, .inl (cs 0, 32, .inl f_113))] := hD
                refine lv_aload_n hx hb dX12_pay_114 rfl (lv_at hl 1 rfl) ?_
                refine va_get (D := D) (ci := 12) (v := .ref mn) (C := RX12) (T := TX12) (N := 33) hx hb hg gwX12 hown hK hP 0 rfl rfl 19 (by decide) (hg _ kw_327) (fun _ h9 => h9) rfl dX12_pay_115 ?_
                refine lv_iconst (v := 4) hx hb dX12_pay_118 (by decide) ?_
                refine lv_aload_n hx hb dX12_pay_119 rfl (lv_at hl 1 rfl) ?_
                refine va_get (D := D) (ci := 12) (v := .int (nI mpn)) (C := RX12) (T := TX12) (N := 33) hx hb hg gwX12 hown hK hP 0 rfl rfl 17 (by decide) (hg _ kw_320) (fun _ h9 => h9) rfl dX12_pay_120 ?_
                refine lv_imul hx hb dX12_pay_123 ?_
                refine lv_topi (fun z_123 e_123 => ?_)
                obtain rfl : z_123 = nI (4 * mpn) := e_123.trans (pk_mul _ _)
                refine lv_iconst (v := 1) hx hb dX12_pay_124 (by decide) ?_
                refine lv_iadd hx hb dX12_pay_125 ?_
                refine lv_topi (fun z_125 e_125 => ?_)
                obtain rfl : z_125 = nI (4 * mpn + 1) := e_125.trans (nI_add _ _)
                refine lv_iload_n hx hb dX12_pay_126 rfl (lv_at hl 4 rfl) ?_
                refine va_iast hx hb hK hP hD hS 2 0 rfl rfl (vp_in_nI (show 4 * mpn + 1 < 32 by omega) (by decide)) dX12_pay_127 (fun H locs hP hD hS => ?_)
                obtain ⟨f_127, hf_127⟩ : ∃ f9, f9 = (upd f_113 (nI (4 * mpn + 1)).toNatClampNeg p3) := ⟨_, rfl⟩
                rw [← hf_127] at hP hD
                have hP : va_P D vwCl [(m0, .inr (12, [.ref mp, .int (nI ms), .int (nI C), .int (nI P), .ref mw, .ref mh, .ref mo, .int (nI sS), .int x_value, .int x_digits, .int (nI rc), .int (nI rp), .int (nI ic), .ref m5, .ref m6, .ref m7, .long x_all, .int (nI mpn), .ref mk, .ref mn, .int x_kind, .ref mq, .ref m8, .ref m9, .int x_last, .int x_steps, .int x_isRound, .int x_tablesDone, .ref mz, .int (nI mrs), .ref mb, .ref md, .long x_hash])), (mk, .inl (cs 0, 8, .inl f_101)), (mn, .inl (cs 0, 32, .inl f_127))] H := hP
                have hD : va_D A [(m0, .inr (12, [.ref mp, .int (nI ms), .int (nI C), .int (nI P), .ref mw, .ref mh, .ref mo, .int (nI sS), .int x_value, .int x_digits, .int (nI rc), .int (nI rp), .int (nI ic), .ref m5, .ref m6, .ref m7, .long x_all, .int (nI mpn), .ref mk, .ref mn, .int x_kind, .ref mq, .ref m8, .ref m9, .int x_last, .int x_steps, .int x_isRound, .int x_tablesDone, .ref mz, .int (nI mrs), .ref mb, .ref md, .long x_hash])), (mk, .inl (cs 0, 8, .inl f_101)), (mn, .inl (cs 0, 32, .inl f_127))] := hD
                refine lv_aload_n hx hb dX12_pay_128 rfl (lv_at hl 1 rfl) ?_
                refine va_get (D := D) (ci := 12) (v := .ref mn) (C := RX12) (T := TX12) (N := 33) hx hb hg gwX12 hown hK hP 0 rfl rfl 19 (by decide) (hg _ kw_327) (fun _ h9 => h9) rfl dX12_pay_129 ?_
                refine lv_iconst (v := 4) hx hb dX12_pay_132 (by decide) ?_
                refine lv_aload_n hx hb dX12_pay_133 rfl (lv_at hl 1 rfl) ?_
                refine va_get (D := D) (ci := 12) (v := .int (nI mpn)) (C := RX12) (T := TX12) (N := 33) hx hb hg gwX12 hown hK hP 0 rfl rfl 17 (by decide) (hg _ kw_320) (fun _ h9 => h9) rfl dX12_pay_134 ?_
                refine lv_imul hx hb dX12_pay_137 ?_
                refine lv_topi (fun z_137 e_137 => ?_)
                obtain rfl : z_137 = nI (4 * mpn) := e_137.trans (pk_mul _ _)
                refine lv_iconst (v := 2) hx hb dX12_pay_138 (by decide) ?_
                refine lv_iadd hx hb dX12_pay_139 ?_
                refine lv_topi (fun z_139 e_139 => ?_)
                obtain rfl : z_139 = nI (4 * mpn + 2) := e_139.trans (nI_add _ _)
                refine lv_iload hx hb dX12_pay_140 (lv_at hl 5 rfl) ?_
                refine va_iast hx hb hK hP hD hS 2 0 rfl rfl (vp_in_nI (show 4 * mpn + 2 < 32 by omega) (by decide)) dX12_pay_142 (fun H locs hP hD hS => ?_)
                obtain ⟨f_142, hf_142⟩ : ∃ f9, f9 = (upd f_127 (nI (4 * mpn + 2)).toNatClampNeg p4) := ⟨_, rfl⟩
                rw [← hf_142] at hP hD
                have hP : va_P D vwCl [(m0, .inr (12, [.ref mp, .int (nI ms), .int (nI C), .int (nI P), .ref mw, .ref mh, .ref mo, .int (nI sS), .int x_value, .int x_digits, .int (nI rc), .int (nI rp), .int (nI ic), .ref m5, .ref m6, .ref m7, .long x_all, .int (nI mpn), .ref mk, .ref mn, .int x_kind, .ref mq, .ref m8, .ref m9, .int x_last, .int x_steps, .int x_isRound, .int x_tablesDone, .ref mz, .int (nI mrs), .ref mb, .ref md, .long x_hash])), (mk, .inl (cs 0, 8, .inl f_101)), (mn, .inl (cs 0, 32, .inl f_142))] H := hP
                have hD : va_D A [(m0, .inr (12, [.ref mp, .int (nI ms), .int (nI C), .int (nI P), .ref mw, .ref mh, .ref mo, .int (nI sS), .int x_value, .int x_digits, .int (nI rc), .int (nI rp), .int (nI ic), .ref m5, .ref m6, .ref m7, .long x_all, .int (nI mpn), .ref mk, .ref mn, .int x_kind, .ref mq, .ref m8, .ref m9, .int x_last, .int x_steps, .int x_isRound, .int x_tablesDone, .ref mz, .int (nI mrs), .ref mb, .ref md, .long x_hash])), (mk, .inl (cs 0, 8, .inl f_101)), (mn, .inl (cs 0, 32, .inl f_142))] := hD
                refine lv_aload_n hx hb dX12_pay_143 rfl (lv_at hl 1 rfl) ?_
                refine va_get (D := D) (ci := 12) (v := .ref mn) (C := RX12) (T := TX12) (N := 33) hx hb hg gwX12 hown hK hP 0 rfl rfl 19 (by decide) (hg _ kw_327) (fun _ h9 => h9) rfl dX12_pay_144 ?_
                refine lv_iconst (v := 4) hx hb dX12_pay_147 (by decide) ?_
                refine lv_aload_n hx hb dX12_pay_148 rfl (lv_at hl 1 rfl) ?_
                refine va_get (D := D) (ci := 12) (v := .int (nI mpn)) (C := RX12) (T := TX12) (N := 33) hx hb hg gwX12 hown hK hP 0 rfl rfl 17 (by decide) (hg _ kw_320) (fun _ h9 => h9) rfl dX12_pay_149 ?_
                refine lv_imul hx hb dX12_pay_152 ?_
                refine lv_topi (fun z_152 e_152 => ?_)
                obtain rfl : z_152 = nI (4 * mpn) := e_152.trans (pk_mul _ _)
                refine lv_iconst (v := 3) hx hb dX12_pay_153 (by decide) ?_
                refine lv_iadd hx hb dX12_pay_154 ?_
                refine lv_topi (fun z_154 e_154 => ?_)
                obtain rfl : z_154 = nI (4 * mpn + 3) := e_154.trans (nI_add _ _)
                refine lv_iload hx hb dX12_pay_155 (lv_at hl 6 rfl) ?_
                refine va_iast hx hb hK hP hD hS 2 0 rfl rfl (vp_in_nI (show 4 * mpn + 3 < 32 by omega) (by decide)) dX12_pay_157 (fun H locs hP hD hS => ?_)
                obtain ⟨f_157, hf_157⟩ : ∃ f9, f9 = (upd f_142 (nI (4 * mpn + 3)).toNatClampNeg p5) := ⟨_, rfl⟩
                rw [← hf_157] at hP hD
                have hP : va_P D vwCl [(m0, .inr (12, [.ref mp, .int (nI ms), .int (nI C), .int (nI P), .ref mw, .ref mh, .ref mo, .int (nI sS), .int x_value, .int x_digits, .int (nI rc), .int (nI rp), .int (nI ic), .ref m5, .ref m6, .ref m7, .long x_all, .int (nI mpn), .ref mk, .ref mn, .int x_kind, .ref mq, .ref m8, .ref m9, .int x_last, .int x_steps, .int x_isRound, .int x_tablesDone, .ref mz, .int (nI mrs), .ref mb, .ref md, .long x_hash])), (mk, .inl (cs 0, 8, .inl f_101)), (mn, .inl (cs 0, 32, .inl f_157))] H := hP
                have hD : va_D A [(m0, .inr (12, [.ref mp, .int (nI ms), .int (nI C), .int (nI P), .ref mw, .ref mh, .ref mo, .int (nI sS), .int x_value, .int x_digits, .int (nI rc), .int (nI rp), .int (nI ic), .ref m5, .ref m6, .ref m7, .long x_all, .int (nI mpn), .ref mk, .ref mn, .int x_kind, .ref mq, .ref m8, .ref m9, .int x_last, .int x_steps, .int x_isRound, .int x_tablesDone, .ref mz, .int (nI mrs), .ref mb, .ref md, .long x_hash])), (mk, .inl (cs 0, 8, .inl f_101)), (mn, .inl (cs 0, 32, .inl f_157))] := hD
                refine lv_aload_n hx hb dX12_pay_158 rfl (lv_at hl 1 rfl) ?_
                refine lv_dup hx hb dX12_pay_159 rfl ?_
                refine va_get (D := D) (ci := 12) (v := .int (nI mpn)) (C := RX12) (T := TX12) (N := 33) hx hb hg gwX12 hown hK hP 0 rfl rfl 17 (by decide) (hg _ kw_320) (fun _ h9 => h9) rfl dX12_pay_160 ?_
                refine lv_iconst (v := 1) hx hb dX12_pay_163 (by decide) ?_
                refine lv_iadd hx hb dX12_pay_164 ?_
                refine lv_topi (fun z_164 e_164 => ?_)
                obtain rfl : z_164 = nI (mpn + 1) := e_164.trans (nI_add _ _)
                refine va_put (D := D) (ci := 12) (v := .int (nI (mpn + 1))) (ty := .int) (C := RX12) (T := TX12) (N := 33) hx hb hg gwX12 tyX12 tyX12_ok nmX12 hown hK hP hD hS 0 rfl rfl 17 (by decide) (hg _ kw_320) (fun _ h9 => h9) rfl (by decide +kernel) rfl rfl (Nat.le_of_ble_eq_true rfl) dX12_pay_165 (fun H locs hP hD hS => ?_)
                have hP : va_P D vwCl [(m0, .inr (12, [.ref mp, .int (nI ms), .int (nI C), .int (nI P), .ref mw, .ref mh, .ref mo, .int (nI sS), .int x_value, .int x_digits, .int (nI rc), .int (nI rp), .int (nI ic), .ref m5, .ref m6, .ref m7, .long x_all, .int (nI (mpn + 1)), .ref mk, .ref mn, .int x_kind, .ref mq, .ref m8, .ref m9, .int x_last, .int x_steps, .int x_isRound, .int x_tablesDone, .ref mz, .int (nI mrs), .ref mb, .ref md, .long x_hash])), (mk, .inl (cs 0, 8, .inl f_101)), (mn, .inl (cs 0, 32, .inl f_157))] H := hP
                have hD : va_D A [(m0, .inr (12, [.ref mp, .int (nI ms), .int (nI C), .int (nI P), .ref mw, .ref mh, .ref mo, .int (nI sS), .int x_value, .int x_digits, .int (nI rc), .int (nI rp), .int (nI ic), .ref m5, .ref m6, .ref m7, .long x_all, .int (nI (mpn + 1)), .ref mk, .ref mn, .int x_kind, .ref mq, .ref m8, .ref m9, .int x_last, .int x_steps, .int x_isRound, .int x_tablesDone, .ref mz, .int (nI mrs), .ref mb, .ref md, .long x_hash])), (mk, .inl (cs 0, 8, .inl f_101)), (mn, .inl (cs 0, 32, .inl f_157))] := hD
                refine lv_aload_n hx hb dX12_pay_168 rfl (lv_at hl 1 rfl) ?_
                refine va_get (D := D) (ci := 12) (v := .int (nI (mpn + 1))) (C := RX12) (T := TX12) (N := 33) hx hb hg gwX12 hown hK hP 0 rfl rfl 17 (by decide) (hg _ kw_320) (fun _ h9 => h9) rfl dX12_pay_169 ?_
                refine lv_iconst (v := 1) hx hb dX12_pay_172 (by decide) ?_
                refine lv_isub hx hb dX12_pay_173 ?_
                refine lv_topi (fun z_173 e_173 => ?_)
                obtain rfl : z_173 = nI mpn := e_173.trans (nI_pred mpn)
                refine W_sQ hQ ?_
                refine W.widen (k := 0) (n := 0) (Nat.le_of_ble_eq_true rfl) (Nat.le_of_ble_eq_true rfl) ?_
                have hk9 := up_k (by omega) hf_101
                have hn9 := up_4 (by omega) hf_113 hf_127 hf_142 hf_157
                have hP9 := hP.sub (ws' := [(m0, .inr (12, [.ref mp, .int (nI ms), .int (nI C), .int (nI P), .ref mw, .ref mh, .ref mo, .int (nI sS), .int x_value, .int x_digits, .int (nI rc), .int (nI rp), .int (nI ic), .ref m5, .ref m6, .ref m7, .long x_all, .int (nI (mpn + 1)), .ref mk, .ref mn, .int x_kind, .ref mq, .ref m8, .ref m9, .int x_last, .int x_steps, .int x_isRound, .int x_tablesDone, .ref mz, .int (nI mrs), .ref mb, .ref md, .long x_hash])), (mk, .inl (cs 0, 8, .inl f_101)), (mn, .inl (cs 0, 32, .inl f_157))]) [0, 1, 2] rfl
                have hD9 := hD.sub (ws' := [(m0, .inr (12, [.ref mp, .int (nI ms), .int (nI C), .int (nI P), .ref mw, .ref mh, .ref mo, .int (nI sS), .int x_value, .int x_digits, .int (nI rc), .int (nI rp), .int (nI ic), .ref m5, .ref m6, .ref m7, .long x_all, .int (nI (mpn + 1)), .ref mk, .ref mn, .int x_kind, .ref mq, .ref m8, .ref m9, .int x_last, .int x_steps, .int x_isRound, .int x_tablesDone, .ref mz, .int (nI mrs), .ref mb, .ref md, .long x_hash])), (mk, .inl (cs 0, 8, .inl f_101)), (mn, .inl (cs 0, 32, .inl f_157))]) [0, 1, 2] (by decide) rfl
                exact W.iret (v := (nI mpn)) hx hb hr (fun t ht hW => ⟨⟨(nI mpn), (nI mpn), rfl, rfl, ⟨mpn + 1, f_101, f_157, (by omega), (Or.inr (Or.inr ⟨⟨h_21.symm, h_33.symm, by rw [pTop_4]; exact h_45.symm, h_58.symm, by rw [pTop_4]; exact h_71.symm⟩, by omega, rfl, rfl⟩)), ⟨fun _ => ⟨hk9.1, hn9.1⟩, fun i hi => hk9.2 i (by omega), hn9.2⟩, by rw [ht]; exact hP9, hD9⟩⟩, hS.F ht⟩) hS.2.2 dX12_pay_174
              · have n_86 : mpn = 8 := b_eq_t (by omega) (by omega) c_86
                refine lv_bipush (v := (-104)) hx hb dX12_pay_89 (by decide) ?_
                refine W_sQ hQ ?_
                refine W.widen (k := 0) (n := 0) (Nat.le_of_ble_eq_true rfl) (Nat.le_of_ble_eq_true rfl) ?_
                have hP9 := hP.sub (ws' := [(m0, .inr (12, [.ref mp, .int (nI ms), .int (nI C), .int (nI P), .ref mw, .ref mh, .ref mo, .int (nI sS), .int x_value, .int x_digits, .int (nI rc), .int (nI rp), .int (nI ic), .ref m5, .ref m6, .ref m7, .long x_all, .int (nI mpn), .ref mk, .ref mn, .int x_kind, .ref mq, .ref m8, .ref m9, .int x_last, .int x_steps, .int x_isRound, .int x_tablesDone, .ref mz, .int (nI mrs), .ref mb, .ref md, .long x_hash])), (mk, .inl (cs 0, 8, .inl fmk)), (mn, .inl (cs 0, 32, .inl fmn))]) [0, 1, 2] rfl
                have hD9 := hD.sub (ws' := [(m0, .inr (12, [.ref mp, .int (nI ms), .int (nI C), .int (nI P), .ref mw, .ref mh, .ref mo, .int (nI sS), .int x_value, .int x_digits, .int (nI rc), .int (nI rp), .int (nI ic), .ref m5, .ref m6, .ref m7, .long x_all, .int (nI mpn), .ref mk, .ref mn, .int x_kind, .ref mq, .ref m8, .ref m9, .int x_last, .int x_steps, .int x_isRound, .int x_tablesDone, .ref mz, .int (nI mrs), .ref mb, .ref md, .long x_hash])), (mk, .inl (cs 0, 8, .inl fmk)), (mn, .inl (cs 0, 32, .inl fmn))]) [0, 1, 2] (by decide) rfl
                exact W.iret (v := (-104)) hx hb hr (fun t ht hW => ⟨⟨(-104), (-104), rfl, rfl, ⟨mpn, fmk, fmn, (by omega), (Or.inr (Or.inl ⟨⟨h_21.symm, h_33.symm, by rw [pTop_4]; exact h_45.symm, h_58.symm, by rw [pTop_4]; exact h_71.symm⟩, by omega, rfl, rfl⟩)), ⟨fun q9 => absurd q9 (by omega), fun _ _ => rfl, fun _ _ => rfl⟩, by rw [ht]; exact hP9, hD9⟩⟩, hS.F ht⟩) hS.2.2 dX12_pay_91

theorem dX12_as_0 : decode cX12_as 0 = .ok (.aload_n 0, 1) := by decide +kernel
theorem dX12_as_1 : decode cX12_as 1 = .ok (.iload_n 1, 1) := by decide +kernel
theorem dX12_as_2 : decode cX12_as 2 = .ok (.invokevirtual 142, 3) := by decide +kernel
theorem dX12_as_5 : decode cX12_as 5 = .ok (.ifCond .ne 6, 3) := by decide +kernel
theorem dX12_as_8 : decode cX12_as 8 = .ok (.bipush (-101), 2) := by decide +kernel
theorem dX12_as_10 : decode cX12_as 10 = .ok (.ireturn, 1) := by decide +kernel
theorem dX12_as_11 : decode cX12_as 11 = .ok (.iload_n 2, 1) := by decide +kernel
theorem dX12_as_12 : decode cX12_as 12 = .ok (.i2l, 1) := by decide +kernel
theorem dX12_as_13 : decode cX12_as 13 = .ok (.lconst 0, 1) := by decide +kernel
theorem dX12_as_14 : decode cX12_as 14 = .ok (.ldc2_w 137, 3) := by decide +kernel
theorem dX12_as_17 : decode cX12_as 17 = .ok (.invokestatic 70, 3) := by decide +kernel
theorem dX12_as_20 : decode cX12_as 20 = .ok (.ifCond .ne 6, 3) := by decide +kernel
theorem dX12_as_23 : decode cX12_as 23 = .ok (.bipush (-102), 2) := by decide +kernel
theorem dX12_as_25 : decode cX12_as 25 = .ok (.ireturn, 1) := by decide +kernel
theorem dX12_as_26 : decode cX12_as 26 = .ok (.iload_n 2, 1) := by decide +kernel
theorem dX12_as_27 : decode cX12_as 27 = .ok (.ifCond .eq 43, 3) := by decide +kernel
theorem dX12_as_30 : decode cX12_as 30 = .ok (.iload_n 2, 1) := by decide +kernel
theorem dX12_as_31 : decode cX12_as 31 = .ok (.aload_n 0, 1) := by decide +kernel
theorem dX12_as_32 : decode cX12_as 32 = .ok (.getfield 32, 3) := by decide +kernel
theorem dX12_as_35 : decode cX12_as 35 = .ok (.iload_n 1, 1) := by decide +kernel
theorem dX12_as_36 : decode cX12_as 36 = .ok (.iaload, 1) := by decide +kernel
theorem dX12_as_37 : decode cX12_as 37 = .ok (.if_icmp .eq 33, 3) := by decide +kernel
theorem dX12_as_40 : decode cX12_as 40 = .ok (.iload_n 2, 1) := by decide +kernel
theorem dX12_as_41 : decode cX12_as 41 = .ok (.iconst 2, 1) := by decide +kernel
theorem dX12_as_42 : decode cX12_as 42 = .ok (.if_icmp .ne 13, 3) := by decide +kernel
theorem dX12_as_45 : decode cX12_as 45 = .ok (.aload_n 0, 1) := by decide +kernel
theorem dX12_as_46 : decode cX12_as 46 = .ok (.getfield 32, 3) := by decide +kernel
theorem dX12_as_49 : decode cX12_as 49 = .ok (.iload_n 1, 1) := by decide +kernel
theorem dX12_as_50 : decode cX12_as 50 = .ok (.iaload, 1) := by decide +kernel
theorem dX12_as_51 : decode cX12_as 51 = .ok (.iconst 3, 1) := by decide +kernel
theorem dX12_as_52 : decode cX12_as 52 = .ok (.if_icmp .eq 18, 3) := by decide +kernel
theorem dX12_as_55 : decode cX12_as 55 = .ok (.iload_n 2, 1) := by decide +kernel
theorem dX12_as_56 : decode cX12_as 56 = .ok (.iconst 1, 1) := by decide +kernel
theorem dX12_as_57 : decode cX12_as 57 = .ok (.if_icmp .ne 17, 3) := by decide +kernel
theorem dX12_as_60 : decode cX12_as 60 = .ok (.aload_n 0, 1) := by decide +kernel
theorem dX12_as_61 : decode cX12_as 61 = .ok (.getfield 32, 3) := by decide +kernel
theorem dX12_as_64 : decode cX12_as 64 = .ok (.iload_n 1, 1) := by decide +kernel
theorem dX12_as_65 : decode cX12_as 65 = .ok (.iaload, 1) := by decide +kernel
theorem dX12_as_66 : decode cX12_as 66 = .ok (.iconst 4, 1) := by decide +kernel
theorem dX12_as_67 : decode cX12_as 67 = .ok (.if_icmp .ne 7, 3) := by decide +kernel
theorem dX12_as_70 : decode cX12_as 70 = .ok (.iconst 1, 1) := by decide +kernel
theorem dX12_as_71 : decode cX12_as 71 = .ok (.goto 4, 3) := by decide +kernel
theorem dX12_as_74 : decode cX12_as 74 = .ok (.iconst 0, 1) := by decide +kernel
theorem dX12_as_75 : decode cX12_as 75 = .ok (.istore_n 3, 1) := by decide +kernel
theorem dX12_as_76 : decode cX12_as 76 = .ok (.iload_n 3, 1) := by decide +kernel
theorem dX12_as_77 : decode cX12_as 77 = .ok (.ifCond .eq 7, 3) := by decide +kernel
theorem dX12_as_80 : decode cX12_as 80 = .ok (.iload_n 1, 1) := by decide +kernel
theorem dX12_as_81 : decode cX12_as 81 = .ok (.goto 4, 3) := by decide +kernel
theorem dX12_as_84 : decode cX12_as 84 = .ok (.iconst (-1), 1) := by decide +kernel
theorem dX12_as_85 : decode cX12_as 85 = .ok (.ireturn, 1) := by decide +kernel

set_option maxHeartbeats 4000000 in
set_option maxRecDepth 100000 in
theorem m_as (l : Launch) (D : va_G) (cs : Nat → ClassId) (m0 : Nat) (mp : Nat) (mw : Nat) (mh : Nat) (mo : Nat) (m5 : Nat) (m6 : Nat) (m7 : Nat) (mk : Nat) (mn : Nat) (mq : Nat) (m8 : Nat) (m9 : Nat) (mz : Nat) (mb : Nat) (md : Nat) (ms : Nat) (C : Nat) (P : Nat) (mpn : Nat) (mrs : Nat) (sS : Nat) (rc : Nat) (rp : Nat) (ic : Nat) (hms : ms ≤ 90) (hC5 : C ≤ 5) (hP4 : P ≤ 4) (hmpn : mpn ≤ 8) (hmrs : mrs ≤ 24) (hsS : sS ≤ 4) (hrc : rc ≤ 5) (hrp : rp ≤ 4) (hic : ic ≤ 4) (x_value : Int32) (x_digits : Int32) (x_all : Int64) (x_kind : Int32) (x_last : Int32) (x_steps : Int32) (x_isRound : Int32) (x_tablesDone : Int32) (x_hash : Int64) (fmk : Nat → Int32) (p1 : Int32) (p2 : Int32) : Met l yX12_as (Cond.code yX12_as cX12_as 4 (some .int) :: gw_tbl) ({ frames := 2, cells := 0, slots := 0, locals := 46 }) (pc_S D cs [(m0, .inr (12, [.ref mp, .int (nI ms), .int (nI C), .int (nI P), .ref mw, .ref mh, .ref mo, .int (nI sS), .int x_value, .int x_digits, .int (nI rc), .int (nI rp), .int (nI ic), .ref m5, .ref m6, .ref m7, .long x_all, .int (nI mpn), .ref mk, .ref mn, .int x_kind, .ref mq, .ref m8, .ref m9, .int x_last, .int x_steps, .int x_isRound, .int x_tablesDone, .ref mz, .int (nI mrs), .ref mb, .ref md, .long x_hash])), (mk, .inl (cs 0, 8, .inl fmk))] [.ref m0, .int p1, .int p2]) (vp_Si (fun r => True)) 0 0 (fun _ => False) := by
  refine Met.ofW (cc := cX12_as) (maxL := 4) (ret := (some .int)) (by decide) rfl ?_
  intro p e s m args below meth c s₁ B hml hv
  obtain ⟨hargs, hP, hK⟩ := hv
  have hx := B.exec
  have hb := B.bytes
  have hr := B.returns
  have hts := atoms_spec (ws := Cond.code yX12_as cX12_as 4 (some .int) :: gw_tbl) B.pre
  have hg := fun (w : Cond) (h : w ∈ gw_tbl) => hts w (List.mem_cons_of_mem _ h)
  have hown : s.vm.findClass RX12 = some m.cls := findClass_of_methodNamed B.named
  have hlocks := B.notSynchronized
  have hl := lv_entry ([.ref m0, .int p1, .int p2]) (n := 4) (Nat.le_of_ble_eq_true rfl)
  rw [show entryFrame m args 4 = F0 m 0 (lg_sl ([.ref m0, .int p1, .int p2]) ++ List.replicate (4 - (lg_sl ([.ref m0, .int p1, .int p2])).length) Slot.unset).toArray [] from by rw [hargs]; exact lg_entry_eq ..]
  generalize (lg_sl ([.ref m0, .int p1, .int p2]) ++ List.replicate (4 - (lg_sl ([.ref m0, .int p1, .int p2])).length) Slot.unset).toArray = ls at hl ⊢
  have hl : lv_has ls 4 [(0, .ref m0), (1, .int p1), (2, .int p2)] := hl
  refine W_genQ (fun Q hQ => ?_)
  have hlm := lim_le hP4
  have hlq := lim_pos P
  have hsg := sgn_le hP4
  refine lv_aload_n hx hb dX12_as_0 rfl (lv_at hl 0 rfl) ?_
  refine lv_iload_n hx hb dX12_as_1 rfl (lv_at hl 1 rfl) ?_
  have hPc := hP.sub (ws' := [(m0, .inr (12, [.ref mp, .int (nI ms), .int (nI C), .int (nI P), .ref mw, .ref mh, .ref mo, .int (nI sS), .int x_value, .int x_digits, .int (nI rc), .int (nI rp), .int (nI ic), .ref m5, .ref m6, .ref m7, .long x_all, .int (nI mpn), .ref mk, .ref mn, .int x_kind, .ref mq, .ref m8, .ref m9, .int x_last, .int x_steps, .int x_isRound, .int x_tablesDone, .ref mz, .int (nI mrs), .ref mb, .ref md, .long x_hash]))]) [0] rfl
  refine vp_callSi (W.runV (As := [.int p1]) (rest := []) ⟨hx, hb, hml, hown, hg⟩ (m_isPay l D cs m0 mp mw mh mo m5 m6 m7 mk mn mq m8 m9 mz mb md ms C P mpn mrs sS rc rp ic (by omega) (by omega) (by omega) (by omega) (by omega) (by omega) (by omega) (by omega) (by omega) x_value x_digits x_all x_kind x_last x_steps x_isRound x_tablesDone x_hash p1) (cwV 1 hg (gw_V kw_419 kw_420 kw_421 kw_319 kw_418) rfl rfl rfl (by decide +kernel) ⟨(Nat.le_of_ble_eq_true rfl), (Nat.le_of_ble_eq_true rfl)⟩) (pr_SV (q := (RX12, TX12, 33)) 12 0 hK hPc rfl rfl) rfl rfl hl.1 rfl (lv_room (Nat.le_of_ble_eq_true rfl)) dX12_as_2 ⟨(Nat.le_of_ble_eq_true rfl), (Nat.le_of_ble_eq_true rfl)⟩) (fun r_2 h_2 => ?_)
  rcases h_2 with rfl | ⟨rfl, k_2, hk_2, rfl⟩
  · refine lv_if_ne (tgt := 11) hx hb dX12_as_5 (by decide) (fun c_5 => absurd c_5 (by decide)) (fun c_5 => ?_)
    refine lv_bipush (v := (-101)) hx hb dX12_as_8 (by decide) ?_
    refine W_sQ hQ ?_
    exact W.iret (v := (-101)) hx hb hr (fun t ht hW => ⟨(-101), rfl, trivial, ht⟩) (fun _ h => absurd h List.not_mem_nil) dX12_as_10
  · refine lv_if_ne (tgt := 11) hx hb dX12_as_5 (by decide) (fun c_5 => ?_) (fun c_5 => absurd c_5 (by decide))
    refine lv_iload_n hx hb dX12_as_11 rfl (lv_at hl 2 rfl) ?_
    refine lv_i2l hx hb dX12_as_12 rfl ?_
    refine lv_topl (fun z_12 e_12 => ?_)
    refine lv_lconst (v := 0) hx hb dX12_as_13 (by decide) ?_
    refine lv_ldc2 hx hb hown (hg _ kw_447) dX12_as_14 ?_
    refine vp_callSi (W.runS (As := [.long z_12, .long 0, .long 4]) (rest := []) ⟨hx, hb, hml, hown, hg⟩ (c_in l z_12 0 4) (va_cwS 3 hg (gw_S kw_317 kw_318 kw_319 kw_316) rfl rfl rfl (by decide +kernel) ⟨(Nat.le_of_ble_eq_true rfl), (Nat.le_of_ble_eq_true rfl)⟩) pr_0 rfl rfl hl.1 rfl (lv_room (Nat.le_of_ble_eq_true rfl)) dX12_as_17 ⟨(Nat.le_of_ble_eq_true rfl), (Nat.le_of_ble_eq_true rfl)⟩) (fun r_17 h_17 => ?_)
    replace h_17 := in_s (n := 4) (by decide) e_12 (by decide) h_17
    rcases h_17 with rfl | ⟨rfl, k_17, hk_17, rfl⟩
    · refine lv_if_ne (tgt := 26) hx hb dX12_as_20 (by decide) (fun c_20 => absurd c_20 (by decide)) (fun c_20 => ?_)
      refine lv_bipush (v := (-102)) hx hb dX12_as_23 (by decide) ?_
      refine W_sQ hQ ?_
      exact W.iret (v := (-102)) hx hb hr (fun t ht hW => ⟨(-102), rfl, trivial, ht⟩) (fun _ h => absurd h List.not_mem_nil) dX12_as_25
    · refine lv_if_ne (tgt := 26) hx hb dX12_as_20 (by decide) (fun c_20 => ?_) (fun c_20 => absurd c_20 (by decide))
      refine lv_iload_n hx hb dX12_as_26 rfl (lv_at hl 2 rfl) ?_
      refine lv_if_eq (tgt := 70) hx hb dX12_as_27 (by decide) (fun c_27 => ?_) (fun c_27 => ?_)
      · have n_27 : k_17 = 0 := b_eq_t (by omega) (by omega) c_27
        refine lv_iconst (v := 1) hx hb dX12_as_70 (by decide) ?_
        refine lv_goto (tgt := 75) hx hb dX12_as_71 (by decide) ?_
        refine lv_istore_n (lv' := [(3, .int 1), (0, .ref m0), (1, .int (nI k_2)), (2, .int (nI k_17))]) hx hb dX12_as_75 rfl hl (by decide) rfl (fun ls hl => ?_)
        refine lv_iload_n hx hb dX12_as_76 rfl (lv_at hl 0 rfl) ?_
        refine lv_if_eq (tgt := 84) hx hb dX12_as_77 (by decide) (fun c_77 => absurd c_77 (by decide)) (fun c_77 => ?_)
        refine lv_iload_n hx hb dX12_as_80 rfl (lv_at hl 2 rfl) ?_
        refine lv_goto (tgt := 85) hx hb dX12_as_81 (by decide) ?_
        refine W_sQ hQ ?_
        exact W.iret (v := (nI k_2)) hx hb hr (fun t ht hW => ⟨(nI k_2), rfl, trivial, ht⟩) (fun _ h => absurd h List.not_mem_nil) dX12_as_85
      · have n_27 : ¬ k_17 = 0 := b_eq_f (by omega) (by omega) c_27
        refine lv_iload_n hx hb dX12_as_30 rfl (lv_at hl 2 rfl) ?_
        refine lv_aload_n hx hb dX12_as_31 rfl (lv_at hl 0 rfl) ?_
        refine va_get (D := D) (ci := 12) (v := .ref mk) (C := RX12) (T := TX12) (N := 33) hx hb hg gwX12 hown hK hP 0 rfl rfl 18 (by decide) (hg _ kw_324) (fun _ h9 => h9) rfl dX12_as_32 ?_
        refine lv_iload_n hx hb dX12_as_35 rfl (lv_at hl 1 rfl) ?_
        refine va_iald hx hb hK hP 1 0 rfl rfl (vp_in_nI (show k_2 < 8 by omega) (by decide)) dX12_as_36 ?_
        refine lv_topi (fun z_36 e_36 => ?_)
        refine lv_icmp_eq (tgt := 70) hx hb dX12_as_37 (by decide) (fun c_37 => ?_) (fun c_37 => ?_)
        · refine lv_iconst (v := 1) hx hb dX12_as_70 (by decide) ?_
          refine lv_goto (tgt := 75) hx hb dX12_as_71 (by decide) ?_
          refine lv_istore_n (lv' := [(3, .int 1), (0, .ref m0), (1, .int (nI k_2)), (2, .int (nI k_17))]) hx hb dX12_as_75 rfl hl (by decide) rfl (fun ls hl => ?_)
          refine lv_iload_n hx hb dX12_as_76 rfl (lv_at hl 0 rfl) ?_
          refine lv_if_eq (tgt := 84) hx hb dX12_as_77 (by decide) (fun c_77 => absurd c_77 (by decide)) (fun c_77 => ?_)
          refine lv_iload_n hx hb dX12_as_80 rfl (lv_at hl 2 rfl) ?_
          refine lv_goto (tgt := 85) hx hb dX12_as_81 (by decide) ?_
          refine W_sQ hQ ?_
          exact W.iret (v := (nI k_2)) hx hb hr (fun t ht hW => ⟨(nI k_2), rfl, trivial, ht⟩) (fun _ h => absurd h List.not_mem_nil) dX12_as_85
        · refine lv_iload_n hx hb dX12_as_40 rfl (lv_at hl 2 rfl) ?_
          refine lv_iconst (v := 2) hx hb dX12_as_41 (by decide) ?_
          refine lv_icmp_ne (tgt := 55) hx hb dX12_as_42 (by decide) (fun c_42 => ?_) (fun c_42 => ?_)
          · have n_42 : ¬ k_17 = 2 := b_eq_f (by omega) (by omega) c_42
            refine lv_iload_n hx hb dX12_as_55 rfl (lv_at hl 2 rfl) ?_
            refine lv_iconst (v := 1) hx hb dX12_as_56 (by decide) ?_
            refine lv_icmp_ne (tgt := 74) hx hb dX12_as_57 (by decide) (fun c_57 => ?_) (fun c_57 => ?_)
            · have n_57 : ¬ k_17 = 1 := b_eq_f (by omega) (by omega) c_57
              refine lv_iconst (v := 0) hx hb dX12_as_74 (by decide) ?_
              refine lv_istore_n (lv' := [(3, .int 0), (0, .ref m0), (1, .int (nI k_2)), (2, .int (nI k_17))]) hx hb dX12_as_75 rfl hl (by decide) rfl (fun ls hl => ?_)
              refine lv_iload_n hx hb dX12_as_76 rfl (lv_at hl 0 rfl) ?_
              refine lv_if_eq (tgt := 84) hx hb dX12_as_77 (by decide) (fun c_77 => ?_) (fun c_77 => absurd c_77 (by decide))
              refine lv_iconst (v := (-1)) hx hb dX12_as_84 (by decide) ?_
              refine W_sQ hQ ?_
              exact W.iret (v := (-1)) hx hb hr (fun t ht hW => ⟨(-1), rfl, trivial, ht⟩) (fun _ h => absurd h List.not_mem_nil) dX12_as_85
            · have n_57 : k_17 = 1 := b_eq_t (by omega) (by omega) c_57
              refine lv_aload_n hx hb dX12_as_60 rfl (lv_at hl 0 rfl) ?_
              refine va_get (D := D) (ci := 12) (v := .ref mk) (C := RX12) (T := TX12) (N := 33) hx hb hg gwX12 hown hK hP 0 rfl rfl 18 (by decide) (hg _ kw_324) (fun _ h9 => h9) rfl dX12_as_61 ?_
              refine lv_iload_n hx hb dX12_as_64 rfl (lv_at hl 1 rfl) ?_
              refine va_iald hx hb hK hP 1 0 rfl rfl (vp_in_nI (show k_2 < 8 by omega) (by decide)) dX12_as_65 ?_
              refine lv_topi (fun z_65 e_65 => ?_)
              refine lv_iconst (v := 4) hx hb dX12_as_66 (by decide) ?_
              refine lv_icmp_ne (tgt := 74) hx hb dX12_as_67 (by decide) (fun c_67 => ?_) (fun c_67 => ?_)
              · refine lv_iconst (v := 0) hx hb dX12_as_74 (by decide) ?_
                refine lv_istore_n (lv' := [(3, .int 0), (0, .ref m0), (1, .int (nI k_2)), (2, .int (nI k_17))]) hx hb dX12_as_75 rfl hl (by decide) rfl (fun ls hl => ?_)
                refine lv_iload_n hx hb dX12_as_76 rfl (lv_at hl 0 rfl) ?_
                refine lv_if_eq (tgt := 84) hx hb dX12_as_77 (by decide) (fun c_77 => ?_) (fun c_77 => absurd c_77 (by decide))
                refine lv_iconst (v := (-1)) hx hb dX12_as_84 (by decide) ?_
                refine W_sQ hQ ?_
                exact W.iret (v := (-1)) hx hb hr (fun t ht hW => ⟨(-1), rfl, trivial, ht⟩) (fun _ h => absurd h List.not_mem_nil) dX12_as_85
              · refine lv_iconst (v := 1) hx hb dX12_as_70 (by decide) ?_
                refine lv_goto (tgt := 75) hx hb dX12_as_71 (by decide) ?_
                refine lv_istore_n (lv' := [(3, .int 1), (0, .ref m0), (1, .int (nI k_2)), (2, .int (nI k_17))]) hx hb dX12_as_75 rfl hl (by decide) rfl (fun ls hl => ?_)
                refine lv_iload_n hx hb dX12_as_76 rfl (lv_at hl 0 rfl) ?_
                refine lv_if_eq (tgt := 84) hx hb dX12_as_77 (by decide) (fun c_77 => absurd c_77 (by decide)) (fun c_77 => ?_)
                refine lv_iload_n hx hb dX12_as_80 rfl (lv_at hl 2 rfl) ?_
                refine lv_goto (tgt := 85) hx hb dX12_as_81 (by decide) ?_
                refine W_sQ hQ ?_
                exact W.iret (v := (nI k_2)) hx hb hr (fun t ht hW => ⟨(nI k_2), rfl, trivial, ht⟩) (fun _ h => absurd h List.not_mem_nil) dX12_as_85
          · have n_42 : k_17 = 2 := b_eq_t (by omega) (by omega) c_42
            refine lv_aload_n hx hb dX12_as_45 rfl (lv_at hl 0 rfl) ?_
            refine va_get (D := D) (ci := 12) (v := .ref mk) (C := RX12) (T := TX12) (N := 33) hx hb hg gwX12 hown hK hP 0 rfl rfl 18 (by decide) (hg _ kw_324) (fun _ h9 => h9) rfl dX12_as_46 ?_
            refine lv_iload_n hx hb dX12_as_49 rfl (lv_at hl 1 rfl) ?_
            refine va_iald hx hb hK hP 1 0 rfl rfl (vp_in_nI (show k_2 < 8 by omega) (by decide)) dX12_as_50 ?_
            refine lv_topi (fun z_50 e_50 => ?_)
            refine lv_iconst (v := 3) hx hb dX12_as_51 (by decide) ?_
            refine lv_icmp_eq (tgt := 70) hx hb dX12_as_52 (by decide) (fun c_52 => ?_) (fun c_52 => ?_)
            · refine lv_iconst (v := 1) hx hb dX12_as_70 (by decide) ?_
              refine lv_goto (tgt := 75) hx hb dX12_as_71 (by decide) ?_
              refine lv_istore_n (lv' := [(3, .int 1), (0, .ref m0), (1, .int (nI k_2)), (2, .int (nI k_17))]) hx hb dX12_as_75 rfl hl (by decide) rfl (fun ls hl => ?_)
              refine lv_iload_n hx hb dX12_as_76 rfl (lv_at hl 0 rfl) ?_
              refine lv_if_eq (tgt := 84) hx hb dX12_as_77 (by decide) (fun c_77 => absurd c_77 (by decide)) (fun c_77 => ?_)
              refine lv_iload_n hx hb dX12_as_80 rfl (lv_at hl 2 rfl) ?_
              refine lv_goto (tgt := 85) hx hb dX12_as_81 (by decide) ?_
              refine W_sQ hQ ?_
              exact W.iret (v := (nI k_2)) hx hb hr (fun t ht hW => ⟨(nI k_2), rfl, trivial, ht⟩) (fun _ h => absurd h List.not_mem_nil) dX12_as_85
            · refine lv_iload_n hx hb dX12_as_55 rfl (lv_at hl 2 rfl) ?_
              refine lv_iconst (v := 1) hx hb dX12_as_56 (by decide) ?_
              refine lv_icmp_ne (tgt := 74) hx hb dX12_as_57 (by decide) (fun c_57 => ?_) (fun c_57 => ?_)
              · have n_57 : ¬ k_17 = 1 := b_eq_f (by omega) (by omega) c_57
                refine lv_iconst (v := 0) hx hb dX12_as_74 (by decide) ?_
                refine lv_istore_n (lv' := [(3, .int 0), (0, .ref m0), (1, .int (nI k_2)), (2, .int (nI k_17))]) hx hb dX12_as_75 rfl hl (by decide) rfl (fun ls hl => ?_)
                refine lv_iload_n hx hb dX12_as_76 rfl (lv_at hl 0 rfl) ?_
                refine lv_if_eq (tgt := 84) hx hb dX12_as_77 (by decide) (fun c_77 => ?_) (fun c_77 => absurd c_77 (by decide))
                refine lv_iconst (v := (-1)) hx hb dX12_as_84 (by decide) ?_
                refine W_sQ hQ ?_
                exact W.iret (v := (-1)) hx hb hr (fun t ht hW => ⟨(-1), rfl, trivial, ht⟩) (fun _ h => absurd h List.not_mem_nil) dX12_as_85
              · have n_57 : k_17 = 1 := b_eq_t (by omega) (by omega) c_57
                refine lv_aload_n hx hb dX12_as_60 rfl (lv_at hl 0 rfl) ?_
                refine va_get (D := D) (ci := 12) (v := .ref mk) (C := RX12) (T := TX12) (N := 33) hx hb hg gwX12 hown hK hP 0 rfl rfl 18 (by decide) (hg _ kw_324) (fun _ h9 => h9) rfl dX12_as_61 ?_
                refine lv_iload_n hx hb dX12_as_64 rfl (lv_at hl 1 rfl) ?_
                refine va_iald hx hb hK hP 1 0 rfl rfl (vp_in_nI (show k_2 < 8 by omega) (by decide)) dX12_as_65 ?_
                refine lv_topi (fun z_65 e_65 => ?_)
                refine lv_iconst (v := 4) hx hb dX12_as_66 (by decide) ?_
                refine lv_icmp_ne (tgt := 74) hx hb dX12_as_67 (by decide) (fun c_67 => ?_) (fun c_67 => ?_)
                · refine lv_iconst (v := 0) hx hb dX12_as_74 (by decide) ?_
                  refine lv_istore_n (lv' := [(3, .int 0), (0, .ref m0), (1, .int (nI k_2)), (2, .int (nI k_17))]) hx hb dX12_as_75 rfl hl (by decide) rfl (fun ls hl => ?_)
                  refine lv_iload_n hx hb dX12_as_76 rfl (lv_at hl 0 rfl) ?_
                  refine lv_if_eq (tgt := 84) hx hb dX12_as_77 (by decide) (fun c_77 => ?_) (fun c_77 => absurd c_77 (by decide))
                  refine lv_iconst (v := (-1)) hx hb dX12_as_84 (by decide) ?_
                  refine W_sQ hQ ?_
                  exact W.iret (v := (-1)) hx hb hr (fun t ht hW => ⟨(-1), rfl, trivial, ht⟩) (fun _ h => absurd h List.not_mem_nil) dX12_as_85
                · refine lv_iconst (v := 1) hx hb dX12_as_70 (by decide) ?_
                  refine lv_goto (tgt := 75) hx hb dX12_as_71 (by decide) ?_
                  refine lv_istore_n (lv' := [(3, .int 1), (0, .ref m0), (1, .int (nI k_2)), (2, .int (nI k_17))]) hx hb dX12_as_75 rfl hl (by decide) rfl (fun ls hl => ?_)
                  refine lv_iload_n hx hb dX12_as_76 rfl (lv_at hl 0 rfl) ?_
                  refine lv_if_eq (tgt := 84) hx hb dX12_as_77 (by decide) (fun c_77 => absurd c_77 (by decide)) (fun c_77 => ?_)
                  refine lv_iload_n hx hb dX12_as_80 rfl (lv_at hl 2 rfl) ?_
                  refine lv_goto (tgt := 85) hx hb dX12_as_81 (by decide) ?_
                  refine W_sQ hQ ?_
                  exact W.iret (v := (nI k_2)) hx hb hr (fun t ht hW => ⟨(nI k_2), rfl, trivial, ht⟩) (fun _ h => absurd h List.not_mem_nil) dX12_as_85

theorem dX12_about_0 : decode cX12_about 0 = .ok (.aload_n 0, 1) := by decide +kernel
theorem dX12_about_1 : decode cX12_about 1 = .ok (.iload_n 1, 1) := by decide +kernel
theorem dX12_about_2 : decode cX12_about 2 = .ok (.invokevirtual 142, 3) := by decide +kernel
theorem dX12_about_5 : decode cX12_about 5 = .ok (.ifCond .ne 6, 3) := by decide +kernel
theorem dX12_about_8 : decode cX12_about 8 = .ok (.bipush (-101), 2) := by decide +kernel
theorem dX12_about_10 : decode cX12_about 10 = .ok (.ireturn, 1) := by decide +kernel
theorem dX12_about_11 : decode cX12_about 11 = .ok (.iload_n 2, 1) := by decide +kernel
theorem dX12_about_12 : decode cX12_about 12 = .ok (.i2l, 1) := by decide +kernel
theorem dX12_about_13 : decode cX12_about 13 = .ok (.lconst 0, 1) := by decide +kernel
theorem dX12_about_14 : decode cX12_about 14 = .ok (.ldc2_w 145, 3) := by decide +kernel
theorem dX12_about_17 : decode cX12_about 17 = .ok (.invokestatic 70, 3) := by decide +kernel
theorem dX12_about_20 : decode cX12_about 20 = .ok (.ifCond .eq 16, 3) := by decide +kernel
theorem dX12_about_23 : decode cX12_about 23 = .ok (.aload_n 0, 1) := by decide +kernel
theorem dX12_about_24 : decode cX12_about 24 = .ok (.getfield 35, 3) := by decide +kernel
theorem dX12_about_27 : decode cX12_about 27 = .ok (.iconst 4, 1) := by decide +kernel
theorem dX12_about_28 : decode cX12_about 28 = .ok (.iload_n 1, 1) := by decide +kernel
theorem dX12_about_29 : decode cX12_about 29 = .ok (.imul, 1) := by decide +kernel
theorem dX12_about_30 : decode cX12_about 30 = .ok (.iload_n 2, 1) := by decide +kernel
theorem dX12_about_31 : decode cX12_about 31 = .ok (.iadd, 1) := by decide +kernel
theorem dX12_about_32 : decode cX12_about 32 = .ok (.iaload, 1) := by decide +kernel
theorem dX12_about_33 : decode cX12_about 33 = .ok (.goto 19, 3) := by decide +kernel
theorem dX12_about_36 : decode cX12_about 36 = .ok (.iload_n 2, 1) := by decide +kernel
theorem dX12_about_37 : decode cX12_about 37 = .ok (.iconst 4, 1) := by decide +kernel
theorem dX12_about_38 : decode cX12_about 38 = .ok (.if_icmp .ne 12, 3) := by decide +kernel
theorem dX12_about_41 : decode cX12_about 41 = .ok (.aload_n 0, 1) := by decide +kernel
theorem dX12_about_42 : decode cX12_about 42 = .ok (.getfield 32, 3) := by decide +kernel
theorem dX12_about_45 : decode cX12_about 45 = .ok (.iload_n 1, 1) := by decide +kernel
theorem dX12_about_46 : decode cX12_about 46 = .ok (.iaload, 1) := by decide +kernel
theorem dX12_about_47 : decode cX12_about 47 = .ok (.goto 5, 3) := by decide +kernel
theorem dX12_about_50 : decode cX12_about 50 = .ok (.bipush (-102), 2) := by decide +kernel
theorem dX12_about_52 : decode cX12_about 52 = .ok (.ireturn, 1) := by decide +kernel

set_option maxHeartbeats 4000000 in
set_option maxRecDepth 100000 in
theorem m_about (l : Launch) (D : va_G) (cs : Nat → ClassId) (m0 : Nat) (mp : Nat) (mw : Nat) (mh : Nat) (mo : Nat) (m5 : Nat) (m6 : Nat) (m7 : Nat) (mk : Nat) (mn : Nat) (mq : Nat) (m8 : Nat) (m9 : Nat) (mz : Nat) (mb : Nat) (md : Nat) (ms : Nat) (C : Nat) (P : Nat) (mpn : Nat) (mrs : Nat) (sS : Nat) (rc : Nat) (rp : Nat) (ic : Nat) (hms : ms ≤ 90) (hC5 : C ≤ 5) (hP4 : P ≤ 4) (hmpn : mpn ≤ 8) (hmrs : mrs ≤ 24) (hsS : sS ≤ 4) (hrc : rc ≤ 5) (hrp : rp ≤ 4) (hic : ic ≤ 4) (x_value : Int32) (x_digits : Int32) (x_all : Int64) (x_kind : Int32) (x_last : Int32) (x_steps : Int32) (x_isRound : Int32) (x_tablesDone : Int32) (x_hash : Int64) (fmk : Nat → Int32) (fmn : Nat → Int32) (p1 : Int32) (p2 : Int32) : Met l yX12_about (Cond.code yX12_about cX12_about 3 (some .int) :: gw_tbl) ({ frames := 2, cells := 0, slots := 0, locals := 46 }) (pc_S D cs [(m0, .inr (12, [.ref mp, .int (nI ms), .int (nI C), .int (nI P), .ref mw, .ref mh, .ref mo, .int (nI sS), .int x_value, .int x_digits, .int (nI rc), .int (nI rp), .int (nI ic), .ref m5, .ref m6, .ref m7, .long x_all, .int (nI mpn), .ref mk, .ref mn, .int x_kind, .ref mq, .ref m8, .ref m9, .int x_last, .int x_steps, .int x_isRound, .int x_tablesDone, .ref mz, .int (nI mrs), .ref mb, .ref md, .long x_hash])), (mk, .inl (cs 0, 8, .inl fmk)), (mn, .inl (cs 0, 32, .inl fmn))] [.ref m0, .int p1, .int p2]) (vp_Si (fun r => True)) 0 0 (fun _ => False) := by
  refine Met.ofW (cc := cX12_about) (maxL := 3) (ret := (some .int)) (by decide) rfl ?_
  intro p e s m args below meth c s₁ B hml hv
  obtain ⟨hargs, hP, hK⟩ := hv
  have hx := B.exec
  have hb := B.bytes
  have hr := B.returns
  have hts := atoms_spec (ws := Cond.code yX12_about cX12_about 3 (some .int) :: gw_tbl) B.pre
  have hg := fun (w : Cond) (h : w ∈ gw_tbl) => hts w (List.mem_cons_of_mem _ h)
  have hown : s.vm.findClass RX12 = some m.cls := findClass_of_methodNamed B.named
  have hlocks := B.notSynchronized
  have hl := lv_entry ([.ref m0, .int p1, .int p2]) (n := 3) (Nat.le_of_ble_eq_true rfl)
  rw [show entryFrame m args 3 = F0 m 0 (lg_sl ([.ref m0, .int p1, .int p2]) ++ List.replicate (3 - (lg_sl ([.ref m0, .int p1, .int p2])).length) Slot.unset).toArray [] from by rw [hargs]; exact lg_entry_eq ..]
  generalize (lg_sl ([.ref m0, .int p1, .int p2]) ++ List.replicate (3 - (lg_sl ([.ref m0, .int p1, .int p2])).length) Slot.unset).toArray = ls at hl ⊢
  have hl : lv_has ls 3 [(0, .ref m0), (1, .int p1), (2, .int p2)] := hl
  refine W_genQ (fun Q hQ => ?_)
  have hlm := lim_le hP4
  have hlq := lim_pos P
  have hsg := sgn_le hP4
  refine lv_aload_n hx hb dX12_about_0 rfl (lv_at hl 0 rfl) ?_
  refine lv_iload_n hx hb dX12_about_1 rfl (lv_at hl 1 rfl) ?_
  have hPc := hP.sub (ws' := [(m0, .inr (12, [.ref mp, .int (nI ms), .int (nI C), .int (nI P), .ref mw, .ref mh, .ref mo, .int (nI sS), .int x_value, .int x_digits, .int (nI rc), .int (nI rp), .int (nI ic), .ref m5, .ref m6, .ref m7, .long x_all, .int (nI mpn), .ref mk, .ref mn, .int x_kind, .ref mq, .ref m8, .ref m9, .int x_last, .int x_steps, .int x_isRound, .int x_tablesDone, .ref mz, .int (nI mrs), .ref mb, .ref md, .long x_hash]))]) [0] rfl
  refine vp_callSi (W.runV (As := [.int p1]) (rest := []) ⟨hx, hb, hml, hown, hg⟩ (m_isPay l D cs m0 mp mw mh mo m5 m6 m7 mk mn mq m8 m9 mz mb md ms C P mpn mrs sS rc rp ic (by omega) (by omega) (by omega) (by omega) (by omega) (by omega) (by omega) (by omega) (by omega) x_value x_digits x_all x_kind x_last x_steps x_isRound x_tablesDone x_hash p1) (cwV 1 hg (gw_V kw_419 kw_420 kw_421 kw_319 kw_418) rfl rfl rfl (by decide +kernel) ⟨(Nat.le_of_ble_eq_true rfl), (Nat.le_of_ble_eq_true rfl)⟩) (pr_SV (q := (RX12, TX12, 33)) 12 0 hK hPc rfl rfl) rfl rfl hl.1 rfl (lv_room (Nat.le_of_ble_eq_true rfl)) dX12_about_2 ⟨(Nat.le_of_ble_eq_true rfl), (Nat.le_of_ble_eq_true rfl)⟩) (fun r_2 h_2 => ?_)
  rcases h_2 with rfl | ⟨rfl, k_2, hk_2, rfl⟩
  · refine lv_if_ne (tgt := 11) hx hb dX12_about_5 (by decide) (fun c_5 => absurd c_5 (by decide)) (fun c_5 => ?_)
    refine lv_bipush (v := (-101)) hx hb dX12_about_8 (by decide) ?_
    refine W_sQ hQ ?_
    exact W.iret (v := (-101)) hx hb hr (fun t ht hW => ⟨(-101), rfl, trivial, ht⟩) (fun _ h => absurd h List.not_mem_nil) dX12_about_10
  · refine lv_if_ne (tgt := 11) hx hb dX12_about_5 (by decide) (fun c_5 => ?_) (fun c_5 => absurd c_5 (by decide))
    refine lv_iload_n hx hb dX12_about_11 rfl (lv_at hl 2 rfl) ?_
    refine lv_i2l hx hb dX12_about_12 rfl ?_
    refine lv_topl (fun z_12 e_12 => ?_)
    refine lv_lconst (v := 0) hx hb dX12_about_13 (by decide) ?_
    refine lv_ldc2 hx hb hown (hg _ kw_461) dX12_about_14 ?_
    refine vp_callSi (W.runS (As := [.long z_12, .long 0, .long 3]) (rest := []) ⟨hx, hb, hml, hown, hg⟩ (c_in l z_12 0 3) (va_cwS 3 hg (gw_S kw_317 kw_318 kw_319 kw_316) rfl rfl rfl (by decide +kernel) ⟨(Nat.le_of_ble_eq_true rfl), (Nat.le_of_ble_eq_true rfl)⟩) pr_0 rfl rfl hl.1 rfl (lv_room (Nat.le_of_ble_eq_true rfl)) dX12_about_17 ⟨(Nat.le_of_ble_eq_true rfl), (Nat.le_of_ble_eq_true rfl)⟩) (fun r_17 h_17 => ?_)
    replace h_17 := in_s (n := 3) (by decide) e_12 (by decide) h_17
    rcases h_17 with rfl | ⟨rfl, k_17, hk_17, rfl⟩
    · refine lv_if_eq (tgt := 36) hx hb dX12_about_20 (by decide) (fun c_20 => ?_) (fun c_20 => absurd c_20 (by decide))
      refine lv_iload_n hx hb dX12_about_36 rfl (lv_at hl 2 rfl) ?_
      refine lv_iconst (v := 4) hx hb dX12_about_37 (by decide) ?_
      refine lv_icmp_ne (tgt := 50) hx hb dX12_about_38 (by decide) (fun c_38 => ?_) (fun c_38 => ?_)
      · refine lv_bipush (v := (-102)) hx hb dX12_about_50 (by decide) ?_
        refine W_sQ hQ ?_
        exact W.iret (v := (-102)) hx hb hr (fun t ht hW => ⟨(-102), rfl, trivial, ht⟩) (fun _ h => absurd h List.not_mem_nil) dX12_about_52
      · subst c_38
        refine lv_aload_n hx hb dX12_about_41 rfl (lv_at hl 0 rfl) ?_
        refine va_get (D := D) (ci := 12) (v := .ref mk) (C := RX12) (T := TX12) (N := 33) hx hb hg gwX12 hown hK hP 0 rfl rfl 18 (by decide) (hg _ kw_324) (fun _ h9 => h9) rfl dX12_about_42 ?_
        refine lv_iload_n hx hb dX12_about_45 rfl (lv_at hl 1 rfl) ?_
        refine va_iald hx hb hK hP 1 0 rfl rfl (vp_in_nI (show k_2 < 8 by omega) (by decide)) dX12_about_46 ?_
        refine lv_topi (fun z_46 e_46 => ?_)
        refine lv_goto (tgt := 52) hx hb dX12_about_47 (by decide) ?_
        refine W_sQ hQ ?_
        exact W.iret (v := z_46) hx hb hr (fun t ht hW => ⟨z_46, rfl, trivial, ht⟩) (fun _ h => absurd h List.not_mem_nil) dX12_about_52
    · refine lv_if_eq (tgt := 36) hx hb dX12_about_20 (by decide) (fun c_20 => absurd c_20 (by decide)) (fun c_20 => ?_)
      refine lv_aload_n hx hb dX12_about_23 rfl (lv_at hl 0 rfl) ?_
      refine va_get (D := D) (ci := 12) (v := .ref mn) (C := RX12) (T := TX12) (N := 33) hx hb hg gwX12 hown hK hP 0 rfl rfl 19 (by decide) (hg _ kw_327) (fun _ h9 => h9) rfl dX12_about_24 ?_
      refine lv_iconst (v := 4) hx hb dX12_about_27 (by decide) ?_
      refine lv_iload_n hx hb dX12_about_28 rfl (lv_at hl 1 rfl) ?_
      refine lv_imul hx hb dX12_about_29 ?_
      refine lv_topi (fun z_29 e_29 => ?_)
      obtain rfl : z_29 = nI (4 * k_2) := e_29.trans (pk_mul _ _)
      refine lv_iload_n hx hb dX12_about_30 rfl (lv_at hl 2 rfl) ?_
      refine lv_iadd hx hb dX12_about_31 ?_
      refine lv_topi (fun z_31 e_31 => ?_)
      obtain rfl : z_31 = nI (4 * k_2 + k_17) := e_31.trans (nI_add _ _)
      refine va_iald hx hb hK hP 2 0 rfl rfl (vp_in_nI (show 4 * k_2 + k_17 < 32 by omega) (by decide)) dX12_about_32 ?_
      refine lv_topi (fun z_32 e_32 => ?_)
      refine lv_goto (tgt := 52) hx hb dX12_about_33 (by decide) ?_
      refine W_sQ hQ ?_
      exact W.iret (v := z_32) hx hb hr (fun t ht hW => ⟨z_32, rfl, trivial, ht⟩) (fun _ h => absurd h List.not_mem_nil) dX12_about_52
