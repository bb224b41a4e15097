def wI (f : Nat → Int32) (n : Nat) : Prop := ∀ i, i < n → ∃ w : Nat, 1 ≤ w ∧ w ≤ 99 ∧ f i = nI w
def alK (k : Nat) (a : Int64) : Prop := ∃ t : Nat, a = lN t ∧ t ≤ k * 9900000000 ∧ (1 ≤ k → 1 ≤ t)
def whI (k : Nat) (a : Int64) : Prop := ∃ w : Nat, 1 ≤ w ∧ w ≤ 99 ∧ a = lN (w * 100 ^ k)
theorem alK_0 : alK 0 0 := ⟨0, rfl, by omega, by omega⟩
theorem whI_0 {f : Nat → Int32} {n k : Nat} {z : Int32} {y : Int64} (h : wI f n) (hk : k < n) (hn : n ≤ 5) (e : z = f (nI k).toNatClampNeg) (e2 : y = z.toInt64) : whI 0 y := by
  rw [nI_clamp (by omega)] at e
  obtain ⟨w, h1, h2, h3⟩ := h k hk
  exact ⟨w, h1, h2, by rw [e2, e, h3, nI_l (by omega), Nat.pow_zero, Nat.mul_one]⟩
theorem whI_s {k : Nat} {a y : Int64} (h : whI k a) (e : y = a * 100) : whI (k + 1) y := by
  obtain ⟨w, h1, h2, h3⟩ := h
  refine ⟨w, h1, h2, ?_⟩
  rw [e, h3, show (100 : Int64) = lN 100 from rfl, lN_mul, Nat.pow_succ, Nat.mul_assoc]
theorem alK_s {k P : Nat} {a b y : Int64} (hP : P ≤ 4) (h : alK k a) (h2 : whI P b) (e : y = a + b) : alK (k + 1) y := by
  obtain ⟨t, e1, h3, h4⟩ := h
  obtain ⟨w, h5, h6, h7⟩ := h2
  have hp : 100 ^ P ≤ 100000000 ∧ 1 ≤ 100 ^ P := by
    rcases (show P = 0 ∨ P = 1 ∨ P = 2 ∨ P = 3 ∨ P = 4 by omega) with rfl | rfl | rfl | rfl | rfl <;> decide
  have hw : w * 100 ^ P ≤ 99 * 100000000 := Nat.mul_le_mul h6 hp.1
  have hw1 : 1 ≤ w * 100 ^ P := Nat.mul_pos h5 hp.2
  exact ⟨t + w * 100 ^ P, by rw [e, e1, h7, lN_add], by omega, fun _ => by omega⟩
theorem fine_ne {C : Nat} {a z : Int64} (hC : C ≤ 5) (h : alK C a) (h1 : 1 ≤ C) (e : z = 10000 * a) : ¬ z = 0 := by
  obtain ⟨t, e1, h3, h4⟩ := h
  have ht := h4 h1
  rw [e, e1, show (10000 : Int64) = lN 10000 from rfl, lN_mul, show (0 : Int64) = lN 0 from rfl]
  intro q
  have q2 := (pk_lEQ (by omega) (by omega)).mp q
  omega
def zI (f : Nat → Int32) : Prop := ∀ i, i < 256 → f i = 0 ∨ f i = 1
def z0 (f : Nat → Int32) (k : Nat) : Prop := ∀ i, i < k → f i = 0
theorem z0_0 {f : Nat → Int32} : z0 f 0 := fun i h => absurd h (Nat.not_lt_zero i)
theorem z0_s {f f2 : Nat → Int32} {k : Nat} (h : z0 f k) (hk : k < 256) (e : f2 = upd f (nI k).toNatClampNeg (vp_nar .boolean (0 : Int32))) : z0 f2 (k + 1) := fun i hi => by
  rw [e, nI_clamp (by omega)]
  by_cases q : i = k
  · rw [q, pk_us]; decide
  · rw [pk_un q]; exact h i (by omega)
theorem zI_0 {f : Nat → Int32} (h : z0 f 256) : zI f := fun i hi => Or.inl (h i hi)
theorem zI_up {f f2 : Nat → Int32} {k : Nat} {v : Int32} (h : zI f) (hv : v = 0 ∨ v = 1) (e : f2 = upd f k (vp_nar .boolean v)) : zI f2 := fun i hi => by
  rw [e]
  by_cases q : i = k
  · rw [q, pk_us]
    rcases hv with rfl | rfl
    · exact Or.inl (by decide)
    · exact Or.inr (by decide)
  · rw [pk_un q]; exact h i hi
def cz (f : Nat → Int32) (n : Nat) : Nat := ((List.range n).filter (fun i => f i == 0)).length
theorem cz_le (f : Nat → Int32) (n : Nat) : cz f n ≤ n := by
  unfold cz
  exact Nat.le_trans (List.length_filter_le _ _) (by rw [List.length_range]; exact Nat.le_refl n)
theorem cz_same {f g : Nat → Int32} : ∀ {n : Nat}, (∀ i, i < n → f i = g i) → cz f n = cz g n := fun {n} h => by
  unfold cz
  congr 1
  apply List.filter_congr
  intro i hi
  rw [h i (List.mem_range.mp hi)]
theorem cz_succ (f : Nat → Int32) (n : Nat) : cz f (n + 1) = cz f n + (if f n = 0 then 1 else 0) := by
  unfold cz
  rw [List.range_succ, List.filter_append, List.length_append]
  congr 1
  by_cases q : f n = 0
  · simp [q]
  · simp [q]
theorem cz_up {f : Nat → Int32} {k : Nat} {v : Int32} (hv : ¬ v = 0) (h0 : f k = 0) : ∀ {n : Nat}, k < n → cz (upd f k v) n + 1 = cz f n
  | 0, h => absurd h (Nat.not_lt_zero _)
  | n + 1, h => by
    rw [cz_succ, cz_succ]
    by_cases q : k = n
    · subst q
      rw [pk_us, if_neg hv, h0, if_pos rfl, cz_same (g := f) (fun i hi => pk_un (by omega))]
    · rw [pk_un (fun e => q e.symm)]
      have := cz_up hv h0 (n := n) (by omega)
      omega

theorem dX12_layLikely_0 : decode cX12_layLikely 0 = .ok (.aload_n 0, 1) := by decide +kernel
theorem dX12_layLikely_1 : decode cX12_layLikely 1 = .ok (.lconst 0, 1) := by decide +kernel
theorem dX12_layLikely_2 : decode cX12_layLikely 2 = .ok (.putfield 117, 3) := by decide +kernel
theorem dX12_layLikely_5 : decode cX12_layLikely 5 = .ok (.iconst 0, 1) := by decide +kernel
theorem dX12_layLikely_6 : decode cX12_layLikely 6 = .ok (.istore_n 1, 1) := by decide +kernel
theorem dX12_layLikely_7 : decode cX12_layLikely 7 = .ok (.iload_n 1, 1) := by decide +kernel
theorem dX12_layLikely_8 : decode cX12_layLikely 8 = .ok (.bipush 16, 2) := by decide +kernel
theorem dX12_layLikely_10 : decode cX12_layLikely 10 = .ok (.if_icmp .ge 16, 3) := by decide +kernel
theorem dX12_layLikely_13 : decode cX12_layLikely 13 = .ok (.aload_n 0, 1) := by decide +kernel
theorem dX12_layLikely_14 : decode cX12_layLikely 14 = .ok (.getfield 28, 3) := by decide +kernel
theorem dX12_layLikely_17 : decode cX12_layLikely 17 = .ok (.iload_n 1, 1) := by decide +kernel
theorem dX12_layLikely_18 : decode cX12_layLikely 18 = .ok (.lconst 0, 1) := by decide +kernel
theorem dX12_layLikely_19 : decode cX12_layLikely 19 = .ok (.lastore, 1) := by decide +kernel
theorem dX12_layLikely_20 : decode cX12_layLikely 20 = .ok (.iinc 1 1, 3) := by decide +kernel
theorem dX12_layLikely_23 : decode cX12_layLikely 23 = .ok (.goto (-16), 3) := by decide +kernel
theorem dX12_layLikely_26 : decode cX12_layLikely 26 = .ok (.iconst 0, 1) := by decide +kernel
theorem dX12_layLikely_27 : decode cX12_layLikely 27 = .ok (.istore_n 1, 1) := by decide +kernel
theorem dX12_layLikely_28 : decode cX12_layLikely 28 = .ok (.iload_n 1, 1) := by decide +kernel
theorem dX12_layLikely_29 : decode cX12_layLikely 29 = .ok (.aload_n 0, 1) := by decide +kernel
theorem dX12_layLikely_30 : decode cX12_layLikely 30 = .ok (.getfield 103, 3) := by decide +kernel
theorem dX12_layLikely_33 : decode cX12_layLikely 33 = .ok (.if_icmp .ge 151, 3) := by decide +kernel
theorem dX12_layLikely_36 : decode cX12_layLikely 36 = .ok (.aload_n 0, 1) := by decide +kernel
theorem dX12_layLikely_37 : decode cX12_layLikely 37 = .ok (.getfield 13, 3) := by decide +kernel
theorem dX12_layLikely_40 : decode cX12_layLikely 40 = .ok (.iload_n 1, 1) := by decide +kernel
theorem dX12_layLikely_41 : decode cX12_layLikely 41 = .ok (.iaload, 1) := by decide +kernel
theorem dX12_layLikely_42 : decode cX12_layLikely 42 = .ok (.i2l, 1) := by decide +kernel
theorem dX12_layLikely_43 : decode cX12_layLikely 43 = .ok (.lstore_n 2, 1) := by decide +kernel
theorem dX12_layLikely_44 : decode cX12_layLikely 44 = .ok (.iconst 0, 1) := by decide +kernel
theorem dX12_layLikely_45 : decode cX12_layLikely 45 = .ok (.istore 4, 2) := by decide +kernel
theorem dX12_layLikely_47 : decode cX12_layLikely 47 = .ok (.iload 4, 2) := by decide +kernel
theorem dX12_layLikely_49 : decode cX12_layLikely 49 = .ok (.aload_n 0, 1) := by decide +kernel
theorem dX12_layLikely_50 : decode cX12_layLikely 50 = .ok (.getfield 57, 3) := by decide +kernel
theorem dX12_layLikely_53 : decode cX12_layLikely 53 = .ok (.if_icmp .ge 15, 3) := by decide +kernel
theorem dX12_layLikely_56 : decode cX12_layLikely 56 = .ok (.lload_n 2, 1) := by decide +kernel
theorem dX12_layLikely_57 : decode cX12_layLikely 57 = .ok (.ldc2_w 121, 3) := by decide +kernel
theorem dX12_layLikely_60 : decode cX12_layLikely 60 = .ok (.lmul, 1) := by decide +kernel
theorem dX12_layLikely_61 : decode cX12_layLikely 61 = .ok (.lstore_n 2, 1) := by decide +kernel
theorem dX12_layLikely_62 : decode cX12_layLikely 62 = .ok (.iinc 4 1, 3) := by decide +kernel
theorem dX12_layLikely_65 : decode cX12_layLikely 65 = .ok (.goto (-18), 3) := by decide +kernel
theorem dX12_layLikely_68 : decode cX12_layLikely 68 = .ok (.aload_n 0, 1) := by decide +kernel
theorem dX12_layLikely_69 : decode cX12_layLikely 69 = .ok (.dup, 1) := by decide +kernel
theorem dX12_layLikely_70 : decode cX12_layLikely 70 = .ok (.getfield 117, 3) := by decide +kernel
theorem dX12_layLikely_73 : decode cX12_layLikely 73 = .ok (.lload_n 2, 1) := by decide +kernel
theorem dX12_layLikely_74 : decode cX12_layLikely 74 = .ok (.ladd, 1) := by decide +kernel
theorem dX12_layLikely_75 : decode cX12_layLikely 75 = .ok (.putfield 117, 3) := by decide +kernel
theorem dX12_layLikely_78 : decode cX12_layLikely 78 = .ok (.iconst 0, 1) := by decide +kernel
theorem dX12_layLikely_79 : decode cX12_layLikely 79 = .ok (.istore 4, 2) := by decide +kernel
theorem dX12_layLikely_81 : decode cX12_layLikely 81 = .ok (.iload 4, 2) := by decide +kernel
theorem dX12_layLikely_83 : decode cX12_layLikely 83 = .ok (.iconst 1, 1) := by decide +kernel
theorem dX12_layLikely_84 : decode cX12_layLikely 84 = .ok (.aload_n 0, 1) := by decide +kernel
theorem dX12_layLikely_85 : decode cX12_layLikely 85 = .ok (.getfield 57, 3) := by decide +kernel
theorem dX12_layLikely_88 : decode cX12_layLikely 88 = .ok (.ishl, 1) := by decide +kernel
theorem dX12_layLikely_89 : decode cX12_layLikely 89 = .ok (.if_icmp .ge 89, 3) := by decide +kernel
theorem dX12_layLikely_92 : decode cX12_layLikely 92 = .ok (.aload_n 0, 1) := by decide +kernel
theorem dX12_layLikely_93 : decode cX12_layLikely 93 = .ok (.getfield 13, 3) := by decide +kernel
theorem dX12_layLikely_96 : decode cX12_layLikely 96 = .ok (.iload_n 1, 1) := by decide +kernel
theorem dX12_layLikely_97 : decode cX12_layLikely 97 = .ok (.iaload, 1) := by decide +kernel
theorem dX12_layLikely_98 : decode cX12_layLikely 98 = .ok (.i2l, 1) := by decide +kernel
theorem dX12_layLikely_99 : decode cX12_layLikely 99 = .ok (.lstore 5, 2) := by decide +kernel
theorem dX12_layLikely_101 : decode cX12_layLikely 101 = .ok (.iconst 0, 1) := by decide +kernel
theorem dX12_layLikely_102 : decode cX12_layLikely 102 = .ok (.istore 7, 2) := by decide +kernel
theorem dX12_layLikely_104 : decode cX12_layLikely 104 = .ok (.iload 7, 2) := by decide +kernel
theorem dX12_layLikely_106 : decode cX12_layLikely 106 = .ok (.aload_n 0, 1) := by decide +kernel
theorem dX12_layLikely_107 : decode cX12_layLikely 107 = .ok (.getfield 57, 3) := by decide +kernel
theorem dX12_layLikely_110 : decode cX12_layLikely 110 = .ok (.if_icmp .ge 50, 3) := by decide +kernel
theorem dX12_layLikely_113 : decode cX12_layLikely 113 = .ok (.aload_n 0, 1) := by decide +kernel
theorem dX12_layLikely_114 : decode cX12_layLikely 114 = .ok (.getfield 16, 3) := by decide +kernel
theorem dX12_layLikely_117 : decode cX12_layLikely 117 = .ok (.iconst 4, 1) := by decide +kernel
theorem dX12_layLikely_118 : decode cX12_layLikely 118 = .ok (.iload_n 1, 1) := by decide +kernel
theorem dX12_layLikely_119 : decode cX12_layLikely 119 = .ok (.imul, 1) := by decide +kernel
theorem dX12_layLikely_120 : decode cX12_layLikely 120 = .ok (.iload 7, 2) := by decide +kernel
theorem dX12_layLikely_122 : decode cX12_layLikely 122 = .ok (.iadd, 1) := by decide +kernel
theorem dX12_layLikely_123 : decode cX12_layLikely 123 = .ok (.iaload, 1) := by decide +kernel
theorem dX12_layLikely_124 : decode cX12_layLikely 124 = .ok (.istore 8, 2) := by decide +kernel
theorem dX12_layLikely_126 : decode cX12_layLikely 126 = .ok (.lload 5, 2) := by decide +kernel
theorem dX12_layLikely_128 : decode cX12_layLikely 128 = .ok (.iload 4, 2) := by decide +kernel
theorem dX12_layLikely_130 : decode cX12_layLikely 130 = .ok (.iload 7, 2) := by decide +kernel
theorem dX12_layLikely_132 : decode cX12_layLikely 132 = .ok (.ishr, 1) := by decide +kernel
theorem dX12_layLikely_133 : decode cX12_layLikely 133 = .ok (.iconst 1, 1) := by decide +kernel
theorem dX12_layLikely_134 : decode cX12_layLikely 134 = .ok (.iand, 1) := by decide +kernel
theorem dX12_layLikely_135 : decode cX12_layLikely 135 = .ok (.iconst 1, 1) := by decide +kernel
theorem dX12_layLikely_136 : decode cX12_layLikely 136 = .ok (.if_icmp .ne 9, 3) := by decide +kernel
theorem dX12_layLikely_139 : decode cX12_layLikely 139 = .ok (.iload 8, 2) := by decide +kernel
theorem dX12_layLikely_141 : decode cX12_layLikely 141 = .ok (.i2l, 1) := by decide +kernel
theorem dX12_layLikely_142 : decode cX12_layLikely 142 = .ok (.goto 9, 3) := by decide +kernel
theorem dX12_layLikely_145 : decode cX12_layLikely 145 = .ok (.bipush 100, 2) := by decide +kernel
theorem dX12_layLikely_147 : decode cX12_layLikely 147 = .ok (.iload 8, 2) := by decide +kernel
theorem dX12_layLikely_149 : decode cX12_layLikely 149 = .ok (.isub, 1) := by decide +kernel
theorem dX12_layLikely_150 : decode cX12_layLikely 150 = .ok (.i2l, 1) := by decide +kernel
theorem dX12_layLikely_151 : decode cX12_layLikely 151 = .ok (.lmul, 1) := by decide +kernel
theorem dX12_layLikely_152 : decode cX12_layLikely 152 = .ok (.lstore 5, 2) := by decide +kernel
theorem dX12_layLikely_154 : decode cX12_layLikely 154 = .ok (.iinc 7 1, 3) := by decide +kernel
theorem dX12_layLikely_157 : decode cX12_layLikely 157 = .ok (.goto (-53), 3) := by decide +kernel
theorem dX12_layLikely_160 : decode cX12_layLikely 160 = .ok (.aload_n 0, 1) := by decide +kernel
theorem dX12_layLikely_161 : decode cX12_layLikely 161 = .ok (.getfield 28, 3) := by decide +kernel
theorem dX12_layLikely_164 : decode cX12_layLikely 164 = .ok (.iload 4, 2) := by decide +kernel
theorem dX12_layLikely_166 : decode cX12_layLikely 166 = .ok (.dup2, 1) := by decide +kernel
theorem dX12_layLikely_167 : decode cX12_layLikely 167 = .ok (.laload, 1) := by decide +kernel
theorem dX12_layLikely_168 : decode cX12_layLikely 168 = .ok (.lload 5, 2) := by decide +kernel
theorem dX12_layLikely_170 : decode cX12_layLikely 170 = .ok (.ladd, 1) := by decide +kernel
theorem dX12_layLikely_171 : decode cX12_layLikely 171 = .ok (.lastore, 1) := by decide +kernel
theorem dX12_layLikely_172 : decode cX12_layLikely 172 = .ok (.iinc 4 1, 3) := by decide +kernel
theorem dX12_layLikely_175 : decode cX12_layLikely 175 = .ok (.goto (-94), 3) := by decide +kernel
theorem dX12_layLikely_178 : decode cX12_layLikely 178 = .ok (.iinc 1 1, 3) := by decide +kernel
theorem dX12_layLikely_181 : decode cX12_layLikely 181 = .ok (.goto (-153), 3) := by decide +kernel
theorem dX12_layLikely_184 : decode cX12_layLikely 184 = .ok (.return_, 1) := by decide +kernel
theorem kw_401 : (.fieldLink RX12 13 "NobodyChecksModel" "weights" "[I" : Cond) ∈ gw_tbl := gw_in (by decide +kernel) (by decide +kernel)
theorem kw_402 : (.fieldLink RX12 16 "NobodyChecksModel" "chances" "[I" : Cond) ∈ gw_tbl := gw_in (by decide +kernel) (by decide +kernel)
theorem kw_403 : (.constantLong RX12 121 (100) : Cond) ∈ gw_tbl := gw_in (by decide +kernel) (by decide +kernel)

set_option maxHeartbeats 4000000 in
set_option maxRecDepth 100000 in
theorem m_layLikely (l : Launch) (D : va_G) (cs : Nat → ClassId) (m0 : Nat) (mp : Nat) (mw : Nat) (mh : Nat) (mo : Nat) (m5 : Nat) (m6 : Nat) (m7 : Nat) (mk : Nat) (mn : Nat) (mq : Nat) (m8 : Nat) (m9 : Nat) (mz : Nat) (mb : Nat) (md : Nat) (ms : Nat) (C : Nat) (P : Nat) (mpn : Nat) (mrs : Nat) (sS : Nat) (rc : Nat) (rp : Nat) (ic : Nat) (hms : ms ≤ 90) (hC5 : C ≤ 5) (hP4 : P ≤ 4) (hmpn : mpn ≤ 8) (hmrs : mrs ≤ 24) (hsS : sS ≤ 4) (hrc : rc ≤ 5) (hrp : rp ≤ 4) (hic : ic ≤ 4) (x_value : Int32) (x_digits : Int32) (x_all : Int64) (x_kind : Int32) (x_last : Int32) (x_steps : Int32) (x_isRound : Int32) (x_tablesDone : Int32) (x_hash : Int64) (fmw : Nat → Int32) (fmh : Nat → Int32) (fm7 : Nat → Int64) (hwI : wI fmw C) (sz : Nat) : Met l yX12_layLikely (Cond.code yX12_layLikely cX12_layLikely 9 none :: gw_tbl) ({ frames := 0, cells := 0, slots := 0, locals := 0 }) (pc_M D cs [(m0, .inr (12, [.ref mp, .int (nI ms), .int (nI C), .int (nI P), .ref mw, .ref mh, .ref mo, .int (nI sS), .int x_value, .int x_digits, .int (nI rc), .int (nI rp), .int (nI ic), .ref m5, .ref m6, .ref m7, .long x_all, .int (nI mpn), .ref mk, .ref mn, .int x_kind, .ref mq, .ref m8, .ref m9, .int x_last, .int x_steps, .int x_isRound, .int x_tablesDone, .ref mz, .int (nI mrs), .ref mb, .ref md, .long x_hash])), (mw, .inl (cs 0, 5, .inl fmw)), (mh, .inl (cs 0, 20, .inl fmh)), (m7, .inl (cs 1, 16, .inr (.inl fm7)))] sz [.ref m0]) (va_Qv (fun (u : Unit) => True) (fun u t => ∃ (al2 : Int64), ∃ (fm72 : Nat → Int64), (alK C al2) ∧ va_P D vwCl [(m0, .inr (12, [.ref mp, .int (nI ms), .int (nI C), .int (nI P), .ref mw, .ref mh, .ref mo, .int (nI sS), .int x_value, .int x_digits, .int (nI rc), .int (nI rp), .int (nI ic), .ref m5, .ref m6, .ref m7, .long al2, .int (nI mpn), .ref mk, .ref mn, .int x_kind, .ref mq, .ref m8, .ref m9, .int x_last, .int x_steps, .int x_isRound, .int x_tablesDone, .ref mz, .int (nI mrs), .ref mb, .ref md, .long x_hash])), (mw, .inl (cs 0, 5, .inl fmw)), (mh, .inl (cs 0, 20, .inl fmh)), (m7, .inl (cs 1, 16, .inr (.inl fm72)))] t.heap ∧ va_D (va_A [(m0, .inr (12, [.ref mp, .int (nI ms), .int (nI C), .int (nI P), .ref mw, .ref mh, .ref mo, .int (nI sS), .int x_value, .int x_digits, .int (nI rc), .int (nI rp), .int (nI ic), .ref m5, .ref m6, .ref m7, .long x_all, .int (nI mpn), .ref mk, .ref mn, .int x_kind, .ref mq, .ref m8, .ref m9, .int x_last, .int x_steps, .int x_isRound, .int x_tablesDone, .ref mz, .int (nI mrs), .ref mb, .ref md, .long x_hash])), (mw, .inl (cs 0, 5, .inl fmw)), (mh, .inl (cs 0, 20, .inl fmh)), (m7, .inl (cs 1, 16, .inr (.inl fm7)))] sz) [(m0, .inr (12, [.ref mp, .int (nI ms), .int (nI C), .int (nI P), .ref mw, .ref mh, .ref mo, .int (nI sS), .int x_value, .int x_digits, .int (nI rc), .int (nI rp), .int (nI ic), .ref m5, .ref m6, .ref m7, .long al2, .int (nI mpn), .ref mk, .ref mn, .int x_kind, .ref mq, .ref m8, .ref m9, .int x_last, .int x_steps, .int x_isRound, .int x_tablesDone, .ref mz, .int (nI mrs), .ref mb, .ref md, .long x_hash])), (mw, .inl (cs 0, 5, .inl fmw)), (mh, .inl (cs 0, 20, .inl fmh)), (m7, .inl (cs 1, 16, .inr (.inl fm72)))]) (va_A [(m0, .inr (12, [.ref mp, .int (nI ms), .int (nI C), .int (nI P), .ref mw, .ref mh, .ref mo, .int (nI sS), .int x_value, .int x_digits, .int (nI rc), .int (nI rp), .int (nI ic), .ref m5, .ref m6, .ref m7, .long x_all, .int (nI mpn), .ref mk, .ref mn, .int x_kind, .ref mq, .ref m8, .ref m9, .int x_last, .int x_steps, .int x_isRound, .int x_tablesDone, .ref mz, .int (nI mrs), .ref mb, .ref md, .long x_hash])), (mw, .inl (cs 0, 5, .inl fmw)), (mh, .inl (cs 0, 20, .inl fmh)), (m7, .inl (cs 1, 16, .inr (.inl fm7)))] sz)) 0 0 (va_A [(m0, .inr (12, [.ref mp, .int (nI ms), .int (nI C), .int (nI P), .ref mw, .ref mh, .ref mo, .int (nI sS), .int x_value, .int x_digits, .int (nI rc), .int (nI rp), .int (nI ic), .ref m5, .ref m6, .ref m7, .long x_all, .int (nI mpn), .ref mk, .ref mn, .int x_kind, .ref mq, .ref m8, .ref m9, .int x_last, .int x_steps, .int x_isRound, .int x_tablesDone, .ref mz, .int (nI mrs), .ref mb, .ref md, .long x_hash])), (mw, .inl (cs 0, 5, .inl fmw)), (mh, .inl (cs 0, 20, .inl fmh)), (m7, .inl (cs 1, 16, .inr (.inl fm7)))] sz) := by
  refine Met.ofW (cc := cX12_layLikely) (maxL := 9) (ret := none) (by decide) rfl ?_
  intro p e s m args below meth c s₁ B hml hv
  obtain ⟨hargs, hsz, hP, hK, hD0⟩ := hv
  have hx := B.exec
  have hb := B.bytes
  have hr := B.returns
  have hts := atoms_spec (ws := Cond.code yX12_layLikely cX12_layLikely 9 none :: gw_tbl) B.pre
  have hg := fun (w : Cond) (h : w ∈ gw_tbl) => hts w (List.mem_cons_of_mem _ h)
  have hown : s.vm.findClass RX12 = some m.cls := findClass_of_methodNamed B.named
  have hlocks := B.notSynchronized
  subst hsz
  have hD := hD0.self (sz := s.heap.size)
  generalize hAe : va_A [(m0, .inr (12, [.ref mp, .int (nI ms), .int (nI C), .int (nI P), .ref mw, .ref mh, .ref mo, .int (nI sS), .int x_value, .int x_digits, .int (nI rc), .int (nI rp), .int (nI ic), .ref m5, .ref m6, .ref m7, .long x_all, .int (nI mpn), .ref mk, .ref mn, .int x_kind, .ref mq, .ref m8, .ref m9, .int x_last, .int x_steps, .int x_isRound, .int x_tablesDone, .ref mz, .int (nI mrs), .ref mb, .ref md, .long x_hash])), (mw, .inl (cs 0, 5, .inl fmw)), (mh, .inl (cs 0, 20, .inl fmh)), (m7, .inl (cs 1, 16, .inr (.inl fm7)))] s.heap.size = A at hD ⊢
  have hA : ∀ q : Nat, s.heap.size ≤ q → A q := fun q h => by rw [← hAe]; exact Or.inr h
  have hS : va_S A s.heap s.heap [] := va_S.rf
  have hP : va_P D vwCl [(m0, .inr (12, [.ref mp, .int (nI ms), .int (nI C), .int (nI P), .ref mw, .ref mh, .ref mo, .int (nI sS), .int x_value, .int x_digits, .int (nI rc), .int (nI rp), .int (nI ic), .ref m5, .ref m6, .ref m7, .long x_all, .int (nI mpn), .ref mk, .ref mn, .int x_kind, .ref mq, .ref m8, .ref m9, .int x_last, .int x_steps, .int x_isRound, .int x_tablesDone, .ref mz, .int (nI mrs), .ref mb, .ref md, .long x_hash])), (mw, .inl (cs 0, 5, .inl fmw)), (mh, .inl (cs 0, 20, .inl fmh)), (m7, .inl (cs 1, 16, .inr (.inl fm7)))] s.heap := hP
  have hl := lv_entry ([.ref m0]) (n := 9) (Nat.le_of_ble_eq_true rfl)
  rw [show entryFrame m args 9 = F0 m 0 (lg_sl ([.ref m0]) ++ List.replicate (9 - (lg_sl ([.ref m0])).length) Slot.unset).toArray [] from by rw [hargs]; exact lg_entry_eq ..]
  generalize (lg_sl ([.ref m0]) ++ List.replicate (9 - (lg_sl ([.ref m0])).length) Slot.unset).toArray = ls at hl ⊢
  have hl : lv_has ls 9 [(0, .ref m0)] := hl
  refine W_genQ (fun Q hQ => ?_)
  have hlm := lim_le hP4
  have hlq := lim_pos P
  have hsg := sgn_le hP4
  refine lv_aload_n hx hb dX12_layLikely_0 rfl (lv_at hl 0 rfl) ?_
  refine lv_lconst (v := 0) hx hb dX12_layLikely_1 (by decide) ?_
  refine va_put (D := D) (ci := 12) (v := .long 0) (ty := .long) (C := RX12) (T := TX12) (N := 33) hx hb hg gwX12 tyX12 tyX12_ok nmX12 hown hK hP hD hS 0 rfl rfl 16 (by decide) (hg _ kw_335) (fun _ h9 => h9) rfl (by decide +kernel) rfl rfl (Nat.le_of_ble_eq_true rfl) dX12_layLikely_2 (fun H locs hP hD hS => ?_)
  have hP : va_P D vwCl [(m0, .inr (12, [.ref mp, .int (nI ms), .int (nI C), .int (nI P), .ref mw, .ref mh, .ref mo, .int (nI sS), .int x_value, .int x_digits, .int (nI rc), .int (nI rp), .int (nI ic), .ref m5, .ref m6, .ref m7, .long 0, .int (nI mpn), .ref mk, .ref mn, .int x_kind, .ref mq, .ref m8, .ref m9, .int x_last, .int x_steps, .int x_isRound, .int x_tablesDone, .ref mz, .int (nI mrs), .ref mb, .ref md, .long x_hash])), (mw, .inl (cs 0, 5, .inl fmw)), (mh, .inl (cs 0, 20, .inl fmh)), (m7, .inl (cs 1, 16, .inr (.inl fm7)))] H := hP
  have hD : va_D A [(m0, .inr (12, [.ref mp, .int (nI ms), .int (nI C), .int (nI P), .ref mw, .ref mh, .ref mo, .int (nI sS), .int x_value, .int x_digits, .int (nI rc), .int (nI rp), .int (nI ic), .ref m5, .ref m6, .ref m7, .long 0, .int (nI mpn), .ref mk, .ref mn, .int x_kind, .ref mq, .ref m8, .ref m9, .int x_last, .int x_steps, .int x_isRound, .int x_tablesDone, .ref mz, .int (nI mrs), .ref mb, .ref md, .long x_hash])), (mw, .inl (cs 0, 5, .inl fmw)), (mh, .inl (cs 0, 20, .inl fmh)), (m7, .inl (cs 1, 16, .inr (.inl fm7)))] := hD
  refine lv_iconst (v := 0) hx hb dX12_layLikely_5 (by decide) ?_
  refine lv_istore_n (lv' := [(1, .int 0), (0, .ref m0)]) hx hb dX12_layLikely_6 rfl hl (by decide) rfl (fun ls hl => ?_)
  have LOOP7 : ∀ (n7 : Nat) (k : Nat) (fm7_7 : Nat → Int64), k ≤ 16 → 16 - k < n7 → ∀ (H : Heap) (locs : List Loc) (ls : Array Slot), va_P D vwCl [(m0, .inr (12, [.ref mp, .int (nI ms), .int (nI C), .int (nI P), .ref mw, .ref mh, .ref mo, .int (nI sS), .int x_value, .int x_digits, .int (nI rc), .int (nI rp), .int (nI ic), .ref m5, .ref m6, .ref m7, .long 0, .int (nI mpn), .ref mk, .ref mn, .int x_kind, .ref mq, .ref m8, .ref m9, .int x_last, .int x_steps, .int x_isRound, .int x_tablesDone, .ref mz, .int (nI mrs), .ref mb, .ref md, .long x_hash])), (mw, .inl (cs 0, 5, .inl fmw)), (mh, .inl (cs 0, 20, .inl fmh)), (m7, .inl (cs 1, 16, .inr (.inl fm7_7)))] H → va_D A [(m0, .inr (12, [.ref mp, .int (nI ms), .int (nI C), .int (nI P), .ref mw, .ref mh, .ref mo, .int (nI sS), .int x_value, .int x_digits, .int (nI rc), .int (nI rp), .int (nI ic), .ref m5, .ref m6, .ref m7, .long 0, .int (nI mpn), .ref mk, .ref mn, .int x_kind, .ref mq, .ref m8, .ref m9, .int x_last, .int x_steps, .int x_isRound, .int x_tablesDone, .ref mz, .int (nI mrs), .ref mb, .ref md, .long x_hash])), (mw, .inl (cs 0, 5, .inl fmw)), (mh, .inl (cs 0, 20, .inl fmh)), (m7, .inl (cs 1, 16, .inr (.inl fm7_7)))] → va_S A s.heap H locs → lv_has ls 9 [(0, .ref m0), (1, .int (nI k))] → W p l e ({ frames := 0, cells := 0, slots := 0, locals := 0 } : Room) s m args below meth c H locs 0 0 Q (F0 m 7 ls []) := by
    intro n7
    induction n7 with
    | zero =>
      intro k fm7_7 hk hn7 H locs ls hP hD hS hl
      exact absurd hn7 (Nat.not_lt_zero _)
    | succ n7 ih7 =>
      intro k fm7_7 hk hn7 H locs ls hP hD hS hl
      refine lv_iload_n hx hb dX12_layLikely_7 rfl (lv_at hl 1 rfl) ?_
      refine lv_bipush (v := 16) hx hb dX12_layLikely_8 (by decide) ?_
      refine lv_icmp_ge (tgt := 26) hx hb dX12_layLikely_10 (by decide) (fun c_10 => ?_) (fun c_10 => ?_)
      · have n_10 : 16 ≤ k := b_le_t (by omega) (by omega) c_10
        refine lv_iconst (v := 0) hx hb dX12_layLikely_26 (by decide) ?_
        refine lv_istore_n (lv' := [(1, .int 0), (0, .ref m0)]) hx hb dX12_layLikely_27 rfl hl (by decide) rfl (fun ls hl => ?_)
        have LOOP28 : ∀ (n28 : Nat) (cx : Nat) (fm7_28 : Nat → Int64) (wm016_28 : Int64), cx ≤ C → alK cx wm016_28 → C - cx < n28 → ∀ (H : Heap) (locs : List Loc) (ls : Array Slot), va_P D vwCl [(m0, .inr (12, [.ref mp, .int (nI ms), .int (nI C), .int (nI P), .ref mw, .ref mh, .ref mo, .int (nI sS), .int x_value, .int x_digits, .int (nI rc), .int (nI rp), .int (nI ic), .ref m5, .ref m6, .ref m7, .long wm016_28, .int (nI mpn), .ref mk, .ref mn, .int x_kind, .ref mq, .ref m8, .ref m9, .int x_last, .int x_steps, .int x_isRound, .int x_tablesDone, .ref mz, .int (nI mrs), .ref mb, .ref md, .long x_hash])), (mw, .inl (cs 0, 5, .inl fmw)), (mh, .inl (cs 0, 20, .inl fmh)), (m7, .inl (cs 1, 16, .inr (.inl fm7_28)))] H → va_D A [(m0, .inr (12, [.ref mp, .int (nI ms), .int (nI C), .int (nI P), .ref mw, .ref mh, .ref mo, .int (nI sS), .int x_value, .int x_digits, .int (nI rc), .int (nI rp), .int (nI ic), .ref m5, .ref m6, .ref m7, .long wm016_28, .int (nI mpn), .ref mk, .ref mn, .int x_kind, .ref mq, .ref m8, .ref m9, .int x_last, .int x_steps, .int x_isRound, .int x_tablesDone, .ref mz, .int (nI mrs), .ref mb, .ref md, .long x_hash])), (mw, .inl (cs 0, 5, .inl fmw)), (mh, .inl (cs 0, 20, .inl fmh)), (m7, .inl (cs 1, 16, .inr (.inl fm7_28)))] → va_S A s.heap H locs → lv_has ls 9 [(0, .ref m0), (1, .int (nI cx))] → W p l e ({ frames := 0, cells := 0, slots := 0, locals := 0 } : Room) s m args below meth c H locs 0 0 Q (F0 m 28 ls []) := by
          intro n28
          induction n28 with
          | zero =>
            intro cx fm7_28 wm016_28 hcx hal hn28 H locs ls hP hD hS hl
            exact absurd hn28 (Nat.not_lt_zero _)
          | succ n28 ih28 =>
            intro cx fm7_28 wm016_28 hcx hal hn28 H locs ls hP hD hS hl
            refine lv_iload_n hx hb dX12_layLikely_28 rfl (lv_at hl 1 rfl) ?_
            refine lv_aload_n hx hb dX12_layLikely_29 rfl (lv_at hl 0 rfl) ?_
            refine va_get (D := D) (ci := 12) (v := .int (nI C)) (C := RX12) (T := TX12) (N := 33) hx hb hg gwX12 hown hK hP 0 rfl rfl 2 (by decide) (hg _ kw_395) (fun _ h9 => h9) rfl dX12_layLikely_30 ?_
            refine lv_icmp_ge (tgt := 184) hx hb dX12_layLikely_33 (by decide) (fun c_33 => ?_) (fun c_33 => ?_)
            · have n_33 : C ≤ cx := b_le_t (by omega) (by omega) c_33
              refine W_sQ hQ ?_
              refine W.widen (k := 0) (n := 0) (Nat.le_of_ble_eq_true rfl) (Nat.le_of_ble_eq_true rfl) ?_
              have hP9 := hP.sub (ws' := [(m0, .inr (12, [.ref mp, .int (nI ms), .int (nI C), .int (nI P), .ref mw, .ref mh, .ref mo, .int (nI sS), .int x_value, .int x_digits, .int (nI rc), .int (nI rp), .int (nI ic), .ref m5, .ref m6, .ref m7, .long wm016_28, .int (nI mpn), .ref mk, .ref mn, .int x_kind, .ref mq, .ref m8, .ref m9, .int x_last, .int x_steps, .int x_isRound, .int x_tablesDone, .ref mz, .int (nI mrs), .ref mb, .ref md, .long x_hash])), (mw, .inl (cs 0, 5, .inl fmw)), (mh, .inl (cs 0, 20, .inl fmh)), (m7, .inl (cs 1, 16, .inr (.inl fm7_28)))]) [0, 1, 2, 3] rfl
              have hD9 := hD.sub (ws' := [(m0, .inr (12, [.ref mp, .int (nI ms), .int (nI C), .int (nI P), .ref mw, .ref mh, .ref mo, .int (nI sS), .int x_value, .int x_digits, .int (nI rc), .int (nI rp), .int (nI ic), .ref m5, .ref m6, .ref m7, .long wm016_28, .int (nI mpn), .ref mk, .ref mn, .int x_kind, .ref mq, .ref m8, .ref m9, .int x_last, .int x_steps, .int x_isRound, .int x_tablesDone, .ref mz, .int (nI mrs), .ref mb, .ref md, .long x_hash])), (mw, .inl (cs 0, 5, .inl fmw)), (mh, .inl (cs 0, 20, .inl fmh)), (m7, .inl (cs 1, 16, .inr (.inl fm7_28)))]) [0, 1, 2, 3] (by decide) rfl
              exact W.vret hx hb hr (fun t ht hW => ⟨⟨(), rfl, trivial, ⟨wm016_28, fm7_28, (by rw [show cx = C by omega] at hal; exact hal), by rw [ht]; exact hP9, hD9⟩⟩, hS.F ht⟩) hS.2.2 dX12_layLikely_184
            · have n_33 : cx < C := b_le_f (by omega) (by omega) c_33
              refine lv_aload_n hx hb dX12_layLikely_36 rfl (lv_at hl 0 rfl) ?_
              refine va_get (D := D) (ci := 12) (v := .ref mw) (C := RX12) (T := TX12) (N := 33) hx hb hg gwX12 hown hK hP 0 rfl rfl 4 (by decide) (hg _ kw_401) (fun _ h9 => h9) rfl dX12_layLikely_37 ?_
              refine lv_iload_n hx hb dX12_layLikely_40 rfl (lv_at hl 1 rfl) ?_
              refine va_iald hx hb hK hP 1 0 rfl rfl (vp_in_nI (show cx < 5 by omega) (by decide)) dX12_layLikely_41 ?_
              refine lv_topi (fun z_41 e_41 => ?_)
              refine lv_i2l hx hb dX12_layLikely_42 rfl ?_
              refine lv_topl (fun z_42 e_42 => ?_)
              refine lv_lstore_n (lv' := [(2, .long z_42), (0, .ref m0), (1, .int (nI cx))]) hx hb dX12_layLikely_43 rfl hl (by decide) rfl (fun ls hl => ?_)
              refine lv_iconst (v := 0) hx hb dX12_layLikely_44 (by decide) ?_
              refine lv_istore (lv' := [(4, .int 0), (2, .long z_42), (0, .ref m0), (1, .int (nI cx))]) hx hb dX12_layLikely_45 hl (by decide) rfl (fun ls hl => ?_)
              have LOOP47 : ∀ (n47 : Nat) (u2_47 : Int64) (k4 : Nat), k4 ≤ P → whI k4 u2_47 → P - k4 < n47 → ∀ (H : Heap) (locs : List Loc) (ls : Array Slot), va_P D vwCl [(m0, .inr (12, [.ref mp, .int (nI ms), .int (nI C), .int (nI P), .ref mw, .ref mh, .ref mo, .int (nI sS), .int x_value, .int x_digits, .int (nI rc), .int (nI rp), .int (nI ic), .ref m5, .ref m6, .ref m7, .long wm016_28, .int (nI mpn), .ref mk, .ref mn, .int x_kind, .ref mq, .ref m8, .ref m9, .int x_last, .int x_steps, .int x_isRound, .int x_tablesDone, .ref mz, .int (nI mrs), .ref mb, .ref md, .long x_hash])), (mw, .inl (cs 0, 5, .inl fmw)), (mh, .inl (cs 0, 20, .inl fmh)), (m7, .inl (cs 1, 16, .inr (.inl fm7_28)))] H → va_D A [(m0, .inr (12, [.ref mp, .int (nI ms), .int (nI C), .int (nI P), .ref mw, .ref mh, .ref mo, .int (nI sS), .int x_value, .int x_digits, .int (nI rc), .int (nI rp), .int (nI ic), .ref m5, .ref m6, .ref m7, .long wm016_28, .int (nI mpn), .ref mk, .ref mn, .int x_kind, .ref mq, .ref m8, .ref m9, .int x_last, .int x_steps, .int x_isRound, .int x_tablesDone, .ref mz, .int (nI mrs), .ref mb, .ref md, .long x_hash])), (mw, .inl (cs 0, 5, .inl fmw)), (mh, .inl (cs 0, 20, .inl fmh)), (m7, .inl (cs 1, 16, .inr (.inl fm7_28)))] → va_S A s.heap H locs → lv_has ls 9 [(0, .ref m0), (1, .int (nI cx)), (2, .long u2_47), (4, .int (nI k4))] → W p l e ({ frames := 0, cells := 0, slots := 0, locals := 0 } : Room) s m args below meth c H locs 0 0 Q (F0 m 47 ls []) := by
                intro n47
                induction n47 with
                | zero =>
                  intro u2_47 k4 hk4 hwh hn47 H locs ls hP hD hS hl
                  exact absurd hn47 (Nat.not_lt_zero _)
                | succ n47 ih47 =>
                  intro u2_47 k4 hk4 hwh hn47 H locs ls hP hD hS hl
                  refine lv_iload hx hb dX12_layLikely_47 (lv_at hl 3 rfl) ?_
                  refine lv_aload_n hx hb dX12_layLikely_49 rfl (lv_at hl 0 rfl) ?_
                  refine va_get (D := D) (ci := 12) (v := .int (nI P)) (C := RX12) (T := TX12) (N := 33) hx hb hg gwX12 hown hK hP 0 rfl rfl 3 (by decide) (hg _ kw_315) (fun _ h9 => h9) rfl dX12_layLikely_50 ?_
                  refine lv_icmp_ge (tgt := 68) hx hb dX12_layLikely_53 (by decide) (fun c_53 => ?_) (fun c_53 => ?_)
                  · have n_53 : P ≤ k4 := b_le_t (by omega) (by omega) c_53
                    have hwh : whI P u2_47 := by rw [show k4 = P by omega] at hwh; exact hwh
                    refine lv_aload_n hx hb dX12_layLikely_68 rfl (lv_at hl 0 rfl) ?_
                    refine lv_dup hx hb dX12_layLikely_69 rfl ?_
                    refine va_get (D := D) (ci := 12) (v := .long wm016_28) (C := RX12) (T := TX12) (N := 33) hx hb hg gwX12 hown hK hP 0 rfl rfl 16 (by decide) (hg _ kw_335) (fun _ h9 => h9) rfl dX12_layLikely_70 ?_
                    refine lv_lload_n hx hb dX12_layLikely_73 rfl (lv_at hl 2 rfl) ?_
                    refine lv_ladd hx hb dX12_layLikely_74 ?_
                    refine lv_topl (fun z_74 e_74 => ?_)
                    refine va_put (D := D) (ci := 12) (v := .long z_74) (ty := .long) (C := RX12) (T := TX12) (N := 33) hx hb hg gwX12 tyX12 tyX12_ok nmX12 hown hK hP hD hS 0 rfl rfl 16 (by decide) (hg _ kw_335) (fun _ h9 => h9) rfl (by decide +kernel) rfl rfl (Nat.le_of_ble_eq_true rfl) dX12_layLikely_75 (fun H locs hP hD hS => ?_)
                    have hP : va_P D vwCl [(m0, .inr (12, [.ref mp, .int (nI ms), .int (nI C), .int (nI P), .ref mw, .ref mh, .ref mo, .int (nI sS), .int x_value, .int x_digits, .int (nI rc), .int (nI rp), .int (nI ic), .ref m5, .ref m6, .ref m7, .long z_74, .int (nI mpn), .ref mk, .ref mn, .int x_kind, .ref mq, .ref m8, .ref m9, .int x_last, .int x_steps, .int x_isRound, .int x_tablesDone, .ref mz, .int (nI mrs), .ref mb, .ref md, .long x_hash])), (mw, .inl (cs 0, 5, .inl fmw)), (mh, .inl (cs 0, 20, .inl fmh)), (m7, .inl (cs 1, 16, .inr (.inl fm7_28)))] H := hP
                    have hD : va_D A [(m0, .inr (12, [.ref mp, .int (nI ms), .int (nI C), .int (nI P), .ref mw, .ref mh, .ref mo, .int (nI sS), .int x_value, .int x_digits, .int (nI rc), .int (nI rp), .int (nI ic), .ref m5, .ref m6, .ref m7, .long z_74, .int (nI mpn), .ref mk, .ref mn, .int x_kind, .ref mq, .ref m8, .ref m9, .int x_last, .int x_steps, .int x_isRound, .int x_tablesDone, .ref mz, .int (nI mrs), .ref mb, .ref md, .long x_hash])), (mw, .inl (cs 0, 5, .inl fmw)), (mh, .inl (cs 0, 20, .inl fmh)), (m7, .inl (cs 1, 16, .inr (.inl fm7_28)))] := hD
                    have hal3 := alK_s hP4 hal hwh e_74
                    refine lv_iconst (v := 0) hx hb dX12_layLikely_78 (by decide) ?_
                    refine lv_istore (lv' := [(4, .int 0), (0, .ref m0), (1, .int (nI cx)), (2, .long u2_47)]) hx hb dX12_layLikely_79 hl (by decide) rfl (fun ls hl => ?_)
                    have LOOP81 : ∀ (n81 : Nat) (sg : Nat) (fm7_81 : Nat → Int64), sg ≤ sgn P → sgn P - sg < n81 → ∀ (H : Heap) (locs : List Loc) (ls : Array Slot), va_P D vwCl [(m0, .inr (12, [.ref mp, .int (nI ms), .int (nI C), .int (nI P), .ref mw, .ref mh, .ref mo, .int (nI sS), .int x_value, .int x_digits, .int (nI rc), .int (nI rp), .int (nI ic), .ref m5, .ref m6, .ref m7, .long z_74, .int (nI mpn), .ref mk, .ref mn, .int x_kind, .ref mq, .ref m8, .ref m9, .int x_last, .int x_steps, .int x_isRound, .int x_tablesDone, .ref mz, .int (nI mrs), .ref mb, .ref md, .long x_hash])), (mw, .inl (cs 0, 5, .inl fmw)), (mh, .inl (cs 0, 20, .inl fmh)), (m7, .inl (cs 1, 16, .inr (.inl fm7_81)))] H → va_D A [(m0, .inr (12, [.ref mp, .int (nI ms), .int (nI C), .int (nI P), .ref mw, .ref mh, .ref mo, .int (nI sS), .int x_value, .int x_digits, .int (nI rc), .int (nI rp), .int (nI ic), .ref m5, .ref m6, .ref m7, .long z_74, .int (nI mpn), .ref mk, .ref mn, .int x_kind, .ref mq, .ref m8, .ref m9, .int x_last, .int x_steps, .int x_isRound, .int x_tablesDone, .ref mz, .int (nI mrs), .ref mb, .ref md, .long x_hash])), (mw, .inl (cs 0, 5, .inl fmw)), (mh, .inl (cs 0, 20, .inl fmh)), (m7, .inl (cs 1, 16, .inr (.inl fm7_81)))] → va_S A s.heap H locs → lv_has ls 9 [(0, .ref m0), (1, .int (nI cx)), (2, .long u2_47), (4, .int (nI sg))] → W p l e ({ frames := 0, cells := 0, slots := 0, locals := 0 } : Room) s m args below meth c H locs 0 0 Q (F0 m 81 ls []) := by
                      intro n81
                      induction n81 with
                      | zero =>
                        intro sg fm7_81 hsg2 hn81 H locs ls hP hD hS hl
                        exact absurd hn81 (Nat.not_lt_zero _)
                      | succ n81 ih81 =>
                        intro sg fm7_81 hsg2 hn81 H locs ls hP hD hS hl
                        refine lv_iload hx hb dX12_layLikely_81 (lv_at hl 3 rfl) ?_
                        refine lv_iconst (v := 1) hx hb dX12_layLikely_83 (by decide) ?_
                        refine lv_aload_n hx hb dX12_layLikely_84 rfl (lv_at hl 0 rfl) ?_
                        refine va_get (D := D) (ci := 12) (v := .int (nI P)) (C := RX12) (T := TX12) (N := 33) hx hb hg gwX12 hown hK hP 0 rfl rfl 3 (by decide) (hg _ kw_315) (fun _ h9 => h9) rfl dX12_layLikely_85 ?_
                        refine lv_ishl hx hb dX12_layLikely_88 ?_
                        refine lv_topi (fun z_88 e_88 => ?_)
                        obtain rfl : z_88 = nI (sgn P) := e_88.trans (sg_eq hP4)
                        refine lv_icmp_ge (tgt := 178) hx hb dX12_layLikely_89 (by decide) (fun c_89 => ?_) (fun c_89 => ?_)
                        · have n_89 : sgn P ≤ sg := b_le_t (by omega) (by omega) c_89
                          refine lv_iinc (v := (nI (cx + 1))) (lv' := [(1, .int (nI (cx + 1))), (0, .ref m0), (2, .long u2_47), (4, .int (nI sg))]) hx hb dX12_layLikely_178 hl (k := 1) rfl (nI_add cx 1) (by decide) rfl (fun ls hl => ?_)
                          refine lv_goto (tgt := 28) hx hb dX12_layLikely_181 (by decide) ?_
                          exact ih28 (cx + 1) fm7_81 z_74 (by omega) hal3 (by omega) _ _ ls hP hD hS (lv_sub hl [1, 0] rfl)
                        · have n_89 : sg < sgn P := b_le_f (by omega) (by omega) c_89
                          refine lv_aload_n hx hb dX12_layLikely_92 rfl (lv_at hl 0 rfl) ?_
                          refine va_get (D := D) (ci := 12) (v := .ref mw) (C := RX12) (T := TX12) (N := 33) hx hb hg gwX12 hown hK hP 0 rfl rfl 4 (by decide) (hg _ kw_401) (fun _ h9 => h9) rfl dX12_layLikely_93 ?_
                          refine lv_iload_n hx hb dX12_layLikely_96 rfl (lv_at hl 1 rfl) ?_
                          refine va_iald hx hb hK hP 1 0 rfl rfl (vp_in_nI (show cx < 5 by omega) (by decide)) dX12_layLikely_97 ?_
                          refine lv_topi (fun z_97 e_97 => ?_)
                          refine lv_i2l hx hb dX12_layLikely_98 rfl ?_
                          refine lv_topl (fun z_98 e_98 => ?_)
                          refine lv_lstore (lv' := [(5, .long z_98), (0, .ref m0), (1, .int (nI cx)), (2, .long u2_47), (4, .int (nI sg))]) hx hb dX12_layLikely_99 hl (by decide) rfl (fun ls hl => ?_)
                          refine lv_iconst (v := 0) hx hb dX12_layLikely_101 (by decide) ?_
                          refine lv_istore (lv' := [(7, .int 0), (5, .long z_98), (0, .ref m0), (1, .int (nI cx)), (2, .long u2_47), (4, .int (nI sg))]) hx hb dX12_layLikely_102 hl (by decide) rfl (fun ls hl => ?_)
                          have LOOP104 : ∀ (n104 : Nat) (u5_104 : Int64) (k7 : Nat), k7 ≤ P → P - k7 < n104 → ∀ (H : Heap) (locs : List Loc) (ls : Array Slot), va_P D vwCl [(m0, .inr (12, [.ref mp, .int (nI ms), .int (nI C), .int (nI P), .ref mw, .ref mh, .ref mo, .int (nI sS), .int x_value, .int x_digits, .int (nI rc), .int (nI rp), .int (nI ic), .ref m5, .ref m6, .ref m7, .long z_74, .int (nI mpn), .ref mk, .ref mn, .int x_kind, .ref mq, .ref m8, .ref m9, .int x_last, .int x_steps, .int x_isRound, .int x_tablesDone, .ref mz, .int (nI mrs), .ref mb, .ref md, .long x_hash])), (mw, .inl (cs 0, 5, .inl fmw)), (mh, .inl (cs 0, 20, .inl fmh)), (m7, .inl (cs 1, 16, .inr (.inl fm7_81)))] H → va_D A [(m0, .inr (12, [.ref mp, .int (nI ms), .int (nI C), .int (nI P), .ref mw, .ref mh, .ref mo, .int (nI sS), .int x_value, .int x_digits, .int (nI rc), .int (nI rp), .int (nI ic), .ref m5, .ref m6, .ref m7, .long z_74, .int (nI mpn), .ref mk, .ref mn, .int x_kind, .ref mq, .ref m8, .ref m9, .int x_last, .int x_steps, .int x_isRound, .int x_tablesDone, .ref mz, .int (nI mrs), .ref mb, .ref md, .long x_hash])), (mw, .inl (cs 0, 5, .inl fmw)), (mh, .inl (cs 0, 20, .inl fmh)), (m7, .inl (cs 1, 16, .inr (.inl fm7_81)))] → va_S A s.heap H locs → lv_has ls 9 [(0, .ref m0), (1, .int (nI cx)), (2, .long u2_47), (4, .int (nI sg)), (5, .long u5_104), (7, .int (nI k7))] → W p l e ({ frames := 0, cells := 0, slots := 0, locals := 0 } : Room) s m args below meth c H locs 0 0 Q (F0 m 104 ls []) := by
                            intro n104
                            induction n104 with
                            | zero =>
                              intro u5_104 k7 hk7 hn104 H locs ls hP hD hS hl
                              exact absurd hn104 (Nat.not_lt_zero _)
                            | succ n104 ih104 =>
                              intro u5_104 k7 hk7 hn104 H locs ls hP hD hS hl
                              refine lv_iload hx hb dX12_layLikely_104 (lv_at hl 5 rfl) ?_
                              refine lv_aload_n hx hb dX12_layLikely_106 rfl (lv_at hl 0 rfl) ?_
                              refine va_get (D := D) (ci := 12) (v := .int (nI P)) (C := RX12) (T := TX12) (N := 33) hx hb hg gwX12 hown hK hP 0 rfl rfl 3 (by decide) (hg _ kw_315) (fun _ h9 => h9) rfl dX12_layLikely_107 ?_
                              refine lv_icmp_ge (tgt := 160) hx hb dX12_layLikely_110 (by decide) (fun c_110 => ?_) (fun c_110 => ?_)
                              · have n_110 : P ≤ k7 := b_le_t (by omega) (by omega) c_110
                                refine lv_aload_n hx hb dX12_layLikely_160 rfl (lv_at hl 0 rfl) ?_
                                refine va_get (D := D) (ci := 12) (v := .ref m7) (C := RX12) (T := TX12) (N := 33) hx hb hg gwX12 hown hK hP 0 rfl rfl 15 (by decide) (hg _ kw_341) (fun _ h9 => h9) rfl dX12_layLikely_161 ?_
                                refine lv_iload hx hb dX12_layLikely_164 (lv_at hl 3 rfl) ?_
                                refine lv_dup2_11 hx hb dX12_layLikely_166 rfl rfl ?_
                                refine va_lald hx hb hK hP 3 1 rfl rfl (vp_in_nI (show sg < 16 by omega) (by decide)) dX12_layLikely_167 ?_
                                refine lv_topl (fun z_167 e_167 => ?_)
                                refine lv_lload hx hb dX12_layLikely_168 (lv_at hl 4 rfl) ?_
                                refine lv_ladd hx hb dX12_layLikely_170 ?_
                                refine lv_topl (fun z_170 e_170 => ?_)
                                refine va_last hx hb hK hP hD hS 3 1 rfl rfl (vp_in_nI (show sg < 16 by omega) (by decide)) dX12_layLikely_171 (fun H locs hP hD hS => ?_)
                                obtain ⟨f_171, hf_171⟩ : ∃ f9, f9 = (vp_updL fm7_81 (nI sg).toNatClampNeg z_170) := ⟨_, rfl⟩
                                rw [← hf_171] at hP hD
                                have hP : va_P D vwCl [(m0, .inr (12, [.ref mp, .int (nI ms), .int (nI C), .int (nI P), .ref mw, .ref mh, .ref mo, .int (nI sS), .int x_value, .int x_digits, .int (nI rc), .int (nI rp), .int (nI ic), .ref m5, .ref m6, .ref m7, .long z_74, .int (nI mpn), .ref mk, .ref mn, .int x_kind, .ref mq, .ref m8, .ref m9, .int x_last, .int x_steps, .int x_isRound, .int x_tablesDone, .ref mz, .int (nI mrs), .ref mb, .ref md, .long x_hash])), (mw, .inl (cs 0, 5, .inl fmw)), (mh, .inl (cs 0, 20, .inl fmh)), (m7, .inl (cs 1, 16, .inr (.inl f_171)))] H := hP
                                have hD : va_D A [(m0, .inr (12, [.ref mp, .int (nI ms), .int (nI C), .int (nI P), .ref mw, .ref mh, .ref mo, .int (nI sS), .int x_value, .int x_digits, .int (nI rc), .int (nI rp), .int (nI ic), .ref m5, .ref m6, .ref m7, .long z_74, .int (nI mpn), .ref mk, .ref mn, .int x_kind, .ref mq, .ref m8, .ref m9, .int x_last, .int x_steps, .int x_isRound, .int x_tablesDone, .ref mz, .int (nI mrs), .ref mb, .ref md, .long x_hash])), (mw, .inl (cs 0, 5, .inl fmw)), (mh, .inl (cs 0, 20, .inl fmh)), (m7, .inl (cs 1, 16, .inr (.inl f_171)))] := hD
                                refine lv_iinc (v := (nI (sg + 1))) (lv' := [(4, .int (nI (sg + 1))), (0, .ref m0), (1, .int (nI cx)), (2, .long u2_47), (5, .long u5_104), (7, .int (nI k7))]) hx hb dX12_layLikely_172 hl (k := 3) rfl (nI_add sg 1) (by decide) rfl (fun ls hl => ?_)
                                refine lv_goto (tgt := 81) hx hb dX12_layLikely_175 (by decide) ?_
                                exact ih81 (sg + 1) f_171 (by omega) (by omega) _ _ ls hP hD hS (lv_sub hl [1, 2, 3, 0] rfl)
                              · have n_110 : k7 < P := b_le_f (by omega) (by omega) c_110
                                refine lv_aload_n hx hb dX12_layLikely_113 rfl (lv_at hl 0 rfl) ?_
                                refine va_get (D := D) (ci := 12) (v := .ref mh) (C := RX12) (T := TX12) (N := 33) hx hb hg gwX12 hown hK hP 0 rfl rfl 5 (by decide) (hg _ kw_402) (fun _ h9 => h9) rfl dX12_layLikely_114 ?_
                                refine lv_iconst (v := 4) hx hb dX12_layLikely_117 (by decide) ?_
                                refine lv_iload_n hx hb dX12_layLikely_118 rfl (lv_at hl 1 rfl) ?_
                                refine lv_imul hx hb dX12_layLikely_119 ?_
                                refine lv_topi (fun z_119 e_119 => ?_)
                                obtain rfl : z_119 = nI (4 * cx) := e_119.trans (pk_mul _ _)
                                refine lv_iload hx hb dX12_layLikely_120 (lv_at hl 5 rfl) ?_
                                refine lv_iadd hx hb dX12_layLikely_122 ?_
                                refine lv_topi (fun z_122 e_122 => ?_)
                                obtain rfl : z_122 = nI (4 * cx + k7) := e_122.trans (nI_add _ _)
                                refine va_iald hx hb hK hP 2 0 rfl rfl (vp_in_nI (show 4 * cx + k7 < 20 by omega) (by decide)) dX12_layLikely_123 ?_
                                refine lv_topi (fun z_123 e_123 => ?_)
                                refine lv_istore (lv' := [(8, .int z_123), (0, .ref m0), (1, .int (nI cx)), (2, .long u2_47), (4, .int (nI sg)), (5, .long u5_104), (7, .int (nI k7))]) hx hb dX12_layLikely_124 hl (by decide) rfl (fun ls hl => ?_)
                                refine lv_lload hx hb dX12_layLikely_126 (lv_at hl 5 rfl) ?_
                                refine lv_iload hx hb dX12_layLikely_128 (lv_at hl 4 rfl) ?_
                                refine lv_iload hx hb dX12_layLikely_130 (lv_at hl 6 rfl) ?_
                                refine lv_ishr hx hb dX12_layLikely_132 ?_
                                refine lv_topi (fun z_132 e_132 => ?_)
                                refine lv_iconst (v := 1) hx hb dX12_layLikely_133 (by decide) ?_
                                refine lv_iand hx hb dX12_layLikely_134 ?_
                                refine lv_topi (fun z_134 e_134 => ?_)
                                obtain ⟨j_134, hj_134, ee_134⟩ := pk_andE z_132 (m := 1) 1 rfl
                                obtain rfl : z_134 = nI j_134 := e_134.trans ee_134
                                have hj_134 : j_134 < 2 := hj_134
                                refine lv_iconst (v := 1) hx hb dX12_layLikely_135 (by decide) ?_
                                refine lv_icmp_ne (tgt := 145) hx hb dX12_layLikely_136 (by decide) (fun c_136 => ?_) (fun c_136 => ?_)
                                · have n_136 : ¬ j_134 = 1 := b_eq_f (by omega) (by omega) c_136
                                  refine lv_bipush (v := 100) hx hb dX12_layLikely_145 (by decide) ?_
                                  refine lv_iload hx hb dX12_layLikely_147 (lv_at hl 0 rfl) ?_
                                  refine lv_isub hx hb dX12_layLikely_149 ?_
                                  refine lv_topi (fun z_149 e_149 => ?_)
                                  refine lv_i2l hx hb dX12_layLikely_150 rfl ?_
                                  refine lv_topl (fun z_150 e_150 => ?_)
                                  refine lv_lmul hx hb dX12_layLikely_151 ?_
                                  refine lv_topl (fun z_151 e_151 => ?_)
                                  refine lv_lstore (lv' := [(5, .long z_151), (8, .int z_123), (0, .ref m0), (1, .int (nI cx)), (2, .long u2_47), (4, .int (nI sg)), (7, .int (nI k7))]) hx hb dX12_layLikely_152 hl (by decide) rfl (fun ls hl => ?_)
                                  refine lv_iinc (v := (nI (k7 + 1))) (lv' := [(7, .int (nI (k7 + 1))), (5, .long z_151), (8, .int z_123), (0, .ref m0), (1, .int (nI cx)), (2, .long u2_47), (4, .int (nI sg))]) hx hb dX12_layLikely_154 hl (k := 6) rfl (nI_add k7 1) (by decide) rfl (fun ls hl => ?_)
                                  refine lv_goto (tgt := 104) hx hb dX12_layLikely_157 (by decide) ?_
                                  exact ih104 z_151 (k7 + 1) (by omega) (by omega) _ _ ls hP hD hS (lv_sub hl [3, 4, 5, 6, 1, 0] rfl)
                                · have n_136 : j_134 = 1 := b_eq_t (by omega) (by omega) c_136
                                  refine lv_iload hx hb dX12_layLikely_139 (lv_at hl 0 rfl) ?_
                                  refine lv_i2l hx hb dX12_layLikely_141 rfl ?_
                                  refine lv_topl (fun z_141 e_141 => ?_)
                                  refine lv_goto (tgt := 151) hx hb dX12_layLikely_142 (by decide) ?_
                                  refine lv_lmul hx hb dX12_layLikely_151 ?_
                                  refine lv_topl (fun z_151 e_151 => ?_)
                                  refine lv_lstore (lv' := [(5, .long z_151), (8, .int z_123), (0, .ref m0), (1, .int (nI cx)), (2, .long u2_47), (4, .int (nI sg)), (7, .int (nI k7))]) hx hb dX12_layLikely_152 hl (by decide) rfl (fun ls hl => ?_)
                                  refine lv_iinc (v := (nI (k7 + 1))) (lv' := [(7, .int (nI (k7 + 1))), (5, .long z_151), (8, .int z_123), (0, .ref m0), (1, .int (nI cx)), (2, .long u2_47), (4, .int (nI sg))]) hx hb dX12_layLikely_154 hl (k := 6) rfl (nI_add k7 1) (by decide) rfl (fun ls hl => ?_)
                                  refine lv_goto (tgt := 104) hx hb dX12_layLikely_157 (by decide) ?_
                                  exact ih104 z_151 (k7 + 1) (by omega) (by omega) _ _ ls hP hD hS (lv_sub hl [3, 4, 5, 6, 1, 0] rfl)
                          exact LOOP104 (P - 0 + 1) z_98 0 (by omega) (Nat.lt_succ_self _) _ _ ls hP hD hS (lv_sub hl [2, 3, 4, 5, 1, 0] rfl)
                    exact LOOP81 (sgn P - 0 + 1) 0 fm7_28 (by omega) (Nat.lt_succ_self _) _ _ ls hP hD hS (lv_sub hl [1, 2, 3, 0] rfl)
                  · have n_53 : k4 < P := b_le_f (by omega) (by omega) c_53
                    refine lv_lload_n hx hb dX12_layLikely_56 rfl (lv_at hl 2 rfl) ?_
                    refine lv_ldc2 hx hb hown (hg _ kw_403) dX12_layLikely_57 ?_
                    refine lv_lmul hx hb dX12_layLikely_60 ?_
                    refine lv_topl (fun z_60 e_60 => ?_)
                    refine lv_lstore_n (lv' := [(2, .long z_60), (0, .ref m0), (1, .int (nI cx)), (4, .int (nI k4))]) hx hb dX12_layLikely_61 rfl hl (by decide) rfl (fun ls hl => ?_)
                    refine lv_iinc (v := (nI (k4 + 1))) (lv' := [(4, .int (nI (k4 + 1))), (2, .long z_60), (0, .ref m0), (1, .int (nI cx))]) hx hb dX12_layLikely_62 hl (k := 3) rfl (nI_add k4 1) (by decide) rfl (fun ls hl => ?_)
                    refine lv_goto (tgt := 47) hx hb dX12_layLikely_65 (by decide) ?_
                    exact ih47 z_60 (k4 + 1) (by omega) (whI_s hwh e_60) (by omega) _ _ ls hP hD hS (lv_sub hl [2, 3, 1, 0] rfl)
              exact LOOP47 (P - 0 + 1) z_42 0 (by omega) (whI_0 hwI (show cx < C by omega) (by omega) e_41 e_42) (Nat.lt_succ_self _) _ _ ls hP hD hS (lv_sub hl [2, 3, 1, 0] rfl)
        exact LOOP28 (C - 0 + 1) 0 fm7_7 0 (by omega) alK_0 (Nat.lt_succ_self _) _ _ ls hP hD hS (lv_sub hl [1, 0] rfl)
      · have n_10 : k < 16 := b_le_f (by omega) (by omega) c_10
        refine lv_aload_n hx hb dX12_layLikely_13 rfl (lv_at hl 0 rfl) ?_
        refine va_get (D := D) (ci := 12) (v := .ref m7) (C := RX12) (T := TX12) (N := 33) hx hb hg gwX12 hown hK hP 0 rfl rfl 15 (by decide) (hg _ kw_341) (fun _ h9 => h9) rfl dX12_layLikely_14 ?_
        refine lv_iload_n hx hb dX12_layLikely_17 rfl (lv_at hl 1 rfl) ?_
        refine lv_lconst (v := 0) hx hb dX12_layLikely_18 (by decide) ?_
        refine va_last hx hb hK hP hD hS 3 1 rfl rfl (vp_in_nI (show k < 16 by omega) (by decide)) dX12_layLikely_19 (fun H locs hP hD hS => ?_)
        obtain ⟨f_19, hf_19⟩ : ∃ f9, f9 = (vp_updL fm7_7 (nI k).toNatClampNeg 0) := ⟨_, rfl⟩
        rw [← hf_19] at hP hD
        have hP : va_P D vwCl [(m0, .inr (12, [.ref mp, .int (nI ms), .int (nI C), .int (nI P), .ref mw, .ref mh, .ref mo, .int (nI sS), .int x_value, .int x_digits, .int (nI rc), .int (nI rp), .int (nI ic), .ref m5, .ref m6, .ref m7, .long 0, .int (nI mpn), .ref mk, .ref mn, .int x_kind, .ref mq, .ref m8, .ref m9, .int x_last, .int x_steps, .int x_isRound, .int x_tablesDone, .ref mz, .int (nI mrs), .ref mb, .ref md, .long x_hash])), (mw, .inl (cs 0, 5, .inl fmw)), (mh, .inl (cs 0, 20, .inl fmh)), (m7, .inl (cs 1, 16, .inr (.inl f_19)))] H := hP
        have hD : va_D A [(m0, .inr (12, [.ref mp, .int (nI ms), .int (nI C), .int (nI P), .ref mw, .ref mh, .ref mo, .int (nI sS), .int x_value, .int x_digits, .int (nI rc), .int (nI rp), .int (nI ic), .ref m5, .ref m6, .ref m7, .long 0, .int (nI mpn), .ref mk, .ref mn, .int x_kind, .ref mq, .ref m8, .ref m9, .int x_last, .int x_steps, .int x_isRound, .int x_tablesDone, .ref mz, .int (nI mrs), .ref mb, .ref md, .long x_hash])), (mw, .inl (cs 0, 5, .inl fmw)), (mh, .inl (cs 0, 20, .inl fmh)), (m7, .inl (cs 1, 16, .inr (.inl f_19)))] := hD
        refine lv_iinc (v := (nI (k + 1))) (lv' := [(1, .int (nI (k + 1))), (0, .ref m0)]) hx hb dX12_layLikely_20 hl (k := 1) rfl (nI_add k 1) (by decide) rfl (fun ls hl => ?_)
        refine lv_goto (tgt := 7) hx hb dX12_layLikely_23 (by decide) ?_
        exact ih7 (k + 1) f_19 (by omega) (by omega) _ _ ls hP hD hS (lv_sub hl [1, 0] rfl)
  exact LOOP7 (16 - 0 + 1) 0 fm7 (by omega) (Nat.lt_succ_self _) _ _ ls hP hD hS (lv_sub hl [1, 0] rfl)

theorem dX12_goOn_0 : decode cX12_goOn 0 = .ok (.iconst 0, 1) := by decide +kernel
theorem dX12_goOn_1 : decode cX12_goOn 1 = .ok (.istore_n 2, 1) := by decide +kernel
theorem dX12_goOn_2 : decode cX12_goOn 2 = .ok (.iload_n 2, 1) := by decide +kernel
theorem dX12_goOn_3 : decode cX12_goOn 3 = .ok (.sipush 256, 3) := by decide +kernel
theorem dX12_goOn_6 : decode cX12_goOn 6 = .ok (.if_icmp .ge 16, 3) := by decide +kernel
theorem dX12_goOn_9 : decode cX12_goOn 9 = .ok (.aload_n 0, 1) := by decide +kernel
theorem dX12_goOn_10 : decode cX12_goOn 10 = .ok (.getfield 44, 3) := by decide +kernel
theorem dX12_goOn_13 : decode cX12_goOn 13 = .ok (.iload_n 2, 1) := by decide +kernel
theorem dX12_goOn_14 : decode cX12_goOn 14 = .ok (.iconst 0, 1) := by decide +kernel
theorem dX12_goOn_15 : decode cX12_goOn 15 = .ok (.bastore, 1) := by decide +kernel
theorem dX12_goOn_16 : decode cX12_goOn 16 = .ok (.iinc 2 1, 3) := by decide +kernel
theorem dX12_goOn_19 : decode cX12_goOn 19 = .ok (.goto (-17), 3) := by decide +kernel
theorem dX12_goOn_22 : decode cX12_goOn 22 = .ok (.aload_n 0, 1) := by decide +kernel
theorem dX12_goOn_23 : decode cX12_goOn 23 = .ok (.iload_n 1, 1) := by decide +kernel
theorem dX12_goOn_24 : decode cX12_goOn 24 = .ok (.putfield 218, 3) := by decide +kernel
theorem dX12_goOn_27 : decode cX12_goOn 27 = .ok (.aload_n 0, 1) := by decide +kernel
theorem dX12_goOn_28 : decode cX12_goOn 28 = .ok (.iconst 0, 1) := by decide +kernel
theorem dX12_goOn_29 : decode cX12_goOn 29 = .ok (.putfield 221, 3) := by decide +kernel
theorem dX12_goOn_32 : decode cX12_goOn 32 = .ok (.aload_n 0, 1) := by decide +kernel
theorem dX12_goOn_33 : decode cX12_goOn 33 = .ok (.iconst 0, 1) := by decide +kernel
theorem dX12_goOn_34 : decode cX12_goOn 34 = .ok (.putfield 224, 3) := by decide +kernel
theorem dX12_goOn_37 : decode cX12_goOn 37 = .ok (.aload_n 0, 1) := by decide +kernel
theorem dX12_goOn_38 : decode cX12_goOn 38 = .ok (.aload_n 0, 1) := by decide +kernel
theorem dX12_goOn_39 : decode cX12_goOn 39 = .ok (.getfield 218, 3) := by decide +kernel
theorem dX12_goOn_42 : decode cX12_goOn 42 = .ok (.invokevirtual 200, 3) := by decide +kernel
theorem dX12_goOn_45 : decode cX12_goOn 45 = .ok (.istore_n 2, 1) := by decide +kernel
theorem dX12_goOn_46 : decode cX12_goOn 46 = .ok (.iload_n 2, 1) := by decide +kernel
theorem dX12_goOn_47 : decode cX12_goOn 47 = .ok (.iconst (-1), 1) := by decide +kernel
theorem dX12_goOn_48 : decode cX12_goOn 48 = .ok (.if_icmp .eq 76, 3) := by decide +kernel
theorem dX12_goOn_51 : decode cX12_goOn 51 = .ok (.aload_n 0, 1) := by decide +kernel
theorem dX12_goOn_52 : decode cX12_goOn 52 = .ok (.getfield 224, 3) := by decide +kernel
theorem dX12_goOn_55 : decode cX12_goOn 55 = .ok (.ifCond .ne 69, 3) := by decide +kernel
theorem dX12_goOn_58 : decode cX12_goOn 58 = .ok (.aload_n 0, 1) := by decide +kernel
theorem dX12_goOn_59 : decode cX12_goOn 59 = .ok (.getfield 44, 3) := by decide +kernel
theorem dX12_goOn_62 : decode cX12_goOn 62 = .ok (.aload_n 0, 1) := by decide +kernel
theorem dX12_goOn_63 : decode cX12_goOn 63 = .ok (.getfield 218, 3) := by decide +kernel
theorem dX12_goOn_66 : decode cX12_goOn 66 = .ok (.iconst 1, 1) := by decide +kernel
theorem dX12_goOn_67 : decode cX12_goOn 67 = .ok (.bastore, 1) := by decide +kernel
theorem dX12_goOn_68 : decode cX12_goOn 68 = .ok (.aload_n 0, 1) := by decide +kernel
theorem dX12_goOn_69 : decode cX12_goOn 69 = .ok (.aload_n 0, 1) := by decide +kernel
theorem dX12_goOn_70 : decode cX12_goOn 70 = .ok (.getfield 218, 3) := by decide +kernel
theorem dX12_goOn_73 : decode cX12_goOn 73 = .ok (.iload_n 2, 1) := by decide +kernel
theorem dX12_goOn_74 : decode cX12_goOn 74 = .ok (.aload_n 0, 1) := by decide +kernel
theorem dX12_goOn_75 : decode cX12_goOn 75 = .ok (.aload_n 0, 1) := by decide +kernel
theorem dX12_goOn_76 : decode cX12_goOn 76 = .ok (.getfield 218, 3) := by decide +kernel
theorem dX12_goOn_79 : decode cX12_goOn 79 = .ok (.iload_n 2, 1) := by decide +kernel
theorem dX12_goOn_80 : decode cX12_goOn 80 = .ok (.invokevirtual 185, 3) := by decide +kernel
theorem dX12_goOn_83 : decode cX12_goOn 83 = .ok (.invokestatic 181, 3) := by decide +kernel
theorem dX12_goOn_86 : decode cX12_goOn 86 = .ok (.putfield 218, 3) := by decide +kernel
theorem dX12_goOn_89 : decode cX12_goOn 89 = .ok (.aload_n 0, 1) := by decide +kernel
theorem dX12_goOn_90 : decode cX12_goOn 90 = .ok (.dup, 1) := by decide +kernel
theorem dX12_goOn_91 : decode cX12_goOn 91 = .ok (.getfield 221, 3) := by decide +kernel
theorem dX12_goOn_94 : decode cX12_goOn 94 = .ok (.iconst 1, 1) := by decide +kernel
theorem dX12_goOn_95 : decode cX12_goOn 95 = .ok (.iadd, 1) := by decide +kernel
theorem dX12_goOn_96 : decode cX12_goOn 96 = .ok (.putfield 221, 3) := by decide +kernel
theorem dX12_goOn_99 : decode cX12_goOn 99 = .ok (.aload_n 0, 1) := by decide +kernel
theorem dX12_goOn_100 : decode cX12_goOn 100 = .ok (.aload_n 0, 1) := by decide +kernel
theorem dX12_goOn_101 : decode cX12_goOn 101 = .ok (.getfield 44, 3) := by decide +kernel
theorem dX12_goOn_104 : decode cX12_goOn 104 = .ok (.aload_n 0, 1) := by decide +kernel
theorem dX12_goOn_105 : decode cX12_goOn 105 = .ok (.getfield 218, 3) := by decide +kernel
theorem dX12_goOn_108 : decode cX12_goOn 108 = .ok (.baload, 1) := by decide +kernel
theorem dX12_goOn_109 : decode cX12_goOn 109 = .ok (.putfield 224, 3) := by decide +kernel
theorem dX12_goOn_112 : decode cX12_goOn 112 = .ok (.aload_n 0, 1) := by decide +kernel
theorem dX12_goOn_113 : decode cX12_goOn 113 = .ok (.aload_n 0, 1) := by decide +kernel
theorem dX12_goOn_114 : decode cX12_goOn 114 = .ok (.getfield 218, 3) := by decide +kernel
theorem dX12_goOn_117 : decode cX12_goOn 117 = .ok (.invokevirtual 200, 3) := by decide +kernel
theorem dX12_goOn_120 : decode cX12_goOn 120 = .ok (.istore_n 2, 1) := by decide +kernel
theorem dX12_goOn_121 : decode cX12_goOn 121 = .ok (.goto (-75), 3) := by decide +kernel
theorem dX12_goOn_124 : decode cX12_goOn 124 = .ok (.return_, 1) := by decide +kernel
theorem kw_404 : (.fieldLink RX12 218 "NobodyChecksModel" "last" "I" : Cond) ∈ gw_tbl := gw_in (by decide +kernel) (by decide +kernel)
theorem kw_405 : (.fieldLink RX12 221 "NobodyChecksModel" "steps" "I" : Cond) ∈ gw_tbl := gw_in (by decide +kernel) (by decide +kernel)
theorem kw_406 : (.fieldLink RX12 224 "NobodyChecksModel" "isRound" "Z" : Cond) ∈ gw_tbl := gw_in (by decide +kernel) (by decide +kernel)
theorem kw_407 : (.fieldLink RX12 44 "NobodyChecksModel" "isMet" "[Z" : Cond) ∈ gw_tbl := gw_in (by decide +kernel) (by decide +kernel)

set_option maxHeartbeats 4000000 in
set_option maxRecDepth 100000 in
theorem m_goOn (l : Launch) (D : va_G) (cs : Nat → ClassId) (m0 : Nat) (mp : Nat) (mw : Nat) (mh : Nat) (mo : Nat) (m5 : Nat) (m6 : Nat) (m7 : Nat) (mk : Nat) (mn : Nat) (mq : Nat) (m8 : Nat) (m9 : Nat) (mz : Nat) (mb : Nat) (md : Nat) (ms : Nat) (C : Nat) (P : Nat) (mpn : Nat) (mrs : Nat) (sS : Nat) (rc : Nat) (rp : Nat) (ic : Nat) (hms : ms ≤ 90) (hC5 : C ≤ 5) (hP4 : P ≤ 4) (hmpn : mpn ≤ 8) (hmrs : mrs ≤ 24) (hsS : sS ≤ 4) (hrc : rc ≤ 5) (hrp : rp ≤ 4) (hic : ic ≤ 4) (x_value : Int32) (x_digits : Int32) (x_all : Int64) (x_kind : Int32) (x_last : Int32) (x_steps : Int32) (x_isRound : Int32) (x_tablesDone : Int32) (x_hash : Int64) (fm8 : Nat → Int64) (fm9 : Nat → Int32) (a_ : Nat) (ha_ : a_ < lim P) (sz : Nat) : Met l yX12_goOn (Cond.code yX12_goOn cX12_goOn 3 none :: gw_tbl) ({ frames := 4, cells := 0, slots := 0, locals := 90 }) (pc_M D cs [(m0, .inr (12, [.ref mp, .int (nI ms), .int (nI C), .int (nI P), .ref mw, .ref mh, .ref mo, .int (nI sS), .int x_value, .int x_digits, .int (nI rc), .int (nI rp), .int (nI ic), .ref m5, .ref m6, .ref m7, .long x_all, .int (nI mpn), .ref mk, .ref mn, .int x_kind, .ref mq, .ref m8, .ref m9, .int x_last, .int x_steps, .int x_isRound, .int x_tablesDone, .ref mz, .int (nI mrs), .ref mb, .ref md, .long x_hash])), (m8, .inl (cs 1, 1024, .inr (.inl fm8))), (m9, .inl (cs 2, 256, .inl fm9))] sz [.ref m0, .int (nI a_)]) (va_Qv (fun (u : Unit) => True) (fun u t => ∃ (la2 : Int32), ∃ (st2 : Int32), ∃ (ro2 : Int32), ∃ (fm92 : Nat → Int32), va_P D vwCl [(m0, .inr (12, [.ref mp, .int (nI ms), .int (nI C), .int (nI P), .ref mw, .ref mh, .ref mo, .int (nI sS), .int x_value, .int x_digits, .int (nI rc), .int (nI rp), .int (nI ic), .ref m5, .ref m6, .ref m7, .long x_all, .int (nI mpn), .ref mk, .ref mn, .int x_kind, .ref mq, .ref m8, .ref m9, .int la2, .int st2, .int ro2, .int x_tablesDone, .ref mz, .int (nI mrs), .ref mb, .ref md, .long x_hash])), (m8, .inl (cs 1, 1024, .inr (.inl fm8))), (m9, .inl (cs 2, 256, .inl fm92))] t.heap ∧ va_D (va_A [(m0, .inr (12, [.ref mp, .int (nI ms), .int (nI C), .int (nI P), .ref mw, .ref mh, .ref mo, .int (nI sS), .int x_value, .int x_digits, .int (nI rc), .int (nI rp), .int (nI ic), .ref m5, .ref m6, .ref m7, .long x_all, .int (nI mpn), .ref mk, .ref mn, .int x_kind, .ref mq, .ref m8, .ref m9, .int x_last, .int x_steps, .int x_isRound, .int x_tablesDone, .ref mz, .int (nI mrs), .ref mb, .ref md, .long x_hash])), (m8, .inl (cs 1, 1024, .inr (.inl fm8))), (m9, .inl (cs 2, 256, .inl fm9))] sz) [(m0, .inr (12, [.ref mp, .int (nI ms), .int (nI C), .int (nI P), .ref mw, .ref mh, .ref mo, .int (nI sS), .int x_value, .int x_digits, .int (nI rc), .int (nI rp), .int (nI ic), .ref m5, .ref m6, .ref m7, .long x_all, .int (nI mpn), .ref mk, .ref mn, .int x_kind, .ref mq, .ref m8, .ref m9, .int la2, .int st2, .int ro2, .int x_tablesDone, .ref mz, .int (nI mrs), .ref mb, .ref md, .long x_hash])), (m8, .inl (cs 1, 1024, .inr (.inl fm8))), (m9, .inl (cs 2, 256, .inl fm92))]) (va_A [(m0, .inr (12, [.ref mp, .int (nI ms), .int (nI C), .int (nI P), .ref mw, .ref mh, .ref mo, .int (nI sS), .int x_value, .int x_digits, .int (nI rc), .int (nI rp), .int (nI ic), .ref m5, .ref m6, .ref m7, .long x_all, .int (nI mpn), .ref mk, .ref mn, .int x_kind, .ref mq, .ref m8, .ref m9, .int x_last, .int x_steps, .int x_isRound, .int x_tablesDone, .ref mz, .int (nI mrs), .ref mb, .ref md, .long x_hash])), (m8, .inl (cs 1, 1024, .inr (.inl fm8))), (m9, .inl (cs 2, 256, .inl fm9))] sz)) 0 0 (va_A [(m0, .inr (12, [.ref mp, .int (nI ms), .int (nI C), .int (nI P), .ref mw, .ref mh, .ref mo, .int (nI sS), .int x_value, .int x_digits, .int (nI rc), .int (nI rp), .int (nI ic), .ref m5, .ref m6, .ref m7, .long x_all, .int (nI mpn), .ref mk, .ref mn, .int x_kind, .ref mq, .ref m8, .ref m9, .int x_last, .int x_steps, .int x_isRound, .int x_tablesDone, .ref mz, .int (nI mrs), .ref mb, .ref md, .long x_hash])), (m8, .inl (cs 1, 1024, .inr (.inl fm8))), (m9, .inl (cs 2, 256, .inl fm9))] sz) := by
  refine Met.ofW (cc := cX12_goOn) (maxL := 3) (ret := none) (by decide) rfl ?_
  intro p e s m args below meth c s₁ B hml hv
  obtain ⟨hargs, hsz, hP, hK, hD0⟩ := hv
  have hx := B.exec
  have hb := B.bytes
  have hr := B.returns
  have hts := atoms_spec (ws := Cond.code yX12_goOn cX12_goOn 3 none :: gw_tbl) B.pre
  have hg := fun (w : Cond) (h : w ∈ gw_tbl) => hts w (List.mem_cons_of_mem _ h)
  have hown : s.vm.findClass RX12 = some m.cls := findClass_of_methodNamed B.named
  have hlocks := B.notSynchronized
  subst hsz
  have hD := hD0.self (sz := s.heap.size)
  generalize hAe : va_A [(m0, .inr (12, [.ref mp, .int (nI ms), .int (nI C), .int (nI P), .ref mw, .ref mh, .ref mo, .int (nI sS), .int x_value, .int x_digits, .int (nI rc), .int (nI rp), .int (nI ic), .ref m5, .ref m6, .ref m7, .long x_all, .int (nI mpn), .ref mk, .ref mn, .int x_kind, .ref mq, .ref m8, .ref m9, .int x_last, .int x_steps, .int x_isRound, .int x_tablesDone, .ref mz, .int (nI mrs), .ref mb, .ref md, .long x_hash])), (m8, .inl (cs 1, 1024, .inr (.inl fm8))), (m9, .inl (cs 2, 256, .inl fm9))] s.heap.size = A at hD ⊢
  have hA : ∀ q : Nat, s.heap.size ≤ q → A q := fun q h => by rw [← hAe]; exact Or.inr h
  have hS : va_S A s.heap s.heap [] := va_S.rf
  have hP : va_P D vwCl [(m0, .inr (12, [.ref mp, .int (nI ms), .int (nI C), .int (nI P), .ref mw, .ref mh, .ref mo, .int (nI sS), .int x_value, .int x_digits, .int (nI rc), .int (nI rp), .int (nI ic), .ref m5, .ref m6, .ref m7, .long x_all, .int (nI mpn), .ref mk, .ref mn, .int x_kind, .ref mq, .ref m8, .ref m9, .int x_last, .int x_steps, .int x_isRound, .int x_tablesDone, .ref mz, .int (nI mrs), .ref mb, .ref md, .long x_hash])), (m8, .inl (cs 1, 1024, .inr (.inl fm8))), (m9, .inl (cs 2, 256, .inl fm9))] s.heap := hP
  have hl := lv_entry ([.ref m0, .int (nI a_)]) (n := 3) (Nat.le_of_ble_eq_true rfl)
  rw [show entryFrame m args 3 = F0 m 0 (lg_sl ([.ref m0, .int (nI a_)]) ++ List.replicate (3 - (lg_sl ([.ref m0, .int (nI a_)])).length) Slot.unset).toArray [] from by rw [hargs]; exact lg_entry_eq ..]
  generalize (lg_sl ([.ref m0, .int (nI a_)]) ++ List.replicate (3 - (lg_sl ([.ref m0, .int (nI a_)])).length) Slot.unset).toArray = ls at hl ⊢
  have hl : lv_has ls 3 [(0, .ref m0), (1, .int (nI a_))] := hl
  refine W_genQ (fun Q hQ => ?_)
  have hlm := lim_le hP4
  have hlq := lim_pos P
  have hsg := sgn_le hP4
  refine lv_iconst (v := 0) hx hb dX12_goOn_0 (by decide) ?_
  refine lv_istore_n (lv' := [(2, .int 0), (0, .ref m0), (1, .int (nI a_))]) hx hb dX12_goOn_1 rfl hl (by decide) rfl (fun ls hl => ?_)
  have LOOP2 : ∀ (n2 : Nat) (k : Nat) (fm9_2 : Nat → Int32), k ≤ 256 → z0 fm9_2 k → 256 - k < n2 → ∀ (H : Heap) (locs : List Loc) (ls : Array Slot), va_P D vwCl [(m0, .inr (12, [.ref mp, .int (nI ms), .int (nI C), .int (nI P), .ref mw, .ref mh, .ref mo, .int (nI sS), .int x_value, .int x_digits, .int (nI rc), .int (nI rp), .int (nI ic), .ref m5, .ref m6, .ref m7, .long x_all, .int (nI mpn), .ref mk, .ref mn, .int x_kind, .ref mq, .ref m8, .ref m9, .int x_last, .int x_steps, .int x_isRound, .int x_tablesDone, .ref mz, .int (nI mrs), .ref mb, .ref md, .long x_hash])), (m8, .inl (cs 1, 1024, .inr (.inl fm8))), (m9, .inl (cs 2, 256, .inl fm9_2))] H → va_D A [(m0, .inr (12, [.ref mp, .int (nI ms), .int (nI C), .int (nI P), .ref mw, .ref mh, .ref mo, .int (nI sS), .int x_value, .int x_digits, .int (nI rc), .int (nI rp), .int (nI ic), .ref m5, .ref m6, .ref m7, .long x_all, .int (nI mpn), .ref mk, .ref mn, .int x_kind, .ref mq, .ref m8, .ref m9, .int x_last, .int x_steps, .int x_isRound, .int x_tablesDone, .ref mz, .int (nI mrs), .ref mb, .ref md, .long x_hash])), (m8, .inl (cs 1, 1024, .inr (.inl fm8))), (m9, .inl (cs 2, 256, .inl fm9_2))] → va_S A s.heap H locs → lv_has ls 3 [(0, .ref m0), (1, .int (nI a_)), (2, .int (nI k))] → W p l e ({ frames := 4, cells := 0, slots := 0, locals := 90 } : Room) s m args below meth c H locs 0 0 Q (F0 m 2 ls []) := by
    intro n2
    induction n2 with
    | zero =>
      intro k fm9_2 hk h0k hn2 H locs ls hP hD hS hl
      exact absurd hn2 (Nat.not_lt_zero _)
    | succ n2 ih2 =>
      intro k fm9_2 hk h0k hn2 H locs ls hP hD hS hl
      refine lv_iload_n hx hb dX12_goOn_2 rfl (lv_at hl 2 rfl) ?_
      refine lv_sipush (v := 256) hx hb dX12_goOn_3 (by decide) ?_
      refine lv_icmp_ge (tgt := 22) hx hb dX12_goOn_6 (by decide) (fun c_6 => ?_) (fun c_6 => ?_)
      · have n_6 : 256 ≤ k := b_le_t (by omega) (by omega) c_6
        have h0z : z0 fm9_2 256 := by rw [show k = 256 by omega] at h0k; exact h0k
        refine lv_aload_n hx hb dX12_goOn_22 rfl (lv_at hl 0 rfl) ?_
        refine lv_iload_n hx hb dX12_goOn_23 rfl (lv_at hl 1 rfl) ?_
        refine va_put (D := D) (ci := 12) (v := .int (nI a_)) (ty := .int) (C := RX12) (T := TX12) (N := 33) hx hb hg gwX12 tyX12 tyX12_ok nmX12 hown hK hP hD hS 0 rfl rfl 24 (by decide) (hg _ kw_404) (fun _ h9 => h9) rfl (by decide +kernel) rfl rfl (Nat.le_of_ble_eq_true rfl) dX12_goOn_24 (fun H locs hP hD hS => ?_)
        have hP : va_P D vwCl [(m0, .inr (12, [.ref mp, .int (nI ms), .int (nI C), .int (nI P), .ref mw, .ref mh, .ref mo, .int (nI sS), .int x_value, .int x_digits, .int (nI rc), .int (nI rp), .int (nI ic), .ref m5, .ref m6, .ref m7, .long x_all, .int (nI mpn), .ref mk, .ref mn, .int x_kind, .ref mq, .ref m8, .ref m9, .int (nI a_), .int x_steps, .int x_isRound, .int x_tablesDone, .ref mz, .int (nI mrs), .ref mb, .ref md, .long x_hash])), (m8, .inl (cs 1, 1024, .inr (.inl fm8))), (m9, .inl (cs 2, 256, .inl fm9_2))] H := hP
        have hD : va_D A [(m0, .inr (12, [.ref mp, .int (nI ms), .int (nI C), .int (nI P), .ref mw, .ref mh, .ref mo, .int (nI sS), .int x_value, .int x_digits, .int (nI rc), .int (nI rp), .int (nI ic), .ref m5, .ref m6, .ref m7, .long x_all, .int (nI mpn), .ref mk, .ref mn, .int x_kind, .ref mq, .ref m8, .ref m9, .int (nI a_), .int x_steps, .int x_isRound, .int x_tablesDone, .ref mz, .int (nI mrs), .ref mb, .ref md, .long x_hash])), (m8, .inl (cs 1, 1024, .inr (.inl fm8))), (m9, .inl (cs 2, 256, .inl fm9_2))] := hD
        refine lv_aload_n hx hb dX12_goOn_27 rfl (lv_at hl 0 rfl) ?_
        refine lv_iconst (v := 0) hx hb dX12_goOn_28 (by decide) ?_
        refine va_put (D := D) (ci := 12) (v := .int 0) (ty := .int) (C := RX12) (T := TX12) (N := 33) hx hb hg gwX12 tyX12 tyX12_ok nmX12 hown hK hP hD hS 0 rfl rfl 25 (by decide) (hg _ kw_405) (fun _ h9 => h9) rfl (by decide +kernel) rfl rfl (Nat.le_of_ble_eq_true rfl) dX12_goOn_29 (fun H locs hP hD hS => ?_)
        have hP : va_P D vwCl [(m0, .inr (12, [.ref mp, .int (nI ms), .int (nI C), .int (nI P), .ref mw, .ref mh, .ref mo, .int (nI sS), .int x_value, .int x_digits, .int (nI rc), .int (nI rp), .int (nI ic), .ref m5, .ref m6, .ref m7, .long x_all, .int (nI mpn), .ref mk, .ref mn, .int x_kind, .ref mq, .ref m8, .ref m9, .int (nI a_), .int 0, .int x_isRound, .int x_tablesDone, .ref mz, .int (nI mrs), .ref mb, .ref md, .long x_hash])), (m8, .inl (cs 1, 1024, .inr (.inl fm8))), (m9, .inl (cs 2, 256, .inl fm9_2))] H := hP
        have hD : va_D A [(m0, .inr (12, [.ref mp, .int (nI ms), .int (nI C), .int (nI P), .ref mw, .ref mh, .ref mo, .int (nI sS), .int x_value, .int x_digits, .int (nI rc), .int (nI rp), .int (nI ic), .ref m5, .ref m6, .ref m7, .long x_all, .int (nI mpn), .ref mk, .ref mn, .int x_kind, .ref mq, .ref m8, .ref m9, .int (nI a_), .int 0, .int x_isRound, .int x_tablesDone, .ref mz, .int (nI mrs), .ref mb, .ref md, .long x_hash])), (m8, .inl (cs 1, 1024, .inr (.inl fm8))), (m9, .inl (cs 2, 256, .inl fm9_2))] := hD
        refine lv_aload_n hx hb dX12_goOn_32 rfl (lv_at hl 0 rfl) ?_
        refine lv_iconst (v := 0) hx hb dX12_goOn_33 (by decide) ?_
        refine va_put (D := D) (ci := 12) (v := .int 0) (ty := .boolean) (C := RX12) (T := TX12) (N := 33) hx hb hg gwX12 tyX12 tyX12_ok nmX12 hown hK hP hD hS 0 rfl rfl 26 (by decide) (hg _ kw_406) (fun _ h9 => h9) rfl (by decide +kernel) rfl rfl (Nat.le_of_ble_eq_true rfl) dX12_goOn_34 (fun H locs hP hD hS => ?_)
        have hP : va_P D vwCl [(m0, .inr (12, [.ref mp, .int (nI ms), .int (nI C), .int (nI P), .ref mw, .ref mh, .ref mo, .int (nI sS), .int x_value, .int x_digits, .int (nI rc), .int (nI rp), .int (nI ic), .ref m5, .ref m6, .ref m7, .long x_all, .int (nI mpn), .ref mk, .ref mn, .int x_kind, .ref mq, .ref m8, .ref m9, .int (nI a_), .int 0, .int 0, .int x_tablesDone, .ref mz, .int (nI mrs), .ref mb, .ref md, .long x_hash])), (m8, .inl (cs 1, 1024, .inr (.inl fm8))), (m9, .inl (cs 2, 256, .inl fm9_2))] H := hP
        have hD : va_D A [(m0, .inr (12, [.ref mp, .int (nI ms), .int (nI C), .int (nI P), .ref mw, .ref mh, .ref mo, .int (nI sS), .int x_value, .int x_digits, .int (nI rc), .int (nI rp), .int (nI ic), .ref m5, .ref m6, .ref m7, .long x_all, .int (nI mpn), .ref mk, .ref mn, .int x_kind, .ref mq, .ref m8, .ref m9, .int (nI a_), .int 0, .int 0, .int x_tablesDone, .ref mz, .int (nI mrs), .ref mb, .ref md, .long x_hash])), (m8, .inl (cs 1, 1024, .inr (.inl fm8))), (m9, .inl (cs 2, 256, .inl fm9_2))] := hD
        refine lv_aload_n hx hb dX12_goOn_37 rfl (lv_at hl 0 rfl) ?_
        refine lv_aload_n hx hb dX12_goOn_38 rfl (lv_at hl 0 rfl) ?_
        refine va_get (D := D) (ci := 12) (v := .int (nI a_)) (C := RX12) (T := TX12) (N := 33) hx hb hg gwX12 hown hK hP 0 rfl rfl 24 (by decide) (hg _ kw_404) (fun _ h9 => h9) rfl dX12_goOn_39 ?_
        have hPc := hP.sub (ws' := [(m0, .inr (12, [.ref mp, .int (nI ms), .int (nI C), .int (nI P), .ref mw, .ref mh, .ref mo, .int (nI sS), .int x_value, .int x_digits, .int (nI rc), .int (nI rp), .int (nI ic), .ref m5, .ref m6, .ref m7, .long x_all, .int (nI mpn), .ref mk, .ref mn, .int x_kind, .ref mq, .ref m8, .ref m9, .int (nI a_), .int 0, .int 0, .int x_tablesDone, .ref mz, .int (nI mrs), .ref mb, .ref md, .long x_hash])), (m8, .inl (cs 1, 1024, .inr (.inl fm8)))]) [0, 1] rfl
        refine vp_callSi (W.runV (As := [.int (nI a_)]) (rest := []) ⟨hx, hb, hml, hown, hg⟩ (m_firstOf l D cs m0 mp mw mh mo m5 m6 m7 mk mn mq m8 m9 mz mb md ms C P mpn mrs sS rc rp ic (by omega) (by omega) (by omega) (by omega) (by omega) (by omega) (by omega) (by omega) (by omega) x_value x_digits x_all x_kind (nI a_) 0 0 x_tablesDone x_hash fm8 a_ (by omega)) (cwV 1 hg (gw_V kw_374 kw_375 kw_376 kw_319 kw_373) rfl rfl rfl (by decide +kernel) ⟨(Nat.le_of_ble_eq_true rfl), (Nat.le_of_ble_eq_true rfl)⟩) (pr_SV (q := (RX12, TX12, 33)) 12 0 hK hPc rfl rfl) rfl rfl hl.1 rfl (lv_room (Nat.le_of_ble_eq_true rfl)) dX12_goOn_42 ⟨(Nat.le_of_ble_eq_true rfl), (Nat.le_of_ble_eq_true rfl)⟩) (fun r_42 h_42 => ?_)
        rcases h_42 with rfl | ⟨k_42, rfl, hk_42⟩
        · refine lv_istore_n (lv' := [(2, .int (-1)), (0, .ref m0), (1, .int (nI a_))]) hx hb dX12_goOn_45 rfl hl (by decide) rfl (fun ls hl => ?_)
          have LOOP46 : ∀ (n46 : Nat) (u2_46 : Int32) (fm9_46 : Nat → Int32) (l9 : Nat) (wm025_46 : Int32) (wm026_46 : Int32), l9 < lim P → zI fm9_46 → (wm026_46 = 0 → fm9_46 l9 = 0) → (u2_46 = -1 ∨ ∃ k : Nat, k < P ∧ u2_46 = nI k) → cz fm9_46 256 < n46 → ∀ (H : Heap) (locs : List Loc) (ls : Array Slot), va_P D vwCl [(m0, .inr (12, [.ref mp, .int (nI ms), .int (nI C), .int (nI P), .ref mw, .ref mh, .ref mo, .int (nI sS), .int x_value, .int x_digits, .int (nI rc), .int (nI rp), .int (nI ic), .ref m5, .ref m6, .ref m7, .long x_all, .int (nI mpn), .ref mk, .ref mn, .int x_kind, .ref mq, .ref m8, .ref m9, .int (nI l9), .int wm025_46, .int wm026_46, .int x_tablesDone, .ref mz, .int (nI mrs), .ref mb, .ref md, .long x_hash])), (m8, .inl (cs 1, 1024, .inr (.inl fm8))), (m9, .inl (cs 2, 256, .inl fm9_46))] H → va_D A [(m0, .inr (12, [.ref mp, .int (nI ms), .int (nI C), .int (nI P), .ref mw, .ref mh, .ref mo, .int (nI sS), .int x_value, .int x_digits, .int (nI rc), .int (nI rp), .int (nI ic), .ref m5, .ref m6, .ref m7, .long x_all, .int (nI mpn), .ref mk, .ref mn, .int x_kind, .ref mq, .ref m8, .ref m9, .int (nI l9), .int wm025_46, .int wm026_46, .int x_tablesDone, .ref mz, .int (nI mrs), .ref mb, .ref md, .long x_hash])), (m8, .inl (cs 1, 1024, .inr (.inl fm8))), (m9, .inl (cs 2, 256, .inl fm9_46))] → va_S A s.heap H locs → lv_has ls 3 [(0, .ref m0), (1, .int (nI a_)), (2, .int u2_46)] → W p l e ({ frames := 4, cells := 0, slots := 0, locals := 90 } : Room) s m args below meth c H locs 0 0 Q (F0 m 46 ls []) := by
            intro n46
            induction n46 with
            | zero =>
              intro u2_46 fm9_46 l9 wm025_46 wm026_46 hla hz hrd hf1 hn46 H locs ls hP hD hS hl
              exact absurd hn46 (Nat.not_lt_zero _)
            | succ n46 ih46 =>
              intro u2_46 fm9_46 l9 wm025_46 wm026_46 hla hz hrd hf1 hn46 H locs ls hP hD hS hl
              refine lv_iload_n hx hb dX12_goOn_46 rfl (lv_at hl 2 rfl) ?_
              refine lv_iconst (v := (-1)) hx hb dX12_goOn_47 (by decide) ?_
              refine lv_icmp_eq (tgt := 124) hx hb dX12_goOn_48 (by decide) (fun c_48 => ?_) (fun c_48 => ?_)
              · refine W_sQ hQ ?_
                refine W.widen (k := 0) (n := 0) (Nat.le_of_ble_eq_true rfl) (Nat.le_of_ble_eq_true rfl) ?_
                have hP9 := hP.sub (ws' := [(m0, .inr (12, [.ref mp, .int (nI ms), .int (nI C), .int (nI P), .ref mw, .ref mh, .ref mo, .int (nI sS), .int x_value, .int x_digits, .int (nI rc), .int (nI rp), .int (nI ic), .ref m5, .ref m6, .ref m7, .long x_all, .int (nI mpn), .ref mk, .ref mn, .int x_kind, .ref mq, .ref m8, .ref m9, .int (nI l9), .int wm025_46, .int wm026_46, .int x_tablesDone, .ref mz, .int (nI mrs), .ref mb, .ref md, .long x_hash])), (m8, .inl (cs 1, 1024, .inr (.inl fm8))), (m9, .inl (cs 2, 256, .inl fm9_46))]) [0, 1, 2] rfl
                have hD9 := hD.sub (ws' := [(m0, .inr (12, [.ref mp, .int (nI ms), .int (nI C), .int (nI P), .ref mw, .ref mh, .ref mo, .int (nI sS), .int x_value, .int x_digits, .int (nI rc), .int (nI rp), .int (nI ic), .ref m5, .ref m6, .ref m7, .long x_all, .int (nI mpn), .ref mk, .ref mn, .int x_kind, .ref mq, .ref m8, .ref m9, .int (nI l9), .int wm025_46, .int wm026_46, .int x_tablesDone, .ref mz, .int (nI mrs), .ref mb, .ref md, .long x_hash])), (m8, .inl (cs 1, 1024, .inr (.inl fm8))), (m9, .inl (cs 2, 256, .inl fm9_46))]) [0, 1, 2] (by decide) rfl
                exact W.vret hx hb hr (fun t ht hW => ⟨⟨(), rfl, trivial, ⟨(nI l9), wm025_46, wm026_46, fm9_46, by rw [ht]; exact hP9, hD9⟩⟩, hS.F ht⟩) hS.2.2 dX12_goOn_124
              · refine lv_aload_n hx hb dX12_goOn_51 rfl (lv_at hl 0 rfl) ?_
                refine va_get (D := D) (ci := 12) (v := .int wm026_46) (C := RX12) (T := TX12) (N := 33) hx hb hg gwX12 hown hK hP 0 rfl rfl 26 (by decide) (hg _ kw_406) (fun _ h9 => h9) rfl dX12_goOn_52 ?_
                refine lv_if_ne (tgt := 124) hx hb dX12_goOn_55 (by decide) (fun c_55 => ?_) (fun c_55 => ?_)
                · refine W_sQ hQ ?_
                  refine W.widen (k := 0) (n := 0) (Nat.le_of_ble_eq_true rfl) (Nat.le_of_ble_eq_true rfl) ?_
                  have hP9 := hP.sub (ws' := [(m0, .inr (12, [.ref mp, .int (nI ms), .int (nI C), .int (nI P), .ref mw, .ref mh, .ref mo, .int (nI sS), .int x_value, .int x_digits, .int (nI rc), .int (nI rp), .int (nI ic), .ref m5, .ref m6, .ref m7, .long x_all, .int (nI mpn), .ref mk, .ref mn, .int x_kind, .ref mq, .ref m8, .ref m9, .int (nI l9), .int wm025_46, .int wm026_46, .int x_tablesDone, .ref mz, .int (nI mrs), .ref mb, .ref md, .long x_hash])), (m8, .inl (cs 1, 1024, .inr (.inl fm8))), (m9, .inl (cs 2, 256, .inl fm9_46))]) [0, 1, 2] rfl
                  have hD9 := hD.sub (ws' := [(m0, .inr (12, [.ref mp, .int (nI ms), .int (nI C), .int (nI P), .ref mw, .ref mh, .ref mo, .int (nI sS), .int x_value, .int x_digits, .int (nI rc), .int (nI rp), .int (nI ic), .ref m5, .ref m6, .ref m7, .long x_all, .int (nI mpn), .ref mk, .ref mn, .int x_kind, .ref mq, .ref m8, .ref m9, .int (nI l9), .int wm025_46, .int wm026_46, .int x_tablesDone, .ref mz, .int (nI mrs), .ref mb, .ref md, .long x_hash])), (m8, .inl (cs 1, 1024, .inr (.inl fm8))), (m9, .inl (cs 2, 256, .inl fm9_46))]) [0, 1, 2] (by decide) rfl
                  exact W.vret hx hb hr (fun t ht hW => ⟨⟨(), rfl, trivial, ⟨(nI l9), wm025_46, wm026_46, fm9_46, by rw [ht]; exact hP9, hD9⟩⟩, hS.F ht⟩) hS.2.2 dX12_goOn_124
                · obtain ⟨k9, hk9, rfl⟩ := hf1.resolve_left c_48
                  have h0 := hrd c_55
                  refine lv_aload_n hx hb dX12_goOn_58 rfl (lv_at hl 0 rfl) ?_
                  refine va_get (D := D) (ci := 12) (v := .ref m9) (C := RX12) (T := TX12) (N := 33) hx hb hg gwX12 hown hK hP 0 rfl rfl 23 (by decide) (hg _ kw_407) (fun _ h9 => h9) rfl dX12_goOn_59 ?_
                  refine lv_aload_n hx hb dX12_goOn_62 rfl (lv_at hl 0 rfl) ?_
                  refine va_get (D := D) (ci := 12) (v := .int (nI l9)) (C := RX12) (T := TX12) (N := 33) hx hb hg gwX12 hown hK hP 0 rfl rfl 24 (by decide) (hg _ kw_404) (fun _ h9 => h9) rfl dX12_goOn_63 ?_
                  refine lv_iconst (v := 1) hx hb dX12_goOn_66 (by decide) ?_
                  refine va_zast hx hb hK hP hD hS 2 2 rfl rfl (vp_in_nI (show l9 < 256 by omega) (by decide)) dX12_goOn_67 (fun H locs hP hD hS => ?_)
                  obtain ⟨f_67, hf_67⟩ : ∃ f9, f9 = (upd fm9_46 (nI l9).toNatClampNeg (vp_nar .boolean (1 : Int32))) := ⟨_, rfl⟩
                  rw [← hf_67] at hP hD
                  have hP : va_P D vwCl [(m0, .inr (12, [.ref mp, .int (nI ms), .int (nI C), .int (nI P), .ref mw, .ref mh, .ref mo, .int (nI sS), .int x_value, .int x_digits, .int (nI rc), .int (nI rp), .int (nI ic), .ref m5, .ref m6, .ref m7, .long x_all, .int (nI mpn), .ref mk, .ref mn, .int x_kind, .ref mq, .ref m8, .ref m9, .int (nI l9), .int wm025_46, .int wm026_46, .int x_tablesDone, .ref mz, .int (nI mrs), .ref mb, .ref md, .long x_hash])), (m8, .inl (cs 1, 1024, .inr (.inl fm8))), (m9, .inl (cs 2, 256, .inl f_67))] H := hP
                  have hD : va_D A [(m0, .inr (12, [.ref mp, .int (nI ms), .int (nI C), .int (nI P), .ref mw, .ref mh, .ref mo, .int (nI sS), .int x_value, .int x_digits, .int (nI rc), .int (nI rp), .int (nI ic), .ref m5, .ref m6, .ref m7, .long x_all, .int (nI mpn), .ref mk, .ref mn, .int x_kind, .ref mq, .ref m8, .ref m9, .int (nI l9), .int wm025_46, .int wm026_46, .int x_tablesDone, .ref mz, .int (nI mrs), .ref mb, .ref md, .long x_hash])), (m8, .inl (cs 1, 1024, .inr (.inl fm8))), (m9, .inl (cs 2, 256, .inl f_67))] := hD
                  have hz2 := zI_up hz (Or.inr rfl) hf_67
                  have hcz : cz f_67 256 + 1 = cz fm9_46 256 := by rw [hf_67, nI_clamp (by omega)]; exact cz_up (by decide) h0 (by omega)
                  refine lv_aload_n hx hb dX12_goOn_68 rfl (lv_at hl 0 rfl) ?_
                  refine lv_aload_n hx hb dX12_goOn_69 rfl (lv_at hl 0 rfl) ?_
                  refine va_get (D := D) (ci := 12) (v := .int (nI l9)) (C := RX12) (T := TX12) (N := 33) hx hb hg gwX12 hown hK hP 0 rfl rfl 24 (by decide) (hg _ kw_404) (fun _ h9 => h9) rfl dX12_goOn_70 ?_
                  refine lv_iload_n hx hb dX12_goOn_73 rfl (lv_at hl 2 rfl) ?_
                  refine lv_aload_n hx hb dX12_goOn_74 rfl (lv_at hl 0 rfl) ?_
                  refine lv_aload_n hx hb dX12_goOn_75 rfl (lv_at hl 0 rfl) ?_
                  refine va_get (D := D) (ci := 12) (v := .int (nI l9)) (C := RX12) (T := TX12) (N := 33) hx hb hg gwX12 hown hK hP 0 rfl rfl 24 (by decide) (hg _ kw_404) (fun _ h9 => h9) rfl dX12_goOn_76 ?_
                  refine lv_iload_n hx hb dX12_goOn_79 rfl (lv_at hl 2 rfl) ?_
                  have hPc := hP.sub (ws' := [(m0, .inr (12, [.ref mp, .int (nI ms), .int (nI C), .int (nI P), .ref mw, .ref mh, .ref mo, .int (nI sS), .int x_value, .int x_digits, .int (nI rc), .int (nI rp), .int (nI ic), .ref m5, .ref m6, .ref m7, .long x_all, .int (nI mpn), .ref mk, .ref mn, .int x_kind, .ref mq, .ref m8, .ref m9, .int (nI l9), .int wm025_46, .int wm026_46, .int x_tablesDone, .ref mz, .int (nI mrs), .ref mb, .ref md, .long x_hash])), (m8, .inl (cs 1, 1024, .inr (.inl fm8)))]) [0, 1] rfl
                  refine vp_callSi (W.runV (As := [.int (nI l9), .int (nI k9)]) (rest := [.int (nI k9), .int (nI l9), .ref m0]) ⟨hx, hb, hml, hown, hg⟩ (m_bestWay l D cs m0 mp mw mh mo m5 m6 m7 mk mn mq m8 m9 mz mb md ms C P mpn mrs sS rc rp ic (by omega) (by omega) (by omega) (by omega) (by omega) (by omega) (by omega) (by omega) (by omega) x_value x_digits x_all x_kind (nI l9) wm025_46 wm026_46 x_tablesDone x_hash fm8 l9 (by omega) k9 (by omega)) (cwV 2 hg (gw_V kw_362 kw_363 kw_364 kw_319 kw_361) rfl rfl rfl (by decide +kernel) ⟨(Nat.le_of_ble_eq_true rfl), (Nat.le_of_ble_eq_true rfl)⟩) (pr_SV (q := (RX12, TX12, 33)) 12 0 hK hPc rfl rfl) rfl rfl hl.1 rfl (lv_room (Nat.le_of_ble_eq_true rfl)) dX12_goOn_80 ⟨(Nat.le_of_ble_eq_true rfl), (Nat.le_of_ble_eq_true rfl)⟩) (fun r_80 h_80 => ?_)
                  obtain ⟨k_80, rfl, hk_80⟩ := h_80
                  refine vp_callSi (W.runS (As := [.int (nI l9), .int (nI k9), .int (nI k_80)]) (rest := [.ref m0]) ⟨hx, hb, hml, hown, hg⟩ (c_with l l9 k9 k_80 P (by omega) (by omega) (by omega) (by omega)) (va_cwS 3 hg (gw_S kw_359 kw_360 kw_319 kw_358) rfl rfl rfl (by decide +kernel) ⟨(Nat.le_of_ble_eq_true rfl), (Nat.le_of_ble_eq_true rfl)⟩) pr_0 rfl rfl hl.1 rfl (lv_room (Nat.le_of_ble_eq_true rfl)) dX12_goOn_83 ⟨(Nat.le_of_ble_eq_true rfl), (Nat.le_of_ble_eq_true rfl)⟩) (fun r_83 h_83 => ?_)
                  obtain ⟨k_83, rfl, hk_83⟩ := h_83
                  refine va_put (D := D) (ci := 12) (v := .int (nI k_83)) (ty := .int) (C := RX12) (T := TX12) (N := 33) hx hb hg gwX12 tyX12 tyX12_ok nmX12 hown hK hP hD hS 0 rfl rfl 24 (by decide) (hg _ kw_404) (fun _ h9 => h9) rfl (by decide +kernel) rfl rfl (Nat.le_of_ble_eq_true rfl) dX12_goOn_86 (fun H locs hP hD hS => ?_)
                  have hP : va_P D vwCl [(m0, .inr (12, [.ref mp, .int (nI ms), .int (nI C), .int (nI P), .ref mw, .ref mh, .ref mo, .int (nI sS), .int x_value, .int x_digits, .int (nI rc), .int (nI rp), .int (nI ic), .ref m5, .ref m6, .ref m7, .long x_all, .int (nI mpn), .ref mk, .ref mn, .int x_kind, .ref mq, .ref m8, .ref m9, .int (nI k_83), .int wm025_46, .int wm026_46, .int x_tablesDone, .ref mz, .int (nI mrs), .ref mb, .ref md, .long x_hash])), (m8, .inl (cs 1, 1024, .inr (.inl fm8))), (m9, .inl (cs 2, 256, .inl f_67))] H := hP
                  have hD : va_D A [(m0, .inr (12, [.ref mp, .int (nI ms), .int (nI C), .int (nI P), .ref mw, .ref mh, .ref mo, .int (nI sS), .int x_value, .int x_digits, .int (nI rc), .int (nI rp), .int (nI ic), .ref m5, .ref m6, .ref m7, .long x_all, .int (nI mpn), .ref mk, .ref mn, .int x_kind, .ref mq, .ref m8, .ref m9, .int (nI k_83), .int wm025_46, .int wm026_46, .int x_tablesDone, .ref mz, .int (nI mrs), .ref mb, .ref md, .long x_hash])), (m8, .inl (cs 1, 1024, .inr (.inl fm8))), (m9, .inl (cs 2, 256, .inl f_67))] := hD
                  refine lv_aload_n hx hb dX12_goOn_89 rfl (lv_at hl 0 rfl) ?_
                  refine lv_dup hx hb dX12_goOn_90 rfl ?_
                  refine va_get (D := D) (ci := 12) (v := .int wm025_46) (C := RX12) (T := TX12) (N := 33) hx hb hg gwX12 hown hK hP 0 rfl rfl 25 (by decide) (hg _ kw_405) (fun _ h9 => h9) rfl dX12_goOn_91 ?_
                  refine lv_iconst (v := 1) hx hb dX12_goOn_94 (by decide) ?_
                  refine lv_iadd hx hb dX12_goOn_95 ?_
                  refine lv_topi (fun z_95 e_95 => ?_)
                  refine va_put (D := D) (ci := 12) (v := .int z_95) (ty := .int) (C := RX12) (T := TX12) (N := 33) hx hb hg gwX12 tyX12 tyX12_ok nmX12 hown hK hP hD hS 0 rfl rfl 25 (by decide) (hg _ kw_405) (fun _ h9 => h9) rfl (by decide +kernel) rfl rfl (Nat.le_of_ble_eq_true rfl) dX12_goOn_96 (fun H locs hP hD hS => ?_)
                  have hP : va_P D vwCl [(m0, .inr (12, [.ref mp, .int (nI ms), .int (nI C), .int (nI P), .ref mw, .ref mh, .ref mo, .int (nI sS), .int x_value, .int x_digits, .int (nI rc), .int (nI rp), .int (nI ic), .ref m5, .ref m6, .ref m7, .long x_all, .int (nI mpn), .ref mk, .ref mn, .int x_kind, .ref mq, .ref m8, .ref m9, .int (nI k_83), .int z_95, .int wm026_46, .int x_tablesDone, .ref mz, .int (nI mrs), .ref mb, .ref md, .long x_hash])), (m8, .inl (cs 1, 1024, .inr (.inl fm8))), (m9, .inl (cs 2, 256, .inl f_67))] H := hP
                  have hD : va_D A [(m0, .inr (12, [.ref mp, .int (nI ms), .int (nI C), .int (nI P), .ref mw, .ref mh, .ref mo, .int (nI sS), .int x_value, .int x_digits, .int (nI rc), .int (nI rp), .int (nI ic), .ref m5, .ref m6, .ref m7, .long x_all, .int (nI mpn), .ref mk, .ref mn, .int x_kind, .ref mq, .ref m8, .ref m9, .int (nI k_83), .int z_95, .int wm026_46, .int x_tablesDone, .ref mz, .int (nI mrs), .ref mb, .ref md, .long x_hash])), (m8, .inl (cs 1, 1024, .inr (.inl fm8))), (m9, .inl (cs 2, 256, .inl f_67))] := hD
                  refine lv_aload_n hx hb dX12_goOn_99 rfl (lv_at hl 0 rfl) ?_
                  refine lv_aload_n hx hb dX12_goOn_100 rfl (lv_at hl 0 rfl) ?_
                  refine va_get (D := D) (ci := 12) (v := .ref m9) (C := RX12) (T := TX12) (N := 33) hx hb hg gwX12 hown hK hP 0 rfl rfl 23 (by decide) (hg _ kw_407) (fun _ h9 => h9) rfl dX12_goOn_101 ?_
                  refine lv_aload_n hx hb dX12_goOn_104 rfl (lv_at hl 0 rfl) ?_
                  refine va_get (D := D) (ci := 12) (v := .int (nI k_83)) (C := RX12) (T := TX12) (N := 33) hx hb hg gwX12 hown hK hP 0 rfl rfl 24 (by decide) (hg _ kw_404) (fun _ h9 => h9) rfl dX12_goOn_105 ?_
                  refine va_zald hx hb hK hP 2 2 rfl rfl (vp_in_nI (show k_83 < 256 by omega) (by decide)) dX12_goOn_108 ?_
                  refine lv_topi (fun z_108 e_108 => ?_)
                  have hz9 : z_108 = 0 ∨ z_108 = 1 := by rw [e_108, nI_clamp (by omega)]; exact hz2 _ (by omega)
                  have hr3 : z_108 = 0 → f_67 k_83 = 0 := fun q9 => by rw [e_108, nI_clamp (by omega)] at q9; exact q9
                  refine va_put (D := D) (ci := 12) (v := .int z_108) (ty := .boolean) (C := RX12) (T := TX12) (N := 33) hx hb hg gwX12 tyX12 tyX12_ok nmX12 hown hK hP hD hS 0 rfl rfl 26 (by decide) (hg _ kw_406) (fun _ h9 => h9) rfl (by decide +kernel) (z_nar hz9) (z_fit hz9) (Nat.le_of_ble_eq_true rfl) dX12_goOn_109 (fun H locs hP hD hS => ?_)
                  have hP : va_P D vwCl [(m0, .inr (12, [.ref mp, .int (nI ms), .int (nI C), .int (nI P), .ref mw, .ref mh, .ref mo, .int (nI sS), .int x_value, .int x_digits, .int (nI rc), .int (nI rp), .int (nI ic), .ref m5, .ref m6, .ref m7, .long x_all, .int (nI mpn), .ref mk, .ref mn, .int x_kind, .ref mq, .ref m8, .ref m9, .int (nI k_83), .int z_95, .int z_108, .int x_tablesDone, .ref mz, .int (nI mrs), .ref mb, .ref md, .long x_hash])), (m8, .inl (cs 1, 1024, .inr (.inl fm8))), (m9, .inl (cs 2, 256, .inl f_67))] H := hP
                  have hD : va_D A [(m0, .inr (12, [.ref mp, .int (nI ms), .int (nI C), .int (nI P), .ref mw, .ref mh, .ref mo, .int (nI sS), .int x_value, .int x_digits, .int (nI rc), .int (nI rp), .int (nI ic), .ref m5, .ref m6, .ref m7, .long x_all, .int (nI mpn), .ref mk, .ref mn, .int x_kind, .ref mq, .ref m8, .ref m9, .int (nI k_83), .int z_95, .int z_108, .int x_tablesDone, .ref mz, .int (nI mrs), .ref mb, .ref md, .long x_hash])), (m8, .inl (cs 1, 1024, .inr (.inl fm8))), (m9, .inl (cs 2, 256, .inl f_67))] := hD
                  refine lv_aload_n hx hb dX12_goOn_112 rfl (lv_at hl 0 rfl) ?_
                  refine lv_aload_n hx hb dX12_goOn_113 rfl (lv_at hl 0 rfl) ?_
                  refine va_get (D := D) (ci := 12) (v := .int (nI k_83)) (C := RX12) (T := TX12) (N := 33) hx hb hg gwX12 hown hK hP 0 rfl rfl 24 (by decide) (hg _ kw_404) (fun _ h9 => h9) rfl dX12_goOn_114 ?_
                  have hPc := hP.sub (ws' := [(m0, .inr (12, [.ref mp, .int (nI ms), .int (nI C), .int (nI P), .ref mw, .ref mh, .ref mo, .int (nI sS), .int x_value, .int x_digits, .int (nI rc), .int (nI rp), .int (nI ic), .ref m5, .ref m6, .ref m7, .long x_all, .int (nI mpn), .ref mk, .ref mn, .int x_kind, .ref mq, .ref m8, .ref m9, .int (nI k_83), .int z_95, .int z_108, .int x_tablesDone, .ref mz, .int (nI mrs), .ref mb, .ref md, .long x_hash])), (m8, .inl (cs 1, 1024, .inr (.inl fm8)))]) [0, 1] rfl
                  refine vp_callSi (W.runV (As := [.int (nI k_83)]) (rest := []) ⟨hx, hb, hml, hown, hg⟩ (m_firstOf l D cs m0 mp mw mh mo m5 m6 m7 mk mn mq m8 m9 mz mb md ms C P mpn mrs sS rc rp ic (by omega) (by omega) (by omega) (by omega) (by omega) (by omega) (by omega) (by omega) (by omega) x_value x_digits x_all x_kind (nI k_83) z_95 z_108 x_tablesDone x_hash fm8 k_83 (by omega)) (cwV 1 hg (gw_V kw_374 kw_375 kw_376 kw_319 kw_373) rfl rfl rfl (by decide +kernel) ⟨(Nat.le_of_ble_eq_true rfl), (Nat.le_of_ble_eq_true rfl)⟩) (pr_SV (q := (RX12, TX12, 33)) 12 0 hK hPc rfl rfl) rfl rfl hl.1 rfl (lv_room (Nat.le_of_ble_eq_true rfl)) dX12_goOn_117 ⟨(Nat.le_of_ble_eq_true rfl), (Nat.le_of_ble_eq_true rfl)⟩) (fun r_117 h_117 => ?_)
                  rcases h_117 with rfl | ⟨k_117, rfl, hk_117⟩
                  · refine lv_istore_n (lv' := [(2, .int (-1)), (0, .ref m0), (1, .int (nI a_))]) hx hb dX12_goOn_120 rfl hl (by decide) rfl (fun ls hl => ?_)
                    refine lv_goto (tgt := 46) hx hb dX12_goOn_121 (by decide) ?_
                    exact ih46 (-1) f_67 k_83 z_95 z_108 (by omega) hz2 hr3 (Or.inl rfl) (by omega) _ _ ls hP hD hS (lv_sub hl [1, 2, 0] rfl)
                  · refine lv_istore_n (lv' := [(2, .int (nI k_117)), (0, .ref m0), (1, .int (nI a_))]) hx hb dX12_goOn_120 rfl hl (by decide) rfl (fun ls hl => ?_)
                    refine lv_goto (tgt := 46) hx hb dX12_goOn_121 (by decide) ?_
                    exact ih46 (nI k_117) f_67 k_83 z_95 z_108 (by omega) hz2 hr3 (Or.inr ⟨_, by assumption, rfl⟩) (by omega) _ _ ls hP hD hS (lv_sub hl [1, 2, 0] rfl)
          exact LOOP46 (cz fm9_2 256 + 1) (-1) fm9_2 a_ 0 0 (by omega) (zI_0 h0z) (fun _ => h0z _ (by omega)) (Or.inl rfl) (Nat.lt_succ_self _) _ _ ls hP hD hS (lv_sub hl [1, 2, 0] rfl)
        · refine lv_istore_n (lv' := [(2, .int (nI k_42)), (0, .ref m0), (1, .int (nI a_))]) hx hb dX12_goOn_45 rfl hl (by decide) rfl (fun ls hl => ?_)
          have LOOP46 : ∀ (n46 : Nat) (u2_46 : Int32) (fm9_46 : Nat → Int32) (l9 : Nat) (wm025_46 : Int32) (wm026_46 : Int32), l9 < lim P → zI fm9_46 → (wm026_46 = 0 → fm9_46 l9 = 0) → (u2_46 = -1 ∨ ∃ k : Nat, k < P ∧ u2_46 = nI k) → cz fm9_46 256 < n46 → ∀ (H : Heap) (locs : List Loc) (ls : Array Slot), va_P D vwCl [(m0, .inr (12, [.ref mp, .int (nI ms), .int (nI C), .int (nI P), .ref mw, .ref mh, .ref mo, .int (nI sS), .int x_value, .int x_digits, .int (nI rc), .int (nI rp), .int (nI ic), .ref m5, .ref m6, .ref m7, .long x_all, .int (nI mpn), .ref mk, .ref mn, .int x_kind, .ref mq, .ref m8, .ref m9, .int (nI l9), .int wm025_46, .int wm026_46, .int x_tablesDone, .ref mz, .int (nI mrs), .ref mb, .ref md, .long x_hash])), (m8, .inl (cs 1, 1024, .inr (.inl fm8))), (m9, .inl (cs 2, 256, .inl fm9_46))] H → va_D A [(m0, .inr (12, [.ref mp, .int (nI ms), .int (nI C), .int (nI P), .ref mw, .ref mh, .ref mo, .int (nI sS), .int x_value, .int x_digits, .int (nI rc), .int (nI rp), .int (nI ic), .ref m5, .ref m6, .ref m7, .long x_all, .int (nI mpn), .ref mk, .ref mn, .int x_kind, .ref mq, .ref m8, .ref m9, .int (nI l9), .int wm025_46, .int wm026_46, .int x_tablesDone, .ref mz, .int (nI mrs), .ref mb, .ref md, .long x_hash])), (m8, .inl (cs 1, 1024, .inr (.inl fm8))), (m9, .inl (cs 2, 256, .inl fm9_46))] → va_S A s.heap H locs → lv_has ls 3 [(0, .ref m0), (1, .int (nI a_)), (2, .int u2_46)] → W p l e ({ frames := 4, cells := 0, slots := 0, locals := 90 } : Room) s m args below meth c H locs 0 0 Q (F0 m 46 ls []) := by
            intro n46
            induction n46 with
            | zero =>
              intro u2_46 fm9_46 l9 wm025_46 wm026_46 hla hz hrd hf1 hn46 H locs ls hP hD hS hl
              exact absurd hn46 (Nat.not_lt_zero _)
            | succ n46 ih46 =>
              intro u2_46 fm9_46 l9 wm025_46 wm026_46 hla hz hrd hf1 hn46 H locs ls hP hD hS hl
              refine lv_iload_n hx hb dX12_goOn_46 rfl (lv_at hl 2 rfl) ?_
              refine lv_iconst (v := (-1)) hx hb dX12_goOn_47 (by decide) ?_
              refine lv_icmp_eq (tgt := 124) hx hb dX12_goOn_48 (by decide) (fun c_48 => ?_) (fun c_48 => ?_)
              · refine W_sQ hQ ?_
                refine W.widen (k := 0) (n := 0) (Nat.le_of_ble_eq_true rfl) (Nat.le_of_ble_eq_true rfl) ?_
                have hP9 := hP.sub (ws' := [(m0, .inr (12, [.ref mp, .int (nI ms), .int (nI C), .int (nI P), .ref mw, .ref mh, .ref mo, .int (nI sS), .int x_value, .int x_digits, .int (nI rc), .int (nI rp), .int (nI ic), .ref m5, .ref m6, .ref m7, .long x_all, .int (nI mpn), .ref mk, .ref mn, .int x_kind, .ref mq, .ref m8, .ref m9, .int (nI l9), .int wm025_46, .int wm026_46, .int x_tablesDone, .ref mz, .int (nI mrs), .ref mb, .ref md, .long x_hash])), (m8, .inl (cs 1, 1024, .inr (.inl fm8))), (m9, .inl (cs 2, 256, .inl fm9_46))]) [0, 1, 2] rfl
                have hD9 := hD.sub (ws' := [(m0, .inr (12, [.ref mp, .int (nI ms), .int (nI C), .int (nI P), .ref mw, .ref mh, .ref mo, .int (nI sS), .int x_value, .int x_digits, .int (nI rc), .int (nI rp), .int (nI ic), .ref m5, .ref m6, .ref m7, .long x_all, .int (nI mpn), .ref mk, .ref mn, .int x_kind, .ref mq, .ref m8, .ref m9, .int (nI l9), .int wm025_46, .int wm026_46, .int x_tablesDone, .ref mz, .int (nI mrs), .ref mb, .ref md, .long x_hash])), (m8, .inl (cs 1, 1024, .inr (.inl fm8))), (m9, .inl (cs 2, 256, .inl fm9_46))]) [0, 1, 2] (by decide) rfl
                exact W.vret hx hb hr (fun t ht hW => ⟨⟨(), rfl, trivial, ⟨(nI l9), wm025_46, wm026_46, fm9_46, by rw [ht]; exact hP9, hD9⟩⟩, hS.F ht⟩) hS.2.2 dX12_goOn_124
              · refine lv_aload_n hx hb dX12_goOn_51 rfl (lv_at hl 0 rfl) ?_
                refine va_get (D := D) (ci := 12) (v := .int wm026_46) (C := RX12) (T := TX12) (N := 33) hx hb hg gwX12 hown hK hP 0 rfl rfl 26 (by decide) (hg _ kw_406) (fun _ h9 => h9) rfl dX12_goOn_52 ?_
                refine lv_if_ne (tgt := 124) hx hb dX12_goOn_55 (by decide) (fun c_55 => ?_) (fun c_55 => ?_)
                · refine W_sQ hQ ?_
                  refine W.widen (k := 0) (n := 0) (Nat.le_of_ble_eq_true rfl) (Nat.le_of_ble_eq_true rfl) ?_
                  have hP9 := hP.sub (ws' := [(m0, .inr (12, [.ref mp, .int (nI ms), .int (nI C), .int (nI P), .ref mw, .ref mh, .ref mo, .int (nI sS), .int x_value, .int x_digits, .int (nI rc), .int (nI rp), .int (nI ic), .ref m5, .ref m6, .ref m7, .long x_all, .int (nI mpn), .ref mk, .ref mn, .int x_kind, .ref mq, .ref m8, .ref m9, .int (nI l9), .int wm025_46, .int wm026_46, .int x_tablesDone, .ref mz, .int (nI mrs), .ref mb, .ref md, .long x_hash])), (m8, .inl (cs 1, 1024, .inr (.inl fm8))), (m9, .inl (cs 2, 256, .inl fm9_46))]) [0, 1, 2] rfl
                  have hD9 := hD.sub (ws' := [(m0, .inr (12, [.ref mp, .int (nI ms), .int (nI C), .int (nI P), .ref mw, .ref mh, .ref mo, .int (nI sS), .int x_value, .int x_digits, .int (nI rc), .int (nI rp), .int (nI ic), .ref m5, .ref m6, .ref m7, .long x_all, .int (nI mpn), .ref mk, .ref mn, .int x_kind, .ref mq, .ref m8, .ref m9, .int (nI l9), .int wm025_46, .int wm026_46, .int x_tablesDone, .ref mz, .int (nI mrs), .ref mb, .ref md, .long x_hash])), (m8, .inl (cs 1, 1024, .inr (.inl fm8))), (m9, .inl (cs 2, 256, .inl fm9_46))]) [0, 1, 2] (by decide) rfl
                  exact W.vret hx hb hr (fun t ht hW => ⟨⟨(), rfl, trivial, ⟨(nI l9), wm025_46, wm026_46, fm9_46, by rw [ht]; exact hP9, hD9⟩⟩, hS.F ht⟩) hS.2.2 dX12_goOn_124
                · obtain ⟨k9, hk9, rfl⟩ := hf1.resolve_left c_48
                  have h0 := hrd c_55
                  refine lv_aload_n hx hb dX12_goOn_58 rfl (lv_at hl 0 rfl) ?_
                  refine va_get (D := D) (ci := 12) (v := .ref m9) (C := RX12) (T := TX12) (N := 33) hx hb hg gwX12 hown hK hP 0 rfl rfl 23 (by decide) (hg _ kw_407) (fun _ h9 => h9) rfl dX12_goOn_59 ?_
                  refine lv_aload_n hx hb dX12_goOn_62 rfl (lv_at hl 0 rfl) ?_
                  refine va_get (D := D) (ci := 12) (v := .int (nI l9)) (C := RX12) (T := TX12) (N := 33) hx hb hg gwX12 hown hK hP 0 rfl rfl 24 (by decide) (hg _ kw_404) (fun _ h9 => h9) rfl dX12_goOn_63 ?_
                  refine lv_iconst (v := 1) hx hb dX12_goOn_66 (by decide) ?_
                  refine va_zast hx hb hK hP hD hS 2 2 rfl rfl (vp_in_nI (show l9 < 256 by omega) (by decide)) dX12_goOn_67 (fun H locs hP hD hS => ?_)
                  obtain ⟨f_67, hf_67⟩ : ∃ f9, f9 = (upd fm9_46 (nI l9).toNatClampNeg (vp_nar .boolean (1 : Int32))) := ⟨_, rfl⟩
                  rw [← hf_67] at hP hD
                  have hP : va_P D vwCl [(m0, .inr (12, [.ref mp, .int (nI ms), .int (nI C), .int (nI P), .ref mw, .ref mh, .ref mo, .int (nI sS), .int x_value, .int x_digits, .int (nI rc), .int (nI rp), .int (nI ic), .ref m5, .ref m6, .ref m7, .long x_all, .int (nI mpn), .ref mk, .ref mn, .int x_kind, .ref mq, .ref m8, .ref m9, .int (nI l9), .int wm025_46, .int wm026_46, .int x_tablesDone, .ref mz, .int (nI mrs), .ref mb, .ref md, .long x_hash])), (m8, .inl (cs 1, 1024, .inr (.inl fm8))), (m9, .inl (cs 2, 256, .inl f_67))] H := hP
                  have hD : va_D A [(m0, .inr (12, [.ref mp, .int (nI ms), .int (nI C), .int (nI P), .ref mw, .ref mh, .ref mo, .int (nI sS), .int x_value, .int x_digits, .int (nI rc), .int (nI rp), .int (nI ic), .ref m5, .ref m6, .ref m7, .long x_all, .int (nI mpn), .ref mk, .ref mn, .int x_kind, .ref mq, .ref m8, .ref m9, .int (nI l9), .int wm025_46, .int wm026_46, .int x_tablesDone, .ref mz, .int (nI mrs), .ref mb, .ref md, .long x_hash])), (m8, .inl (cs 1, 1024, .inr (.inl fm8))), (m9, .inl (cs 2, 256, .inl f_67))] := hD
                  have hz2 := zI_up hz (Or.inr rfl) hf_67
                  have hcz : cz f_67 256 + 1 = cz fm9_46 256 := by rw [hf_67, nI_clamp (by omega)]; exact cz_up (by decide) h0 (by omega)
                  refine lv_aload_n hx hb dX12_goOn_68 rfl (lv_at hl 0 rfl) ?_
                  refine lv_aload_n hx hb dX12_goOn_69 rfl (lv_at hl 0 rfl) ?_
                  refine va_get (D := D) (ci := 12) (v := .int (nI l9)) (C := RX12) (T := TX12) (N := 33) hx hb hg gwX12 hown hK hP 0 rfl rfl 24 (by decide) (hg _ kw_404) (fun _ h9 => h9) rfl dX12_goOn_70 ?_
                  refine lv_iload_n hx hb dX12_goOn_73 rfl (lv_at hl 2 rfl) ?_
                  refine lv_aload_n hx hb dX12_goOn_74 rfl (lv_at hl 0 rfl) ?_
                  refine lv_aload_n hx hb dX12_goOn_75 rfl (lv_at hl 0 rfl) ?_
                  refine va_get (D := D) (ci := 12) (v := .int (nI l9)) (C := RX12) (T := TX12) (N := 33) hx hb hg gwX12 hown hK hP 0 rfl rfl 24 (by decide) (hg _ kw_404) (fun _ h9 => h9) rfl dX12_goOn_76 ?_
                  refine lv_iload_n hx hb dX12_goOn_79 rfl (lv_at hl 2 rfl) ?_
                  have hPc := hP.sub (ws' := [(m0, .inr (12, [.ref mp, .int (nI ms), .int (nI C), .int (nI P), .ref mw, .ref mh, .ref mo, .int (nI sS), .int x_value, .int x_digits, .int (nI rc), .int (nI rp), .int (nI ic), .ref m5, .ref m6, .ref m7, .long x_all, .int (nI mpn), .ref mk, .ref mn, .int x_kind, .ref mq, .ref m8, .ref m9, .int (nI l9), .int wm025_46, .int wm026_46, .int x_tablesDone, .ref mz, .int (nI mrs), .ref mb, .ref md, .long x_hash])), (m8, .inl (cs 1, 1024, .inr (.inl fm8)))]) [0, 1] rfl
                  refine vp_callSi (W.runV (As := [.int (nI l9), .int (nI k9)]) (rest := [.int (nI k9), .int (nI l9), .ref m0]) ⟨hx, hb, hml, hown, hg⟩ (m_bestWay l D cs m0 mp mw mh mo m5 m6 m7 mk mn mq m8 m9 mz mb md ms C P mpn mrs sS rc rp ic (by omega) (by omega) (by omega) (by omega) (by omega) (by omega) (by omega) (by omega) (by omega) x_value x_digits x_all x_kind (nI l9) wm025_46 wm026_46 x_tablesDone x_hash fm8 l9 (by omega) k9 (by omega)) (cwV 2 hg (gw_V kw_362 kw_363 kw_364 kw_319 kw_361) rfl rfl rfl (by decide +kernel) ⟨(Nat.le_of_ble_eq_true rfl), (Nat.le_of_ble_eq_true rfl)⟩) (pr_SV (q := (RX12, TX12, 33)) 12 0 hK hPc rfl rfl) rfl rfl hl.1 rfl (lv_room (Nat.le_of_ble_eq_true rfl)) dX12_goOn_80 ⟨(Nat.le_of_ble_eq_true rfl), (Nat.le_of_ble_eq_true rfl)⟩) (fun r_80 h_80 => ?_)
                  obtain ⟨k_80, rfl, hk_80⟩ := h_80
                  refine vp_callSi (W.runS (As := [.int (nI l9), .int (nI k9), .int (nI k_80)]) (rest := [.ref m0]) ⟨hx, hb, hml, hown, hg⟩ (c_with l l9 k9 k_80 P (by omega) (by omega) (by omega) (by omega)) (va_cwS 3 hg (gw_S kw_359 kw_360 kw_319 kw_358) rfl rfl rfl (by decide +kernel) ⟨(Nat.le_of_ble_eq_true rfl), (Nat.le_of_ble_eq_true rfl)⟩) pr_0 rfl rfl hl.1 rfl (lv_room (Nat.le_of_ble_eq_true rfl)) dX12_goOn_83 ⟨(Nat.le_of_ble_eq_true rfl), (Nat.le_of_ble_eq_true rfl)⟩) (fun r_83 h_83 => ?_)
                  obtain ⟨k_83, rfl, hk_83⟩ := h_83
                  refine va_put (D := D) (ci := 12) (v := .int (nI k_83)) (ty := .int) (C := RX12) (T := TX12) (N := 33) hx hb hg gwX12 tyX12 tyX12_ok nmX12 hown hK hP hD hS 0 rfl rfl 24 (by decide) (hg _ kw_404) (fun _ h9 => h9) rfl (by decide +kernel) rfl rfl (Nat.le_of_ble_eq_true rfl) dX12_goOn_86 (fun H locs hP hD hS => ?_)
                  have hP : va_P D vwCl [(m0, .inr (12, [.ref mp, .int (nI ms), .int (nI C), .int (nI P), .ref mw, .ref mh, .ref mo, .int (nI sS), .int x_value, .int x_digits, .int (nI rc), .int (nI rp), .int (nI ic), .ref m5, .ref m6, .ref m7, .long x_all, .int (nI mpn), .ref mk, .ref mn, .int x_kind, .ref mq, .ref m8, .ref m9, .int (nI k_83), .int wm025_46, .int wm026_46, .int x_tablesDone, .ref mz, .int (nI mrs), .ref mb, .ref md, .long x_hash])), (m8, .inl (cs 1, 1024, .inr (.inl fm8))), (m9, .inl (cs 2, 256, .inl f_67))] H := hP
                  have hD : va_D A [(m0, .inr (12, [.ref mp, .int (nI ms), .int (nI C), .int (nI P), .ref mw, .ref mh, .ref mo, .int (nI sS), .int x_value, .int x_digits, .int (nI rc), .int (nI rp), .int (nI ic), .ref m5, .ref m6, .ref m7, .long x_all, .int (nI mpn), .ref mk, .ref mn, .int x_kind, .ref mq, .ref m8, .ref m9, .int (nI k_83), .int wm025_46, .int wm026_46, .int x_tablesDone, .ref mz, .int (nI mrs), .ref mb, .ref md, .long x_hash])), (m8, .inl (cs 1, 1024, .inr (.inl fm8))), (m9, .inl (cs 2, 256, .inl f_67))] := hD
                  refine lv_aload_n hx hb dX12_goOn_89 rfl (lv_at hl 0 rfl) ?_
                  refine lv_dup hx hb dX12_goOn_90 rfl ?_
                  refine va_get (D := D) (ci := 12) (v := .int wm025_46) (C := RX12) (T := TX12) (N := 33) hx hb hg gwX12 hown hK hP 0 rfl rfl 25 (by decide) (hg _ kw_405) (fun _ h9 => h9) rfl dX12_goOn_91 ?_
                  refine lv_iconst (v := 1) hx hb dX12_goOn_94 (by decide) ?_
                  refine lv_iadd hx hb dX12_goOn_95 ?_
                  refine lv_topi (fun z_95 e_95 => ?_)
                  refine va_put (D := D) (ci := 12) (v := .int z_95) (ty := .int) (C := RX12) (T := TX12) (N := 33) hx hb hg gwX12 tyX12 tyX12_ok nmX12 hown hK hP hD hS 0 rfl rfl 25 (by decide) (hg _ kw_405) (fun _ h9 => h9) rfl (by decide +kernel) rfl rfl (Nat.le_of_ble_eq_true rfl) dX12_goOn_96 (fun H locs hP hD hS => ?_)
                  have hP : va_P D vwCl [(m0, .inr (12, [.ref mp, .int (nI ms), .int (nI C), .int (nI P), .ref mw, .ref mh, .ref mo, .int (nI sS), .int x_value, .int x_digits, .int (nI rc), .int (nI rp), .int (nI ic), .ref m5, .ref m6, .ref m7, .long x_all, .int (nI mpn), .ref mk, .ref mn, .int x_kind, .ref mq, .ref m8, .ref m9, .int (nI k_83), .int z_95, .int wm026_46, .int x_tablesDone, .ref mz, .int (nI mrs), .ref mb, .ref md, .long x_hash])), (m8, .inl (cs 1, 1024, .inr (.inl fm8))), (m9, .inl (cs 2, 256, .inl f_67))] H := hP
                  have hD : va_D A [(m0, .inr (12, [.ref mp, .int (nI ms), .int (nI C), .int (nI P), .ref mw, .ref mh, .ref mo, .int (nI sS), .int x_value, .int x_digits, .int (nI rc), .int (nI rp), .int (nI ic), .ref m5, .ref m6, .ref m7, .long x_all, .int (nI mpn), .ref mk, .ref mn, .int x_kind, .ref mq, .ref m8, .ref m9, .int (nI k_83), .int z_95, .int wm026_46, .int x_tablesDone, .ref mz, .int (nI mrs), .ref mb, .ref md, .long x_hash])), (m8, .inl (cs 1, 1024, .inr (.inl fm8))), (m9, .inl (cs 2, 256, .inl f_67))] := hD
                  refine lv_aload_n hx hb dX12_goOn_99 rfl (lv_at hl 0 rfl) ?_
                  refine lv_aload_n hx hb dX12_goOn_100 rfl (lv_at hl 0 rfl) ?_
                  refine va_get (D := D) (ci := 12) (v := .ref m9) (C := RX12) (T := TX12) (N := 33) hx hb hg gwX12 hown hK hP 0 rfl rfl 23 (by decide) (hg _ kw_407) (fun _ h9 => h9) rfl dX12_goOn_101 ?_
                  refine lv_aload_n hx hb dX12_goOn_104 rfl (lv_at hl 0 rfl) ?_
                  refine va_get (D := D) (ci := 12) (v := .int (nI k_83)) (C := RX12) (T := TX12) (N := 33) hx hb hg gwX12 hown hK hP 0 rfl rfl 24 (by decide) (hg _ kw_404) (fun _ h9 => h9) rfl dX12_goOn_105 ?_
                  refine va_zald hx hb hK hP 2 2 rfl rfl (vp_in_nI (show k_83 < 256 by omega) (by decide)) dX12_goOn_108 ?_
                  refine lv_topi (fun z_108 e_108 => ?_)
                  have hz9 : z_108 = 0 ∨ z_108 = 1 := by rw [e_108, nI_clamp (by omega)]; exact hz2 _ (by omega)
                  have hr3 : z_108 = 0 → f_67 k_83 = 0 := fun q9 => by rw [e_108, nI_clamp (by omega)] at q9; exact q9
                  refine va_put (D := D) (ci := 12) (v := .int z_108) (ty := .boolean) (C := RX12) (T := TX12) (N := 33) hx hb hg gwX12 tyX12 tyX12_ok nmX12 hown hK hP hD hS 0 rfl rfl 26 (by decide) (hg _ kw_406) (fun _ h9 => h9) rfl (by decide +kernel) (z_nar hz9) (z_fit hz9) (Nat.le_of_ble_eq_true rfl) dX12_goOn_109 (fun H locs hP hD hS => ?_)
                  have hP : va_P D vwCl [(m0, .inr (12, [.ref mp, .int (nI ms), .int (nI C), .int (nI P), .ref mw, .ref mh, .ref mo, .int (nI sS), .int x_value, .int x_digits, .int (nI rc), .int (nI rp), .int (nI ic), .ref m5, .ref m6, .ref m7, .long x_all, .int (nI mpn), .ref mk, .ref mn, .int x_kind, .ref mq, .ref m8, .ref m9, .int (nI k_83), .int z_95, .int z_108, .int x_tablesDone, .ref mz, .int (nI mrs), .ref mb, .ref md, .long x_hash])), (m8, .inl (cs 1, 1024, .inr (.inl fm8))), (m9, .inl (cs 2, 256, .inl f_67))] H := hP
                  have hD : va_D A [(m0, .inr (12, [.ref mp, .int (nI ms), .int (nI C), .int (nI P), .ref mw, .ref mh, .ref mo, .int (nI sS), .int x_value, .int x_digits, .int (nI rc), .int (nI rp), .int (nI ic), .ref m5, .ref m6, .ref m7, .long x_all, .int (nI mpn), .ref mk, .ref mn, .int x_kind, .ref mq, .ref m8, .ref m9, .int (nI k_83), .int z_95, .int z_108, .int x_tablesDone, .ref mz, .int (nI mrs), .ref mb, .ref md, .long x_hash])), (m8, .inl (cs 1, 1024, .inr (.inl fm8))), (m9, .inl (cs 2, 256, .inl f_67))] := hD
                  refine lv_aload_n hx hb dX12_goOn_112 rfl (lv_at hl 0 rfl) ?_
                  refine lv_aload_n hx hb dX12_goOn_113 rfl (lv_at hl 0 rfl) ?_
                  refine va_get (D := D) (ci := 12) (v := .int (nI k_83)) (C := RX12) (T := TX12) (N := 33) hx hb hg gwX12 hown hK hP 0 rfl rfl 24 (by decide) (hg _ kw_404) (fun _ h9 => h9) rfl dX12_goOn_114 ?_
                  have hPc := hP.sub (ws' := [(m0, .inr (12, [.ref mp, .int (nI ms), .int (nI C), .int (nI P), .ref mw, .ref mh, .ref mo, .int (nI sS), .int x_value, .int x_digits, .int (nI rc), .int (nI rp), .int (nI ic), .ref m5, .ref m6, .ref m7, .long x_all, .int (nI mpn), .ref mk, .ref mn, .int x_kind, .ref mq, .ref m8, .ref m9, .int (nI k_83), .int z_95, .int z_108, .int x_tablesDone, .ref mz, .int (nI mrs), .ref mb, .ref md, .long x_hash])), (m8, .inl (cs 1, 1024, .inr (.inl fm8)))]) [0, 1] rfl
                  refine vp_callSi (W.runV (As := [.int (nI k_83)]) (rest := []) ⟨hx, hb, hml, hown, hg⟩ (m_firstOf l D cs m0 mp mw mh mo m5 m6 m7 mk mn mq m8 m9 mz mb md ms C P mpn mrs sS rc rp ic (by omega) (by omega) (by omega) (by omega) (by omega) (by omega) (by omega) (by omega) (by omega) x_value x_digits x_all x_kind (nI k_83) z_95 z_108 x_tablesDone x_hash fm8 k_83 (by omega)) (cwV 1 hg (gw_V kw_374 kw_375 kw_376 kw_319 kw_373) rfl rfl rfl (by decide +kernel) ⟨(Nat.le_of_ble_eq_true rfl), (Nat.le_of_ble_eq_true rfl)⟩) (pr_SV (q := (RX12, TX12, 33)) 12 0 hK hPc rfl rfl) rfl rfl hl.1 rfl (lv_room (Nat.le_of_ble_eq_true rfl)) dX12_goOn_117 ⟨(Nat.le_of_ble_eq_true rfl), (Nat.le_of_ble_eq_true rfl)⟩) (fun r_117 h_117 => ?_)
                  rcases h_117 with rfl | ⟨k_117, rfl, hk_117⟩
                  · refine lv_istore_n (lv' := [(2, .int (-1)), (0, .ref m0), (1, .int (nI a_))]) hx hb dX12_goOn_120 rfl hl (by decide) rfl (fun ls hl => ?_)
                    refine lv_goto (tgt := 46) hx hb dX12_goOn_121 (by decide) ?_
                    exact ih46 (-1) f_67 k_83 z_95 z_108 (by omega) hz2 hr3 (Or.inl rfl) (by omega) _ _ ls hP hD hS (lv_sub hl [1, 2, 0] rfl)
                  · refine lv_istore_n (lv' := [(2, .int (nI k_117)), (0, .ref m0), (1, .int (nI a_))]) hx hb dX12_goOn_120 rfl hl (by decide) rfl (fun ls hl => ?_)
                    refine lv_goto (tgt := 46) hx hb dX12_goOn_121 (by decide) ?_
                    exact ih46 (nI k_117) f_67 k_83 z_95 z_108 (by omega) hz2 hr3 (Or.inr ⟨_, by assumption, rfl⟩) (by omega) _ _ ls hP hD hS (lv_sub hl [1, 2, 0] rfl)
          exact LOOP46 (cz fm9_2 256 + 1) (nI k_42) fm9_2 a_ 0 0 (by omega) (zI_0 h0z) (fun _ => h0z _ (by omega)) (Or.inr ⟨_, by assumption, rfl⟩) (Nat.lt_succ_self _) _ _ ls hP hD hS (lv_sub hl [1, 2, 0] rfl)
      · have n_6 : k < 256 := b_le_f (by omega) (by omega) c_6
        refine lv_aload_n hx hb dX12_goOn_9 rfl (lv_at hl 0 rfl) ?_
        refine va_get (D := D) (ci := 12) (v := .ref m9) (C := RX12) (T := TX12) (N := 33) hx hb hg gwX12 hown hK hP 0 rfl rfl 23 (by decide) (hg _ kw_407) (fun _ h9 => h9) rfl dX12_goOn_10 ?_
        refine lv_iload_n hx hb dX12_goOn_13 rfl (lv_at hl 2 rfl) ?_
        refine lv_iconst (v := 0) hx hb dX12_goOn_14 (by decide) ?_
        refine va_zast hx hb hK hP hD hS 2 2 rfl rfl (vp_in_nI (show k < 256 by omega) (by decide)) dX12_goOn_15 (fun H locs hP hD hS => ?_)
        obtain ⟨f_15, hf_15⟩ : ∃ f9, f9 = (upd fm9_2 (nI k).toNatClampNeg (vp_nar .boolean (0 : Int32))) := ⟨_, rfl⟩
        rw [← hf_15] at hP hD
        have hP : va_P D vwCl [(m0, .inr (12, [.ref mp, .int (nI ms), .int (nI C), .int (nI P), .ref mw, .ref mh, .ref mo, .int (nI sS), .int x_value, .int x_digits, .int (nI rc), .int (nI rp), .int (nI ic), .ref m5, .ref m6, .ref m7, .long x_all, .int (nI mpn), .ref mk, .ref mn, .int x_kind, .ref mq, .ref m8, .ref m9, .int x_last, .int x_steps, .int x_isRound, .int x_tablesDone, .ref mz, .int (nI mrs), .ref mb, .ref md, .long x_hash])), (m8, .inl (cs 1, 1024, .inr (.inl fm8))), (m9, .inl (cs 2, 256, .inl f_15))] H := hP
        have hD : va_D A [(m0, .inr (12, [.ref mp, .int (nI ms), .int (nI C), .int (nI P), .ref mw, .ref mh, .ref mo, .int (nI sS), .int x_value, .int x_digits, .int (nI rc), .int (nI rp), .int (nI ic), .ref m5, .ref m6, .ref m7, .long x_all, .int (nI mpn), .ref mk, .ref mn, .int x_kind, .ref mq, .ref m8, .ref m9, .int x_last, .int x_steps, .int x_isRound, .int x_tablesDone, .ref mz, .int (nI mrs), .ref mb, .ref md, .long x_hash])), (m8, .inl (cs 1, 1024, .inr (.inl fm8))), (m9, .inl (cs 2, 256, .inl f_15))] := hD
        refine lv_iinc (v := (nI (k + 1))) (lv' := [(2, .int (nI (k + 1))), (0, .ref m0), (1, .int (nI a_))]) hx hb dX12_goOn_16 hl (k := 2) rfl (nI_add k 1) (by decide) rfl (fun ls hl => ?_)
        refine lv_goto (tgt := 2) hx hb dX12_goOn_19 (by decide) ?_
        exact ih2 (k + 1) f_15 (by omega) (z0_s h0k (by omega) hf_15) (by omega) _ _ ls hP hD hS (lv_sub hl [1, 2, 0] rfl)
  exact LOOP2 (256 - 0 + 1) 0 fm9 (by omega) z0_0 (Nat.lt_succ_self _) _ _ ls hP hD hS (lv_sub hl [1, 2, 0] rfl)

theorem dX12_blank_0 : decode cX12_blank 0 = .ok (.aload_n 0, 1) := by decide +kernel
theorem dX12_blank_1 : decode cX12_blank 1 = .ok (.getfield 63, 3) := by decide +kernel
theorem dX12_blank_4 : decode cX12_blank 4 = .ok (.istore_n 1, 1) := by decide +kernel
theorem dX12_blank_5 : decode cX12_blank 5 = .ok (.aload_n 0, 1) := by decide +kernel
theorem dX12_blank_6 : decode cX12_blank 6 = .ok (.iconst 0, 1) := by decide +kernel
theorem dX12_blank_7 : decode cX12_blank 7 = .ok (.putfield 63, 3) := by decide +kernel
theorem dX12_blank_10 : decode cX12_blank 10 = .ok (.iload_n 1, 1) := by decide +kernel
theorem dX12_blank_11 : decode cX12_blank 11 = .ok (.ireturn, 1) := by decide +kernel

set_option maxHeartbeats 4000000 in
set_option maxRecDepth 100000 in
theorem m_blank (l : Launch) (D : va_G) (cs : Nat → ClassId) (m0 : Nat) (mp : Nat) (mw : Nat) (mh : Nat) (mo : Nat) (m5 : Nat) (m6 : Nat) (m7 : Nat) (mk : Nat) (mn : Nat) (mq : Nat) (m8 : Nat) (m9 : Nat) (mz : Nat) (mb : Nat) (md : Nat) (ms : Nat) (C : Nat) (P : Nat) (mpn : Nat) (mrs : Nat) (sS : Nat) (rc : Nat) (rp : Nat) (ic : Nat) (hms : ms ≤ 90) (hC5 : C ≤ 5) (hP4 : P ≤ 4) (hmpn : mpn ≤ 8) (hmrs : mrs ≤ 24) (hsS : sS ≤ 4) (hrc : rc ≤ 5) (hrp : rp ≤ 4) (hic : ic ≤ 4) (x_value : Int32) (x_digits : Int32) (x_all : Int64) (x_kind : Int32) (x_last : Int32) (x_steps : Int32) (x_isRound : Int32) (x_tablesDone : Int32) (x_hash : Int64) (sz : Nat) : Met l yX12_blank (Cond.code yX12_blank cX12_blank 2 (some .int) :: gw_tbl) ({ frames := 0, cells := 0, slots := 0, locals := 0 }) (pc_M D cs [(m0, .inr (12, [.ref mp, .int (nI ms), .int (nI C), .int (nI P), .ref mw, .ref mh, .ref mo, .int (nI sS), .int x_value, .int x_digits, .int (nI rc), .int (nI rp), .int (nI ic), .ref m5, .ref m6, .ref m7, .long x_all, .int (nI mpn), .ref mk, .ref mn, .int x_kind, .ref mq, .ref m8, .ref m9, .int x_last, .int x_steps, .int x_isRound, .int x_tablesDone, .ref mz, .int (nI mrs), .ref mb, .ref md, .long x_hash]))] sz [.ref m0]) (va_Qi (fun (r : Int32) (u : Unit) => True) (fun u t => va_P D vwCl [(m0, .inr (12, [.ref mp, .int 0, .int (nI C), .int (nI P), .ref mw, .ref mh, .ref mo, .int (nI sS), .int x_value, .int x_digits, .int (nI rc), .int (nI rp), .int (nI ic), .ref m5, .ref m6, .ref m7, .long x_all, .int (nI mpn), .ref mk, .ref mn, .int x_kind, .ref mq, .ref m8, .ref m9, .int x_last, .int x_steps, .int x_isRound, .int x_tablesDone, .ref mz, .int (nI mrs), .ref mb, .ref md, .long x_hash]))] t.heap ∧ va_D (va_A [(m0, .inr (12, [.ref mp, .int (nI ms), .int (nI C), .int (nI P), .ref mw, .ref mh, .ref mo, .int (nI sS), .int x_value, .int x_digits, .int (nI rc), .int (nI rp), .int (nI ic), .ref m5, .ref m6, .ref m7, .long x_all, .int (nI mpn), .ref mk, .ref mn, .int x_kind, .ref mq, .ref m8, .ref m9, .int x_last, .int x_steps, .int x_isRound, .int x_tablesDone, .ref mz, .int (nI mrs), .ref mb, .ref md, .long x_hash]))] sz) [(m0, .inr (12, [.ref mp, .int 0, .int (nI C), .int (nI P), .ref mw, .ref mh, .ref mo, .int (nI sS), .int x_value, .int x_digits, .int (nI rc), .int (nI rp), .int (nI ic), .ref m5, .ref m6, .ref m7, .long x_all, .int (nI mpn), .ref mk, .ref mn, .int x_kind, .ref mq, .ref m8, .ref m9, .int x_last, .int x_steps, .int x_isRound, .int x_tablesDone, .ref mz, .int (nI mrs), .ref mb, .ref md, .long x_hash]))]) (va_A [(m0, .inr (12, [.ref mp, .int (nI ms), .int (nI C), .int (nI P), .ref mw, .ref mh, .ref mo, .int (nI sS), .int x_value, .int x_digits, .int (nI rc), .int (nI rp), .int (nI ic), .ref m5, .ref m6, .ref m7, .long x_all, .int (nI mpn), .ref mk, .ref mn, .int x_kind, .ref mq, .ref m8, .ref m9, .int x_last, .int x_steps, .int x_isRound, .int x_tablesDone, .ref mz, .int (nI mrs), .ref mb, .ref md, .long x_hash]))] sz)) 0 0 (va_A [(m0, .inr (12, [.ref mp, .int (nI ms), .int (nI C), .int (nI P), .ref mw, .ref mh, .ref mo, .int (nI sS), .int x_value, .int x_digits, .int (nI rc), .int (nI rp), .int (nI ic), .ref m5, .ref m6, .ref m7, .long x_all, .int (nI mpn), .ref mk, .ref mn, .int x_kind, .ref mq, .ref m8, .ref m9, .int x_last, .int x_steps, .int x_isRound, .int x_tablesDone, .ref mz, .int (nI mrs), .ref mb, .ref md, .long x_hash]))] sz) := by
  refine Met.ofW (cc := cX12_blank) (maxL := 2) (ret := (some .int)) (by decide) rfl ?_
  intro p e s m args below meth c s₁ B hml hv
  obtain ⟨hargs, hsz, hP, hK, hD0⟩ := hv
  have hx := B.exec
  have hb := B.bytes
  have hr := B.returns
  have hts := atoms_spec (ws := Cond.code yX12_blank cX12_blank 2 (some .int) :: gw_tbl) B.pre
  have hg := fun (w : Cond) (h : w ∈ gw_tbl) => hts w (List.mem_cons_of_mem _ h)
  have hown : s.vm.findClass RX12 = some m.cls := findClass_of_methodNamed B.named
  have hlocks := B.notSynchronized
  subst hsz
  have hD := hD0.self (sz := s.heap.size)
  generalize hAe : va_A [(m0, .inr (12, [.ref mp, .int (nI ms), .int (nI C), .int (nI P), .ref mw, .ref mh, .ref mo, .int (nI sS), .int x_value, .int x_digits, .int (nI rc), .int (nI rp), .int (nI ic), .ref m5, .ref m6, .ref m7, .long x_all, .int (nI mpn), .ref mk, .ref mn, .int x_kind, .ref mq, .ref m8, .ref m9, .int x_last, .int x_steps, .int x_isRound, .int x_tablesDone, .ref mz, .int (nI mrs), .ref mb, .ref md, .long x_hash]))] s.heap.size = A at hD ⊢
  have hA : ∀ q : Nat, s.heap.size ≤ q → A q := fun q h => by rw [← hAe]; exact Or.inr h
  have hS : va_S A s.heap s.heap [] := va_S.rf
  have hP : va_P D vwCl [(m0, .inr (12, [.ref mp, .int (nI ms), .int (nI C), .int (nI P), .ref mw, .ref mh, .ref mo, .int (nI sS), .int x_value, .int x_digits, .int (nI rc), .int (nI rp), .int (nI ic), .ref m5, .ref m6, .ref m7, .long x_all, .int (nI mpn), .ref mk, .ref mn, .int x_kind, .ref mq, .ref m8, .ref m9, .int x_last, .int x_steps, .int x_isRound, .int x_tablesDone, .ref mz, .int (nI mrs), .ref mb, .ref md, .long x_hash]))] s.heap := hP
  have hl := lv_entry ([.ref m0]) (n := 2) (Nat.le_of_ble_eq_true rfl)
  rw [show entryFrame m args 2 = F0 m 0 (lg_sl ([.ref m0]) ++ List.replicate (2 - (lg_sl ([.ref m0])).length) Slot.unset).toArray [] from by rw [hargs]; exact lg_entry_eq ..]
  generalize (lg_sl ([.ref m0]) ++ List.replicate (2 - (lg_sl ([.ref m0])).length) Slot.unset).toArray = ls at hl ⊢
  have hl : lv_has ls 2 [(0, .ref m0)] := hl
  refine W_genQ (fun Q hQ => ?_)
  have hlm := lim_le hP4
  have hlq := lim_pos P
  have hsg := sgn_le hP4
  refine lv_aload_n hx hb dX12_blank_0 rfl (lv_at hl 0 rfl) ?_
  refine va_get (D := D) (ci := 12) (v := .int (nI ms)) (C := RX12) (T := TX12) (N := 33) hx hb hg gwX12 hown hK hP 0 rfl rfl 1 (by decide) (hg _ kw_397) (fun _ h9 => h9) rfl dX12_blank_1 ?_
  refine lv_istore_n (lv' := [(1, .int (nI ms)), (0, .ref m0)]) hx hb dX12_blank_4 rfl hl (by decide) rfl (fun ls hl => ?_)
  refine lv_aload_n hx hb dX12_blank_5 rfl (lv_at hl 1 rfl) ?_
  refine lv_iconst (v := 0) hx hb dX12_blank_6 (by decide) ?_
  refine va_put (D := D) (ci := 12) (v := .int 0) (ty := .int) (C := RX12) (T := TX12) (N := 33) hx hb hg gwX12 tyX12 tyX12_ok nmX12 hown hK hP hD hS 0 rfl rfl 1 (by decide) (hg _ kw_397) (fun _ h9 => h9) rfl (by decide +kernel) rfl rfl (Nat.le_of_ble_eq_true rfl) dX12_blank_7 (fun H locs hP hD hS => ?_)
  have hP : va_P D vwCl [(m0, .inr (12, [.ref mp, .int 0, .int (nI C), .int (nI P), .ref mw, .ref mh, .ref mo, .int (nI sS), .int x_value, .int x_digits, .int (nI rc), .int (nI rp), .int (nI ic), .ref m5, .ref m6, .ref m7, .long x_all, .int (nI mpn), .ref mk, .ref mn, .int x_kind, .ref mq, .ref m8, .ref m9, .int x_last, .int x_steps, .int x_isRound, .int x_tablesDone, .ref mz, .int (nI mrs), .ref mb, .ref md, .long x_hash]))] H := hP
  have hD : va_D A [(m0, .inr (12, [.ref mp, .int 0, .int (nI C), .int (nI P), .ref mw, .ref mh, .ref mo, .int (nI sS), .int x_value, .int x_digits, .int (nI rc), .int (nI rp), .int (nI ic), .ref m5, .ref m6, .ref m7, .long x_all, .int (nI mpn), .ref mk, .ref mn, .int x_kind, .ref mq, .ref m8, .ref m9, .int x_last, .int x_steps, .int x_isRound, .int x_tablesDone, .ref mz, .int (nI mrs), .ref mb, .ref md, .long x_hash]))] := hD
  refine lv_iload_n hx hb dX12_blank_10 rfl (lv_at hl 0 rfl) ?_
  refine W_sQ hQ ?_
  refine W.widen (k := 0) (n := 0) (Nat.le_of_ble_eq_true rfl) (Nat.le_of_ble_eq_true rfl) ?_
  have hP9 := hP.sub (ws' := [(m0, .inr (12, [.ref mp, .int 0, .int (nI C), .int (nI P), .ref mw, .ref mh, .ref mo, .int (nI sS), .int x_value, .int x_digits, .int (nI rc), .int (nI rp), .int (nI ic), .ref m5, .ref m6, .ref m7, .long x_all, .int (nI mpn), .ref mk, .ref mn, .int x_kind, .ref mq, .ref m8, .ref m9, .int x_last, .int x_steps, .int x_isRound, .int x_tablesDone, .ref mz, .int (nI mrs), .ref mb, .ref md, .long x_hash]))]) [0] rfl
  have hD9 := hD.sub (ws' := [(m0, .inr (12, [.ref mp, .int 0, .int (nI C), .int (nI P), .ref mw, .ref mh, .ref mo, .int (nI sS), .int x_value, .int x_digits, .int (nI rc), .int (nI rp), .int (nI ic), .ref m5, .ref m6, .ref m7, .long x_all, .int (nI mpn), .ref mk, .ref mn, .int x_kind, .ref mq, .ref m8, .ref m9, .int x_last, .int x_steps, .int x_isRound, .int x_tablesDone, .ref mz, .int (nI mrs), .ref mb, .ref md, .long x_hash]))]) [0] (by decide) rfl
  exact W.iret (v := (nI ms)) hx hb hr (fun t ht hW => ⟨⟨(nI ms), (), rfl, trivial, ⟨by rw [ht]; exact hP9, hD9⟩⟩, hS.F ht⟩) hS.2.2 dX12_blank_11

theorem dX12_chance_0 : decode cX12_chance 0 = .ok (.iload_n 1, 1) := by decide +kernel
theorem dX12_chance_1 : decode cX12_chance 1 = .ok (.i2l, 1) := by decide +kernel
theorem dX12_chance_2 : decode cX12_chance 2 = .ok (.lconst 0, 1) := by decide +kernel
theorem dX12_chance_3 : decode cX12_chance 3 = .ok (.aload_n 0, 1) := by decide +kernel
theorem dX12_chance_4 : decode cX12_chance 4 = .ok (.getfield 103, 3) := by decide +kernel
theorem dX12_chance_7 : decode cX12_chance 7 = .ok (.iconst 1, 1) := by decide +kernel
theorem dX12_chance_8 : decode cX12_chance 8 = .ok (.isub, 1) := by decide +kernel
theorem dX12_chance_9 : decode cX12_chance 9 = .ok (.i2l, 1) := by decide +kernel
theorem dX12_chance_10 : decode cX12_chance 10 = .ok (.invokestatic 70, 3) := by decide +kernel
theorem dX12_chance_13 : decode cX12_chance 13 = .ok (.ifCond .eq 16, 3) := by decide +kernel
theorem dX12_chance_16 : decode cX12_chance 16 = .ok (.iload_n 2, 1) := by decide +kernel
theorem dX12_chance_17 : decode cX12_chance 17 = .ok (.iconst (-1), 1) := by decide +kernel
theorem dX12_chance_18 : decode cX12_chance 18 = .ok (.if_icmp .eq 14, 3) := by decide +kernel
theorem dX12_chance_21 : decode cX12_chance 21 = .ok (.aload_n 0, 1) := by decide +kernel
theorem dX12_chance_22 : decode cX12_chance 22 = .ok (.iload_n 2, 1) := by decide +kernel
theorem dX12_chance_23 : decode cX12_chance 23 = .ok (.invokevirtual 112, 3) := by decide +kernel
theorem dX12_chance_26 : decode cX12_chance 26 = .ok (.ifCond .ne 6, 3) := by decide +kernel
theorem dX12_chance_29 : decode cX12_chance 29 = .ok (.bipush (-101), 2) := by decide +kernel
theorem dX12_chance_31 : decode cX12_chance 31 = .ok (.ireturn, 1) := by decide +kernel
theorem dX12_chance_32 : decode cX12_chance 32 = .ok (.iload_n 2, 1) := by decide +kernel
theorem dX12_chance_33 : decode cX12_chance 33 = .ok (.iconst (-1), 1) := by decide +kernel
theorem dX12_chance_34 : decode cX12_chance 34 = .ok (.if_icmp .ne 12, 3) := by decide +kernel
theorem dX12_chance_37 : decode cX12_chance 37 = .ok (.aload_n 0, 1) := by decide +kernel
theorem dX12_chance_38 : decode cX12_chance 38 = .ok (.getfield 13, 3) := by decide +kernel
theorem dX12_chance_41 : decode cX12_chance 41 = .ok (.iload_n 1, 1) := by decide +kernel
theorem dX12_chance_42 : decode cX12_chance 42 = .ok (.iaload, 1) := by decide +kernel
theorem dX12_chance_43 : decode cX12_chance 43 = .ok (.goto 13, 3) := by decide +kernel
theorem dX12_chance_46 : decode cX12_chance 46 = .ok (.aload_n 0, 1) := by decide +kernel
theorem dX12_chance_47 : decode cX12_chance 47 = .ok (.getfield 16, 3) := by decide +kernel
theorem dX12_chance_50 : decode cX12_chance 50 = .ok (.iconst 4, 1) := by decide +kernel
theorem dX12_chance_51 : decode cX12_chance 51 = .ok (.iload_n 1, 1) := by decide +kernel
theorem dX12_chance_52 : decode cX12_chance 52 = .ok (.imul, 1) := by decide +kernel
theorem dX12_chance_53 : decode cX12_chance 53 = .ok (.iload_n 2, 1) := by decide +kernel
theorem dX12_chance_54 : decode cX12_chance 54 = .ok (.iadd, 1) := by decide +kernel
theorem dX12_chance_55 : decode cX12_chance 55 = .ok (.iaload, 1) := by decide +kernel
theorem dX12_chance_56 : decode cX12_chance 56 = .ok (.ireturn, 1) := by decide +kernel
theorem kw_408 : (.code yX12_isPerson cX12_isPerson 2 (some .boolean) : Cond) ∈ gw_tbl := gw_in (by decide +kernel) (by decide +kernel)
theorem kw_409 : (.methodLink RX12 112 yX12_isPerson : Cond) ∈ gw_tbl := gw_in (by decide +kernel) (by decide +kernel)
theorem kw_410 : (.instanceMethod yX12_isPerson : Cond) ∈ gw_tbl := gw_in (by decide +kernel) (by decide +kernel)
theorem kw_411 : (.selects RX12 yX12_isPerson yX12_isPerson : Cond) ∈ gw_tbl := gw_in (by decide +kernel) (by decide +kernel)

set_option maxHeartbeats 4000000 in
set_option maxRecDepth 100000 in
theorem m_chance (l : Launch) (D : va_G) (cs : Nat → ClassId) (m0 : Nat) (mp : Nat) (mw : Nat) (mh : Nat) (mo : Nat) (m5 : Nat) (m6 : Nat) (m7 : Nat) (mk : Nat) (mn : Nat) (mq : Nat) (m8 : Nat) (m9 : Nat) (mz : Nat) (mb : Nat) (md : Nat) (ms : Nat) (C : Nat) (P : Nat) (mpn : Nat) (mrs : Nat) (sS : Nat) (rc : Nat) (rp : Nat) (ic : Nat) (hms : ms ≤ 90) (hC5 : C ≤ 5) (hP4 : P ≤ 4) (hmpn : mpn ≤ 8) (hmrs : mrs ≤ 24) (hsS : sS ≤ 4) (hrc : rc ≤ 5) (hrp : rp ≤ 4) (hic : ic ≤ 4) (x_value : Int32) (x_digits : Int32) (x_all : Int64) (x_kind : Int32) (x_last : Int32) (x_steps : Int32) (x_isRound : Int32) (x_tablesDone : Int32) (x_hash : Int64) (fmw : Nat → Int32) (fmh : Nat → Int32) (p1 : Int32) (p2 : Int32) : Met l yX12_chance (Cond.code yX12_chance cX12_chance 3 (some .int) :: gw_tbl) ({ frames := 2, cells := 0, slots := 0, locals := 46 }) (pc_S D cs [(m0, .inr (12, [.ref mp, .int (nI ms), .int (nI C), .int (nI P), .ref mw, .ref mh, .ref mo, .int (nI sS), .int x_value, .int x_digits, .int (nI rc), .int (nI rp), .int (nI ic), .ref m5, .ref m6, .ref m7, .long x_all, .int (nI mpn), .ref mk, .ref mn, .int x_kind, .ref mq, .ref m8, .ref m9, .int x_last, .int x_steps, .int x_isRound, .int x_tablesDone, .ref mz, .int (nI mrs), .ref mb, .ref md, .long x_hash])), (mw, .inl (cs 0, 5, .inl fmw)), (mh, .inl (cs 0, 20, .inl fmh))] [.ref m0, .int p1, .int p2]) (vp_Si (fun r => True)) 0 0 (fun _ => False) := by
  refine Met.ofW (cc := cX12_chance) (maxL := 3) (ret := (some .int)) (by decide) rfl ?_
  intro p e s m args below meth c s₁ B hml hv
  obtain ⟨hargs, hP, hK⟩ := hv
  have hx := B.exec
  have hb := B.bytes
  have hr := B.returns
  have hts := atoms_spec (ws := Cond.code yX12_chance cX12_chance 3 (some .int) :: gw_tbl) B.pre
  have hg := fun (w : Cond) (h : w ∈ gw_tbl) => hts w (List.mem_cons_of_mem _ h)
  have hown : s.vm.findClass RX12 = some m.cls := findClass_of_methodNamed B.named
  have hlocks := B.notSynchronized
  have hl := lv_entry ([.ref m0, .int p1, .int p2]) (n := 3) (Nat.le_of_ble_eq_true rfl)
  rw [show entryFrame m args 3 = F0 m 0 (lg_sl ([.ref m0, .int p1, .int p2]) ++ List.replicate (3 - (lg_sl ([.ref m0, .int p1, .int p2])).length) Slot.unset).toArray [] from by rw [hargs]; exact lg_entry_eq ..]
  generalize (lg_sl ([.ref m0, .int p1, .int p2]) ++ List.replicate (3 - (lg_sl ([.ref m0, .int p1, .int p2])).length) Slot.unset).toArray = ls at hl ⊢
  have hl : lv_has ls 3 [(0, .ref m0), (1, .int p1), (2, .int p2)] := hl
  refine W_genQ (fun Q hQ => ?_)
  have hlm := lim_le hP4
  have hlq := lim_pos P
  have hsg := sgn_le hP4
  refine lv_iload_n hx hb dX12_chance_0 rfl (lv_at hl 1 rfl) ?_
  refine lv_i2l hx hb dX12_chance_1 rfl ?_
  refine lv_topl (fun z_1 e_1 => ?_)
  refine lv_lconst (v := 0) hx hb dX12_chance_2 (by decide) ?_
  refine lv_aload_n hx hb dX12_chance_3 rfl (lv_at hl 0 rfl) ?_
  refine va_get (D := D) (ci := 12) (v := .int (nI C)) (C := RX12) (T := TX12) (N := 33) hx hb hg gwX12 hown hK hP 0 rfl rfl 2 (by decide) (hg _ kw_395) (fun _ h9 => h9) rfl dX12_chance_4 ?_
  refine lv_iconst (v := 1) hx hb dX12_chance_7 (by decide) ?_
  refine lv_isub hx hb dX12_chance_8 ?_
  refine lv_topi (fun z_8 e_8 => ?_)
  refine lv_i2l hx hb dX12_chance_9 rfl ?_
  refine lv_topl (fun z_9 e_9 => ?_)
  refine vp_callSi (W.runS (As := [.long z_1, .long 0, .long z_9]) (rest := []) ⟨hx, hb, hml, hown, hg⟩ (c_in l z_1 0 z_9) (va_cwS 3 hg (gw_S kw_317 kw_318 kw_319 kw_316) rfl rfl rfl (by decide +kernel) ⟨(Nat.le_of_ble_eq_true rfl), (Nat.le_of_ble_eq_true rfl)⟩) pr_0 rfl rfl hl.1 rfl (lv_room (Nat.le_of_ble_eq_true rfl)) dX12_chance_10 ⟨(Nat.le_of_ble_eq_true rfl), (Nat.le_of_ble_eq_true rfl)⟩) (fun r_10 h_10 => ?_)
  replace h_10 := in_m (by omega) e_1 e_8 e_9 h_10
  rcases h_10 with rfl | ⟨rfl, k_10, hk_10, rfl⟩
  · refine lv_if_eq (tgt := 29) hx hb dX12_chance_13 (by decide) (fun c_13 => ?_) (fun c_13 => absurd c_13 (by decide))
    refine lv_bipush (v := (-101)) hx hb dX12_chance_29 (by decide) ?_
    refine W_sQ hQ ?_
    exact W.iret (v := (-101)) hx hb hr (fun t ht hW => ⟨(-101), rfl, trivial, ht⟩) (fun _ h => absurd h List.not_mem_nil) dX12_chance_31
  · refine lv_if_eq (tgt := 29) hx hb dX12_chance_13 (by decide) (fun c_13 => absurd c_13 (by decide)) (fun c_13 => ?_)
    refine lv_iload_n hx hb dX12_chance_16 rfl (lv_at hl 2 rfl) ?_
    refine lv_iconst (v := (-1)) hx hb dX12_chance_17 (by decide) ?_
    refine lv_icmp_eq (tgt := 32) hx hb dX12_chance_18 (by decide) (fun c_18 => ?_) (fun c_18 => ?_)
    · subst c_18
      refine lv_iload_n hx hb dX12_chance_32 rfl (lv_at hl 2 rfl) ?_
      refine lv_iconst (v := (-1)) hx hb dX12_chance_33 (by decide) ?_
      refine lv_icmp_ne (tgt := 46) hx hb dX12_chance_34 (by decide) (fun c_34 => absurd c_34 (by decide)) (fun c_34 => ?_)
      refine lv_aload_n hx hb dX12_chance_37 rfl (lv_at hl 0 rfl) ?_
      refine va_get (D := D) (ci := 12) (v := .ref mw) (C := RX12) (T := TX12) (N := 33) hx hb hg gwX12 hown hK hP 0 rfl rfl 4 (by decide) (hg _ kw_401) (fun _ h9 => h9) rfl dX12_chance_38 ?_
      refine lv_iload_n hx hb dX12_chance_41 rfl (lv_at hl 1 rfl) ?_
      refine va_iald hx hb hK hP 1 0 rfl rfl (vp_in_nI (show k_10 < 5 by omega) (by decide)) dX12_chance_42 ?_
      refine lv_topi (fun z_42 e_42 => ?_)
      refine lv_goto (tgt := 56) hx hb dX12_chance_43 (by decide) ?_
      refine W_sQ hQ ?_
      exact W.iret (v := z_42) hx hb hr (fun t ht hW => ⟨z_42, rfl, trivial, ht⟩) (fun _ h => absurd h List.not_mem_nil) dX12_chance_56
    · refine lv_aload_n hx hb dX12_chance_21 rfl (lv_at hl 0 rfl) ?_
      refine lv_iload_n hx hb dX12_chance_22 rfl (lv_at hl 2 rfl) ?_
      have hPc := hP.sub (ws' := [(m0, .inr (12, [.ref mp, .int (nI ms), .int (nI C), .int (nI P), .ref mw, .ref mh, .ref mo, .int (nI sS), .int x_value, .int x_digits, .int (nI rc), .int (nI rp), .int (nI ic), .ref m5, .ref m6, .ref m7, .long x_all, .int (nI mpn), .ref mk, .ref mn, .int x_kind, .ref mq, .ref m8, .ref m9, .int x_last, .int x_steps, .int x_isRound, .int x_tablesDone, .ref mz, .int (nI mrs), .ref mb, .ref md, .long x_hash]))]) [0] rfl
      refine vp_callSi (W.runV (As := [.int p2]) (rest := []) ⟨hx, hb, hml, hown, hg⟩ (m_isPerson l D cs m0 mp mw mh mo m5 m6 m7 mk mn mq m8 m9 mz mb md ms C P mpn mrs sS rc rp ic (by omega) (by omega) (by omega) (by omega) (by omega) (by omega) (by omega) (by omega) (by omega) x_value x_digits x_all x_kind x_last x_steps x_isRound x_tablesDone x_hash p2) (cwV 1 hg (gw_V kw_409 kw_410 kw_411 kw_319 kw_408) rfl rfl rfl (by decide +kernel) ⟨(Nat.le_of_ble_eq_true rfl), (Nat.le_of_ble_eq_true rfl)⟩) (pr_SV (q := (RX12, TX12, 33)) 12 0 hK hPc rfl rfl) rfl rfl hl.1 rfl (lv_room (Nat.le_of_ble_eq_true rfl)) dX12_chance_23 ⟨(Nat.le_of_ble_eq_true rfl), (Nat.le_of_ble_eq_true rfl)⟩) (fun r_23 h_23 => ?_)
      rcases h_23 with rfl | ⟨rfl, k_23, hk_23, rfl⟩
      · refine lv_if_ne (tgt := 32) hx hb dX12_chance_26 (by decide) (fun c_26 => absurd c_26 (by decide)) (fun c_26 => ?_)
        refine lv_bipush (v := (-101)) hx hb dX12_chance_29 (by decide) ?_
        refine W_sQ hQ ?_
        exact W.iret (v := (-101)) hx hb hr (fun t ht hW => ⟨(-101), rfl, trivial, ht⟩) (fun _ h => absurd h List.not_mem_nil) dX12_chance_31
      · refine lv_if_ne (tgt := 32) hx hb dX12_chance_26 (by decide) (fun c_26 => ?_) (fun c_26 => absurd c_26 (by decide))
        refine lv_iload_n hx hb dX12_chance_32 rfl (lv_at hl 2 rfl) ?_
        refine lv_iconst (v := (-1)) hx hb dX12_chance_33 (by decide) ?_
        refine lv_icmp_ne (tgt := 46) hx hb dX12_chance_34 (by decide) (fun c_34 => ?_) (fun c_34 => absurd c_34 (nI_nm (by omega)))
        refine lv_aload_n hx hb dX12_chance_46 rfl (lv_at hl 0 rfl) ?_
        refine va_get (D := D) (ci := 12) (v := .ref mh) (C := RX12) (T := TX12) (N := 33) hx hb hg gwX12 hown hK hP 0 rfl rfl 5 (by decide) (hg _ kw_402) (fun _ h9 => h9) rfl dX12_chance_47 ?_
        refine lv_iconst (v := 4) hx hb dX12_chance_50 (by decide) ?_
        refine lv_iload_n hx hb dX12_chance_51 rfl (lv_at hl 1 rfl) ?_
        refine lv_imul hx hb dX12_chance_52 ?_
        refine lv_topi (fun z_52 e_52 => ?_)
        obtain rfl : z_52 = nI (4 * k_10) := e_52.trans (pk_mul _ _)
        refine lv_iload_n hx hb dX12_chance_53 rfl (lv_at hl 2 rfl) ?_
        refine lv_iadd hx hb dX12_chance_54 ?_
        refine lv_topi (fun z_54 e_54 => ?_)
        obtain rfl : z_54 = nI (4 * k_10 + k_23) := e_54.trans (nI_add _ _)
        refine va_iald hx hb hK hP 2 0 rfl rfl (vp_in_nI (show 4 * k_10 + k_23 < 20 by omega) (by decide)) dX12_chance_55 ?_
        refine lv_topi (fun z_55 e_55 => ?_)
        refine W_sQ hQ ?_
        exact W.iret (v := z_55) hx hb hr (fun t ht hW => ⟨z_55, rfl, trivial, ht⟩) (fun _ h => absurd h List.not_mem_nil) dX12_chance_56

theorem dX12_cost_0 : decode cX12_cost 0 = .ok (.aload_n 0, 1) := by decide +kernel
theorem dX12_cost_1 : decode cX12_cost 1 = .ok (.iload_n 1, 1) := by decide +kernel
theorem dX12_cost_2 : decode cX12_cost 2 = .ok (.invokevirtual 112, 3) := by decide +kernel
theorem dX12_cost_5 : decode cX12_cost 5 = .ok (.ifCond .ne 6, 3) := by decide +kernel
theorem dX12_cost_8 : decode cX12_cost 8 = .ok (.bipush (-101), 2) := by decide +kernel
theorem dX12_cost_10 : decode cX12_cost 10 = .ok (.ireturn, 1) := by decide +kernel
theorem dX12_cost_11 : decode cX12_cost 11 = .ok (.iload_n 2, 1) := by decide +kernel
theorem dX12_cost_12 : decode cX12_cost 12 = .ok (.i2l, 1) := by decide +kernel
theorem dX12_cost_13 : decode cX12_cost 13 = .ok (.lconst 0, 1) := by decide +kernel
theorem dX12_cost_14 : decode cX12_cost 14 = .ok (.ldc2_w 115, 3) := by decide +kernel
theorem dX12_cost_17 : decode cX12_cost 17 = .ok (.invokestatic 70, 3) := by decide +kernel
theorem dX12_cost_20 : decode cX12_cost 20 = .ok (.ifCond .ne 6, 3) := by decide +kernel
theorem dX12_cost_23 : decode cX12_cost 23 = .ok (.bipush (-102), 2) := by decide +kernel
theorem dX12_cost_25 : decode cX12_cost 25 = .ok (.ireturn, 1) := by decide +kernel
theorem dX12_cost_26 : decode cX12_cost 26 = .ok (.aload_n 0, 1) := by decide +kernel
theorem dX12_cost_27 : decode cX12_cost 27 = .ok (.getfield 19, 3) := by decide +kernel
theorem dX12_cost_30 : decode cX12_cost 30 = .ok (.iload_n 1, 1) := by decide +kernel
theorem dX12_cost_31 : decode cX12_cost 31 = .ok (.iaload, 1) := by decide +kernel
theorem dX12_cost_32 : decode cX12_cost 32 = .ok (.istore_n 3, 1) := by decide +kernel
theorem dX12_cost_33 : decode cX12_cost 33 = .ok (.aload_n 0, 1) := by decide +kernel
theorem dX12_cost_34 : decode cX12_cost 34 = .ok (.getfield 19, 3) := by decide +kernel
theorem dX12_cost_37 : decode cX12_cost 37 = .ok (.iload_n 1, 1) := by decide +kernel
theorem dX12_cost_38 : decode cX12_cost 38 = .ok (.iload_n 2, 1) := by decide +kernel
theorem dX12_cost_39 : decode cX12_cost 39 = .ok (.iastore, 1) := by decide +kernel
theorem dX12_cost_40 : decode cX12_cost 40 = .ok (.iload_n 3, 1) := by decide +kernel
theorem dX12_cost_41 : decode cX12_cost 41 = .ok (.ireturn, 1) := by decide +kernel
theorem kw_412 : (.constantLong RX12 115 (999) : Cond) ∈ gw_tbl := gw_in (by decide +kernel) (by decide +kernel)

set_option maxHeartbeats 4000000 in
set_option maxRecDepth 100000 in
theorem m_cost (l : Launch) (D : va_G) (cs : Nat → ClassId) (m0 : Nat) (mp : Nat) (mw : Nat) (mh : Nat) (mo : Nat) (m5 : Nat) (m6 : Nat) (m7 : Nat) (mk : Nat) (mn : Nat) (mq : Nat) (m8 : Nat) (m9 : Nat) (mz : Nat) (mb : Nat) (md : Nat) (ms : Nat) (C : Nat) (P : Nat) (mpn : Nat) (mrs : Nat) (sS : Nat) (rc : Nat) (rp : Nat) (ic : Nat) (hms : ms ≤ 90) (hC5 : C ≤ 5) (hP4 : P ≤ 4) (hmpn : mpn ≤ 8) (hmrs : mrs ≤ 24) (hsS : sS ≤ 4) (hrc : rc ≤ 5) (hrp : rp ≤ 4) (hic : ic ≤ 4) (x_value : Int32) (x_digits : Int32) (x_all : Int64) (x_kind : Int32) (x_last : Int32) (x_steps : Int32) (x_isRound : Int32) (x_tablesDone : Int32) (x_hash : Int64) (fmo : Nat → Int32) (p1 : Int32) (p2 : Int32) (sz : Nat) : Met l yX12_cost (Cond.code yX12_cost cX12_cost 4 (some .int) :: gw_tbl) ({ frames := 2, cells := 0, slots := 0, locals := 46 }) (pc_M D cs [(m0, .inr (12, [.ref mp, .int (nI ms), .int (nI C), .int (nI P), .ref mw, .ref mh, .ref mo, .int (nI sS), .int x_value, .int x_digits, .int (nI rc), .int (nI rp), .int (nI ic), .ref m5, .ref m6, .ref m7, .long x_all, .int (nI mpn), .ref mk, .ref mn, .int x_kind, .ref mq, .ref m8, .ref m9, .int x_last, .int x_steps, .int x_isRound, .int x_tablesDone, .ref mz, .int (nI mrs), .ref mb, .ref md, .long x_hash])), (mo, .inl (cs 0, 4, .inl fmo))] sz [.ref m0, .int p1, .int p2]) (va_Qi (fun (r : Int32) (u : Unit) => True) (fun u t => ∃ (fmo2 : Nat → Int32), va_P D vwCl [(m0, .inr (12, [.ref mp, .int (nI ms), .int (nI C), .int (nI P), .ref mw, .ref mh, .ref mo, .int (nI sS), .int x_value, .int x_digits, .int (nI rc), .int (nI rp), .int (nI ic), .ref m5, .ref m6, .ref m7, .long x_all, .int (nI mpn), .ref mk, .ref mn, .int x_kind, .ref mq, .ref m8, .ref m9, .int x_last, .int x_steps, .int x_isRound, .int x_tablesDone, .ref mz, .int (nI mrs), .ref mb, .ref md, .long x_hash])), (mo, .inl (cs 0, 4, .inl fmo2))] t.heap ∧ va_D (va_A [(m0, .inr (12, [.ref mp, .int (nI ms), .int (nI C), .int (nI P), .ref mw, .ref mh, .ref mo, .int (nI sS), .int x_value, .int x_digits, .int (nI rc), .int (nI rp), .int (nI ic), .ref m5, .ref m6, .ref m7, .long x_all, .int (nI mpn), .ref mk, .ref mn, .int x_kind, .ref mq, .ref m8, .ref m9, .int x_last, .int x_steps, .int x_isRound, .int x_tablesDone, .ref mz, .int (nI mrs), .ref mb, .ref md, .long x_hash])), (mo, .inl (cs 0, 4, .inl fmo))] sz) [(m0, .inr (12, [.ref mp, .int (nI ms), .int (nI C), .int (nI P), .ref mw, .ref mh, .ref mo, .int (nI sS), .int x_value, .int x_digits, .int (nI rc), .int (nI rp), .int (nI ic), .ref m5, .ref m6, .ref m7, .long x_all, .int (nI mpn), .ref mk, .ref mn, .int x_kind, .ref mq, .ref m8, .ref m9, .int x_last, .int x_steps, .int x_isRound, .int x_tablesDone, .ref mz, .int (nI mrs), .ref mb, .ref md, .long x_hash])), (mo, .inl (cs 0, 4, .inl fmo2))]) (va_A [(m0, .inr (12, [.ref mp, .int (nI ms), .int (nI C), .int (nI P), .ref mw, .ref mh, .ref mo, .int (nI sS), .int x_value, .int x_digits, .int (nI rc), .int (nI rp), .int (nI ic), .ref m5, .ref m6, .ref m7, .long x_all, .int (nI mpn), .ref mk, .ref mn, .int x_kind, .ref mq, .ref m8, .ref m9, .int x_last, .int x_steps, .int x_isRound, .int x_tablesDone, .ref mz, .int (nI mrs), .ref mb, .ref md, .long x_hash])), (mo, .inl (cs 0, 4, .inl fmo))] sz)) 0 0 (va_A [(m0, .inr (12, [.ref mp, .int (nI ms), .int (nI C), .int (nI P), .ref mw, .ref mh, .ref mo, .int (nI sS), .int x_value, .int x_digits, .int (nI rc), .int (nI rp), .int (nI ic), .ref m5, .ref m6, .ref m7, .long x_all, .int (nI mpn), .ref mk, .ref mn, .int x_kind, .ref mq, .ref m8, .ref m9, .int x_last, .int x_steps, .int x_isRound, .int x_tablesDone, .ref mz, .int (nI mrs), .ref mb, .ref md, .long x_hash])), (mo, .inl (cs 0, 4, .inl fmo))] sz) := by
  refine Met.ofW (cc := cX12_cost) (maxL := 4) (ret := (some .int)) (by decide) rfl ?_
  intro p e s m args below meth c s₁ B hml hv
  obtain ⟨hargs, hsz, hP, hK, hD0⟩ := hv
  have hx := B.exec
  have hb := B.bytes
  have hr := B.returns
  have hts := atoms_spec (ws := Cond.code yX12_cost cX12_cost 4 (some .int) :: gw_tbl) B.pre
  have hg := fun (w : Cond) (h : w ∈ gw_tbl) => hts w (List.mem_cons_of_mem _ h)
  have hown : s.vm.findClass RX12 = some m.cls := findClass_of_methodNamed B.named
  have hlocks := B.notSynchronized
  subst hsz
  have hD := hD0.self (sz := s.heap.size)
  generalize hAe : va_A [(m0, .inr (12, [.ref mp, .int (nI ms), .int (nI C), .int (nI P), .ref mw, .ref mh, .ref mo, .int (nI sS), .int x_value, .int x_digits, .int (nI rc), .int (nI rp), .int (nI ic), .ref m5, .ref m6, .ref m7, .long x_all, .int (nI mpn), .ref mk, .ref mn, .int x_kind, .ref mq, .ref m8, .ref m9, .int x_last, .int x_steps, .int x_isRound, .int x_tablesDone, .ref mz, .int (nI mrs), .ref mb, .ref md, .long x_hash])), (mo, .inl (cs 0, 4, .inl fmo))] s.heap.size = A at hD ⊢
  have hA : ∀ q : Nat, s.heap.size ≤ q → A q := fun q h => by rw [← hAe]; exact Or.inr h
  have hS : va_S A s.heap s.heap [] := va_S.rf
  have hP : va_P D vwCl [(m0, .inr (12, [.ref mp, .int (nI ms), .int (nI C), .int (nI P), .ref mw, .ref mh, .ref mo, .int (nI sS), .int x_value, .int x_digits, .int (nI rc), .int (nI rp), .int (nI ic), .ref m5, .ref m6, .ref m7, .long x_all, .int (nI mpn), .ref mk, .ref mn, .int x_kind, .ref mq, .ref m8, .ref m9, .int x_last, .int x_steps, .int x_isRound, .int x_tablesDone, .ref mz, .int (nI mrs), .ref mb, .ref md, .long x_hash])), (mo, .inl (cs 0, 4, .inl fmo))] s.heap := hP
  have hl := lv_entry ([.ref m0, .int p1, .int p2]) (n := 4) (Nat.le_of_ble_eq_true rfl)
  rw [show entryFrame m args 4 = F0 m 0 (lg_sl ([.ref m0, .int p1, .int p2]) ++ List.replicate (4 - (lg_sl ([.ref m0, .int p1, .int p2])).length) Slot.unset).toArray [] from by rw [hargs]; exact lg_entry_eq ..]
  generalize (lg_sl ([.ref m0, .int p1, .int p2]) ++ List.replicate (4 - (lg_sl ([.ref m0, .int p1, .int p2])).length) Slot.unset).toArray = ls at hl ⊢
  have hl : lv_has ls 4 [(0, .ref m0), (1, .int p1), (2, .int p2)] := hl
  refine W_genQ (fun Q hQ => ?_)
  have hlm := lim_le hP4
  have hlq := lim_pos P
  have hsg := sgn_le hP4
  refine lv_aload_n hx hb dX12_cost_0 rfl (lv_at hl 0 rfl) ?_
  refine lv_iload_n hx hb dX12_cost_1 rfl (lv_at hl 1 rfl) ?_
  have hPc := hP.sub (ws' := [(m0, .inr (12, [.ref mp, .int (nI ms), .int (nI C), .int (nI P), .ref mw, .ref mh, .ref mo, .int (nI sS), .int x_value, .int x_digits, .int (nI rc), .int (nI rp), .int (nI ic), .ref m5, .ref m6, .ref m7, .long x_all, .int (nI mpn), .ref mk, .ref mn, .int x_kind, .ref mq, .ref m8, .ref m9, .int x_last, .int x_steps, .int x_isRound, .int x_tablesDone, .ref mz, .int (nI mrs), .ref mb, .ref md, .long x_hash]))]) [0] rfl
  refine vp_callSi (W.runV (As := [.int p1]) (rest := []) ⟨hx, hb, hml, hown, hg⟩ (m_isPerson l D cs m0 mp mw mh mo m5 m6 m7 mk mn mq m8 m9 mz mb md ms C P mpn mrs sS rc rp ic (by omega) (by omega) (by omega) (by omega) (by omega) (by omega) (by omega) (by omega) (by omega) x_value x_digits x_all x_kind x_last x_steps x_isRound x_tablesDone x_hash p1) (cwV 1 hg (gw_V kw_409 kw_410 kw_411 kw_319 kw_408) rfl rfl rfl (by decide +kernel) ⟨(Nat.le_of_ble_eq_true rfl), (Nat.le_of_ble_eq_true rfl)⟩) (pr_SV (q := (RX12, TX12, 33)) 12 0 hK hPc rfl rfl) rfl rfl hl.1 rfl (lv_room (Nat.le_of_ble_eq_true rfl)) dX12_cost_2 ⟨(Nat.le_of_ble_eq_true rfl), (Nat.le_of_ble_eq_true rfl)⟩) (fun r_2 h_2 => ?_)
  rcases h_2 with rfl | ⟨rfl, k_2, hk_2, rfl⟩
  · refine lv_if_ne (tgt := 11) hx hb dX12_cost_5 (by decide) (fun c_5 => absurd c_5 (by decide)) (fun c_5 => ?_)
    refine lv_bipush (v := (-101)) hx hb dX12_cost_8 (by decide) ?_
    refine W_sQ hQ ?_
    refine W.widen (k := 0) (n := 0) (Nat.le_of_ble_eq_true rfl) (Nat.le_of_ble_eq_true rfl) ?_
    have hP9 := hP.sub (ws' := [(m0, .inr (12, [.ref mp, .int (nI ms), .int (nI C), .int (nI P), .ref mw, .ref mh, .ref mo, .int (nI sS), .int x_value, .int x_digits, .int (nI rc), .int (nI rp), .int (nI ic), .ref m5, .ref m6, .ref m7, .long x_all, .int (nI mpn), .ref mk, .ref mn, .int x_kind, .ref mq, .ref m8, .ref m9, .int x_last, .int x_steps, .int x_isRound, .int x_tablesDone, .ref mz, .int (nI mrs), .ref mb, .ref md, .long x_hash])), (mo, .inl (cs 0, 4, .inl fmo))]) [0, 1] rfl
    have hD9 := hD.sub (ws' := [(m0, .inr (12, [.ref mp, .int (nI ms), .int (nI C), .int (nI P), .ref mw, .ref mh, .ref mo, .int (nI sS), .int x_value, .int x_digits, .int (nI rc), .int (nI rp), .int (nI ic), .ref m5, .ref m6, .ref m7, .long x_all, .int (nI mpn), .ref mk, .ref mn, .int x_kind, .ref mq, .ref m8, .ref m9, .int x_last, .int x_steps, .int x_isRound, .int x_tablesDone, .ref mz, .int (nI mrs), .ref mb, .ref md, .long x_hash])), (mo, .inl (cs 0, 4, .inl fmo))]) [0, 1] (by decide) rfl
    exact W.iret (v := (-101)) hx hb hr (fun t ht hW => ⟨⟨(-101), (), rfl, trivial, ⟨fmo, by rw [ht]; exact hP9, hD9⟩⟩, hS.F ht⟩) hS.2.2 dX12_cost_10
  · refine lv_if_ne (tgt := 11) hx hb dX12_cost_5 (by decide) (fun c_5 => ?_) (fun c_5 => absurd c_5 (by decide))
    refine lv_iload_n hx hb dX12_cost_11 rfl (lv_at hl 2 rfl) ?_
    refine lv_i2l hx hb dX12_cost_12 rfl ?_
    refine lv_topl (fun z_12 e_12 => ?_)
    refine lv_lconst (v := 0) hx hb dX12_cost_13 (by decide) ?_
    refine lv_ldc2 hx hb hown (hg _ kw_412) dX12_cost_14 ?_
    refine vp_callSi (W.runS (As := [.long z_12, .long 0, .long 999]) (rest := []) ⟨hx, hb, hml, hown, hg⟩ (c_in l z_12 0 999) (va_cwS 3 hg (gw_S kw_317 kw_318 kw_319 kw_316) rfl rfl rfl (by decide +kernel) ⟨(Nat.le_of_ble_eq_true rfl), (Nat.le_of_ble_eq_true rfl)⟩) pr_0 rfl rfl hl.1 rfl (lv_room (Nat.le_of_ble_eq_true rfl)) dX12_cost_17 ⟨(Nat.le_of_ble_eq_true rfl), (Nat.le_of_ble_eq_true rfl)⟩) (fun r_17 h_17 => ?_)
    replace h_17 := in_s (n := 999) (by decide) e_12 (by decide) h_17
    rcases h_17 with rfl | ⟨rfl, k_17, hk_17, rfl⟩
    · refine lv_if_ne (tgt := 26) hx hb dX12_cost_20 (by decide) (fun c_20 => absurd c_20 (by decide)) (fun c_20 => ?_)
      refine lv_bipush (v := (-102)) hx hb dX12_cost_23 (by decide) ?_
      refine W_sQ hQ ?_
      refine W.widen (k := 0) (n := 0) (Nat.le_of_ble_eq_true rfl) (Nat.le_of_ble_eq_true rfl) ?_
      have hP9 := hP.sub (ws' := [(m0, .inr (12, [.ref mp, .int (nI ms), .int (nI C), .int (nI P), .ref mw, .ref mh, .ref mo, .int (nI sS), .int x_value, .int x_digits, .int (nI rc), .int (nI rp), .int (nI ic), .ref m5, .ref m6, .ref m7, .long x_all, .int (nI mpn), .ref mk, .ref mn, .int x_kind, .ref mq, .ref m8, .ref m9, .int x_last, .int x_steps, .int x_isRound, .int x_tablesDone, .ref mz, .int (nI mrs), .ref mb, .ref md, .long x_hash])), (mo, .inl (cs 0, 4, .inl fmo))]) [0, 1] rfl
      have hD9 := hD.sub (ws' := [(m0, .inr (12, [.ref mp, .int (nI ms), .int (nI C), .int (nI P), .ref mw, .ref mh, .ref mo, .int (nI sS), .int x_value, .int x_digits, .int (nI rc), .int (nI rp), .int (nI ic), .ref m5, .ref m6, .ref m7, .long x_all, .int (nI mpn), .ref mk, .ref mn, .int x_kind, .ref mq, .ref m8, .ref m9, .int x_last, .int x_steps, .int x_isRound, .int x_tablesDone, .ref mz, .int (nI mrs), .ref mb, .ref md, .long x_hash])), (mo, .inl (cs 0, 4, .inl fmo))]) [0, 1] (by decide) rfl
      exact W.iret (v := (-102)) hx hb hr (fun t ht hW => ⟨⟨(-102), (), rfl, trivial, ⟨fmo, by rw [ht]; exact hP9, hD9⟩⟩, hS.F ht⟩) hS.2.2 dX12_cost_25
    · refine lv_if_ne (tgt := 26) hx hb dX12_cost_20 (by decide) (fun c_20 => ?_) (fun c_20 => absurd c_20 (by decide))
      refine lv_aload_n hx hb dX12_cost_26 rfl (lv_at hl 0 rfl) ?_
      refine va_get (D := D) (ci := 12) (v := .ref mo) (C := RX12) (T := TX12) (N := 33) hx hb hg gwX12 hown hK hP 0 rfl rfl 6 (by decide) (hg _ kw_336) (fun _ h9 => h9) rfl dX12_cost_27 ?_
      refine lv_iload_n hx hb dX12_cost_30 rfl (lv_at hl 1 rfl) ?_
      refine va_iald hx hb hK hP 1 0 rfl rfl (vp_in_nI (show k_2 < 4 by omega) (by decide)) dX12_cost_31 ?_
      refine lv_topi (fun z_31 e_31 => ?_)
      refine lv_istore_n (lv' := [(3, .int z_31), (0, .ref m0), (1, .int (nI k_2)), (2, .int (nI k_17))]) hx hb dX12_cost_32 rfl hl (by decide) rfl (fun ls hl => ?_)
      refine lv_aload_n hx hb dX12_cost_33 rfl (lv_at hl 1 rfl) ?_
      refine va_get (D := D) (ci := 12) (v := .ref mo) (C := RX12) (T := TX12) (N := 33) hx hb hg gwX12 hown hK hP 0 rfl rfl 6 (by decide) (hg _ kw_336) (fun _ h9 => h9) rfl dX12_cost_34 ?_
      refine lv_iload_n hx hb dX12_cost_37 rfl (lv_at hl 2 rfl) ?_
      refine lv_iload_n hx hb dX12_cost_38 rfl (lv_at hl 3 rfl) ?_
      refine va_iast hx hb hK hP hD hS 1 0 rfl rfl (vp_in_nI (show k_2 < 4 by omega) (by decide)) dX12_cost_39 (fun H locs hP hD hS => ?_)
      obtain ⟨f_39, hf_39⟩ : ∃ f9, f9 = (upd fmo (nI k_2).toNatClampNeg (nI k_17)) := ⟨_, rfl⟩
      rw [← hf_39] at hP hD
      have hP : va_P D vwCl [(m0, .inr (12, [.ref mp, .int (nI ms), .int (nI C), .int (nI P), .ref mw, .ref mh, .ref mo, .int (nI sS), .int x_value, .int x_digits, .int (nI rc), .int (nI rp), .int (nI ic), .ref m5, .ref m6, .ref m7, .long x_all, .int (nI mpn), .ref mk, .ref mn, .int x_kind, .ref mq, .ref m8, .ref m9, .int x_last, .int x_steps, .int x_isRound, .int x_tablesDone, .ref mz, .int (nI mrs), .ref mb, .ref md, .long x_hash])), (mo, .inl (cs 0, 4, .inl f_39))] H := hP
      have hD : va_D A [(m0, .inr (12, [.ref mp, .int (nI ms), .int (nI C), .int (nI P), .ref mw, .ref mh, .ref mo, .int (nI sS), .int x_value, .int x_digits, .int (nI rc), .int (nI rp), .int (nI ic), .ref m5, .ref m6, .ref m7, .long x_all, .int (nI mpn), .ref mk, .ref mn, .int x_kind, .ref mq, .ref m8, .ref m9, .int x_last, .int x_steps, .int x_isRound, .int x_tablesDone, .ref mz, .int (nI mrs), .ref mb, .ref md, .long x_hash])), (mo, .inl (cs 0, 4, .inl f_39))] := hD
      refine lv_iload_n hx hb dX12_cost_40 rfl (lv_at hl 0 rfl) ?_
      refine W_sQ hQ ?_
      refine W.widen (k := 0) (n := 0) (Nat.le_of_ble_eq_true rfl) (Nat.le_of_ble_eq_true rfl) ?_
      have hP9 := hP.sub (ws' := [(m0, .inr (12, [.ref mp, .int (nI ms), .int (nI C), .int (nI P), .ref mw, .ref mh, .ref mo, .int (nI sS), .int x_value, .int x_digits, .int (nI rc), .int (nI rp), .int (nI ic), .ref m5, .ref m6, .ref m7, .long x_all, .int (nI mpn), .ref mk, .ref mn, .int x_kind, .ref mq, .ref m8, .ref m9, .int x_last, .int x_steps, .int x_isRound, .int x_tablesDone, .ref mz, .int (nI mrs), .ref mb, .ref md, .long x_hash])), (mo, .inl (cs 0, 4, .inl f_39))]) [0, 1] rfl
      have hD9 := hD.sub (ws' := [(m0, .inr (12, [.ref mp, .int (nI ms), .int (nI C), .int (nI P), .ref mw, .ref mh, .ref mo, .int (nI sS), .int x_value, .int x_digits, .int (nI rc), .int (nI rp), .int (nI ic), .ref m5, .ref m6, .ref m7, .long x_all, .int (nI mpn), .ref mk, .ref mn, .int x_kind, .ref mq, .ref m8, .ref m9, .int x_last, .int x_steps, .int x_isRound, .int x_tablesDone, .ref mz, .int (nI mrs), .ref mb, .ref md, .long x_hash])), (mo, .inl (cs 0, 4, .inl f_39))]) [0, 1] (by decide) rfl
      exact W.iret (v := z_31) hx hb hr (fun t ht hW => ⟨⟨z_31, (), rfl, trivial, ⟨f_39, by rw [ht]; exact hP9, hD9⟩⟩, hS.F ht⟩) hS.2.2 dX12_cost_41
