theorem wI_0 {f : Nat → Int32} : wI f 0 := fun i h => absurd h (Nat.not_lt_zero i)
theorem wI_dn {f : Nat → Int32} {n : Nat} (h : wI f (n + 1)) : wI f n := fun i hi => h i (by omega)
theorem wI_up {f f2 : Nat → Int32} {n w : Nat} (h : wI f n) (hn : n ≤ 4) (h1 : 1 ≤ w) (h2 : w ≤ 99) (e : f2 = upd f (nI n).toNatClampNeg (nI w)) : wI f2 (n + 1) := fun i hi => by
  rw [e, nI_clamp (by omega)]
  by_cases q : i = n
  · exact ⟨w, h1, h2, by rw [q]; exact pk_us⟩
  · obtain ⟨x, a, b, d⟩ := h i (by omega)
    exact ⟨x, a, b, by rw [pk_un q]; exact d⟩
/-- where the reading stands -/
def gvI (f : Nat → Int32) (st rc ic : Nat) (v : Int32) : Prop := rc ≤ 4 ∧ wI f rc ∧ (1 ≤ st → ic ≤ 3) ∧ (3 ≤ st → wI f (rc + 1)) ∧ (st = 1 → ∃ w : Nat, 1 ≤ w ∧ w ≤ 9 ∧ v = nI w) ∧ (st = 2 → ∃ w : Nat, 1 ≤ w ∧ w ≤ 99 ∧ v = nI w)
theorem gv_0 {f : Nat → Int32} {rc ic : Nat} {v : Int32} (h : rc ≤ 4) (hw : wI f rc) : gvI f 0 rc ic v := ⟨h, hw, fun q => absurd q (by decide), fun q => absurd q (by decide), fun q => absurd q (by decide), fun q => absurd q (by decide)⟩
theorem gv_1 {f : Nat → Int32} {rc ic w : Nat} (h : rc ≤ 4) (hw : wI f rc) (hi : ic ≤ 3) (h1 : 1 ≤ w) (h2 : w ≤ 9) : gvI f 1 rc ic (nI w) := ⟨h, hw, fun _ => hi, fun q => absurd q (by decide), fun _ => ⟨w, h1, h2, rfl⟩, fun q => absurd q (by decide)⟩
theorem gv_2 {f : Nat → Int32} {rc ic w : Nat} (h : rc ≤ 4) (hw : wI f rc) (hi : ic ≤ 3) (h1 : 1 ≤ w) (h2 : w ≤ 99) : gvI f 2 rc ic (nI w) := ⟨h, hw, fun _ => hi, fun q => absurd q (by decide), fun q => absurd q (by decide), fun _ => ⟨w, h1, h2, rfl⟩⟩
theorem gv_3 {f : Nat → Int32} {rc ic : Nat} {v : Int32} (h : rc ≤ 4) (hw : wI f (rc + 1)) (hi : ic ≤ 3) : gvI f 3 rc ic v := ⟨h, wI_dn hw, fun _ => hi, fun _ => hw, fun q => absurd q (by decide), fun q => absurd q (by decide)⟩
theorem gv_4 {f : Nat → Int32} {rc ic : Nat} {v : Int32} (h : rc ≤ 4) (hw : wI f (rc + 1)) (hi : ic ≤ 3) : gvI f 4 rc ic v := ⟨h, wI_dn hw, fun _ => hi, fun _ => hw, fun q => absurd q (by decide), fun q => absurd q (by decide)⟩
theorem gv_c {f : Nat → Int32} {st rc rc2 ic ic2 : Nat} {v : Int32} (h : rc ≤ 4) (hw : wI f (rc + 1)) (hi : ic ≤ 3) (q : (st = 4 ∧ rc2 = rc ∧ ic2 = ic) ∨ (st = 3 ∧ rc2 = rc ∧ ic2 ≤ 3) ∨ (st = 0 ∧ rc2 = rc + 1 ∧ rc2 ≤ 4)) : gvI f st rc2 ic2 v := by
  rcases q with ⟨rfl, rfl, rfl⟩ | ⟨rfl, rfl, q⟩ | ⟨rfl, rfl, q⟩
  · exact gv_4 h hw hi
  · exact gv_3 h hw q
  · exact gv_0 q hw
theorem dg_1 {cx r : Int32} {z : Int64} (e : z = cx.toInt64) (h : r = il z 48 57) : r = 0 ∨ (r = 1 ∧ ∃ d : Nat, d ≤ 9 ∧ cx = nI (48 + d)) := by
  have h2 : r = iw cx 48 57 := h.trans (by rw [e]; exact il_iw (by decide) (by decide))
  rcases iw_01 (v := cx) (a := 48) (b := 57) with q | q
  · exact Or.inl (h2.trans q)
  · obtain ⟨h3, h4⟩ := iw_ge q
    have e48 : (48 : Int32).toInt = 48 := rfl
    have e57 : (57 : Int32).toInt = 57 := rfl
    rw [fa_le, e48] at h3
    rw [fa_le, e57] at h4
    rcases pk_ix cx (n := 58) (by decide) with q2 | q2 | ⟨k, hk, q2⟩
    · have e0 : (0 : Int32).toInt = 0 := rfl
      rw [fa_lt, e0] at q2
      omega
    · rw [fa_le, nI_toInt (by decide)] at q2
      omega
    · rw [q2, nI_toInt (by omega)] at h3
      exact Or.inr ⟨h2.trans q, k - 48, by omega, by rw [q2]; congr 1; omega⟩
def cpI (f h : Nat → Int32) (k : Nat) : Prop := ∀ i, i < k → f i = h i
theorem cp_0 {f h : Nat → Int32} : cpI f h 0 := fun i q => absurd q (Nat.not_lt_zero i)
theorem cp_s {f f2 h : Nat → Int32} {k : Nat} {z : Int32} (q : cpI f h k) (hk : k < 2 ^ 31) (e : z = h (nI k).toNatClampNeg) (e2 : f2 = upd f (nI k).toNatClampNeg z) : cpI f2 h (k + 1) := fun i hi => by
  rw [e2, e, nI_clamp hk]
  by_cases w : i = k
  · rw [w]; exact pk_us
  · rw [pk_un w]; exact q i (by omega)
theorem cp_wI {f h : Nat → Int32} {n : Nat} (q : cpI f h 5) (hn : n ≤ 5) (w : wI h n) : wI f n := fun i hi => by
  rw [q i (by omega)]; exact w i hi

theorem dX12_letters_0 : decode cX12_letters 0 = .ok (.iconst 0, 1) := by decide +kernel
theorem dX12_letters_1 : decode cX12_letters 1 = .ok (.istore_n 3, 1) := by decide +kernel
theorem dX12_letters_2 : decode cX12_letters 2 = .ok (.iconst 1, 1) := by decide +kernel
theorem dX12_letters_3 : decode cX12_letters 3 = .ok (.istore 4, 2) := by decide +kernel
theorem dX12_letters_5 : decode cX12_letters 5 = .ok (.lload_n 1, 1) := by decide +kernel
theorem dX12_letters_6 : decode cX12_letters 6 = .ok (.lstore 5, 2) := by decide +kernel
theorem dX12_letters_8 : decode cX12_letters 8 = .ok (.iconst 0, 1) := by decide +kernel
theorem dX12_letters_9 : decode cX12_letters 9 = .ok (.istore 7, 2) := by decide +kernel
theorem dX12_letters_11 : decode cX12_letters 11 = .ok (.iload 7, 2) := by decide +kernel
theorem dX12_letters_13 : decode cX12_letters 13 = .ok (.bipush 8, 2) := by decide +kernel
theorem dX12_letters_15 : decode cX12_letters 15 = .ok (.if_icmp .ge 68, 3) := by decide +kernel
theorem dX12_letters_18 : decode cX12_letters 18 = .ok (.lload 5, 2) := by decide +kernel
theorem dX12_letters_20 : decode cX12_letters 20 = .ok (.ldc2_w 61, 3) := by decide +kernel
theorem dX12_letters_23 : decode cX12_letters 23 = .ok (.land, 1) := by decide +kernel
theorem dX12_letters_24 : decode cX12_letters 24 = .ok (.l2i, 1) := by decide +kernel
theorem dX12_letters_25 : decode cX12_letters 25 = .ok (.istore 8, 2) := by decide +kernel
theorem dX12_letters_27 : decode cX12_letters 27 = .ok (.lload 5, 2) := by decide +kernel
theorem dX12_letters_29 : decode cX12_letters 29 = .ok (.bipush 8, 2) := by decide +kernel
theorem dX12_letters_31 : decode cX12_letters 31 = .ok (.lushr, 1) := by decide +kernel
theorem dX12_letters_32 : decode cX12_letters 32 = .ok (.lstore 5, 2) := by decide +kernel
theorem dX12_letters_34 : decode cX12_letters 34 = .ok (.iload 4, 2) := by decide +kernel
theorem dX12_letters_36 : decode cX12_letters 36 = .ok (.ifCond .eq 25, 3) := by decide +kernel
theorem dX12_letters_39 : decode cX12_letters 39 = .ok (.iload 8, 2) := by decide +kernel
theorem dX12_letters_41 : decode cX12_letters 41 = .ok (.bipush 126, 2) := by decide +kernel
theorem dX12_letters_43 : decode cX12_letters 43 = .ok (.if_icmp .gt 18, 3) := by decide +kernel
theorem dX12_letters_46 : decode cX12_letters 46 = .ok (.iload 8, 2) := by decide +kernel
theorem dX12_letters_48 : decode cX12_letters 48 = .ok (.ifCond .eq 9, 3) := by decide +kernel
theorem dX12_letters_51 : decode cX12_letters 51 = .ok (.iload_n 3, 1) := by decide +kernel
theorem dX12_letters_52 : decode cX12_letters 52 = .ok (.iload 7, 2) := by decide +kernel
theorem dX12_letters_54 : decode cX12_letters 54 = .ok (.if_icmp .ne 7, 3) := by decide +kernel
theorem dX12_letters_57 : decode cX12_letters 57 = .ok (.iconst 1, 1) := by decide +kernel
theorem dX12_letters_58 : decode cX12_letters 58 = .ok (.goto 4, 3) := by decide +kernel
theorem dX12_letters_61 : decode cX12_letters 61 = .ok (.iconst 0, 1) := by decide +kernel
theorem dX12_letters_62 : decode cX12_letters 62 = .ok (.istore 4, 2) := by decide +kernel
theorem dX12_letters_64 : decode cX12_letters 64 = .ok (.iload_n 3, 1) := by decide +kernel
theorem dX12_letters_65 : decode cX12_letters 65 = .ok (.iload 8, 2) := by decide +kernel
theorem dX12_letters_67 : decode cX12_letters 67 = .ok (.ifCond .le 7, 3) := by decide +kernel
theorem dX12_letters_70 : decode cX12_letters 70 = .ok (.iconst 1, 1) := by decide +kernel
theorem dX12_letters_71 : decode cX12_letters 71 = .ok (.goto 4, 3) := by decide +kernel
theorem dX12_letters_74 : decode cX12_letters 74 = .ok (.iconst 0, 1) := by decide +kernel
theorem dX12_letters_75 : decode cX12_letters 75 = .ok (.iadd, 1) := by decide +kernel
theorem dX12_letters_76 : decode cX12_letters 76 = .ok (.istore_n 3, 1) := by decide +kernel
theorem dX12_letters_77 : decode cX12_letters 77 = .ok (.iinc 7 1, 3) := by decide +kernel
theorem dX12_letters_80 : decode cX12_letters 80 = .ok (.goto (-69), 3) := by decide +kernel
theorem dX12_letters_83 : decode cX12_letters 83 = .ok (.iload 4, 2) := by decide +kernel
theorem dX12_letters_85 : decode cX12_letters 85 = .ok (.ifCond .ne 6, 3) := by decide +kernel
theorem dX12_letters_88 : decode cX12_letters 88 = .ok (.bipush (-102), 2) := by decide +kernel
theorem dX12_letters_90 : decode cX12_letters 90 = .ok (.ireturn, 1) := by decide +kernel
theorem dX12_letters_91 : decode cX12_letters 91 = .ok (.aload_n 0, 1) := by decide +kernel
theorem dX12_letters_92 : decode cX12_letters 92 = .ok (.getfield 63, 3) := by decide +kernel
theorem dX12_letters_95 : decode cX12_letters 95 = .ok (.iload_n 3, 1) := by decide +kernel
theorem dX12_letters_96 : decode cX12_letters 96 = .ok (.iadd, 1) := by decide +kernel
theorem dX12_letters_97 : decode cX12_letters 97 = .ok (.bipush 90, 2) := by decide +kernel
theorem dX12_letters_99 : decode cX12_letters 99 = .ok (.if_icmp .le 6, 3) := by decide +kernel
theorem dX12_letters_102 : decode cX12_letters 102 = .ok (.bipush (-104), 2) := by decide +kernel
theorem dX12_letters_104 : decode cX12_letters 104 = .ok (.ireturn, 1) := by decide +kernel
theorem dX12_letters_105 : decode cX12_letters 105 = .ok (.iconst 0, 1) := by decide +kernel
theorem dX12_letters_106 : decode cX12_letters 106 = .ok (.istore 7, 2) := by decide +kernel
theorem dX12_letters_108 : decode cX12_letters 108 = .ok (.iload 7, 2) := by decide +kernel
theorem dX12_letters_110 : decode cX12_letters 110 = .ok (.iload_n 3, 1) := by decide +kernel
theorem dX12_letters_111 : decode cX12_letters 111 = .ok (.if_icmp .ge 40, 3) := by decide +kernel
theorem dX12_letters_114 : decode cX12_letters 114 = .ok (.aload_n 0, 1) := by decide +kernel
theorem dX12_letters_115 : decode cX12_letters 115 = .ok (.getfield 7, 3) := by decide +kernel
theorem dX12_letters_118 : decode cX12_letters 118 = .ok (.aload_n 0, 1) := by decide +kernel
theorem dX12_letters_119 : decode cX12_letters 119 = .ok (.getfield 63, 3) := by decide +kernel
theorem dX12_letters_122 : decode cX12_letters 122 = .ok (.lload_n 1, 1) := by decide +kernel
theorem dX12_letters_123 : decode cX12_letters 123 = .ok (.bipush 8, 2) := by decide +kernel
theorem dX12_letters_125 : decode cX12_letters 125 = .ok (.iload 7, 2) := by decide +kernel
theorem dX12_letters_127 : decode cX12_letters 127 = .ok (.imul, 1) := by decide +kernel
theorem dX12_letters_128 : decode cX12_letters 128 = .ok (.lushr, 1) := by decide +kernel
theorem dX12_letters_129 : decode cX12_letters 129 = .ok (.ldc2_w 61, 3) := by decide +kernel
theorem dX12_letters_132 : decode cX12_letters 132 = .ok (.land, 1) := by decide +kernel
theorem dX12_letters_133 : decode cX12_letters 133 = .ok (.l2i, 1) := by decide +kernel
theorem dX12_letters_134 : decode cX12_letters 134 = .ok (.iastore, 1) := by decide +kernel
theorem dX12_letters_135 : decode cX12_letters 135 = .ok (.aload_n 0, 1) := by decide +kernel
theorem dX12_letters_136 : decode cX12_letters 136 = .ok (.dup, 1) := by decide +kernel
theorem dX12_letters_137 : decode cX12_letters 137 = .ok (.getfield 63, 3) := by decide +kernel
theorem dX12_letters_140 : decode cX12_letters 140 = .ok (.iconst 1, 1) := by decide +kernel
theorem dX12_letters_141 : decode cX12_letters 141 = .ok (.iadd, 1) := by decide +kernel
theorem dX12_letters_142 : decode cX12_letters 142 = .ok (.putfield 63, 3) := by decide +kernel
theorem dX12_letters_145 : decode cX12_letters 145 = .ok (.iinc 7 1, 3) := by decide +kernel
theorem dX12_letters_148 : decode cX12_letters 148 = .ok (.goto (-40), 3) := by decide +kernel
theorem dX12_letters_151 : decode cX12_letters 151 = .ok (.aload_n 0, 1) := by decide +kernel
theorem dX12_letters_152 : decode cX12_letters 152 = .ok (.getfield 63, 3) := by decide +kernel
theorem dX12_letters_155 : decode cX12_letters 155 = .ok (.ireturn, 1) := by decide +kernel
theorem kw_476 : (.fieldLink RX12 7 "NobodyChecksModel" "page" "[I" : Cond) ∈ gw_tbl := gw_in (by decide +kernel) (by decide +kernel)
theorem kw_477 : (.constantLong RX12 61 (255) : Cond) ∈ gw_tbl := gw_in (by decide +kernel) (by decide +kernel)

set_option maxHeartbeats 4000000 in
set_option maxRecDepth 100000 in
theorem m_letters (l : Launch) (D : va_G) (cs : Nat → ClassId) (m0 : Nat) (mp : Nat) (mw : Nat) (mh : Nat) (mo : Nat) (m5 : Nat) (m6 : Nat) (m7 : Nat) (mk : Nat) (mn : Nat) (mq : Nat) (m8 : Nat) (m9 : Nat) (mz : Nat) (mb : Nat) (md : Nat) (ms : Nat) (C : Nat) (P : Nat) (mpn : Nat) (mrs : Nat) (sS : Nat) (rc : Nat) (rp : Nat) (ic : Nat) (hms : ms ≤ 90) (hC5 : C ≤ 5) (hP4 : P ≤ 4) (hmpn : mpn ≤ 8) (hmrs : mrs ≤ 24) (hsS : sS ≤ 4) (hrc : rc ≤ 5) (hrp : rp ≤ 4) (hic : ic ≤ 4) (x_value : Int32) (x_digits : Int32) (x_all : Int64) (x_kind : Int32) (x_last : Int32) (x_steps : Int32) (x_isRound : Int32) (x_tablesDone : Int32) (x_hash : Int64) (fmp : Nat → Int32) (v : Int64) (sz : Nat) : Met l yX12_letters (Cond.code yX12_letters cX12_letters 9 (some .int) :: gw_tbl) ({ frames := 0, cells := 0, slots := 0, locals := 0 }) (pc_M D cs [(m0, .inr (12, [.ref mp, .int (nI ms), .int (nI C), .int (nI P), .ref mw, .ref mh, .ref mo, .int (nI sS), .int x_value, .int x_digits, .int (nI rc), .int (nI rp), .int (nI ic), .ref m5, .ref m6, .ref m7, .long x_all, .int (nI mpn), .ref mk, .ref mn, .int x_kind, .ref mq, .ref m8, .ref m9, .int x_last, .int x_steps, .int x_isRound, .int x_tablesDone, .ref mz, .int (nI mrs), .ref mb, .ref md, .long x_hash])), (mp, .inl (cs 0, 90, .inl fmp))] sz [.ref m0, .long v]) (va_Qi (fun (r : Int32) (u : Unit) => True) (fun u t => ∃ (ms2 : Nat), ∃ (fmp2 : Nat → Int32), (ms2 ≤ 90) ∧ va_P D vwCl [(m0, .inr (12, [.ref mp, .int (nI ms2), .int (nI C), .int (nI P), .ref mw, .ref mh, .ref mo, .int (nI sS), .int x_value, .int x_digits, .int (nI rc), .int (nI rp), .int (nI ic), .ref m5, .ref m6, .ref m7, .long x_all, .int (nI mpn), .ref mk, .ref mn, .int x_kind, .ref mq, .ref m8, .ref m9, .int x_last, .int x_steps, .int x_isRound, .int x_tablesDone, .ref mz, .int (nI mrs), .ref mb, .ref md, .long x_hash])), (mp, .inl (cs 0, 90, .inl fmp2))] t.heap ∧ va_D (va_A [(m0, .inr (12, [.ref mp, .int (nI ms), .int (nI C), .int (nI P), .ref mw, .ref mh, .ref mo, .int (nI sS), .int x_value, .int x_digits, .int (nI rc), .int (nI rp), .int (nI ic), .ref m5, .ref m6, .ref m7, .long x_all, .int (nI mpn), .ref mk, .ref mn, .int x_kind, .ref mq, .ref m8, .ref m9, .int x_last, .int x_steps, .int x_isRound, .int x_tablesDone, .ref mz, .int (nI mrs), .ref mb, .ref md, .long x_hash])), (mp, .inl (cs 0, 90, .inl fmp))] sz) [(m0, .inr (12, [.ref mp, .int (nI ms2), .int (nI C), .int (nI P), .ref mw, .ref mh, .ref mo, .int (nI sS), .int x_value, .int x_digits, .int (nI rc), .int (nI rp), .int (nI ic), .ref m5, .ref m6, .ref m7, .long x_all, .int (nI mpn), .ref mk, .ref mn, .int x_kind, .ref mq, .ref m8, .ref m9, .int x_last, .int x_steps, .int x_isRound, .int x_tablesDone, .ref mz, .int (nI mrs), .ref mb, .ref md, .long x_hash])), (mp, .inl (cs 0, 90, .inl fmp2))]) (va_A [(m0, .inr (12, [.ref mp, .int (nI ms), .int (nI C), .int (nI P), .ref mw, .ref mh, .ref mo, .int (nI sS), .int x_value, .int x_digits, .int (nI rc), .int (nI rp), .int (nI ic), .ref m5, .ref m6, .ref m7, .long x_all, .int (nI mpn), .ref mk, .ref mn, .int x_kind, .ref mq, .ref m8, .ref m9, .int x_last, .int x_steps, .int x_isRound, .int x_tablesDone, .ref mz, .int (nI mrs), .ref mb, .ref md, .long x_hash])), (mp, .inl (cs 0, 90, .inl fmp))] sz)) 0 0 (va_A [(m0, .inr (12, [.ref mp, .int (nI ms), .int (nI C), .int (nI P), .ref mw, .ref mh, .ref mo, .int (nI sS), .int x_value, .int x_digits, .int (nI rc), .int (nI rp), .int (nI ic), .ref m5, .ref m6, .ref m7, .long x_all, .int (nI mpn), .ref mk, .ref mn, .int x_kind, .ref mq, .ref m8, .ref m9, .int x_last, .int x_steps, .int x_isRound, .int x_tablesDone, .ref mz, .int (nI mrs), .ref mb, .ref md, .long x_hash])), (mp, .inl (cs 0, 90, .inl fmp))] sz) := by
  refine Met.ofW (cc := cX12_letters) (maxL := 9) (ret := (some .int)) (by decide) rfl ?_
  intro p e s m args below meth c s₁ B hml hv
  obtain ⟨hargs, hsz, hP, hK, hD0⟩ := hv
  have hx := B.exec
  have hb := B.bytes
  have hr := B.returns
  have hts := atoms_spec (ws := Cond.code yX12_letters cX12_letters 9 (some .int) :: gw_tbl) B.pre
  have hg := fun (w : Cond) (h : w ∈ gw_tbl) => hts w (List.mem_cons_of_mem _ h)
  have hown : s.vm.findClass RX12 = some m.cls := findClass_of_methodNamed B.named
  have hlocks := B.notSynchronized
  subst hsz
  have hD := hD0.self (sz := s.heap.size)
  generalize hAe : va_A [(m0, .inr (12, [.ref mp, .int (nI ms), .int (nI C), .int (nI P), .ref mw, .ref mh, .ref mo, .int (nI sS), .int x_value, .int x_digits, .int (nI rc), .int (nI rp), .int (nI ic), .ref m5, .ref m6, .ref m7, .long x_all, .int (nI mpn), .ref mk, .ref mn, .int x_kind, .ref mq, .ref m8, .ref m9, .int x_last, .int x_steps, .int x_isRound, .int x_tablesDone, .ref mz, .int (nI mrs), .ref mb, .ref md, .long x_hash])), (mp, .inl (cs 0, 90, .inl fmp))] s.heap.size = A at hD ⊢
  have hA : ∀ q : Nat, s.heap.size ≤ q → A q := fun q h => by rw [← hAe]; exact Or.inr h
  have hS : va_S A s.heap s.heap [] := va_S.rf
  have hP : va_P D vwCl [(m0, .inr (12, [.ref mp, .int (nI ms), .int (nI C), .int (nI P), .ref mw, .ref mh, .ref mo, .int (nI sS), .int x_value, .int x_digits, .int (nI rc), .int (nI rp), .int (nI ic), .ref m5, .ref m6, .ref m7, .long x_all, .int (nI mpn), .ref mk, .ref mn, .int x_kind, .ref mq, .ref m8, .ref m9, .int x_last, .int x_steps, .int x_isRound, .int x_tablesDone, .ref mz, .int (nI mrs), .ref mb, .ref md, .long x_hash])), (mp, .inl (cs 0, 90, .inl fmp))] s.heap := hP
  have hl := lv_entry ([.ref m0, .long v]) (n := 9) (Nat.le_of_ble_eq_true rfl)
  rw [show entryFrame m args 9 = F0 m 0 (lg_sl ([.ref m0, .long v]) ++ List.replicate (9 - (lg_sl ([.ref m0, .long v])).length) Slot.unset).toArray [] from by rw [hargs]; exact lg_entry_eq ..]
  generalize (lg_sl ([.ref m0, .long v]) ++ List.replicate (9 - (lg_sl ([.ref m0, .long v])).length) Slot.unset).toArray = ls at hl ⊢
  have hl : lv_has ls 9 [(0, .ref m0), (1, .long v)] := hl
  refine W_genQ (fun Q hQ => ?_)
  have hlm := lim_le hP4
  have hlq := lim_pos P
  have hsg := sgn_le hP4
  refine lv_iconst (v := 0) hx hb dX12_letters_0 (by decide) ?_
  refine lv_istore_n (lv' := [(3, .int 0), (0, .ref m0), (1, .long v)]) hx hb dX12_letters_1 rfl hl (by decide) rfl (fun ls hl => ?_)
  refine lv_iconst (v := 1) hx hb dX12_letters_2 (by decide) ?_
  refine lv_istore (lv' := [(4, .int 1), (3, .int 0), (0, .ref m0), (1, .long v)]) hx hb dX12_letters_3 hl (by decide) rfl (fun ls hl => ?_)
  refine lv_lload_n hx hb dX12_letters_5 rfl (lv_at hl 3 rfl) ?_
  refine lv_lstore (lv' := [(5, .long v), (4, .int 1), (3, .int 0), (0, .ref m0), (1, .long v)]) hx hb dX12_letters_6 hl (by decide) rfl (fun ls hl => ?_)
  refine lv_iconst (v := 0) hx hb dX12_letters_8 (by decide) ?_
  refine lv_istore (lv' := [(7, .int 0), (5, .long v), (4, .int 1), (3, .int 0), (0, .ref m0), (1, .long v)]) hx hb dX12_letters_9 hl (by decide) rfl (fun ls hl => ?_)
  have LOOP11 : ∀ (n11 : Nat) (mm : Nat) (u4_11 : Int32) (u5_11 : Int64) (k : Nat), k ≤ 8 → mm ≤ k → 8 - k < n11 → ∀ (H : Heap) (locs : List Loc) (ls : Array Slot), va_P D vwCl [(m0, .inr (12, [.ref mp, .int (nI ms), .int (nI C), .int (nI P), .ref mw, .ref mh, .ref mo, .int (nI sS), .int x_value, .int x_digits, .int (nI rc), .int (nI rp), .int (nI ic), .ref m5, .ref m6, .ref m7, .long x_all, .int (nI mpn), .ref mk, .ref mn, .int x_kind, .ref mq, .ref m8, .ref m9, .int x_last, .int x_steps, .int x_isRound, .int x_tablesDone, .ref mz, .int (nI mrs), .ref mb, .ref md, .long x_hash])), (mp, .inl (cs 0, 90, .inl fmp))] H → va_D A [(m0, .inr (12, [.ref mp, .int (nI ms), .int (nI C), .int (nI P), .ref mw, .ref mh, .ref mo, .int (nI sS), .int x_value, .int x_digits, .int (nI rc), .int (nI rp), .int (nI ic), .ref m5, .ref m6, .ref m7, .long x_all, .int (nI mpn), .ref mk, .ref mn, .int x_kind, .ref mq, .ref m8, .ref m9, .int x_last, .int x_steps, .int x_isRound, .int x_tablesDone, .ref mz, .int (nI mrs), .ref mb, .ref md, .long x_hash])), (mp, .inl (cs 0, 90, .inl fmp))] → va_S A s.heap H locs → lv_has ls 9 [(0, .ref m0), (1, .long v), (3, .int (nI mm)), (4, .int u4_11), (5, .long u5_11), (7, .int (nI k))] → W p l e ({ frames := 0, cells := 0, slots := 0, locals := 0 } : Room) s m args below meth c H locs 0 0 Q (F0 m 11 ls []) := by
    intro n11
    induction n11 with
    | zero =>
      intro mm u4_11 u5_11 k hk hmm hn11 H locs ls hP hD hS hl
      exact absurd hn11 (Nat.not_lt_zero _)
    | succ n11 ih11 =>
      intro mm u4_11 u5_11 k hk hmm hn11 H locs ls hP hD hS hl
      refine lv_iload hx hb dX12_letters_11 (lv_at hl 5 rfl) ?_
      refine lv_bipush (v := 8) hx hb dX12_letters_13 (by decide) ?_
      refine lv_icmp_ge (tgt := 83) hx hb dX12_letters_15 (by decide) (fun c_15 => ?_) (fun c_15 => ?_)
      · have n_15 : 8 ≤ k := b_le_t (by omega) (by omega) c_15
        refine lv_iload hx hb dX12_letters_83 (lv_at hl 3 rfl) ?_
        refine lv_if_ne (tgt := 91) hx hb dX12_letters_85 (by decide) (fun c_85 => ?_) (fun c_85 => ?_)
        · refine lv_aload_n hx hb dX12_letters_91 rfl (lv_at hl 0 rfl) ?_
          refine va_get (D := D) (ci := 12) (v := .int (nI ms)) (C := RX12) (T := TX12) (N := 33) hx hb hg gwX12 hown hK hP 0 rfl rfl 1 (by decide) (hg _ kw_397) (fun _ h9 => h9) rfl dX12_letters_92 ?_
          refine lv_iload_n hx hb dX12_letters_95 rfl (lv_at hl 2 rfl) ?_
          refine lv_iadd hx hb dX12_letters_96 ?_
          refine lv_topi (fun z_96 e_96 => ?_)
          obtain rfl : z_96 = nI (ms + mm) := e_96.trans (nI_add _ _)
          refine lv_bipush (v := 90) hx hb dX12_letters_97 (by decide) ?_
          refine lv_icmp_le (tgt := 105) hx hb dX12_letters_99 (by decide) (fun c_99 => ?_) (fun c_99 => ?_)
          · have n_99 : ms + mm ≤ 90 := b_le_t (by omega) (by omega) c_99
            refine lv_iconst (v := 0) hx hb dX12_letters_105 (by decide) ?_
            refine lv_istore (lv' := [(7, .int 0), (0, .ref m0), (1, .long v), (3, .int (nI mm)), (4, .int u4_11), (5, .long u5_11)]) hx hb dX12_letters_106 hl (by decide) rfl (fun ls hl => ?_)
            have LOOP108 : ∀ (n108 : Nat) (j9 : Nat) (fmp_108 : Nat → Int32) (mj : Nat), j9 ≤ mm → mj + (mm - j9) ≤ 90 → mm - j9 < n108 → ∀ (H : Heap) (locs : List Loc) (ls : Array Slot), va_P D vwCl [(m0, .inr (12, [.ref mp, .int (nI mj), .int (nI C), .int (nI P), .ref mw, .ref mh, .ref mo, .int (nI sS), .int x_value, .int x_digits, .int (nI rc), .int (nI rp), .int (nI ic), .ref m5, .ref m6, .ref m7, .long x_all, .int (nI mpn), .ref mk, .ref mn, .int x_kind, .ref mq, .ref m8, .ref m9, .int x_last, .int x_steps, .int x_isRound, .int x_tablesDone, .ref mz, .int (nI mrs), .ref mb, .ref md, .long x_hash])), (mp, .inl (cs 0, 90, .inl fmp_108))] H → va_D A [(m0, .inr (12, [.ref mp, .int (nI mj), .int (nI C), .int (nI P), .ref mw, .ref mh, .ref mo, .int (nI sS), .int x_value, .int x_digits, .int (nI rc), .int (nI rp), .int (nI ic), .ref m5, .ref m6, .ref m7, .long x_all, .int (nI mpn), .ref mk, .ref mn, .int x_kind, .ref mq, .ref m8, .ref m9, .int x_last, .int x_steps, .int x_isRound, .int x_tablesDone, .ref mz, .int (nI mrs), .ref mb, .ref md, .long x_hash])), (mp, .inl (cs 0, 90, .inl fmp_108))] → va_S A s.heap H locs → lv_has ls 9 [(0, .ref m0), (1, .long v), (3, .int (nI mm)), (4, .int u4_11), (5, .long u5_11), (7, .int (nI j9))] → W p l e ({ frames := 0, cells := 0, slots := 0, locals := 0 } : Room) s m args below meth c H locs 0 0 Q (F0 m 108 ls []) := by
              intro n108
              induction n108 with
              | zero =>
                intro j9 fmp_108 mj hj hsj hn108 H locs ls hP hD hS hl
                exact absurd hn108 (Nat.not_lt_zero _)
              | succ n108 ih108 =>
                intro j9 fmp_108 mj hj hsj hn108 H locs ls hP hD hS hl
                refine lv_iload hx hb dX12_letters_108 (lv_at hl 5 rfl) ?_
                refine lv_iload_n hx hb dX12_letters_110 rfl (lv_at hl 2 rfl) ?_
                refine lv_icmp_ge (tgt := 151) hx hb dX12_letters_111 (by decide) (fun c_111 => ?_) (fun c_111 => ?_)
                · have n_111 : mm ≤ j9 := b_le_t (by omega) (by omega) c_111
                  refine lv_aload_n hx hb dX12_letters_151 rfl (lv_at hl 0 rfl) ?_
                  refine va_get (D := D) (ci := 12) (v := .int (nI mj)) (C := RX12) (T := TX12) (N := 33) hx hb hg gwX12 hown hK hP 0 rfl rfl 1 (by decide) (hg _ kw_397) (fun _ h9 => h9) rfl dX12_letters_152 ?_
                  refine W_sQ hQ ?_
                  refine W.widen (k := 0) (n := 0) (Nat.le_of_ble_eq_true rfl) (Nat.le_of_ble_eq_true rfl) ?_
                  have hP9 := hP.sub (ws' := [(m0, .inr (12, [.ref mp, .int (nI mj), .int (nI C), .int (nI P), .ref mw, .ref mh, .ref mo, .int (nI sS), .int x_value, .int x_digits, .int (nI rc), .int (nI rp), .int (nI ic), .ref m5, .ref m6, .ref m7, .long x_all, .int (nI mpn), .ref mk, .ref mn, .int x_kind, .ref mq, .ref m8, .ref m9, .int x_last, .int x_steps, .int x_isRound, .int x_tablesDone, .ref mz, .int (nI mrs), .ref mb, .ref md, .long x_hash])), (mp, .inl (cs 0, 90, .inl fmp_108))]) [0, 1] rfl
                  have hD9 := hD.sub (ws' := [(m0, .inr (12, [.ref mp, .int (nI mj), .int (nI C), .int (nI P), .ref mw, .ref mh, .ref mo, .int (nI sS), .int x_value, .int x_digits, .int (nI rc), .int (nI rp), .int (nI ic), .ref m5, .ref m6, .ref m7, .long x_all, .int (nI mpn), .ref mk, .ref mn, .int x_kind, .ref mq, .ref m8, .ref m9, .int x_last, .int x_steps, .int x_isRound, .int x_tablesDone, .ref mz, .int (nI mrs), .ref mb, .ref md, .long x_hash])), (mp, .inl (cs 0, 90, .inl fmp_108))]) [0, 1] (by decide) rfl
                  exact W.iret (v := (nI mj)) hx hb hr (fun t ht hW => ⟨⟨(nI mj), (), rfl, trivial, ⟨mj, fmp_108, (by omega), by rw [ht]; exact hP9, hD9⟩⟩, hS.F ht⟩) hS.2.2 dX12_letters_155
                · have n_111 : j9 < mm := b_le_f (by omega) (by omega) c_111
                  refine lv_aload_n hx hb dX12_letters_114 rfl (lv_at hl 0 rfl) ?_
                  refine va_get (D := D) (ci := 12) (v := .ref mp) (C := RX12) (T := TX12) (N := 33) hx hb hg gwX12 hown hK hP 0 rfl rfl 0 (by decide) (hg _ kw_476) (fun _ h9 => h9) rfl dX12_letters_115 ?_
                  refine lv_aload_n hx hb dX12_letters_118 rfl (lv_at hl 0 rfl) ?_
                  refine va_get (D := D) (ci := 12) (v := .int (nI mj)) (C := RX12) (T := TX12) (N := 33) hx hb hg gwX12 hown hK hP 0 rfl rfl 1 (by decide) (hg _ kw_397) (fun _ h9 => h9) rfl dX12_letters_119 ?_
                  refine lv_lload_n hx hb dX12_letters_122 rfl (lv_at hl 1 rfl) ?_
                  refine lv_bipush (v := 8) hx hb dX12_letters_123 (by decide) ?_
                  refine lv_iload hx hb dX12_letters_125 (lv_at hl 5 rfl) ?_
                  refine lv_imul hx hb dX12_letters_127 ?_
                  refine lv_topi (fun z_127 e_127 => ?_)
                  obtain rfl : z_127 = nI (8 * j9) := e_127.trans (pk_mul _ _)
                  refine lv_lushr hx hb dX12_letters_128 rfl ?_
                  refine lv_topl (fun z_128 e_128 => ?_)
                  refine lv_ldc2 hx hb hown (hg _ kw_477) dX12_letters_129 ?_
                  refine lv_land hx hb dX12_letters_132 ?_
                  refine lv_topl (fun z_132 e_132 => ?_)
                  refine lv_l2i hx hb dX12_letters_133 rfl ?_
                  refine lv_topi (fun z_133 e_133 => ?_)
                  refine va_iast hx hb hK hP hD hS 1 0 rfl rfl (vp_in_nI (show mj < 90 by omega) (by decide)) dX12_letters_134 (fun H locs hP hD hS => ?_)
                  obtain ⟨f_134, hf_134⟩ : ∃ f9, f9 = (upd fmp_108 (nI mj).toNatClampNeg z_133) := ⟨_, rfl⟩
                  rw [← hf_134] at hP hD
                  have hP : va_P D vwCl [(m0, .inr (12, [.ref mp, .int (nI mj), .int (nI C), .int (nI P), .ref mw, .ref mh, .ref mo, .int (nI sS), .int x_value, .int x_digits, .int (nI rc), .int (nI rp), .int (nI ic), .ref m5, .ref m6, .ref m7, .long x_all, .int (nI mpn), .ref mk, .ref mn, .int x_kind, .ref mq, .ref m8, .ref m9, .int x_last, .int x_steps, .int x_isRound, .int x_tablesDone, .ref mz, .int (nI mrs), .ref mb, .ref md, .long x_hash])), (mp, .inl (cs 0, 90, .inl f_134))] H := hP
                  have hD : va_D A [(m0, .inr (12, [.ref mp, .int (nI mj), .int (nI C), .int (nI P), .ref mw, .ref mh, .ref mo, .int (nI sS), .int x_value, .int x_digits, .int (nI rc), .int (nI rp), .int (nI ic), .ref m5, .ref m6, .ref m7, .long x_all, .int (nI mpn), .ref mk, .ref mn, .int x_kind, .ref mq, .ref m8, .ref m9, .int x_last, .int x_steps, .int x_isRound, .int x_tablesDone, .ref mz, .int (nI mrs), .ref mb, .ref md, .long x_hash])), (mp, .inl (cs 0, 90, .inl f_134))] := hD
                  refine lv_aload_n hx hb dX12_letters_135 rfl (lv_at hl 0 rfl) ?_
                  refine lv_dup hx hb dX12_letters_136 rfl ?_
                  refine va_get (D := D) (ci := 12) (v := .int (nI mj)) (C := RX12) (T := TX12) (N := 33) hx hb hg gwX12 hown hK hP 0 rfl rfl 1 (by decide) (hg _ kw_397) (fun _ h9 => h9) rfl dX12_letters_137 ?_
                  refine lv_iconst (v := 1) hx hb dX12_letters_140 (by decide) ?_
                  refine lv_iadd hx hb dX12_letters_141 ?_
                  refine lv_topi (fun z_141 e_141 => ?_)
                  obtain rfl : z_141 = nI (mj + 1) := e_141.trans (nI_add _ _)
                  refine va_put (D := D) (ci := 12) (v := .int (nI (mj + 1))) (ty := .int) (C := RX12) (T := TX12) (N := 33) hx hb hg gwX12 tyX12 tyX12_ok nmX12 hown hK hP hD hS 0 rfl rfl 1 (by decide) (hg _ kw_397) (fun _ h9 => h9) rfl (by decide +kernel) rfl rfl (Nat.le_of_ble_eq_true rfl) dX12_letters_142 (fun H locs hP hD hS => ?_)
                  have hP : va_P D vwCl [(m0, .inr (12, [.ref mp, .int (nI (mj + 1)), .int (nI C), .int (nI P), .ref mw, .ref mh, .ref mo, .int (nI sS), .int x_value, .int x_digits, .int (nI rc), .int (nI rp), .int (nI ic), .ref m5, .ref m6, .ref m7, .long x_all, .int (nI mpn), .ref mk, .ref mn, .int x_kind, .ref mq, .ref m8, .ref m9, .int x_last, .int x_steps, .int x_isRound, .int x_tablesDone, .ref mz, .int (nI mrs), .ref mb, .ref md, .long x_hash])), (mp, .inl (cs 0, 90, .inl f_134))] H := hP
                  have hD : va_D A [(m0, .inr (12, [.ref mp, .int (nI (mj + 1)), .int (nI C), .int (nI P), .ref mw, .ref mh, .ref mo, .int (nI sS), .int x_value, .int x_digits, .int (nI rc), .int (nI rp), .int (nI ic), .ref m5, .ref m6, .ref m7, .long x_all, .int (nI mpn), .ref mk, .ref mn, .int x_kind, .ref mq, .ref m8, .ref m9, .int x_last, .int x_steps, .int x_isRound, .int x_tablesDone, .ref mz, .int (nI mrs), .ref mb, .ref md, .long x_hash])), (mp, .inl (cs 0, 90, .inl f_134))] := hD
                  refine lv_iinc (v := (nI (j9 + 1))) (lv' := [(7, .int (nI (j9 + 1))), (0, .ref m0), (1, .long v), (3, .int (nI mm)), (4, .int u4_11), (5, .long u5_11)]) hx hb dX12_letters_145 hl (k := 5) rfl (nI_add j9 1) (by decide) rfl (fun ls hl => ?_)
                  refine lv_goto (tgt := 108) hx hb dX12_letters_148 (by decide) ?_
                  exact ih108 (j9 + 1) f_134 (mj + 1) (by omega) (by omega) (by omega) _ _ ls hP hD hS (lv_sub hl [1, 2, 3, 4, 5, 0] rfl)
            exact LOOP108 (mm - 0 + 1) 0 fmp ms (by omega) (by omega) (Nat.lt_succ_self _) _ _ ls hP hD hS (lv_sub hl [1, 2, 3, 4, 5, 0] rfl)
          · have n_99 : 90 < ms + mm := b_le_f (by omega) (by omega) c_99
            refine lv_bipush (v := (-104)) hx hb dX12_letters_102 (by decide) ?_
            refine W_sQ hQ ?_
            refine W.widen (k := 0) (n := 0) (Nat.le_of_ble_eq_true rfl) (Nat.le_of_ble_eq_true rfl) ?_
            have hP9 := hP.sub (ws' := [(m0, .inr (12, [.ref mp, .int (nI ms), .int (nI C), .int (nI P), .ref mw, .ref mh, .ref mo, .int (nI sS), .int x_value, .int x_digits, .int (nI rc), .int (nI rp), .int (nI ic), .ref m5, .ref m6, .ref m7, .long x_all, .int (nI mpn), .ref mk, .ref mn, .int x_kind, .ref mq, .ref m8, .ref m9, .int x_last, .int x_steps, .int x_isRound, .int x_tablesDone, .ref mz, .int (nI mrs), .ref mb, .ref md, .long x_hash])), (mp, .inl (cs 0, 90, .inl fmp))]) [0, 1] rfl
            have hD9 := hD.sub (ws' := [(m0, .inr (12, [.ref mp, .int (nI ms), .int (nI C), .int (nI P), .ref mw, .ref mh, .ref mo, .int (nI sS), .int x_value, .int x_digits, .int (nI rc), .int (nI rp), .int (nI ic), .ref m5, .ref m6, .ref m7, .long x_all, .int (nI mpn), .ref mk, .ref mn, .int x_kind, .ref mq, .ref m8, .ref m9, .int x_last, .int x_steps, .int x_isRound, .int x_tablesDone, .ref mz, .int (nI mrs), .ref mb, .ref md, .long x_hash])), (mp, .inl (cs 0, 90, .inl fmp))]) [0, 1] (by decide) rfl
            exact W.iret (v := (-104)) hx hb hr (fun t ht hW => ⟨⟨(-104), (), rfl, trivial, ⟨ms, fmp, (by omega), by rw [ht]; exact hP9, hD9⟩⟩, hS.F ht⟩) hS.2.2 dX12_letters_104
        · refine lv_bipush (v := (-102)) hx hb dX12_letters_88 (by decide) ?_
          refine W_sQ hQ ?_
          refine W.widen (k := 0) (n := 0) (Nat.le_of_ble_eq_true rfl) (Nat.le_of_ble_eq_true rfl) ?_
          have hP9 := hP.sub (ws' := [(m0, .inr (12, [.ref mp, .int (nI ms), .int (nI C), .int (nI P), .ref mw, .ref mh, .ref mo, .int (nI sS), .int x_value, .int x_digits, .int (nI rc), .int (nI rp), .int (nI ic), .ref m5, .ref m6, .ref m7, .long x_all, .int (nI mpn), .ref mk, .ref mn, .int x_kind, .ref mq, .ref m8, .ref m9, .int x_last, .int x_steps, .int x_isRound, .int x_tablesDone, .ref mz, .int (nI mrs), .ref mb, .ref md, .long x_hash])), (mp, .inl (cs 0, 90, .inl fmp))]) [0, 1] rfl
          have hD9 := hD.sub (ws' := [(m0, .inr (12, [.ref mp, .int (nI ms), .int (nI C), .int (nI P), .ref mw, .ref mh, .ref mo, .int (nI sS), .int x_value, .int x_digits, .int (nI rc), .int (nI rp), .int (nI ic), .ref m5, .ref m6, .ref m7, .long x_all, .int (nI mpn), .ref mk, .ref mn, .int x_kind, .ref mq, .ref m8, .ref m9, .int x_last, .int x_steps, .int x_isRound, .int x_tablesDone, .ref mz, .int (nI mrs), .ref mb, .ref md, .long x_hash])), (mp, .inl (cs 0, 90, .inl fmp))]) [0, 1] (by decide) rfl
          exact W.iret (v := (-102)) hx hb hr (fun t ht hW => ⟨⟨(-102), (), rfl, trivial, ⟨ms, fmp, (by omega), by rw [ht]; exact hP9, hD9⟩⟩, hS.F ht⟩) hS.2.2 dX12_letters_90
      · have n_15 : k < 8 := b_le_f (by omega) (by omega) c_15
        refine lv_lload hx hb dX12_letters_18 (lv_at hl 4 rfl) ?_
        refine lv_ldc2 hx hb hown (hg _ kw_477) dX12_letters_20 ?_
        refine lv_land hx hb dX12_letters_23 ?_
        refine lv_topl (fun z_23 e_23 => ?_)
        refine lv_l2i hx hb dX12_letters_24 rfl ?_
        refine lv_topi (fun z_24 e_24 => ?_)
        refine lv_istore (lv' := [(8, .int z_24), (0, .ref m0), (1, .long v), (3, .int (nI mm)), (4, .int u4_11), (5, .long u5_11), (7, .int (nI k))]) hx hb dX12_letters_25 hl (by decide) rfl (fun ls hl => ?_)
        refine lv_lload hx hb dX12_letters_27 (lv_at hl 5 rfl) ?_
        refine lv_bipush (v := 8) hx hb dX12_letters_29 (by decide) ?_
        refine lv_lushr hx hb dX12_letters_31 rfl ?_
        refine lv_topl (fun z_31 e_31 => ?_)
        refine lv_lstore (lv' := [(5, .long z_31), (8, .int z_24), (0, .ref m0), (1, .long v), (3, .int (nI mm)), (4, .int u4_11), (7, .int (nI k))]) hx hb dX12_letters_32 hl (by decide) rfl (fun ls hl => ?_)
        refine lv_iload hx hb dX12_letters_34 (lv_at hl 5 rfl) ?_
        refine lv_if_eq (tgt := 61) hx hb dX12_letters_36 (by decide) (fun c_36 => ?_) (fun c_36 => ?_)
        · refine lv_iconst (v := 0) hx hb dX12_letters_61 (by decide) ?_
          refine lv_istore (lv' := [(4, .int 0), (5, .long z_31), (8, .int z_24), (0, .ref m0), (1, .long v), (3, .int (nI mm)), (7, .int (nI k))]) hx hb dX12_letters_62 hl (by decide) rfl (fun ls hl => ?_)
          refine lv_iload_n hx hb dX12_letters_64 rfl (lv_at hl 5 rfl) ?_
          refine lv_iload hx hb dX12_letters_65 (lv_at hl 2 rfl) ?_
          refine lv_if_le (tgt := 74) hx hb dX12_letters_67 (by decide) (fun c_67 => ?_) (fun c_67 => ?_)
          · refine lv_iconst (v := 0) hx hb dX12_letters_74 (by decide) ?_
            refine lv_iadd hx hb dX12_letters_75 ?_
            refine lv_topi (fun z_75 e_75 => ?_)
            obtain rfl : z_75 = nI (mm + 0) := e_75.trans (nI_add _ _)
            refine lv_istore_n (lv' := [(3, .int (nI (mm + 0))), (4, .int 0), (5, .long z_31), (8, .int z_24), (0, .ref m0), (1, .long v), (7, .int (nI k))]) hx hb dX12_letters_76 rfl hl (by decide) rfl (fun ls hl => ?_)
            refine lv_iinc (v := (nI (k + 1))) (lv' := [(7, .int (nI (k + 1))), (3, .int (nI (mm + 0))), (4, .int 0), (5, .long z_31), (8, .int z_24), (0, .ref m0), (1, .long v)]) hx hb dX12_letters_77 hl (k := 6) rfl (nI_add k 1) (by decide) rfl (fun ls hl => ?_)
            refine lv_goto (tgt := 11) hx hb dX12_letters_80 (by decide) ?_
            exact ih11 (mm + 0) 0 z_31 (k + 1) (by omega) (by omega) (by omega) _ _ ls hP hD hS (lv_sub hl [5, 6, 1, 2, 3, 0] rfl)
          · refine lv_iconst (v := 1) hx hb dX12_letters_70 (by decide) ?_
            refine lv_goto (tgt := 75) hx hb dX12_letters_71 (by decide) ?_
            refine lv_iadd hx hb dX12_letters_75 ?_
            refine lv_topi (fun z_75 e_75 => ?_)
            obtain rfl : z_75 = nI (mm + 1) := e_75.trans (nI_add _ _)
            refine lv_istore_n (lv' := [(3, .int (nI (mm + 1))), (4, .int 0), (5, .long z_31), (8, .int z_24), (0, .ref m0), (1, .long v), (7, .int (nI k))]) hx hb dX12_letters_76 rfl hl (by decide) rfl (fun ls hl => ?_)
            refine lv_iinc (v := (nI (k + 1))) (lv' := [(7, .int (nI (k + 1))), (3, .int (nI (mm + 1))), (4, .int 0), (5, .long z_31), (8, .int z_24), (0, .ref m0), (1, .long v)]) hx hb dX12_letters_77 hl (k := 6) rfl (nI_add k 1) (by decide) rfl (fun ls hl => ?_)
            refine lv_goto (tgt := 11) hx hb dX12_letters_80 (by decide) ?_
            exact ih11 (mm + 1) 0 z_31 (k + 1) (by omega) (by omega) (by omega) _ _ ls hP hD hS (lv_sub hl [5, 6, 1, 2, 3, 0] rfl)
        · refine lv_iload hx hb dX12_letters_39 (lv_at hl 1 rfl) ?_
          refine lv_bipush (v := 126) hx hb dX12_letters_41 (by decide) ?_
          refine lv_icmp_gt (tgt := 61) hx hb dX12_letters_43 (by decide) (fun c_43 => ?_) (fun c_43 => ?_)
          · refine lv_iconst (v := 0) hx hb dX12_letters_61 (by decide) ?_
            refine lv_istore (lv' := [(4, .int 0), (5, .long z_31), (8, .int z_24), (0, .ref m0), (1, .long v), (3, .int (nI mm)), (7, .int (nI k))]) hx hb dX12_letters_62 hl (by decide) rfl (fun ls hl => ?_)
            refine lv_iload_n hx hb dX12_letters_64 rfl (lv_at hl 5 rfl) ?_
            refine lv_iload hx hb dX12_letters_65 (lv_at hl 2 rfl) ?_
            refine lv_if_le (tgt := 74) hx hb dX12_letters_67 (by decide) (fun c_67 => ?_) (fun c_67 => ?_)
            · refine lv_iconst (v := 0) hx hb dX12_letters_74 (by decide) ?_
              refine lv_iadd hx hb dX12_letters_75 ?_
              refine lv_topi (fun z_75 e_75 => ?_)
              obtain rfl : z_75 = nI (mm + 0) := e_75.trans (nI_add _ _)
              refine lv_istore_n (lv' := [(3, .int (nI (mm + 0))), (4, .int 0), (5, .long z_31), (8, .int z_24), (0, .ref m0), (1, .long v), (7, .int (nI k))]) hx hb dX12_letters_76 rfl hl (by decide) rfl (fun ls hl => ?_)
              refine lv_iinc (v := (nI (k + 1))) (lv' := [(7, .int (nI (k + 1))), (3, .int (nI (mm + 0))), (4, .int 0), (5, .long z_31), (8, .int z_24), (0, .ref m0), (1, .long v)]) hx hb dX12_letters_77 hl (k := 6) rfl (nI_add k 1) (by decide) rfl (fun ls hl => ?_)
              refine lv_goto (tgt := 11) hx hb dX12_letters_80 (by decide) ?_
              exact ih11 (mm + 0) 0 z_31 (k + 1) (by omega) (by omega) (by omega) _ _ ls hP hD hS (lv_sub hl [5, 6, 1, 2, 3, 0] rfl)
            · refine lv_iconst (v := 1) hx hb dX12_letters_70 (by decide) ?_
              refine lv_goto (tgt := 75) hx hb dX12_letters_71 (by decide) ?_
              refine lv_iadd hx hb dX12_letters_75 ?_
              refine lv_topi (fun z_75 e_75 => ?_)
              obtain rfl : z_75 = nI (mm + 1) := e_75.trans (nI_add _ _)
              refine lv_istore_n (lv' := [(3, .int (nI (mm + 1))), (4, .int 0), (5, .long z_31), (8, .int z_24), (0, .ref m0), (1, .long v), (7, .int (nI k))]) hx hb dX12_letters_76 rfl hl (by decide) rfl (fun ls hl => ?_)
              refine lv_iinc (v := (nI (k + 1))) (lv' := [(7, .int (nI (k + 1))), (3, .int (nI (mm + 1))), (4, .int 0), (5, .long z_31), (8, .int z_24), (0, .ref m0), (1, .long v)]) hx hb dX12_letters_77 hl (k := 6) rfl (nI_add k 1) (by decide) rfl (fun ls hl => ?_)
              refine lv_goto (tgt := 11) hx hb dX12_letters_80 (by decide) ?_
              exact ih11 (mm + 1) 0 z_31 (k + 1) (by omega) (by omega) (by omega) _ _ ls hP hD hS (lv_sub hl [5, 6, 1, 2, 3, 0] rfl)
          · refine lv_iload hx hb dX12_letters_46 (lv_at hl 1 rfl) ?_
            refine lv_if_eq (tgt := 57) hx hb dX12_letters_48 (by decide) (fun c_48 => ?_) (fun c_48 => ?_)
            · refine lv_iconst (v := 1) hx hb dX12_letters_57 (by decide) ?_
              refine lv_goto (tgt := 62) hx hb dX12_letters_58 (by decide) ?_
              refine lv_istore (lv' := [(4, .int 1), (5, .long z_31), (8, .int z_24), (0, .ref m0), (1, .long v), (3, .int (nI mm)), (7, .int (nI k))]) hx hb dX12_letters_62 hl (by decide) rfl (fun ls hl => ?_)
              refine lv_iload_n hx hb dX12_letters_64 rfl (lv_at hl 5 rfl) ?_
              refine lv_iload hx hb dX12_letters_65 (lv_at hl 2 rfl) ?_
              refine lv_if_le (tgt := 74) hx hb dX12_letters_67 (by decide) (fun c_67 => ?_) (fun c_67 => ?_)
              · refine lv_iconst (v := 0) hx hb dX12_letters_74 (by decide) ?_
                refine lv_iadd hx hb dX12_letters_75 ?_
                refine lv_topi (fun z_75 e_75 => ?_)
                obtain rfl : z_75 = nI (mm + 0) := e_75.trans (nI_add _ _)
                refine lv_istore_n (lv' := [(3, .int (nI (mm + 0))), (4, .int 1), (5, .long z_31), (8, .int z_24), (0, .ref m0), (1, .long v), (7, .int (nI k))]) hx hb dX12_letters_76 rfl hl (by decide) rfl (fun ls hl => ?_)
                refine lv_iinc (v := (nI (k + 1))) (lv' := [(7, .int (nI (k + 1))), (3, .int (nI (mm + 0))), (4, .int 1), (5, .long z_31), (8, .int z_24), (0, .ref m0), (1, .long v)]) hx hb dX12_letters_77 hl (k := 6) rfl (nI_add k 1) (by decide) rfl (fun ls hl => ?_)
                refine lv_goto (tgt := 11) hx hb dX12_letters_80 (by decide) ?_
                exact ih11 (mm + 0) 1 z_31 (k + 1) (by omega) (by omega) (by omega) _ _ ls hP hD hS (lv_sub hl [5, 6, 1, 2, 3, 0] rfl)
              · refine lv_iconst (v := 1) hx hb dX12_letters_70 (by decide) ?_
                refine lv_goto (tgt := 75) hx hb dX12_letters_71 (by decide) ?_
                refine lv_iadd hx hb dX12_letters_75 ?_
                refine lv_topi (fun z_75 e_75 => ?_)
                obtain rfl : z_75 = nI (mm + 1) := e_75.trans (nI_add _ _)
                refine lv_istore_n (lv' := [(3, .int (nI (mm + 1))), (4, .int 1), (5, .long z_31), (8, .int z_24), (0, .ref m0), (1, .long v), (7, .int (nI k))]) hx hb dX12_letters_76 rfl hl (by decide) rfl (fun ls hl => ?_)
                refine lv_iinc (v := (nI (k + 1))) (lv' := [(7, .int (nI (k + 1))), (3, .int (nI (mm + 1))), (4, .int 1), (5, .long z_31), (8, .int z_24), (0, .ref m0), (1, .long v)]) hx hb dX12_letters_77 hl (k := 6) rfl (nI_add k 1) (by decide) rfl (fun ls hl => ?_)
                refine lv_goto (tgt := 11) hx hb dX12_letters_80 (by decide) ?_
                exact ih11 (mm + 1) 1 z_31 (k + 1) (by omega) (by omega) (by omega) _ _ ls hP hD hS (lv_sub hl [5, 6, 1, 2, 3, 0] rfl)
            · refine lv_iload_n hx hb dX12_letters_51 rfl (lv_at hl 4 rfl) ?_
              refine lv_iload hx hb dX12_letters_52 (lv_at hl 6 rfl) ?_
              refine lv_icmp_ne (tgt := 61) hx hb dX12_letters_54 (by decide) (fun c_54 => ?_) (fun c_54 => ?_)
              · have n_54 : ¬ mm = k := b_eq_f (by omega) (by omega) c_54
                refine lv_iconst (v := 0) hx hb dX12_letters_61 (by decide) ?_
                refine lv_istore (lv' := [(4, .int 0), (5, .long z_31), (8, .int z_24), (0, .ref m0), (1, .long v), (3, .int (nI mm)), (7, .int (nI k))]) hx hb dX12_letters_62 hl (by decide) rfl (fun ls hl => ?_)
                refine lv_iload_n hx hb dX12_letters_64 rfl (lv_at hl 5 rfl) ?_
                refine lv_iload hx hb dX12_letters_65 (lv_at hl 2 rfl) ?_
                refine lv_if_le (tgt := 74) hx hb dX12_letters_67 (by decide) (fun c_67 => ?_) (fun c_67 => ?_)
                · refine lv_iconst (v := 0) hx hb dX12_letters_74 (by decide) ?_
                  refine lv_iadd hx hb dX12_letters_75 ?_
                  refine lv_topi (fun z_75 e_75 => ?_)
                  obtain rfl : z_75 = nI (mm + 0) := e_75.trans (nI_add _ _)
                  refine lv_istore_n (lv' := [(3, .int (nI (mm + 0))), (4, .int 0), (5, .long z_31), (8, .int z_24), (0, .ref m0), (1, .long v), (7, .int (nI k))]) hx hb dX12_letters_76 rfl hl (by decide) rfl (fun ls hl => ?_)
                  refine lv_iinc (v := (nI (k + 1))) (lv' := [(7, .int (nI (k + 1))), (3, .int (nI (mm + 0))), (4, .int 0), (5, .long z_31), (8, .int z_24), (0, .ref m0), (1, .long v)]) hx hb dX12_letters_77 hl (k := 6) rfl (nI_add k 1) (by decide) rfl (fun ls hl => ?_)
                  refine lv_goto (tgt := 11) hx hb dX12_letters_80 (by decide) ?_
                  exact ih11 (mm + 0) 0 z_31 (k + 1) (by omega) (by omega) (by omega) _ _ ls hP hD hS (lv_sub hl [5, 6, 1, 2, 3, 0] rfl)
                · refine lv_iconst (v := 1) hx hb dX12_letters_70 (by decide) ?_
                  refine lv_goto (tgt := 75) hx hb dX12_letters_71 (by decide) ?_
                  refine lv_iadd hx hb dX12_letters_75 ?_
                  refine lv_topi (fun z_75 e_75 => ?_)
                  obtain rfl : z_75 = nI (mm + 1) := e_75.trans (nI_add _ _)
                  refine lv_istore_n (lv' := [(3, .int (nI (mm + 1))), (4, .int 0), (5, .long z_31), (8, .int z_24), (0, .ref m0), (1, .long v), (7, .int (nI k))]) hx hb dX12_letters_76 rfl hl (by decide) rfl (fun ls hl => ?_)
                  refine lv_iinc (v := (nI (k + 1))) (lv' := [(7, .int (nI (k + 1))), (3, .int (nI (mm + 1))), (4, .int 0), (5, .long z_31), (8, .int z_24), (0, .ref m0), (1, .long v)]) hx hb dX12_letters_77 hl (k := 6) rfl (nI_add k 1) (by decide) rfl (fun ls hl => ?_)
                  refine lv_goto (tgt := 11) hx hb dX12_letters_80 (by decide) ?_
                  exact ih11 (mm + 1) 0 z_31 (k + 1) (by omega) (by omega) (by omega) _ _ ls hP hD hS (lv_sub hl [5, 6, 1, 2, 3, 0] rfl)
              · have n_54 : mm = k := b_eq_t (by omega) (by omega) c_54
                refine lv_iconst (v := 1) hx hb dX12_letters_57 (by decide) ?_
                refine lv_goto (tgt := 62) hx hb dX12_letters_58 (by decide) ?_
                refine lv_istore (lv' := [(4, .int 1), (5, .long z_31), (8, .int z_24), (0, .ref m0), (1, .long v), (3, .int (nI mm)), (7, .int (nI k))]) hx hb dX12_letters_62 hl (by decide) rfl (fun ls hl => ?_)
                refine lv_iload_n hx hb dX12_letters_64 rfl (lv_at hl 5 rfl) ?_
                refine lv_iload hx hb dX12_letters_65 (lv_at hl 2 rfl) ?_
                refine lv_if_le (tgt := 74) hx hb dX12_letters_67 (by decide) (fun c_67 => ?_) (fun c_67 => ?_)
                · refine lv_iconst (v := 0) hx hb dX12_letters_74 (by decide) ?_
                  refine lv_iadd hx hb dX12_letters_75 ?_
                  refine lv_topi (fun z_75 e_75 => ?_)
                  obtain rfl : z_75 = nI (mm + 0) := e_75.trans (nI_add _ _)
                  refine lv_istore_n (lv' := [(3, .int (nI (mm + 0))), (4, .int 1), (5, .long z_31), (8, .int z_24), (0, .ref m0), (1, .long v), (7, .int (nI k))]) hx hb dX12_letters_76 rfl hl (by decide) rfl (fun ls hl => ?_)
                  refine lv_iinc (v := (nI (k + 1))) (lv' := [(7, .int (nI (k + 1))), (3, .int (nI (mm + 0))), (4, .int 1), (5, .long z_31), (8, .int z_24), (0, .ref m0), (1, .long v)]) hx hb dX12_letters_77 hl (k := 6) rfl (nI_add k 1) (by decide) rfl (fun ls hl => ?_)
                  refine lv_goto (tgt := 11) hx hb dX12_letters_80 (by decide) ?_
                  exact ih11 (mm + 0) 1 z_31 (k + 1) (by omega) (by omega) (by omega) _ _ ls hP hD hS (lv_sub hl [5, 6, 1, 2, 3, 0] rfl)
                · refine lv_iconst (v := 1) hx hb dX12_letters_70 (by decide) ?_
                  refine lv_goto (tgt := 75) hx hb dX12_letters_71 (by decide) ?_
                  refine lv_iadd hx hb dX12_letters_75 ?_
                  refine lv_topi (fun z_75 e_75 => ?_)
                  obtain rfl : z_75 = nI (mm + 1) := e_75.trans (nI_add _ _)
                  refine lv_istore_n (lv' := [(3, .int (nI (mm + 1))), (4, .int 1), (5, .long z_31), (8, .int z_24), (0, .ref m0), (1, .long v), (7, .int (nI k))]) hx hb dX12_letters_76 rfl hl (by decide) rfl (fun ls hl => ?_)
                  refine lv_iinc (v := (nI (k + 1))) (lv' := [(7, .int (nI (k + 1))), (3, .int (nI (mm + 1))), (4, .int 1), (5, .long z_31), (8, .int z_24), (0, .ref m0), (1, .long v)]) hx hb dX12_letters_77 hl (k := 6) rfl (nI_add k 1) (by decide) rfl (fun ls hl => ?_)
                  refine lv_goto (tgt := 11) hx hb dX12_letters_80 (by decide) ?_
                  exact ih11 (mm + 1) 1 z_31 (k + 1) (by omega) (by omega) (by omega) _ _ ls hP hD hS (lv_sub hl [5, 6, 1, 2, 3, 0] rfl)
  exact LOOP11 (8 - 0 + 1) 0 1 v 0 (by omega) (by omega) (Nat.lt_succ_self _) _ _ ls hP hD hS (lv_sub hl [4, 5, 3, 2, 1, 0] rfl)

theorem dX12_goChance_0 : decode cX12_goChance 0 = .ok (.iload_n 1, 1) := by decide +kernel
theorem dX12_goChance_1 : decode cX12_goChance 1 = .ok (.i2l, 1) := by decide +kernel
theorem dX12_goChance_2 : decode cX12_goChance 2 = .ok (.ldc2_w 66, 3) := by decide +kernel
theorem dX12_goChance_5 : decode cX12_goChance 5 = .ok (.ldc2_w 68, 3) := by decide +kernel
theorem dX12_goChance_8 : decode cX12_goChance 8 = .ok (.invokestatic 70, 3) := by decide +kernel
theorem dX12_goChance_11 : decode cX12_goChance 11 = .ok (.istore_n 2, 1) := by decide +kernel
theorem dX12_goChance_12 : decode cX12_goChance 12 = .ok (.iload_n 2, 1) := by decide +kernel
theorem dX12_goChance_13 : decode cX12_goChance 13 = .ok (.ifCond .eq 75, 3) := by decide +kernel
theorem dX12_goChance_16 : decode cX12_goChance 16 = .ok (.aload_n 0, 1) := by decide +kernel
theorem dX12_goChance_17 : decode cX12_goChance 17 = .ok (.getfield 74, 3) := by decide +kernel
theorem dX12_goChance_20 : decode cX12_goChance 20 = .ok (.iconst 1, 1) := by decide +kernel
theorem dX12_goChance_21 : decode cX12_goChance 21 = .ok (.if_icmp .ne 10, 3) := by decide +kernel
theorem dX12_goChance_24 : decode cX12_goChance 24 = .ok (.aload_n 0, 1) := by decide +kernel
theorem dX12_goChance_25 : decode cX12_goChance 25 = .ok (.getfield 77, 3) := by decide +kernel
theorem dX12_goChance_28 : decode cX12_goChance 28 = .ok (.ifCond .gt 26, 3) := by decide +kernel
theorem dX12_goChance_31 : decode cX12_goChance 31 = .ok (.aload_n 0, 1) := by decide +kernel
theorem dX12_goChance_32 : decode cX12_goChance 32 = .ok (.getfield 74, 3) := by decide +kernel
theorem dX12_goChance_35 : decode cX12_goChance 35 = .ok (.iconst 2, 1) := by decide +kernel
theorem dX12_goChance_36 : decode cX12_goChance 36 = .ok (.if_icmp .ne 22, 3) := by decide +kernel
theorem dX12_goChance_39 : decode cX12_goChance 39 = .ok (.aload_n 0, 1) := by decide +kernel
theorem dX12_goChance_40 : decode cX12_goChance 40 = .ok (.getfield 77, 3) := by decide +kernel
theorem dX12_goChance_43 : decode cX12_goChance 43 = .ok (.bipush 10, 2) := by decide +kernel
theorem dX12_goChance_45 : decode cX12_goChance 45 = .ok (.if_icmp .ne 13, 3) := by decide +kernel
theorem dX12_goChance_48 : decode cX12_goChance 48 = .ok (.iload_n 1, 1) := by decide +kernel
theorem dX12_goChance_49 : decode cX12_goChance 49 = .ok (.bipush 48, 2) := by decide +kernel
theorem dX12_goChance_51 : decode cX12_goChance 51 = .ok (.if_icmp .ne 7, 3) := by decide +kernel
theorem dX12_goChance_54 : decode cX12_goChance 54 = .ok (.iconst 1, 1) := by decide +kernel
theorem dX12_goChance_55 : decode cX12_goChance 55 = .ok (.goto 4, 3) := by decide +kernel
theorem dX12_goChance_58 : decode cX12_goChance 58 = .ok (.iconst 0, 1) := by decide +kernel
theorem dX12_goChance_59 : decode cX12_goChance 59 = .ok (.istore_n 3, 1) := by decide +kernel
theorem dX12_goChance_60 : decode cX12_goChance 60 = .ok (.aload_n 0, 1) := by decide +kernel
theorem dX12_goChance_61 : decode cX12_goChance 61 = .ok (.bipush 10, 2) := by decide +kernel
theorem dX12_goChance_63 : decode cX12_goChance 63 = .ok (.aload_n 0, 1) := by decide +kernel
theorem dX12_goChance_64 : decode cX12_goChance 64 = .ok (.getfield 77, 3) := by decide +kernel
theorem dX12_goChance_67 : decode cX12_goChance 67 = .ok (.imul, 1) := by decide +kernel
theorem dX12_goChance_68 : decode cX12_goChance 68 = .ok (.iload_n 1, 1) := by decide +kernel
theorem dX12_goChance_69 : decode cX12_goChance 69 = .ok (.iadd, 1) := by decide +kernel
theorem dX12_goChance_70 : decode cX12_goChance 70 = .ok (.bipush 48, 2) := by decide +kernel
theorem dX12_goChance_72 : decode cX12_goChance 72 = .ok (.isub, 1) := by decide +kernel
theorem dX12_goChance_73 : decode cX12_goChance 73 = .ok (.putfield 77, 3) := by decide +kernel
theorem dX12_goChance_76 : decode cX12_goChance 76 = .ok (.aload_n 0, 1) := by decide +kernel
theorem dX12_goChance_77 : decode cX12_goChance 77 = .ok (.dup, 1) := by decide +kernel
theorem dX12_goChance_78 : decode cX12_goChance 78 = .ok (.getfield 74, 3) := by decide +kernel
theorem dX12_goChance_81 : decode cX12_goChance 81 = .ok (.iconst 1, 1) := by decide +kernel
theorem dX12_goChance_82 : decode cX12_goChance 82 = .ok (.iadd, 1) := by decide +kernel
theorem dX12_goChance_83 : decode cX12_goChance 83 = .ok (.putfield 74, 3) := by decide +kernel
theorem dX12_goChance_86 : decode cX12_goChance 86 = .ok (.iload_n 3, 1) := by decide +kernel
theorem dX12_goChance_87 : decode cX12_goChance 87 = .ok (.ireturn, 1) := by decide +kernel
theorem dX12_goChance_88 : decode cX12_goChance 88 = .ok (.aload_n 0, 1) := by decide +kernel
theorem dX12_goChance_89 : decode cX12_goChance 89 = .ok (.getfield 25, 3) := by decide +kernel
theorem dX12_goChance_92 : decode cX12_goChance 92 = .ok (.iconst 4, 1) := by decide +kernel
theorem dX12_goChance_93 : decode cX12_goChance 93 = .ok (.aload_n 0, 1) := by decide +kernel
theorem dX12_goChance_94 : decode cX12_goChance 94 = .ok (.getfield 80, 3) := by decide +kernel
theorem dX12_goChance_97 : decode cX12_goChance 97 = .ok (.imul, 1) := by decide +kernel
theorem dX12_goChance_98 : decode cX12_goChance 98 = .ok (.aload_n 0, 1) := by decide +kernel
theorem dX12_goChance_99 : decode cX12_goChance 99 = .ok (.getfield 83, 3) := by decide +kernel
theorem dX12_goChance_102 : decode cX12_goChance 102 = .ok (.iadd, 1) := by decide +kernel
theorem dX12_goChance_103 : decode cX12_goChance 103 = .ok (.aload_n 0, 1) := by decide +kernel
theorem dX12_goChance_104 : decode cX12_goChance 104 = .ok (.getfield 77, 3) := by decide +kernel
theorem dX12_goChance_107 : decode cX12_goChance 107 = .ok (.iastore, 1) := by decide +kernel
theorem dX12_goChance_108 : decode cX12_goChance 108 = .ok (.aload_n 0, 1) := by decide +kernel
theorem dX12_goChance_109 : decode cX12_goChance 109 = .ok (.dup, 1) := by decide +kernel
theorem dX12_goChance_110 : decode cX12_goChance 110 = .ok (.getfield 83, 3) := by decide +kernel
theorem dX12_goChance_113 : decode cX12_goChance 113 = .ok (.iconst 1, 1) := by decide +kernel
theorem dX12_goChance_114 : decode cX12_goChance 114 = .ok (.iadd, 1) := by decide +kernel
theorem dX12_goChance_115 : decode cX12_goChance 115 = .ok (.putfield 83, 3) := by decide +kernel
theorem dX12_goChance_118 : decode cX12_goChance 118 = .ok (.iload_n 1, 1) := by decide +kernel
theorem dX12_goChance_119 : decode cX12_goChance 119 = .ok (.bipush 44, 2) := by decide +kernel
theorem dX12_goChance_121 : decode cX12_goChance 121 = .ok (.if_icmp .ne 36, 3) := by decide +kernel
theorem dX12_goChance_124 : decode cX12_goChance 124 = .ok (.aload_n 0, 1) := by decide +kernel
theorem dX12_goChance_125 : decode cX12_goChance 125 = .ok (.iconst 3, 1) := by decide +kernel
theorem dX12_goChance_126 : decode cX12_goChance 126 = .ok (.putfield 86, 3) := by decide +kernel
theorem dX12_goChance_129 : decode cX12_goChance 129 = .ok (.aload_n 0, 1) := by decide +kernel
theorem dX12_goChance_130 : decode cX12_goChance 130 = .ok (.getfield 83, 3) := by decide +kernel
theorem dX12_goChance_133 : decode cX12_goChance 133 = .ok (.aload_n 0, 1) := by decide +kernel
theorem dX12_goChance_134 : decode cX12_goChance 134 = .ok (.getfield 80, 3) := by decide +kernel
theorem dX12_goChance_137 : decode cX12_goChance 137 = .ok (.ifCond .ne 7, 3) := by decide +kernel
theorem dX12_goChance_140 : decode cX12_goChance 140 = .ok (.iconst 4, 1) := by decide +kernel
theorem dX12_goChance_141 : decode cX12_goChance 141 = .ok (.goto 7, 3) := by decide +kernel
theorem dX12_goChance_144 : decode cX12_goChance 144 = .ok (.aload_n 0, 1) := by decide +kernel
theorem dX12_goChance_145 : decode cX12_goChance 145 = .ok (.getfield 89, 3) := by decide +kernel
theorem dX12_goChance_148 : decode cX12_goChance 148 = .ok (.if_icmp .ge 7, 3) := by decide +kernel
theorem dX12_goChance_151 : decode cX12_goChance 151 = .ok (.iconst 1, 1) := by decide +kernel
theorem dX12_goChance_152 : decode cX12_goChance 152 = .ok (.goto 4, 3) := by decide +kernel
theorem dX12_goChance_155 : decode cX12_goChance 155 = .ok (.iconst 0, 1) := by decide +kernel
theorem dX12_goChance_156 : decode cX12_goChance 156 = .ok (.ireturn, 1) := by decide +kernel
theorem dX12_goChance_157 : decode cX12_goChance 157 = .ok (.aload_n 0, 1) := by decide +kernel
theorem dX12_goChance_158 : decode cX12_goChance 158 = .ok (.getfield 80, 3) := by decide +kernel
theorem dX12_goChance_161 : decode cX12_goChance 161 = .ok (.ifCond .ne 19, 3) := by decide +kernel
theorem dX12_goChance_164 : decode cX12_goChance 164 = .ok (.aload_n 0, 1) := by decide +kernel
theorem dX12_goChance_165 : decode cX12_goChance 165 = .ok (.getfield 83, 3) := by decide +kernel
theorem dX12_goChance_168 : decode cX12_goChance 168 = .ok (.iconst 1, 1) := by decide +kernel
theorem dX12_goChance_169 : decode cX12_goChance 169 = .ok (.if_icmp .le 7, 3) := by decide +kernel
theorem dX12_goChance_172 : decode cX12_goChance 172 = .ok (.iconst 1, 1) := by decide +kernel
theorem dX12_goChance_173 : decode cX12_goChance 173 = .ok (.goto 23, 3) := by decide +kernel
theorem dX12_goChance_176 : decode cX12_goChance 176 = .ok (.iconst 0, 1) := by decide +kernel
theorem dX12_goChance_177 : decode cX12_goChance 177 = .ok (.goto 19, 3) := by decide +kernel
theorem dX12_goChance_180 : decode cX12_goChance 180 = .ok (.aload_n 0, 1) := by decide +kernel
theorem dX12_goChance_181 : decode cX12_goChance 181 = .ok (.getfield 83, 3) := by decide +kernel
theorem dX12_goChance_184 : decode cX12_goChance 184 = .ok (.aload_n 0, 1) := by decide +kernel
theorem dX12_goChance_185 : decode cX12_goChance 185 = .ok (.getfield 89, 3) := by decide +kernel
theorem dX12_goChance_188 : decode cX12_goChance 188 = .ok (.if_icmp .ne 7, 3) := by decide +kernel
theorem dX12_goChance_191 : decode cX12_goChance 191 = .ok (.iconst 1, 1) := by decide +kernel
theorem dX12_goChance_192 : decode cX12_goChance 192 = .ok (.goto 4, 3) := by decide +kernel
theorem dX12_goChance_195 : decode cX12_goChance 195 = .ok (.iconst 0, 1) := by decide +kernel
theorem dX12_goChance_196 : decode cX12_goChance 196 = .ok (.istore_n 3, 1) := by decide +kernel
theorem dX12_goChance_197 : decode cX12_goChance 197 = .ok (.aload_n 0, 1) := by decide +kernel
theorem dX12_goChance_198 : decode cX12_goChance 198 = .ok (.aload_n 0, 1) := by decide +kernel
theorem dX12_goChance_199 : decode cX12_goChance 199 = .ok (.getfield 83, 3) := by decide +kernel
theorem dX12_goChance_202 : decode cX12_goChance 202 = .ok (.putfield 89, 3) := by decide +kernel
theorem dX12_goChance_205 : decode cX12_goChance 205 = .ok (.aload_n 0, 1) := by decide +kernel
theorem dX12_goChance_206 : decode cX12_goChance 206 = .ok (.dup, 1) := by decide +kernel
theorem dX12_goChance_207 : decode cX12_goChance 207 = .ok (.getfield 80, 3) := by decide +kernel
theorem dX12_goChance_210 : decode cX12_goChance 210 = .ok (.iconst 1, 1) := by decide +kernel
theorem dX12_goChance_211 : decode cX12_goChance 211 = .ok (.iadd, 1) := by decide +kernel
theorem dX12_goChance_212 : decode cX12_goChance 212 = .ok (.putfield 80, 3) := by decide +kernel
theorem dX12_goChance_215 : decode cX12_goChance 215 = .ok (.aload_n 0, 1) := by decide +kernel
theorem dX12_goChance_216 : decode cX12_goChance 216 = .ok (.iconst 0, 1) := by decide +kernel
theorem dX12_goChance_217 : decode cX12_goChance 217 = .ok (.putfield 86, 3) := by decide +kernel
theorem dX12_goChance_220 : decode cX12_goChance 220 = .ok (.iload_n 1, 1) := by decide +kernel
theorem dX12_goChance_221 : decode cX12_goChance 221 = .ok (.bipush 59, 2) := by decide +kernel
theorem dX12_goChance_223 : decode cX12_goChance 223 = .ok (.if_icmp .ne 19, 3) := by decide +kernel
theorem dX12_goChance_226 : decode cX12_goChance 226 = .ok (.iload_n 3, 1) := by decide +kernel
theorem dX12_goChance_227 : decode cX12_goChance 227 = .ok (.ifCond .eq 15, 3) := by decide +kernel
theorem dX12_goChance_230 : decode cX12_goChance 230 = .ok (.aload_n 0, 1) := by decide +kernel
theorem dX12_goChance_231 : decode cX12_goChance 231 = .ok (.getfield 80, 3) := by decide +kernel
theorem dX12_goChance_234 : decode cX12_goChance 234 = .ok (.iconst 5, 1) := by decide +kernel
theorem dX12_goChance_235 : decode cX12_goChance 235 = .ok (.if_icmp .ge 7, 3) := by decide +kernel
theorem dX12_goChance_238 : decode cX12_goChance 238 = .ok (.iconst 1, 1) := by decide +kernel
theorem dX12_goChance_239 : decode cX12_goChance 239 = .ok (.goto 4, 3) := by decide +kernel
theorem dX12_goChance_242 : decode cX12_goChance 242 = .ok (.iconst 0, 1) := by decide +kernel
theorem dX12_goChance_243 : decode cX12_goChance 243 = .ok (.ireturn, 1) := by decide +kernel
theorem kw_478 : (.constantLong RX12 66 (48) : Cond) ∈ gw_tbl := gw_in (by decide +kernel) (by decide +kernel)
theorem kw_479 : (.constantLong RX12 68 (57) : Cond) ∈ gw_tbl := gw_in (by decide +kernel) (by decide +kernel)
theorem kw_480 : (.fieldLink RX12 25 "NobodyChecksModel" "readChances" "[I" : Cond) ∈ gw_tbl := gw_in (by decide +kernel) (by decide +kernel)
theorem kw_481 : (.fieldLink RX12 80 "NobodyChecksModel" "readCases" "I" : Cond) ∈ gw_tbl := gw_in (by decide +kernel) (by decide +kernel)
theorem kw_482 : (.fieldLink RX12 83 "NobodyChecksModel" "inCase" "I" : Cond) ∈ gw_tbl := gw_in (by decide +kernel) (by decide +kernel)
theorem kw_483 : (.fieldLink RX12 77 "NobodyChecksModel" "value" "I" : Cond) ∈ gw_tbl := gw_in (by decide +kernel) (by decide +kernel)
theorem kw_484 : (.fieldLink RX12 89 "NobodyChecksModel" "readPersons" "I" : Cond) ∈ gw_tbl := gw_in (by decide +kernel) (by decide +kernel)
theorem kw_485 : (.fieldLink RX12 86 "NobodyChecksModel" "state" "I" : Cond) ∈ gw_tbl := gw_in (by decide +kernel) (by decide +kernel)
theorem kw_486 : (.fieldLink RX12 74 "NobodyChecksModel" "digits" "I" : Cond) ∈ gw_tbl := gw_in (by decide +kernel) (by decide +kernel)

set_option maxHeartbeats 4000000 in
set_option maxRecDepth 100000 in
theorem m_goChance (l : Launch) (D : va_G) (cs : Nat → ClassId) (m0 : Nat) (mp : Nat) (mw : Nat) (mh : Nat) (mo : Nat) (m5 : Nat) (m6 : Nat) (m7 : Nat) (mk : Nat) (mn : Nat) (mq : Nat) (m8 : Nat) (m9 : Nat) (mz : Nat) (mb : Nat) (md : Nat) (ms : Nat) (C : Nat) (P : Nat) (mpn : Nat) (mrs : Nat) (rc : Nat) (rp : Nat) (ic : Nat) (hms : ms ≤ 90) (hC5 : C ≤ 5) (hP4 : P ≤ 4) (hmpn : mpn ≤ 8) (hmrs : mrs ≤ 24) (hrc : rc ≤ 5) (hrp : rp ≤ 4) (hic : ic ≤ 4) (x_value : Int32) (x_digits : Int32) (x_all : Int64) (x_kind : Int32) (x_last : Int32) (x_steps : Int32) (x_isRound : Int32) (x_tablesDone : Int32) (x_hash : Int64) (fm6 : Nat → Int32) (cd_ : Int32) (hrc4 : rc ≤ 4) (hic3 : ic ≤ 3) (sz : Nat) : Met l yX12_goChance (Cond.code yX12_goChance cX12_goChance 4 (some .boolean) :: gw_tbl) ({ frames := 1, cells := 0, slots := 0, locals := 25 }) (pc_M D cs [(m0, .inr (12, [.ref mp, .int (nI ms), .int (nI C), .int (nI P), .ref mw, .ref mh, .ref mo, .int 4, .int x_value, .int x_digits, .int (nI rc), .int (nI rp), .int (nI ic), .ref m5, .ref m6, .ref m7, .long x_all, .int (nI mpn), .ref mk, .ref mn, .int x_kind, .ref mq, .ref m8, .ref m9, .int x_last, .int x_steps, .int x_isRound, .int x_tablesDone, .ref mz, .int (nI mrs), .ref mb, .ref md, .long x_hash])), (m6, .inl (cs 0, 20, .inl fm6))] sz [.ref m0, .int cd_]) (va_Qi (fun (r : Int32) (u : Int32) => u = r ∧ (r = 0 ∨ r = 1)) (fun u t => ∃ (s2 : Nat), ∃ (v2 : Int32), ∃ (dg2 : Int32), ∃ (rc2 : Nat), ∃ (rp2 : Nat), ∃ (ic2 : Nat), ∃ (fm62 : Nat → Int32), (s2 ≤ 4) ∧ (rc2 ≤ 5) ∧ (rp2 ≤ 4) ∧ (ic2 ≤ 4) ∧ (u = 1 → (s2 = 4 ∧ rc2 = rc ∧ ic2 = ic) ∨ (s2 = 3 ∧ rc2 = rc ∧ ic2 ≤ 3) ∨ (s2 = 0 ∧ rc2 = rc + 1 ∧ rc2 ≤ 4)) ∧ va_P D vwCl [(m0, .inr (12, [.ref mp, .int (nI ms), .int (nI C), .int (nI P), .ref mw, .ref mh, .ref mo, .int (nI s2), .int v2, .int dg2, .int (nI rc2), .int (nI rp2), .int (nI ic2), .ref m5, .ref m6, .ref m7, .long x_all, .int (nI mpn), .ref mk, .ref mn, .int x_kind, .ref mq, .ref m8, .ref m9, .int x_last, .int x_steps, .int x_isRound, .int x_tablesDone, .ref mz, .int (nI mrs), .ref mb, .ref md, .long x_hash])), (m6, .inl (cs 0, 20, .inl fm62))] t.heap ∧ va_D (va_A [(m0, .inr (12, [.ref mp, .int (nI ms), .int (nI C), .int (nI P), .ref mw, .ref mh, .ref mo, .int 4, .int x_value, .int x_digits, .int (nI rc), .int (nI rp), .int (nI ic), .ref m5, .ref m6, .ref m7, .long x_all, .int (nI mpn), .ref mk, .ref mn, .int x_kind, .ref mq, .ref m8, .ref m9, .int x_last, .int x_steps, .int x_isRound, .int x_tablesDone, .ref mz, .int (nI mrs), .ref mb, .ref md, .long x_hash])), (m6, .inl (cs 0, 20, .inl fm6))] sz) [(m0, .inr (12, [.ref mp, .int (nI ms), .int (nI C), .int (nI P), .ref mw, .ref mh, .ref mo, .int (nI s2), .int v2, .int dg2, .int (nI rc2), .int (nI rp2), .int (nI ic2), .ref m5, .ref m6, .ref m7, .long x_all, .int (nI mpn), .ref mk, .ref mn, .int x_kind, .ref mq, .ref m8, .ref m9, .int x_last, .int x_steps, .int x_isRound, .int x_tablesDone, .ref mz, .int (nI mrs), .ref mb, .ref md, .long x_hash])), (m6, .inl (cs 0, 20, .inl fm62))]) (va_A [(m0, .inr (12, [.ref mp, .int (nI ms), .int (nI C), .int (nI P), .ref mw, .ref mh, .ref mo, .int 4, .int x_value, .int x_digits, .int (nI rc), .int (nI rp), .int (nI ic), .ref m5, .ref m6, .ref m7, .long x_all, .int (nI mpn), .ref mk, .ref mn, .int x_kind, .ref mq, .ref m8, .ref m9, .int x_last, .int x_steps, .int x_isRound, .int x_tablesDone, .ref mz, .int (nI mrs), .ref mb, .ref md, .long x_hash])), (m6, .inl (cs 0, 20, .inl fm6))] sz)) 0 0 (va_A [(m0, .inr (12, [.ref mp, .int (nI ms), .int (nI C), .int (nI P), .ref mw, .ref mh, .ref mo, .int 4, .int x_value, .int x_digits, .int (nI rc), .int (nI rp), .int (nI ic), .ref m5, .ref m6, .ref m7, .long x_all, .int (nI mpn), .ref mk, .ref mn, .int x_kind, .ref mq, .ref m8, .ref m9, .int x_last, .int x_steps, .int x_isRound, .int x_tablesDone, .ref mz, .int (nI mrs), .ref mb, .ref md, .long x_hash])), (m6, .inl (cs 0, 20, .inl fm6))] sz) := by
  refine Met.ofW (cc := cX12_goChance) (maxL := 4) (ret := (some .boolean)) (by decide) rfl ?_
  intro p e s m args below meth c s₁ B hml hv
  obtain ⟨hargs, hsz, hP, hK, hD0⟩ := hv
  have hx := B.exec
  have hb := B.bytes
  have hr := B.returns
  have hts := atoms_spec (ws := Cond.code yX12_goChance cX12_goChance 4 (some .boolean) :: gw_tbl) B.pre
  have hg := fun (w : Cond) (h : w ∈ gw_tbl) => hts w (List.mem_cons_of_mem _ h)
  have hown : s.vm.findClass RX12 = some m.cls := findClass_of_methodNamed B.named
  have hlocks := B.notSynchronized
  subst hsz
  have hD := hD0.self (sz := s.heap.size)
  generalize hAe : va_A [(m0, .inr (12, [.ref mp, .int (nI ms), .int (nI C), .int (nI P), .ref mw, .ref mh, .ref mo, .int 4, .int x_value, .int x_digits, .int (nI rc), .int (nI rp), .int (nI ic), .ref m5, .ref m6, .ref m7, .long x_all, .int (nI mpn), .ref mk, .ref mn, .int x_kind, .ref mq, .ref m8, .ref m9, .int x_last, .int x_steps, .int x_isRound, .int x_tablesDone, .ref mz, .int (nI mrs), .ref mb, .ref md, .long x_hash])), (m6, .inl (cs 0, 20, .inl fm6))] s.heap.size = A at hD ⊢
  have hA : ∀ q : Nat, s.heap.size ≤ q → A q := fun q h => by rw [← hAe]; exact Or.inr h
  have hS : va_S A s.heap s.heap [] := va_S.rf
  have hP : va_P D vwCl [(m0, .inr (12, [.ref mp, .int (nI ms), .int (nI C), .int (nI P), .ref mw, .ref mh, .ref mo, .int 4, .int x_value, .int x_digits, .int (nI rc), .int (nI rp), .int (nI ic), .ref m5, .ref m6, .ref m7, .long x_all, .int (nI mpn), .ref mk, .ref mn, .int x_kind, .ref mq, .ref m8, .ref m9, .int x_last, .int x_steps, .int x_isRound, .int x_tablesDone, .ref mz, .int (nI mrs), .ref mb, .ref md, .long x_hash])), (m6, .inl (cs 0, 20, .inl fm6))] s.heap := hP
  have hl := lv_entry ([.ref m0, .int cd_]) (n := 4) (Nat.le_of_ble_eq_true rfl)
  rw [show entryFrame m args 4 = F0 m 0 (lg_sl ([.ref m0, .int cd_]) ++ List.replicate (4 - (lg_sl ([.ref m0, .int cd_])).length) Slot.unset).toArray [] from by rw [hargs]; exact lg_entry_eq ..]
  generalize (lg_sl ([.ref m0, .int cd_]) ++ List.replicate (4 - (lg_sl ([.ref m0, .int cd_])).length) Slot.unset).toArray = ls at hl ⊢
  have hl : lv_has ls 4 [(0, .ref m0), (1, .int cd_)] := hl
  refine W_genQ (fun Q hQ => ?_)
  have hlm := lim_le hP4
  have hlq := lim_pos P
  have hsg := sgn_le hP4
  refine lv_iload_n hx hb dX12_goChance_0 rfl (lv_at hl 1 rfl) ?_
  refine lv_i2l hx hb dX12_goChance_1 rfl ?_
  refine lv_topl (fun z_1 e_1 => ?_)
  refine lv_ldc2 hx hb hown (hg _ kw_478) dX12_goChance_2 ?_
  refine lv_ldc2 hx hb hown (hg _ kw_479) dX12_goChance_5 ?_
  refine vp_callSi (W.runS (As := [.long z_1, .long 48, .long 57]) (rest := []) ⟨hx, hb, hml, hown, hg⟩ (c_in l z_1 48 57) (va_cwS 3 hg (gw_S kw_317 kw_318 kw_319 kw_316) rfl rfl rfl (by decide +kernel) ⟨(Nat.le_of_ble_eq_true rfl), (Nat.le_of_ble_eq_true rfl)⟩) pr_0 rfl rfl hl.1 rfl (lv_room (Nat.le_of_ble_eq_true rfl)) dX12_goChance_8 ⟨(Nat.le_of_ble_eq_true rfl), (Nat.le_of_ble_eq_true rfl)⟩) (fun r_8 h_8 => ?_)
  replace h_8 : r_8 = 0 ∨ r_8 = 1 := by rw [h_8]; exact il_01
  rcases h_8 with rfl | rfl
  · refine lv_istore_n (lv' := [(2, .int 0), (0, .ref m0), (1, .int cd_)]) hx hb dX12_goChance_11 rfl hl (by decide) rfl (fun ls hl => ?_)
    refine lv_iload_n hx hb dX12_goChance_12 rfl (lv_at hl 0 rfl) ?_
    refine lv_if_eq (tgt := 88) hx hb dX12_goChance_13 (by decide) (fun c_13 => ?_) (fun c_13 => absurd c_13 (by decide))
    refine lv_aload_n hx hb dX12_goChance_88 rfl (lv_at hl 1 rfl) ?_
    refine va_get (D := D) (ci := 12) (v := .ref m6) (C := RX12) (T := TX12) (N := 33) hx hb hg gwX12 hown hK hP 0 rfl rfl 14 (by decide) (hg _ kw_480) (fun _ h9 => h9) rfl dX12_goChance_89 ?_
    refine lv_iconst (v := 4) hx hb dX12_goChance_92 (by decide) ?_
    refine lv_aload_n hx hb dX12_goChance_93 rfl (lv_at hl 1 rfl) ?_
    refine va_get (D := D) (ci := 12) (v := .int (nI rc)) (C := RX12) (T := TX12) (N := 33) hx hb hg gwX12 hown hK hP 0 rfl rfl 10 (by decide) (hg _ kw_481) (fun _ h9 => h9) rfl dX12_goChance_94 ?_
    refine lv_imul hx hb dX12_goChance_97 ?_
    refine lv_topi (fun z_97 e_97 => ?_)
    obtain rfl : z_97 = nI (4 * rc) := e_97.trans (pk_mul _ _)
    refine lv_aload_n hx hb dX12_goChance_98 rfl (lv_at hl 1 rfl) ?_
    refine va_get (D := D) (ci := 12) (v := .int (nI ic)) (C := RX12) (T := TX12) (N := 33) hx hb hg gwX12 hown hK hP 0 rfl rfl 12 (by decide) (hg _ kw_482) (fun _ h9 => h9) rfl dX12_goChance_99 ?_
    refine lv_iadd hx hb dX12_goChance_102 ?_
    refine lv_topi (fun z_102 e_102 => ?_)
    obtain rfl : z_102 = nI (4 * rc + ic) := e_102.trans (nI_add _ _)
    refine lv_aload_n hx hb dX12_goChance_103 rfl (lv_at hl 1 rfl) ?_
    refine va_get (D := D) (ci := 12) (v := .int x_value) (C := RX12) (T := TX12) (N := 33) hx hb hg gwX12 hown hK hP 0 rfl rfl 8 (by decide) (hg _ kw_483) (fun _ h9 => h9) rfl dX12_goChance_104 ?_
    refine va_iast hx hb hK hP hD hS 1 0 rfl rfl (vp_in_nI (show 4 * rc + ic < 20 by omega) (by decide)) dX12_goChance_107 (fun H locs hP hD hS => ?_)
    obtain ⟨f_107, hf_107⟩ : ∃ f9, f9 = (upd fm6 (nI (4 * rc + ic)).toNatClampNeg x_value) := ⟨_, rfl⟩
    rw [← hf_107] at hP hD
    have hP : va_P D vwCl [(m0, .inr (12, [.ref mp, .int (nI ms), .int (nI C), .int (nI P), .ref mw, .ref mh, .ref mo, .int 4, .int x_value, .int x_digits, .int (nI rc), .int (nI rp), .int (nI ic), .ref m5, .ref m6, .ref m7, .long x_all, .int (nI mpn), .ref mk, .ref mn, .int x_kind, .ref mq, .ref m8, .ref m9, .int x_last, .int x_steps, .int x_isRound, .int x_tablesDone, .ref mz, .int (nI mrs), .ref mb, .ref md, .long x_hash])), (m6, .inl (cs 0, 20, .inl f_107))] H := hP
    have hD : va_D A [(m0, .inr (12, [.ref mp, .int (nI ms), .int (nI C), .int (nI P), .ref mw, .ref mh, .ref mo, .int 4, .int x_value, .int x_digits, .int (nI rc), .int (nI rp), .int (nI ic), .ref m5, .ref m6, .ref m7, .long x_all, .int (nI mpn), .ref mk, .ref mn, .int x_kind, .ref mq, .ref m8, .ref m9, .int x_last, .int x_steps, .int x_isRound, .int x_tablesDone, .ref mz, .int (nI mrs), .ref mb, .ref md, .long x_hash])), (m6, .inl (cs 0, 20, .inl f_107))] := hD
    refine lv_aload_n hx hb dX12_goChance_108 rfl (lv_at hl 1 rfl) ?_
    refine lv_dup hx hb dX12_goChance_109 rfl ?_
    refine va_get (D := D) (ci := 12) (v := .int (nI ic)) (C := RX12) (T := TX12) (N := 33) hx hb hg gwX12 hown hK hP 0 rfl rfl 12 (by decide) (hg _ kw_482) (fun _ h9 => h9) rfl dX12_goChance_110 ?_
    refine lv_iconst (v := 1) hx hb dX12_goChance_113 (by decide) ?_
    refine lv_iadd hx hb dX12_goChance_114 ?_
    refine lv_topi (fun z_114 e_114 => ?_)
    obtain rfl : z_114 = nI (ic + 1) := e_114.trans (nI_add _ _)
    refine va_put (D := D) (ci := 12) (v := .int (nI (ic + 1))) (ty := .int) (C := RX12) (T := TX12) (N := 33) hx hb hg gwX12 tyX12 tyX12_ok nmX12 hown hK hP hD hS 0 rfl rfl 12 (by decide) (hg _ kw_482) (fun _ h9 => h9) rfl (by decide +kernel) rfl rfl (Nat.le_of_ble_eq_true rfl) dX12_goChance_115 (fun H locs hP hD hS => ?_)
    have hP : va_P D vwCl [(m0, .inr (12, [.ref mp, .int (nI ms), .int (nI C), .int (nI P), .ref mw, .ref mh, .ref mo, .int 4, .int x_value, .int x_digits, .int (nI rc), .int (nI rp), .int (nI (ic + 1)), .ref m5, .ref m6, .ref m7, .long x_all, .int (nI mpn), .ref mk, .ref mn, .int x_kind, .ref mq, .ref m8, .ref m9, .int x_last, .int x_steps, .int x_isRound, .int x_tablesDone, .ref mz, .int (nI mrs), .ref mb, .ref md, .long x_hash])), (m6, .inl (cs 0, 20, .inl f_107))] H := hP
    have hD : va_D A [(m0, .inr (12, [.ref mp, .int (nI ms), .int (nI C), .int (nI P), .ref mw, .ref mh, .ref mo, .int 4, .int x_value, .int x_digits, .int (nI rc), .int (nI rp), .int (nI (ic + 1)), .ref m5, .ref m6, .ref m7, .long x_all, .int (nI mpn), .ref mk, .ref mn, .int x_kind, .ref mq, .ref m8, .ref m9, .int x_last, .int x_steps, .int x_isRound, .int x_tablesDone, .ref mz, .int (nI mrs), .ref mb, .ref md, .long x_hash])), (m6, .inl (cs 0, 20, .inl f_107))] := hD
    refine lv_iload_n hx hb dX12_goChance_118 rfl (lv_at hl 2 rfl) ?_
    refine lv_bipush (v := 44) hx hb dX12_goChance_119 (by decide) ?_
    refine lv_icmp_ne (tgt := 157) hx hb dX12_goChance_121 (by decide) (fun c_121 => ?_) (fun c_121 => ?_)
    · refine lv_aload_n hx hb dX12_goChance_157 rfl (lv_at hl 1 rfl) ?_
      refine va_get (D := D) (ci := 12) (v := .int (nI rc)) (C := RX12) (T := TX12) (N := 33) hx hb hg gwX12 hown hK hP 0 rfl rfl 10 (by decide) (hg _ kw_481) (fun _ h9 => h9) rfl dX12_goChance_158 ?_
      refine lv_if_ne (tgt := 180) hx hb dX12_goChance_161 (by decide) (fun c_161 => ?_) (fun c_161 => ?_)
      · have n_161 : ¬ rc = 0 := b_eq_f (by omega) (by omega) c_161
        refine lv_aload_n hx hb dX12_goChance_180 rfl (lv_at hl 1 rfl) ?_
        refine va_get (D := D) (ci := 12) (v := .int (nI (ic + 1))) (C := RX12) (T := TX12) (N := 33) hx hb hg gwX12 hown hK hP 0 rfl rfl 12 (by decide) (hg _ kw_482) (fun _ h9 => h9) rfl dX12_goChance_181 ?_
        refine lv_aload_n hx hb dX12_goChance_184 rfl (lv_at hl 1 rfl) ?_
        refine va_get (D := D) (ci := 12) (v := .int (nI rp)) (C := RX12) (T := TX12) (N := 33) hx hb hg gwX12 hown hK hP 0 rfl rfl 11 (by decide) (hg _ kw_484) (fun _ h9 => h9) rfl dX12_goChance_185 ?_
        refine lv_icmp_ne (tgt := 195) hx hb dX12_goChance_188 (by decide) (fun c_188 => ?_) (fun c_188 => ?_)
        · have n_188 : ¬ ic + 1 = rp := b_eq_f (by omega) (by omega) c_188
          refine lv_iconst (v := 0) hx hb dX12_goChance_195 (by decide) ?_
          refine lv_istore_n (lv' := [(3, .int 0), (2, .int 0), (0, .ref m0), (1, .int cd_)]) hx hb dX12_goChance_196 rfl hl (by decide) rfl (fun ls hl => ?_)
          refine lv_aload_n hx hb dX12_goChance_197 rfl (lv_at hl 2 rfl) ?_
          refine lv_aload_n hx hb dX12_goChance_198 rfl (lv_at hl 2 rfl) ?_
          refine va_get (D := D) (ci := 12) (v := .int (nI (ic + 1))) (C := RX12) (T := TX12) (N := 33) hx hb hg gwX12 hown hK hP 0 rfl rfl 12 (by decide) (hg _ kw_482) (fun _ h9 => h9) rfl dX12_goChance_199 ?_
          refine va_put (D := D) (ci := 12) (v := .int (nI (ic + 1))) (ty := .int) (C := RX12) (T := TX12) (N := 33) hx hb hg gwX12 tyX12 tyX12_ok nmX12 hown hK hP hD hS 0 rfl rfl 11 (by decide) (hg _ kw_484) (fun _ h9 => h9) rfl (by decide +kernel) rfl rfl (Nat.le_of_ble_eq_true rfl) dX12_goChance_202 (fun H locs hP hD hS => ?_)
          have hP : va_P D vwCl [(m0, .inr (12, [.ref mp, .int (nI ms), .int (nI C), .int (nI P), .ref mw, .ref mh, .ref mo, .int 4, .int x_value, .int x_digits, .int (nI rc), .int (nI (ic + 1)), .int (nI (ic + 1)), .ref m5, .ref m6, .ref m7, .long x_all, .int (nI mpn), .ref mk, .ref mn, .int x_kind, .ref mq, .ref m8, .ref m9, .int x_last, .int x_steps, .int x_isRound, .int x_tablesDone, .ref mz, .int (nI mrs), .ref mb, .ref md, .long x_hash])), (m6, .inl (cs 0, 20, .inl f_107))] H := hP
          have hD : va_D A [(m0, .inr (12, [.ref mp, .int (nI ms), .int (nI C), .int (nI P), .ref mw, .ref mh, .ref mo, .int 4, .int x_value, .int x_digits, .int (nI rc), .int (nI (ic + 1)), .int (nI (ic + 1)), .ref m5, .ref m6, .ref m7, .long x_all, .int (nI mpn), .ref mk, .ref mn, .int x_kind, .ref mq, .ref m8, .ref m9, .int x_last, .int x_steps, .int x_isRound, .int x_tablesDone, .ref mz, .int (nI mrs), .ref mb, .ref md, .long x_hash])), (m6, .inl (cs 0, 20, .inl f_107))] := hD
          refine lv_aload_n hx hb dX12_goChance_205 rfl (lv_at hl 2 rfl) ?_
          refine lv_dup hx hb dX12_goChance_206 rfl ?_
          refine va_get (D := D) (ci := 12) (v := .int (nI rc)) (C := RX12) (T := TX12) (N := 33) hx hb hg gwX12 hown hK hP 0 rfl rfl 10 (by decide) (hg _ kw_481) (fun _ h9 => h9) rfl dX12_goChance_207 ?_
          refine lv_iconst (v := 1) hx hb dX12_goChance_210 (by decide) ?_
          refine lv_iadd hx hb dX12_goChance_211 ?_
          refine lv_topi (fun z_211 e_211 => ?_)
          obtain rfl : z_211 = nI (rc + 1) := e_211.trans (nI_add _ _)
          refine va_put (D := D) (ci := 12) (v := .int (nI (rc + 1))) (ty := .int) (C := RX12) (T := TX12) (N := 33) hx hb hg gwX12 tyX12 tyX12_ok nmX12 hown hK hP hD hS 0 rfl rfl 10 (by decide) (hg _ kw_481) (fun _ h9 => h9) rfl (by decide +kernel) rfl rfl (Nat.le_of_ble_eq_true rfl) dX12_goChance_212 (fun H locs hP hD hS => ?_)
          have hP : va_P D vwCl [(m0, .inr (12, [.ref mp, .int (nI ms), .int (nI C), .int (nI P), .ref mw, .ref mh, .ref mo, .int 4, .int x_value, .int x_digits, .int (nI (rc + 1)), .int (nI (ic + 1)), .int (nI (ic + 1)), .ref m5, .ref m6, .ref m7, .long x_all, .int (nI mpn), .ref mk, .ref mn, .int x_kind, .ref mq, .ref m8, .ref m9, .int x_last, .int x_steps, .int x_isRound, .int x_tablesDone, .ref mz, .int (nI mrs), .ref mb, .ref md, .long x_hash])), (m6, .inl (cs 0, 20, .inl f_107))] H := hP
          have hD : va_D A [(m0, .inr (12, [.ref mp, .int (nI ms), .int (nI C), .int (nI P), .ref mw, .ref mh, .ref mo, .int 4, .int x_value, .int x_digits, .int (nI (rc + 1)), .int (nI (ic + 1)), .int (nI (ic + 1)), .ref m5, .ref m6, .ref m7, .long x_all, .int (nI mpn), .ref mk, .ref mn, .int x_kind, .ref mq, .ref m8, .ref m9, .int x_last, .int x_steps, .int x_isRound, .int x_tablesDone, .ref mz, .int (nI mrs), .ref mb, .ref md, .long x_hash])), (m6, .inl (cs 0, 20, .inl f_107))] := hD
          refine lv_aload_n hx hb dX12_goChance_215 rfl (lv_at hl 2 rfl) ?_
          refine lv_iconst (v := 0) hx hb dX12_goChance_216 (by decide) ?_
          refine va_put (D := D) (ci := 12) (v := .int 0) (ty := .int) (C := RX12) (T := TX12) (N := 33) hx hb hg gwX12 tyX12 tyX12_ok nmX12 hown hK hP hD hS 0 rfl rfl 7 (by decide) (hg _ kw_485) (fun _ h9 => h9) rfl (by decide +kernel) rfl rfl (Nat.le_of_ble_eq_true rfl) dX12_goChance_217 (fun H locs hP hD hS => ?_)
          have hP : va_P D vwCl [(m0, .inr (12, [.ref mp, .int (nI ms), .int (nI C), .int (nI P), .ref mw, .ref mh, .ref mo, .int 0, .int x_value, .int x_digits, .int (nI (rc + 1)), .int (nI (ic + 1)), .int (nI (ic + 1)), .ref m5, .ref m6, .ref m7, .long x_all, .int (nI mpn), .ref mk, .ref mn, .int x_kind, .ref mq, .ref m8, .ref m9, .int x_last, .int x_steps, .int x_isRound, .int x_tablesDone, .ref mz, .int (nI mrs), .ref mb, .ref md, .long x_hash])), (m6, .inl (cs 0, 20, .inl f_107))] H := hP
          have hD : va_D A [(m0, .inr (12, [.ref mp, .int (nI ms), .int (nI C), .int (nI P), .ref mw, .ref mh, .ref mo, .int 0, .int x_value, .int x_digits, .int (nI (rc + 1)), .int (nI (ic + 1)), .int (nI (ic + 1)), .ref m5, .ref m6, .ref m7, .long x_all, .int (nI mpn), .ref mk, .ref mn, .int x_kind, .ref mq, .ref m8, .ref m9, .int x_last, .int x_steps, .int x_isRound, .int x_tablesDone, .ref mz, .int (nI mrs), .ref mb, .ref md, .long x_hash])), (m6, .inl (cs 0, 20, .inl f_107))] := hD
          refine lv_iload_n hx hb dX12_goChance_220 rfl (lv_at hl 3 rfl) ?_
          refine lv_bipush (v := 59) hx hb dX12_goChance_221 (by decide) ?_
          refine lv_icmp_ne (tgt := 242) hx hb dX12_goChance_223 (by decide) (fun c_223 => ?_) (fun c_223 => ?_)
          · refine lv_iconst (v := 0) hx hb dX12_goChance_242 (by decide) ?_
            refine W_sQ hQ ?_
            refine W.widen (k := 0) (n := 0) (Nat.le_of_ble_eq_true rfl) (Nat.le_of_ble_eq_true rfl) ?_
            have hP9 := hP.sub (ws' := [(m0, .inr (12, [.ref mp, .int (nI ms), .int (nI C), .int (nI P), .ref mw, .ref mh, .ref mo, .int 0, .int x_value, .int x_digits, .int (nI (rc + 1)), .int (nI (ic + 1)), .int (nI (ic + 1)), .ref m5, .ref m6, .ref m7, .long x_all, .int (nI mpn), .ref mk, .ref mn, .int x_kind, .ref mq, .ref m8, .ref m9, .int x_last, .int x_steps, .int x_isRound, .int x_tablesDone, .ref mz, .int (nI mrs), .ref mb, .ref md, .long x_hash])), (m6, .inl (cs 0, 20, .inl f_107))]) [0, 1] rfl
            have hD9 := hD.sub (ws' := [(m0, .inr (12, [.ref mp, .int (nI ms), .int (nI C), .int (nI P), .ref mw, .ref mh, .ref mo, .int 0, .int x_value, .int x_digits, .int (nI (rc + 1)), .int (nI (ic + 1)), .int (nI (ic + 1)), .ref m5, .ref m6, .ref m7, .long x_all, .int (nI mpn), .ref mk, .ref mn, .int x_kind, .ref mq, .ref m8, .ref m9, .int x_last, .int x_steps, .int x_isRound, .int x_tablesDone, .ref mz, .int (nI mrs), .ref mb, .ref md, .long x_hash])), (m6, .inl (cs 0, 20, .inl f_107))]) [0, 1] (by decide) rfl
            exact W.zret (v := 0) hx hb hr (by decide) (fun t ht hW => ⟨⟨0, 0, rfl, ⟨rfl, Or.inl rfl⟩, ⟨0, x_value, x_digits, rc + 1, ic + 1, ic + 1, f_107, (by omega), (by omega), (by omega), (by omega), (fun q9 => absurd q9 (by decide)), by rw [ht]; exact hP9, hD9⟩⟩, hS.F ht⟩) hS.2.2 dX12_goChance_243
          · refine lv_iload_n hx hb dX12_goChance_226 rfl (lv_at hl 0 rfl) ?_
            refine lv_if_eq (tgt := 242) hx hb dX12_goChance_227 (by decide) (fun c_227 => ?_) (fun c_227 => absurd c_227 (by decide))
            refine lv_iconst (v := 0) hx hb dX12_goChance_242 (by decide) ?_
            refine W_sQ hQ ?_
            refine W.widen (k := 0) (n := 0) (Nat.le_of_ble_eq_true rfl) (Nat.le_of_ble_eq_true rfl) ?_
            have hP9 := hP.sub (ws' := [(m0, .inr (12, [.ref mp, .int (nI ms), .int (nI C), .int (nI P), .ref mw, .ref mh, .ref mo, .int 0, .int x_value, .int x_digits, .int (nI (rc + 1)), .int (nI (ic + 1)), .int (nI (ic + 1)), .ref m5, .ref m6, .ref m7, .long x_all, .int (nI mpn), .ref mk, .ref mn, .int x_kind, .ref mq, .ref m8, .ref m9, .int x_last, .int x_steps, .int x_isRound, .int x_tablesDone, .ref mz, .int (nI mrs), .ref mb, .ref md, .long x_hash])), (m6, .inl (cs 0, 20, .inl f_107))]) [0, 1] rfl
            have hD9 := hD.sub (ws' := [(m0, .inr (12, [.ref mp, .int (nI ms), .int (nI C), .int (nI P), .ref mw, .ref mh, .ref mo, .int 0, .int x_value, .int x_digits, .int (nI (rc + 1)), .int (nI (ic + 1)), .int (nI (ic + 1)), .ref m5, .ref m6, .ref m7, .long x_all, .int (nI mpn), .ref mk, .ref mn, .int x_kind, .ref mq, .ref m8, .ref m9, .int x_last, .int x_steps, .int x_isRound, .int x_tablesDone, .ref mz, .int (nI mrs), .ref mb, .ref md, .long x_hash])), (m6, .inl (cs 0, 20, .inl f_107))]) [0, 1] (by decide) rfl
            exact W.zret (v := 0) hx hb hr (by decide) (fun t ht hW => ⟨⟨0, 0, rfl, ⟨rfl, Or.inl rfl⟩, ⟨0, x_value, x_digits, rc + 1, ic + 1, ic + 1, f_107, (by omega), (by omega), (by omega), (by omega), (fun q9 => absurd q9 (by decide)), by rw [ht]; exact hP9, hD9⟩⟩, hS.F ht⟩) hS.2.2 dX12_goChance_243
        · have n_188 : ic + 1 = rp := b_eq_t (by omega) (by omega) c_188
          refine lv_iconst (v := 1) hx hb dX12_goChance_191 (by decide) ?_
          refine lv_goto (tgt := 196) hx hb dX12_goChance_192 (by decide) ?_
          refine lv_istore_n (lv' := [(3, .int 1), (2, .int 0), (0, .ref m0), (1, .int cd_)]) hx hb dX12_goChance_196 rfl hl (by decide) rfl (fun ls hl => ?_)
          refine lv_aload_n hx hb dX12_goChance_197 rfl (lv_at hl 2 rfl) ?_
          refine lv_aload_n hx hb dX12_goChance_198 rfl (lv_at hl 2 rfl) ?_
          refine va_get (D := D) (ci := 12) (v := .int (nI (ic + 1))) (C := RX12) (T := TX12) (N := 33) hx hb hg gwX12 hown hK hP 0 rfl rfl 12 (by decide) (hg _ kw_482) (fun _ h9 => h9) rfl dX12_goChance_199 ?_
          refine va_put (D := D) (ci := 12) (v := .int (nI (ic + 1))) (ty := .int) (C := RX12) (T := TX12) (N := 33) hx hb hg gwX12 tyX12 tyX12_ok nmX12 hown hK hP hD hS 0 rfl rfl 11 (by decide) (hg _ kw_484) (fun _ h9 => h9) rfl (by decide +kernel) rfl rfl (Nat.le_of_ble_eq_true rfl) dX12_goChance_202 (fun H locs hP hD hS => ?_)
          have hP : va_P D vwCl [(m0, .inr (12, [.ref mp, .int (nI ms), .int (nI C), .int (nI P), .ref mw, .ref mh, .ref mo, .int 4, .int x_value, .int x_digits, .int (nI rc), .int (nI (ic + 1)), .int (nI (ic + 1)), .ref m5, .ref m6, .ref m7, .long x_all, .int (nI mpn), .ref mk, .ref mn, .int x_kind, .ref mq, .ref m8, .ref m9, .int x_last, .int x_steps, .int x_isRound, .int x_tablesDone, .ref mz, .int (nI mrs), .ref mb, .ref md, .long x_hash])), (m6, .inl (cs 0, 20, .inl f_107))] H := hP
          have hD : va_D A [(m0, .inr (12, [.ref mp, .int (nI ms), .int (nI C), .int (nI P), .ref mw, .ref mh, .ref mo, .int 4, .int x_value, .int x_digits, .int (nI rc), .int (nI (ic + 1)), .int (nI (ic + 1)), .ref m5, .ref m6, .ref m7, .long x_all, .int (nI mpn), .ref mk, .ref mn, .int x_kind, .ref mq, .ref m8, .ref m9, .int x_last, .int x_steps, .int x_isRound, .int x_tablesDone, .ref mz, .int (nI mrs), .ref mb, .ref md, .long x_hash])), (m6, .inl (cs 0, 20, .inl f_107))] := hD
          refine lv_aload_n hx hb dX12_goChance_205 rfl (lv_at hl 2 rfl) ?_
          refine lv_dup hx hb dX12_goChance_206 rfl ?_
          refine va_get (D := D) (ci := 12) (v := .int (nI rc)) (C := RX12) (T := TX12) (N := 33) hx hb hg gwX12 hown hK hP 0 rfl rfl 10 (by decide) (hg _ kw_481) (fun _ h9 => h9) rfl dX12_goChance_207 ?_
          refine lv_iconst (v := 1) hx hb dX12_goChance_210 (by decide) ?_
          refine lv_iadd hx hb dX12_goChance_211 ?_
          refine lv_topi (fun z_211 e_211 => ?_)
          obtain rfl : z_211 = nI (rc + 1) := e_211.trans (nI_add _ _)
          refine va_put (D := D) (ci := 12) (v := .int (nI (rc + 1))) (ty := .int) (C := RX12) (T := TX12) (N := 33) hx hb hg gwX12 tyX12 tyX12_ok nmX12 hown hK hP hD hS 0 rfl rfl 10 (by decide) (hg _ kw_481) (fun _ h9 => h9) rfl (by decide +kernel) rfl rfl (Nat.le_of_ble_eq_true rfl) dX12_goChance_212 (fun H locs hP hD hS => ?_)
          have hP : va_P D vwCl [(m0, .inr (12, [.ref mp, .int (nI ms), .int (nI C), .int (nI P), .ref mw, .ref mh, .ref mo, .int 4, .int x_value, .int x_digits, .int (nI (rc + 1)), .int (nI (ic + 1)), .int (nI (ic + 1)), .ref m5, .ref m6, .ref m7, .long x_all, .int (nI mpn), .ref mk, .ref mn, .int x_kind, .ref mq, .ref m8, .ref m9, .int x_last, .int x_steps, .int x_isRound, .int x_tablesDone, .ref mz, .int (nI mrs), .ref mb, .ref md, .long x_hash])), (m6, .inl (cs 0, 20, .inl f_107))] H := hP
          have hD : va_D A [(m0, .inr (12, [.ref mp, .int (nI ms), .int (nI C), .int (nI P), .ref mw, .ref mh, .ref mo, .int 4, .int x_value, .int x_digits, .int (nI (rc + 1)), .int (nI (ic + 1)), .int (nI (ic + 1)), .ref m5, .ref m6, .ref m7, .long x_all, .int (nI mpn), .ref mk, .ref mn, .int x_kind, .ref mq, .ref m8, .ref m9, .int x_last, .int x_steps, .int x_isRound, .int x_tablesDone, .ref mz, .int (nI mrs), .ref mb, .ref md, .long x_hash])), (m6, .inl (cs 0, 20, .inl f_107))] := hD
          refine lv_aload_n hx hb dX12_goChance_215 rfl (lv_at hl 2 rfl) ?_
          refine lv_iconst (v := 0) hx hb dX12_goChance_216 (by decide) ?_
          refine va_put (D := D) (ci := 12) (v := .int 0) (ty := .int) (C := RX12) (T := TX12) (N := 33) hx hb hg gwX12 tyX12 tyX12_ok nmX12 hown hK hP hD hS 0 rfl rfl 7 (by decide) (hg _ kw_485) (fun _ h9 => h9) rfl (by decide +kernel) rfl rfl (Nat.le_of_ble_eq_true rfl) dX12_goChance_217 (fun H locs hP hD hS => ?_)
          have hP : va_P D vwCl [(m0, .inr (12, [.ref mp, .int (nI ms), .int (nI C), .int (nI P), .ref mw, .ref mh, .ref mo, .int 0, .int x_value, .int x_digits, .int (nI (rc + 1)), .int (nI (ic + 1)), .int (nI (ic + 1)), .ref m5, .ref m6, .ref m7, .long x_all, .int (nI mpn), .ref mk, .ref mn, .int x_kind, .ref mq, .ref m8, .ref m9, .int x_last, .int x_steps, .int x_isRound, .int x_tablesDone, .ref mz, .int (nI mrs), .ref mb, .ref md, .long x_hash])), (m6, .inl (cs 0, 20, .inl f_107))] H := hP
          have hD : va_D A [(m0, .inr (12, [.ref mp, .int (nI ms), .int (nI C), .int (nI P), .ref mw, .ref mh, .ref mo, .int 0, .int x_value, .int x_digits, .int (nI (rc + 1)), .int (nI (ic + 1)), .int (nI (ic + 1)), .ref m5, .ref m6, .ref m7, .long x_all, .int (nI mpn), .ref mk, .ref mn, .int x_kind, .ref mq, .ref m8, .ref m9, .int x_last, .int x_steps, .int x_isRound, .int x_tablesDone, .ref mz, .int (nI mrs), .ref mb, .ref md, .long x_hash])), (m6, .inl (cs 0, 20, .inl f_107))] := hD
          refine lv_iload_n hx hb dX12_goChance_220 rfl (lv_at hl 3 rfl) ?_
          refine lv_bipush (v := 59) hx hb dX12_goChance_221 (by decide) ?_
          refine lv_icmp_ne (tgt := 242) hx hb dX12_goChance_223 (by decide) (fun c_223 => ?_) (fun c_223 => ?_)
          · refine lv_iconst (v := 0) hx hb dX12_goChance_242 (by decide) ?_
            refine W_sQ hQ ?_
            refine W.widen (k := 0) (n := 0) (Nat.le_of_ble_eq_true rfl) (Nat.le_of_ble_eq_true rfl) ?_
            have hP9 := hP.sub (ws' := [(m0, .inr (12, [.ref mp, .int (nI ms), .int (nI C), .int (nI P), .ref mw, .ref mh, .ref mo, .int 0, .int x_value, .int x_digits, .int (nI (rc + 1)), .int (nI (ic + 1)), .int (nI (ic + 1)), .ref m5, .ref m6, .ref m7, .long x_all, .int (nI mpn), .ref mk, .ref mn, .int x_kind, .ref mq, .ref m8, .ref m9, .int x_last, .int x_steps, .int x_isRound, .int x_tablesDone, .ref mz, .int (nI mrs), .ref mb, .ref md, .long x_hash])), (m6, .inl (cs 0, 20, .inl f_107))]) [0, 1] rfl
            have hD9 := hD.sub (ws' := [(m0, .inr (12, [.ref mp, .int (nI ms), .int (nI C), .int (nI P), .ref mw, .ref mh, .ref mo, .int 0, .int x_value, .int x_digits, .int (nI (rc + 1)), .int (nI (ic + 1)), .int (nI (ic + 1)), .ref m5, .ref m6, .ref m7, .long x_all, .int (nI mpn), .ref mk, .ref mn, .int x_kind, .ref mq, .ref m8, .ref m9, .int x_last, .int x_steps, .int x_isRound, .int x_tablesDone, .ref mz, .int (nI mrs), .ref mb, .ref md, .long x_hash])), (m6, .inl (cs 0, 20, .inl f_107))]) [0, 1] (by decide) rfl
            exact W.zret (v := 0) hx hb hr (by decide) (fun t ht hW => ⟨⟨0, 0, rfl, ⟨rfl, Or.inl rfl⟩, ⟨0, x_value, x_digits, rc + 1, ic + 1, ic + 1, f_107, (by omega), (by omega), (by omega), (by omega), (fun q9 => absurd q9 (by decide)), by rw [ht]; exact hP9, hD9⟩⟩, hS.F ht⟩) hS.2.2 dX12_goChance_243
          · refine lv_iload_n hx hb dX12_goChance_226 rfl (lv_at hl 0 rfl) ?_
            refine lv_if_eq (tgt := 242) hx hb dX12_goChance_227 (by decide) (fun c_227 => absurd c_227 (by decide)) (fun c_227 => ?_)
            refine lv_aload_n hx hb dX12_goChance_230 rfl (lv_at hl 2 rfl) ?_
            refine va_get (D := D) (ci := 12) (v := .int (nI (rc + 1))) (C := RX12) (T := TX12) (N := 33) hx hb hg gwX12 hown hK hP 0 rfl rfl 10 (by decide) (hg _ kw_481) (fun _ h9 => h9) rfl dX12_goChance_231 ?_
            refine lv_iconst (v := 5) hx hb dX12_goChance_234 (by decide) ?_
            refine lv_icmp_ge (tgt := 242) hx hb dX12_goChance_235 (by decide) (fun c_235 => ?_) (fun c_235 => ?_)
            · have n_235 : 5 ≤ rc + 1 := b_le_t (by omega) (by omega) c_235
              refine lv_iconst (v := 0) hx hb dX12_goChance_242 (by decide) ?_
              refine W_sQ hQ ?_
              refine W.widen (k := 0) (n := 0) (Nat.le_of_ble_eq_true rfl) (Nat.le_of_ble_eq_true rfl) ?_
              have hP9 := hP.sub (ws' := [(m0, .inr (12, [.ref mp, .int (nI ms), .int (nI C), .int (nI P), .ref mw, .ref mh, .ref mo, .int 0, .int x_value, .int x_digits, .int (nI (rc + 1)), .int (nI (ic + 1)), .int (nI (ic + 1)), .ref m5, .ref m6, .ref m7, .long x_all, .int (nI mpn), .ref mk, .ref mn, .int x_kind, .ref mq, .ref m8, .ref m9, .int x_last, .int x_steps, .int x_isRound, .int x_tablesDone, .ref mz, .int (nI mrs), .ref mb, .ref md, .long x_hash])), (m6, .inl (cs 0, 20, .inl f_107))]) [0, 1] rfl
              have hD9 := hD.sub (ws' := [(m0, .inr (12, [.ref mp, .int (nI ms), .int (nI C), .int (nI P), .ref mw, .ref mh, .ref mo, .int 0, .int x_value, .int x_digits, .int (nI (rc + 1)), .int (nI (ic + 1)), .int (nI (ic + 1)), .ref m5, .ref m6, .ref m7, .long x_all, .int (nI mpn), .ref mk, .ref mn, .int x_kind, .ref mq, .ref m8, .ref m9, .int x_last, .int x_steps, .int x_isRound, .int x_tablesDone, .ref mz, .int (nI mrs), .ref mb, .ref md, .long x_hash])), (m6, .inl (cs 0, 20, .inl f_107))]) [0, 1] (by decide) rfl
              exact W.zret (v := 0) hx hb hr (by decide) (fun t ht hW => ⟨⟨0, 0, rfl, ⟨rfl, Or.inl rfl⟩, ⟨0, x_value, x_digits, rc + 1, ic + 1, ic + 1, f_107, (by omega), (by omega), (by omega), (by omega), (fun q9 => absurd q9 (by decide)), by rw [ht]; exact hP9, hD9⟩⟩, hS.F ht⟩) hS.2.2 dX12_goChance_243
            · have n_235 : rc + 1 < 5 := b_le_f (by omega) (by omega) c_235
              refine lv_iconst (v := 1) hx hb dX12_goChance_238 (by decide) ?_
              refine lv_goto (tgt := 243) hx hb dX12_goChance_239 (by decide) ?_
              refine W_sQ hQ ?_
              refine W.widen (k := 0) (n := 0) (Nat.le_of_ble_eq_true rfl) (Nat.le_of_ble_eq_true rfl) ?_
              have hP9 := hP.sub (ws' := [(m0, .inr (12, [.ref mp, .int (nI ms), .int (nI C), .int (nI P), .ref mw, .ref mh, .ref mo, .int 0, .int x_value, .int x_digits, .int (nI (rc + 1)), .int (nI (ic + 1)), .int (nI (ic + 1)), .ref m5, .ref m6, .ref m7, .long x_all, .int (nI mpn), .ref mk, .ref mn, .int x_kind, .ref mq, .ref m8, .ref m9, .int x_last, .int x_steps, .int x_isRound, .int x_tablesDone, .ref mz, .int (nI mrs), .ref mb, .ref md, .long x_hash])), (m6, .inl (cs 0, 20, .inl f_107))]) [0, 1] rfl
              have hD9 := hD.sub (ws' := [(m0, .inr (12, [.ref mp, .int (nI ms), .int (nI C), .int (nI P), .ref mw, .ref mh, .ref mo, .int 0, .int x_value, .int x_digits, .int (nI (rc + 1)), .int (nI (ic + 1)), .int (nI (ic + 1)), .ref m5, .ref m6, .ref m7, .long x_all, .int (nI mpn), .ref mk, .ref mn, .int x_kind, .ref mq, .ref m8, .ref m9, .int x_last, .int x_steps, .int x_isRound, .int x_tablesDone, .ref mz, .int (nI mrs), .ref mb, .ref md, .long x_hash])), (m6, .inl (cs 0, 20, .inl f_107))]) [0, 1] (by decide) rfl
              exact W.zret (v := 1) hx hb hr (by decide) (fun t ht hW => ⟨⟨1, 1, rfl, ⟨rfl, Or.inr rfl⟩, ⟨0, x_value, x_digits, rc + 1, ic + 1, ic + 1, f_107, (by omega), (by omega), (by omega), (by omega), (fun _ => by omega), by rw [ht]; exact hP9, hD9⟩⟩, hS.F ht⟩) hS.2.2 dX12_goChance_243
      · have n_161 : rc = 0 := b_eq_t (by omega) (by omega) c_161
        refine lv_aload_n hx hb dX12_goChance_164 rfl (lv_at hl 1 rfl) ?_
        refine va_get (D := D) (ci := 12) (v := .int (nI (ic + 1))) (C := RX12) (T := TX12) (N := 33) hx hb hg gwX12 hown hK hP 0 rfl rfl 12 (by decide) (hg _ kw_482) (fun _ h9 => h9) rfl dX12_goChance_165 ?_
        refine lv_iconst (v := 1) hx hb dX12_goChance_168 (by decide) ?_
        refine lv_icmp_le (tgt := 176) hx hb dX12_goChance_169 (by decide) (fun c_169 => ?_) (fun c_169 => ?_)
        · have n_169 : ic + 1 ≤ 1 := b_le_t (by omega) (by omega) c_169
          refine lv_iconst (v := 0) hx hb dX12_goChance_176 (by decide) ?_
          refine lv_goto (tgt := 196) hx hb dX12_goChance_177 (by decide) ?_
          refine lv_istore_n (lv' := [(3, .int 0), (2, .int 0), (0, .ref m0), (1, .int cd_)]) hx hb dX12_goChance_196 rfl hl (by decide) rfl (fun ls hl => ?_)
          refine lv_aload_n hx hb dX12_goChance_197 rfl (lv_at hl 2 rfl) ?_
          refine lv_aload_n hx hb dX12_goChance_198 rfl (lv_at hl 2 rfl) ?_
          refine va_get (D := D) (ci := 12) (v := .int (nI (ic + 1))) (C := RX12) (T := TX12) (N := 33) hx hb hg gwX12 hown hK hP 0 rfl rfl 12 (by decide) (hg _ kw_482) (fun _ h9 => h9) rfl dX12_goChance_199 ?_
          refine va_put (D := D) (ci := 12) (v := .int (nI (ic + 1))) (ty := .int) (C := RX12) (T := TX12) (N := 33) hx hb hg gwX12 tyX12 tyX12_ok nmX12 hown hK hP hD hS 0 rfl rfl 11 (by decide) (hg _ kw_484) (fun _ h9 => h9) rfl (by decide +kernel) rfl rfl (Nat.le_of_ble_eq_true rfl) dX12_goChance_202 (fun H locs hP hD hS => ?_)
          have hP : va_P D vwCl [(m0, .inr (12, [.ref mp, .int (nI ms), .int (nI C), .int (nI P), .ref mw, .ref mh, .ref mo, .int 4, .int x_value, .int x_digits, .int (nI rc), .int (nI (ic + 1)), .int (nI (ic + 1)), .ref m5, .ref m6, .ref m7, .long x_all, .int (nI mpn), .ref mk, .ref mn, .int x_kind, .ref mq, .ref m8, .ref m9, .int x_last, .int x_steps, .int x_isRound, .int x_tablesDone, .ref mz, .int (nI mrs), .ref mb, .ref md, .long x_hash])), (m6, .inl (cs 0, 20, .inl f_107))] H := hP
          have hD : va_D A [(m0, .inr (12, [.ref mp, .int (nI ms), .int (nI C), .int (nI P), .ref mw, .ref mh, .ref mo, .int 4, .int x_value, .int x_digits, .int (nI rc), .int (nI (ic + 1)), .int (nI (ic + 1)), .ref m5, .ref m6, .ref m7, .long x_all, .int (nI mpn), .ref mk, .ref mn, .int x_kind, .ref mq, .ref m8, .ref m9, .int x_last, .int x_steps, .int x_isRound, .int x_tablesDone, .ref mz, .int (nI mrs), .ref mb, .ref md, .long x_hash])), (m6, .inl (cs 0, 20, .inl f_107))] := hD
          refine lv_aload_n hx hb dX12_goChance_205 rfl (lv_at hl 2 rfl) ?_
          refine lv_dup hx hb dX12_goChance_206 rfl ?_
          refine va_get (D := D) (ci := 12) (v := .int (nI rc)) (C := RX12) (T := TX12) (N := 33) hx hb hg gwX12 hown hK hP 0 rfl rfl 10 (by decide) (hg _ kw_481) (fun _ h9 => h9) rfl dX12_goChance_207 ?_
          refine lv_iconst (v := 1) hx hb dX12_goChance_210 (by decide) ?_
          refine lv_iadd hx hb dX12_goChance_211 ?_
          refine lv_topi (fun z_211 e_211 => ?_)
          obtain rfl : z_211 = nI (rc + 1) := e_211.trans (nI_add _ _)
          refine va_put (D := D) (ci := 12) (v := .int (nI (rc + 1))) (ty := .int) (C := RX12) (T := TX12) (N := 33) hx hb hg gwX12 tyX12 tyX12_ok nmX12 hown hK hP hD hS 0 rfl rfl 10 (by decide) (hg _ kw_481) (fun _ h9 => h9) rfl (by decide +kernel) rfl rfl (Nat.le_of_ble_eq_true rfl) dX12_goChance_212 (fun H locs hP hD hS => ?_)
          have hP : va_P D vwCl [(m0, .inr (12, [.ref mp, .int (nI ms), .int (nI C), .int (nI P), .ref mw, .ref mh, .ref mo, .int 4, .int x_value, .int x_digits, .int (nI (rc + 1)), .int (nI (ic + 1)), .int (nI (ic + 1)), .ref m5, .ref m6, .ref m7, .long x_all, .int (nI mpn), .ref mk, .ref mn, .int x_kind, .ref mq, .ref m8, .ref m9, .int x_last, .int x_steps, .int x_isRound, .int x_tablesDone, .ref mz, .int (nI mrs), .ref mb, .ref md, .long x_hash])), (m6, .inl (cs 0, 20, .inl f_107))] H := hP
          have hD : va_D A [(m0, .inr (12, [.ref mp, .int (nI ms), .int (nI C), .int (nI P), .ref mw, .ref mh, .ref mo, .int 4, .int x_value, .int x_digits, .int (nI (rc + 1)), .int (nI (ic + 1)), .int (nI (ic + 1)), .ref m5, .ref m6, .ref m7, .long x_all, .int (nI mpn), .ref mk, .ref mn, .int x_kind, .ref mq, .ref m8, .ref m9, .int x_last, .int x_steps, .int x_isRound, .int x_tablesDone, .ref mz, .int (nI mrs), .ref mb, .ref md, .long x_hash])), (m6, .inl (cs 0, 20, .inl f_107))] := hD
          refine lv_aload_n hx hb dX12_goChance_215 rfl (lv_at hl 2 rfl) ?_
          refine lv_iconst (v := 0) hx hb dX12_goChance_216 (by decide) ?_
          refine va_put (D := D) (ci := 12) (v := .int 0) (ty := .int) (C := RX12) (T := TX12) (N := 33) hx hb hg gwX12 tyX12 tyX12_ok nmX12 hown hK hP hD hS 0 rfl rfl 7 (by decide) (hg _ kw_485) (fun _ h9 => h9) rfl (by decide +kernel) rfl rfl (Nat.le_of_ble_eq_true rfl) dX12_goChance_217 (fun H locs hP hD hS => ?_)
          have hP : va_P D vwCl [(m0, .inr (12, [.ref mp, .int (nI ms), .int (nI C), .int (nI P), .ref mw, .ref mh, .ref mo, .int 0, .int x_value, .int x_digits, .int (nI (rc + 1)), .int (nI (ic + 1)), .int (nI (ic + 1)), .ref m5, .ref m6, .ref m7, .long x_all, .int (nI mpn), .ref mk, .ref mn, .int x_kind, .ref mq, .ref m8, .ref m9, .int x_last, .int x_steps, .int x_isRound, .int x_tablesDone, .ref mz, .int (nI mrs), .ref mb, .ref md, .long x_hash])), (m6, .inl (cs 0, 20, .inl f_107))] H := hP
          have hD : va_D A [(m0, .inr (12, [.ref mp, .int (nI ms), .int (nI C), .int (nI P), .ref mw, .ref mh, .ref mo, .int 0, .int x_value, .int x_digits, .int (nI (rc + 1)), .int (nI (ic + 1)), .int (nI (ic + 1)), .ref m5, .ref m6, .ref m7, .long x_all, .int (nI mpn), .ref mk, .ref mn, .int x_kind, .ref mq, .ref m8, .ref m9, .int x_last, .int x_steps, .int x_isRound, .int x_tablesDone, .ref mz, .int (nI mrs), .ref mb, .ref md, .long x_hash])), (m6, .inl (cs 0, 20, .inl f_107))] := hD
          refine lv_iload_n hx hb dX12_goChance_220 rfl (lv_at hl 3 rfl) ?_
          refine lv_bipush (v := 59) hx hb dX12_goChance_221 (by decide) ?_
          refine lv_icmp_ne (tgt := 242) hx hb dX12_goChance_223 (by decide) (fun c_223 => ?_) (fun c_223 => ?_)
          · refine lv_iconst (v := 0) hx hb dX12_goChance_242 (by decide) ?_
            refine W_sQ hQ ?_
            refine W.widen (k := 0) (n := 0) (Nat.le_of_ble_eq_true rfl) (Nat.le_of_ble_eq_true rfl) ?_
            have hP9 := hP.sub (ws' := [(m0, .inr (12, [.ref mp, .int (nI ms), .int (nI C), .int (nI P), .ref mw, .ref mh, .ref mo, .int 0, .int x_value, .int x_digits, .int (nI (rc + 1)), .int (nI (ic + 1)), .int (nI (ic + 1)), .ref m5, .ref m6, .ref m7, .long x_all, .int (nI mpn), .ref mk, .ref mn, .int x_kind, .ref mq, .ref m8, .ref m9, .int x_last, .int x_steps, .int x_isRound, .int x_tablesDone, .ref mz, .int (nI mrs), .ref mb, .ref md, .long x_hash])), (m6, .inl (cs 0, 20, .inl f_107))]) [0, 1] rfl
            have hD9 := hD.sub (ws' := [(m0, .inr (12, [.ref mp, .int (nI ms), .int (nI C), .int (nI P), .ref mw, .ref mh, .ref mo, .int 0, .int x_value, .int x_digits, .int (nI (rc + 1)), .int (nI (ic + 1)), .int (nI (ic + 1)), .ref m5, .ref m6, .ref m7, .long x_all, .int (nI mpn), .ref mk, .ref mn, .int x_kind, .ref mq, .ref m8, .ref m9, .int x_last, .int x_steps, .int x_isRound, .int x_tablesDone, .ref mz, .int (nI mrs), .ref mb, .ref md, .long x_hash])), (m6, .inl (cs 0, 20, .inl f_107))]) [0, 1] (by decide) rfl
            exact W.zret (v := 0) hx hb hr (by decide) (fun t ht hW => ⟨⟨0, 0, rfl, ⟨rfl, Or.inl rfl⟩, ⟨0, x_value, x_digits, rc + 1, ic + 1, ic + 1, f_107, (by omega), (by omega), (by omega), (by omega), (fun q9 => absurd q9 (by decide)), by rw [ht]; exact hP9, hD9⟩⟩, hS.F ht⟩) hS.2.2 dX12_goChance_243
          · refine lv_iload_n hx hb dX12_goChance_226 rfl (lv_at hl 0 rfl) ?_
            refine lv_if_eq (tgt := 242) hx hb dX12_goChance_227 (by decide) (fun c_227 => ?_) (fun c_227 => absurd c_227 (by decide))
            refine lv_iconst (v := 0) hx hb dX12_goChance_242 (by decide) ?_
            refine W_sQ hQ ?_
            refine W.widen (k := 0) (n := 0) (Nat.le_of_ble_eq_true rfl) (Nat.le_of_ble_eq_true rfl) ?_
            have hP9 := hP.sub (ws' := [(m0, .inr (12, [.ref mp, .int (nI ms), .int (nI C), .int (nI P), .ref mw, .ref mh, .ref mo, .int 0, .int x_value, .int x_digits, .int (nI (rc + 1)), .int (nI (ic + 1)), .int (nI (ic + 1)), .ref m5, .ref m6, .ref m7, .long x_all, .int (nI mpn), .ref mk, .ref mn, .int x_kind, .ref mq, .ref m8, .ref m9, .int x_last, .int x_steps, .int x_isRound, .int x_tablesDone, .ref mz, .int (nI mrs), .ref mb, .ref md, .long x_hash])), (m6, .inl (cs 0, 20, .inl f_107))]) [0, 1] rfl
            have hD9 := hD.sub (ws' := [(m0, .inr (12, [.ref mp, .int (nI ms), .int (nI C), .int (nI P), .ref mw, .ref mh, .ref mo, .int 0, .int x_value, .int x_digits, .int (nI (rc + 1)), .int (nI (ic + 1)), .int (nI (ic + 1)), .ref m5, .ref m6, .ref m7, .long x_all, .int (nI mpn), .ref mk, .ref mn, .int x_kind, .ref mq, .ref m8, .ref m9, .int x_last, .int x_steps, .int x_isRound, .int x_tablesDone, .ref mz, .int (nI mrs), .ref mb, .ref md, .long x_hash])), (m6, .inl (cs 0, 20, .inl f_107))]) [0, 1] (by decide) rfl
            exact W.zret (v := 0) hx hb hr (by decide) (fun t ht hW => ⟨⟨0, 0, rfl, ⟨rfl, Or.inl rfl⟩, ⟨0, x_value, x_digits, rc + 1, ic + 1, ic + 1, f_107, (by omega), (by omega), (by omega), (by omega), (fun q9 => absurd q9 (by decide)), by rw [ht]; exact hP9, hD9⟩⟩, hS.F ht⟩) hS.2.2 dX12_goChance_243
        · have n_169 : 1 < ic + 1 := b_le_f (by omega) (by omega) c_169
          refine lv_iconst (v := 1) hx hb dX12_goChance_172 (by decide) ?_
          refine lv_goto (tgt := 196) hx hb dX12_goChance_173 (by decide) ?_
          refine lv_istore_n (lv' := [(3, .int 1), (2, .int 0), (0, .ref m0), (1, .int cd_)]) hx hb dX12_goChance_196 rfl hl (by decide) rfl (fun ls hl => ?_)
          refine lv_aload_n hx hb dX12_goChance_197 rfl (lv_at hl 2 rfl) ?_
          refine lv_aload_n hx hb dX12_goChance_198 rfl (lv_at hl 2 rfl) ?_
          refine va_get (D := D) (ci := 12) (v := .int (nI (ic + 1))) (C := RX12) (T := TX12) (N := 33) hx hb hg gwX12 hown hK hP 0 rfl rfl 12 (by decide) (hg _ kw_482) (fun _ h9 => h9) rfl dX12_goChance_199 ?_
          refine va_put (D := D) (ci := 12) (v := .int (nI (ic + 1))) (ty := .int) (C := RX12) (T := TX12) (N := 33) hx hb hg gwX12 tyX12 tyX12_ok nmX12 hown hK hP hD hS 0 rfl rfl 11 (by decide) (hg _ kw_484) (fun _ h9 => h9) rfl (by decide +kernel) rfl rfl (Nat.le_of_ble_eq_true rfl) dX12_goChance_202 (fun H locs hP hD hS => ?_)
          have hP : va_P D vwCl [(m0, .inr (12, [.ref mp, .int (nI ms), .int (nI C), .int (nI P), .ref mw, .ref mh, .ref mo, .int 4, .int x_value, .int x_digits, .int (nI rc), .int (nI (ic + 1)), .int (nI (ic + 1)), .ref m5, .ref m6, .ref m7, .long x_all, .int (nI mpn), .ref mk, .ref mn, .int x_kind, .ref mq, .ref m8, .ref m9, .int x_last, .int x_steps, .int x_isRound, .int x_tablesDone, .ref mz, .int (nI mrs), .ref mb, .ref md, .long x_hash])), (m6, .inl (cs 0, 20, .inl f_107))] H := hP
          have hD : va_D A [(m0, .inr (12, [.ref mp, .int (nI ms), .int (nI C), .int (nI P), .ref mw, .ref mh, .ref mo, .int 4, .int x_value, .int x_digits, .int (nI rc), .int (nI (ic + 1)), .int (nI (ic + 1)), .ref m5, .ref m6, .ref m7, .long x_all, .int (nI mpn), .ref mk, .ref mn, .int x_kind, .ref mq, .ref m8, .ref m9, .int x_last, .int x_steps, .int x_isRound, .int x_tablesDone, .ref mz, .int (nI mrs), .ref mb, .ref md, .long x_hash])), (m6, .inl (cs 0, 20, .inl f_107))] := hD
          refine lv_aload_n hx hb dX12_goChance_205 rfl (lv_at hl 2 rfl) ?_
          refine lv_dup hx hb dX12_goChance_206 rfl ?_
          refine va_get (D := D) (ci := 12) (v := .int (nI rc)) (C := RX12) (T := TX12) (N := 33) hx hb hg gwX12 hown hK hP 0 rfl rfl 10 (by decide) (hg _ kw_481) (fun _ h9 => h9) rfl dX12_goChance_207 ?_
          refine lv_iconst (v := 1) hx hb dX12_goChance_210 (by decide) ?_
          refine lv_iadd hx hb dX12_goChance_211 ?_
          refine lv_topi (fun z_211 e_211 => ?_)
          obtain rfl : z_211 = nI (rc + 1) := e_211.trans (nI_add _ _)
          refine va_put (D := D) (ci := 12) (v := .int (nI (rc + 1))) (ty := .int) (C := RX12) (T := TX12) (N := 33) hx hb hg gwX12 tyX12 tyX12_ok nmX12 hown hK hP hD hS 0 rfl rfl 10 (by decide) (hg _ kw_481) (fun _ h9 => h9) rfl (by decide +kernel) rfl rfl (Nat.le_of_ble_eq_true rfl) dX12_goChance_212 (fun H locs hP hD hS => ?_)
          have hP : va_P D vwCl [(m0, .inr (12, [.ref mp, .int (nI ms), .int (nI C), .int (nI P), .ref mw, .ref mh, .ref mo, .int 4, .int x_value, .int x_digits, .int (nI (rc + 1)), .int (nI (ic + 1)), .int (nI (ic + 1)), .ref m5, .ref m6, .ref m7, .long x_all, .int (nI mpn), .ref mk, .ref mn, .int x_kind, .ref mq, .ref m8, .ref m9, .int x_last, .int x_steps, .int x_isRound, .int x_tablesDone, .ref mz, .int (nI mrs), .ref mb, .ref md, .long x_hash])), (m6, .inl (cs 0, 20, .inl f_107))] H := hP
          have hD : va_D A [(m0, .inr (12, [.ref mp, .int (nI ms), .int (nI C), .int (nI P), .ref mw, .ref mh, .ref mo, .int 4, .int x_value, .int x_digits, .int (nI (rc + 1)), .int (nI (ic + 1)), .int (nI (ic + 1)), .ref m5, .ref m6, .ref m7, .long x_all, .int (nI mpn), .ref mk, .ref mn, .int x_kind, .ref mq, .ref m8, .ref m9, .int x_last, .int x_steps, .int x_isRound, .int x_tablesDone, .ref mz, .int (nI mrs), .ref mb, .ref md, .long x_hash])), (m6, .inl (cs 0, 20, .inl f_107))] := hD
          refine lv_aload_n hx hb dX12_goChance_215 rfl (lv_at hl 2 rfl) ?_
          refine lv_iconst (v := 0) hx hb dX12_goChance_216 (by decide) ?_
          refine va_put (D := D) (ci := 12) (v := .int 0) (ty := .int) (C := RX12) (T := TX12) (N := 33) hx hb hg gwX12 tyX12 tyX12_ok nmX12 hown hK hP hD hS 0 rfl rfl 7 (by decide) (hg _ kw_485) (fun _ h9 => h9) rfl (by decide +kernel) rfl rfl (Nat.le_of_ble_eq_true rfl) dX12_goChance_217 (fun H locs hP hD hS => ?_)
          have hP : va_P D vwCl [(m0, .inr (12, [.ref mp, .int (nI ms), .int (nI C), .int (nI P), .ref mw, .ref mh, .ref mo, .int 0, .int x_value, .int x_digits, .int (nI (rc + 1)), .int (nI (ic + 1)), .int (nI (ic + 1)), .ref m5, .ref m6, .ref m7, .long x_all, .int (nI mpn), .ref mk, .ref mn, .int x_kind, .ref mq, .ref m8, .ref m9, .int x_last, .int x_steps, .int x_isRound, .int x_tablesDone, .ref mz, .int (nI mrs), .ref mb, .ref md, .long x_hash])), (m6, .inl (cs 0, 20, .inl f_107))] H := hP
          have hD : va_D A [(m0, .inr (12, [.ref mp, .int (nI ms), .int (nI C), .int (nI P), .ref mw, .ref mh, .ref mo, .int 0, .int x_value, .int x_digits, .int (nI (rc + 1)), .int (nI (ic + 1)), .int (nI (ic + 1)), .ref m5, .ref m6, .ref m7, .long x_all, .int (nI mpn), .ref mk, .ref mn, .int x_kind, .ref mq, .ref m8, .ref m9, .int x_last, .int x_steps, .int x_isRound, .int x_tablesDone, .ref mz, .int (nI mrs), .ref mb, .ref md, .long x_hash])), (m6, .inl (cs 0, 20, .inl f_107))] := hD
          refine lv_iload_n hx hb dX12_goChance_220 rfl (lv_at hl 3 rfl) ?_
          refine lv_bipush (v := 59) hx hb dX12_goChance_221 (by decide) ?_
          refine lv_icmp_ne (tgt := 242) hx hb dX12_goChance_223 (by decide) (fun c_223 => ?_) (fun c_223 => ?_)
          · refine lv_iconst (v := 0) hx hb dX12_goChance_242 (by decide) ?_
            refine W_sQ hQ ?_
            refine W.widen (k := 0) (n := 0) (Nat.le_of_ble_eq_true rfl) (Nat.le_of_ble_eq_true rfl) ?_
            have hP9 := hP.sub (ws' := [(m0, .inr (12, [.ref mp, .int (nI ms), .int (nI C), .int (nI P), .ref mw, .ref mh, .ref mo, .int 0, .int x_value, .int x_digits, .int (nI (rc + 1)), .int (nI (ic + 1)), .int (nI (ic + 1)), .ref m5, .ref m6, .ref m7, .long x_all, .int (nI mpn), .ref mk, .ref mn, .int x_kind, .ref mq, .ref m8, .ref m9, .int x_last, .int x_steps, .int x_isRound, .int x_tablesDone, .ref mz, .int (nI mrs), .ref mb, .ref md, .long x_hash])), (m6, .inl (cs 0, 20, .inl f_107))]) [0, 1] rfl
            have hD9 := hD.sub (ws' := [(m0, .inr (12, [.ref mp, .int (nI ms), .int (nI C), .int (nI P), .ref mw, .ref mh, .ref mo, .int 0, .int x_value, .int x_digits, .int (nI (rc + 1)), .int (nI (ic + 1)), .int (nI (ic + 1)), .ref m5, .ref m6, .ref m7, .long x_all, .int (nI mpn), .ref mk, .ref mn, .int x_kind, .ref mq, .ref m8, .ref m9, .int x_last, .int x_steps, .int x_isRound, .int x_tablesDone, .ref mz, .int (nI mrs), .ref mb, .ref md, .long x_hash])), (m6, .inl (cs 0, 20, .inl f_107))]) [0, 1] (by decide) rfl
            exact W.zret (v := 0) hx hb hr (by decide) (fun t ht hW => ⟨⟨0, 0, rfl, ⟨rfl, Or.inl rfl⟩, ⟨0, x_value, x_digits, rc + 1, ic + 1, ic + 1, f_107, (by omega), (by omega), (by omega), (by omega), (fun q9 => absurd q9 (by decide)), by rw [ht]; exact hP9, hD9⟩⟩, hS.F ht⟩) hS.2.2 dX12_goChance_243
          · refine lv_iload_n hx hb dX12_goChance_226 rfl (lv_at hl 0 rfl) ?_
            refine lv_if_eq (tgt := 242) hx hb dX12_goChance_227 (by decide) (fun c_227 => absurd c_227 (by decide)) (fun c_227 => ?_)
            refine lv_aload_n hx hb dX12_goChance_230 rfl (lv_at hl 2 rfl) ?_
            refine va_get (D := D) (ci := 12) (v := .int (nI (rc + 1))) (C := RX12) (T := TX12) (N := 33) hx hb hg gwX12 hown hK hP 0 rfl rfl 10 (by decide) (hg _ kw_481) (fun _ h9 => h9) rfl dX12_goChance_231 ?_
            refine lv_iconst (v := 5) hx hb dX12_goChance_234 (by decide) ?_
            refine lv_icmp_ge (tgt := 242) hx hb dX12_goChance_235 (by decide) (fun c_235 => ?_) (fun c_235 => ?_)
            · have n_235 : 5 ≤ rc + 1 := b_le_t (by omega) (by omega) c_235
              refine lv_iconst (v := 0) hx hb dX12_goChance_242 (by decide) ?_
              refine W_sQ hQ ?_
              refine W.widen (k := 0) (n := 0) (Nat.le_of_ble_eq_true rfl) (Nat.le_of_ble_eq_true rfl) ?_
              have hP9 := hP.sub (ws' := [(m0, .inr (12, [.ref mp, .int (nI ms), .int (nI C), .int (nI P), .ref mw, .ref mh, .ref mo, .int 0, .int x_value, .int x_digits, .int (nI (rc + 1)), .int (nI (ic + 1)), .int (nI (ic + 1)), .ref m5, .ref m6, .ref m7, .long x_all, .int (nI mpn), .ref mk, .ref mn, .int x_kind, .ref mq, .ref m8, .ref m9, .int x_last, .int x_steps, .int x_isRound, .int x_tablesDone, .ref mz, .int (nI mrs), .ref mb, .ref md, .long x_hash])), (m6, .inl (cs 0, 20, .inl f_107))]) [0, 1] rfl
              have hD9 := hD.sub (ws' := [(m0, .inr (12, [.ref mp, .int (nI ms), .int (nI C), .int (nI P), .ref mw, .ref mh, .ref mo, .int 0, .int x_value, .int x_digits, .int (nI (rc + 1)), .int (nI (ic + 1)), .int (nI (ic + 1)), .ref m5, .ref m6, .ref m7, .long x_all, .int (nI mpn), .ref mk, .ref mn, .int x_kind, .ref mq, .ref m8, .ref m9, .int x_last, .int x_steps, .int x_isRound, .int x_tablesDone, .ref mz, .int (nI mrs), .ref mb, .ref md, .long x_hash])), (m6, .inl (cs 0, 20, .inl f_107))]) [0, 1] (by decide) rfl
              exact W.zret (v := 0) hx hb hr (by decide) (fun t ht hW => ⟨⟨0, 0, rfl, ⟨rfl, Or.inl rfl⟩, ⟨0, x_value, x_digits, rc + 1, ic + 1, ic + 1, f_107, (by omega), (by omega), (by omega), (by omega), (fun q9 => absurd q9 (by decide)), by rw [ht]; exact hP9, hD9⟩⟩, hS.F ht⟩) hS.2.2 dX12_goChance_243
            · have n_235 : rc + 1 < 5 := b_le_f (by omega) (by omega) c_235
              refine lv_iconst (v := 1) hx hb dX12_goChance_238 (by decide) ?_
              refine lv_goto (tgt := 243) hx hb dX12_goChance_239 (by decide) ?_
              refine W_sQ hQ ?_
              refine W.widen (k := 0) (n := 0) (Nat.le_of_ble_eq_true rfl) (Nat.le_of_ble_eq_true rfl) ?_
              have hP9 := hP.sub (ws' := [(m0, .inr (12, [.ref mp, .int (nI ms), .int (nI C), .int (nI P), .ref mw, .ref mh, .ref mo, .int 0, .int x_value, .int x_digits, .int (nI (rc + 1)), .int (nI (ic + 1)), .int (nI (ic + 1)), .ref m5, .ref m6, .ref m7, .long x_all, .int (nI mpn), .ref mk, .ref mn, .int x_kind, .ref mq, .ref m8, .ref m9, .int x_last, .int x_steps, .int x_isRound, .int x_tablesDone, .ref mz, .int (nI mrs), .ref mb, .ref md, .long x_hash])), (m6, .inl (cs 0, 20, .inl f_107))]) [0, 1] rfl
              have hD9 := hD.sub (ws' := [(m0, .inr (12, [.ref mp, .int (nI ms), .int (nI C), .int (nI P), .ref mw, .ref mh, .ref mo, .int 0, .int x_value, .int x_digits, .int (nI (rc + 1)), .int (nI (ic + 1)), .int (nI (ic + 1)), .ref m5, .ref m6, .ref m7, .long x_all, .int (nI mpn), .ref mk, .ref mn, .int x_kind, .ref mq, .ref m8, .ref m9, .int x_last, .int x_steps, .int x_isRound, .int x_tablesDone, .ref mz, .int (nI mrs), .ref mb, .ref md, .long x_hash])), (m6, .inl (cs 0, 20, .inl f_107))]) [0, 1] (by decide) rfl
              exact W.zret (v := 1) hx hb hr (by decide) (fun t ht hW => ⟨⟨1, 1, rfl, ⟨rfl, Or.inr rfl⟩, ⟨0, x_value, x_digits, rc + 1, ic + 1, ic + 1, f_107, (by omega), (by omega), (by omega), (by omega), (fun _ => by omega), by rw [ht]; exact hP9, hD9⟩⟩, hS.F ht⟩) hS.2.2 dX12_goChance_243
    · refine lv_aload_n hx hb dX12_goChance_124 rfl (lv_at hl 1 rfl) ?_
      refine lv_iconst (v := 3) hx hb dX12_goChance_125 (by decide) ?_
      refine va_put (D := D) (ci := 12) (v := .int 3) (ty := .int) (C := RX12) (T := TX12) (N := 33) hx hb hg gwX12 tyX12 tyX12_ok nmX12 hown hK hP hD hS 0 rfl rfl 7 (by decide) (hg _ kw_485) (fun _ h9 => h9) rfl (by decide +kernel) rfl rfl (Nat.le_of_ble_eq_true rfl) dX12_goChance_126 (fun H locs hP hD hS => ?_)
      have hP : va_P D vwCl [(m0, .inr (12, [.ref mp, .int (nI ms), .int (nI C), .int (nI P), .ref mw, .ref mh, .ref mo, .int 3, .int x_value, .int x_digits, .int (nI rc), .int (nI rp), .int (nI (ic + 1)), .ref m5, .ref m6, .ref m7, .long x_all, .int (nI mpn), .ref mk, .ref mn, .int x_kind, .ref mq, .ref m8, .ref m9, .int x_last, .int x_steps, .int x_isRound, .int x_tablesDone, .ref mz, .int (nI mrs), .ref mb, .ref md, .long x_hash])), (m6, .inl (cs 0, 20, .inl f_107))] H := hP
      have hD : va_D A [(m0, .inr (12, [.ref mp, .int (nI ms), .int (nI C), .int (nI P), .ref mw, .ref mh, .ref mo, .int 3, .int x_value, .int x_digits, .int (nI rc), .int (nI rp), .int (nI (ic + 1)), .ref m5, .ref m6, .ref m7, .long x_all, .int (nI mpn), .ref mk, .ref mn, .int x_kind, .ref mq, .ref m8, .ref m9, .int x_last, .int x_steps, .int x_isRound, .int x_tablesDone, .ref mz, .int (nI mrs), .ref mb, .ref md, .long x_hash])), (m6, .inl (cs 0, 20, .inl f_107))] := hD
      refine lv_aload_n hx hb dX12_goChance_129 rfl (lv_at hl 1 rfl) ?_
      refine va_get (D := D) (ci := 12) (v := .int (nI (ic + 1))) (C := RX12) (T := TX12) (N := 33) hx hb hg gwX12 hown hK hP 0 rfl rfl 12 (by decide) (hg _ kw_482) (fun _ h9 => h9) rfl dX12_goChance_130 ?_
      refine lv_aload_n hx hb dX12_goChance_133 rfl (lv_at hl 1 rfl) ?_
      refine va_get (D := D) (ci := 12) (v := .int (nI rc)) (C := RX12) (T := TX12) (N := 33) hx hb hg gwX12 hown hK hP 0 rfl rfl 10 (by decide) (hg _ kw_481) (fun _ h9 => h9) rfl dX12_goChance_134 ?_
      refine lv_if_ne (tgt := 144) hx hb dX12_goChance_137 (by decide) (fun c_137 => ?_) (fun c_137 => ?_)
      · have n_137 : ¬ rc = 0 := b_eq_f (by omega) (by omega) c_137
        refine lv_aload_n hx hb dX12_goChance_144 rfl (lv_at hl 1 rfl) ?_
        refine va_get (D := D) (ci := 12) (v := .int (nI rp)) (C := RX12) (T := TX12) (N := 33) hx hb hg gwX12 hown hK hP 0 rfl rfl 11 (by decide) (hg _ kw_484) (fun _ h9 => h9) rfl dX12_goChance_145 ?_
        refine lv_icmp_ge (tgt := 155) hx hb dX12_goChance_148 (by decide) (fun c_148 => ?_) (fun c_148 => ?_)
        · have n_148 : rp ≤ ic + 1 := b_le_t (by omega) (by omega) c_148
          refine lv_iconst (v := 0) hx hb dX12_goChance_155 (by decide) ?_
          refine W_sQ hQ ?_
          refine W.widen (k := 0) (n := 0) (Nat.le_of_ble_eq_true rfl) (Nat.le_of_ble_eq_true rfl) ?_
          have hP9 := hP.sub (ws' := [(m0, .inr (12, [.ref mp, .int (nI ms), .int (nI C), .int (nI P), .ref mw, .ref mh, .ref mo, .int 3, .int x_value, .int x_digits, .int (nI rc), .int (nI rp), .int (nI (ic + 1)), .ref m5, .ref m6, .ref m7, .long x_all, .int (nI mpn), .ref mk, .ref mn, .int x_kind, .ref mq, .ref m8, .ref m9, .int x_last, .int x_steps, .int x_isRound, .int x_tablesDone, .ref mz, .int (nI mrs), .ref mb, .ref md, .long x_hash])), (m6, .inl (cs 0, 20, .inl f_107))]) [0, 1] rfl
          have hD9 := hD.sub (ws' := [(m0, .inr (12, [.ref mp, .int (nI ms), .int (nI C), .int (nI P), .ref mw, .ref mh, .ref mo, .int 3, .int x_value, .int x_digits, .int (nI rc), .int (nI rp), .int (nI (ic + 1)), .ref m5, .ref m6, .ref m7, .long x_all, .int (nI mpn), .ref mk, .ref mn, .int x_kind, .ref mq, .ref m8, .ref m9, .int x_last, .int x_steps, .int x_isRound, .int x_tablesDone, .ref mz, .int (nI mrs), .ref mb, .ref md, .long x_hash])), (m6, .inl (cs 0, 20, .inl f_107))]) [0, 1] (by decide) rfl
          exact W.zret (v := 0) hx hb hr (by decide) (fun t ht hW => ⟨⟨0, 0, rfl, ⟨rfl, Or.inl rfl⟩, ⟨3, x_value, x_digits, rc, rp, ic + 1, f_107, (by omega), (by omega), (by omega), (by omega), (fun q9 => absurd q9 (by decide)), by rw [ht]; exact hP9, hD9⟩⟩, hS.F ht⟩) hS.2.2 dX12_goChance_156
        · have n_148 : ic + 1 < rp := b_le_f (by omega) (by omega) c_148
          refine lv_iconst (v := 1) hx hb dX12_goChance_151 (by decide) ?_
          refine lv_goto (tgt := 156) hx hb dX12_goChance_152 (by decide) ?_
          refine W_sQ hQ ?_
          refine W.widen (k := 0) (n := 0) (Nat.le_of_ble_eq_true rfl) (Nat.le_of_ble_eq_true rfl) ?_
          have hP9 := hP.sub (ws' := [(m0, .inr (12, [.ref mp, .int (nI ms), .int (nI C), .int (nI P), .ref mw, .ref mh, .ref mo, .int 3, .int x_value, .int x_digits, .int (nI rc), .int (nI rp), .int (nI (ic + 1)), .ref m5, .ref m6, .ref m7, .long x_all, .int (nI mpn), .ref mk, .ref mn, .int x_kind, .ref mq, .ref m8, .ref m9, .int x_last, .int x_steps, .int x_isRound, .int x_tablesDone, .ref mz, .int (nI mrs), .ref mb, .ref md, .long x_hash])), (m6, .inl (cs 0, 20, .inl f_107))]) [0, 1] rfl
          have hD9 := hD.sub (ws' := [(m0, .inr (12, [.ref mp, .int (nI ms), .int (nI C), .int (nI P), .ref mw, .ref mh, .ref mo, .int 3, .int x_value, .int x_digits, .int (nI rc), .int (nI rp), .int (nI (ic + 1)), .ref m5, .ref m6, .ref m7, .long x_all, .int (nI mpn), .ref mk, .ref mn, .int x_kind, .ref mq, .ref m8, .ref m9, .int x_last, .int x_steps, .int x_isRound, .int x_tablesDone, .ref mz, .int (nI mrs), .ref mb, .ref md, .long x_hash])), (m6, .inl (cs 0, 20, .inl f_107))]) [0, 1] (by decide) rfl
          exact W.zret (v := 1) hx hb hr (by decide) (fun t ht hW => ⟨⟨1, 1, rfl, ⟨rfl, Or.inr rfl⟩, ⟨3, x_value, x_digits, rc, rp, ic + 1, f_107, (by omega), (by omega), (by omega), (by omega), (fun _ => by omega), by rw [ht]; exact hP9, hD9⟩⟩, hS.F ht⟩) hS.2.2 dX12_goChance_156
      · have n_137 : rc = 0 := b_eq_t (by omega) (by omega) c_137
        refine lv_iconst (v := 4) hx hb dX12_goChance_140 (by decide) ?_
        refine lv_goto (tgt := 148) hx hb dX12_goChance_141 (by decide) ?_
        refine lv_icmp_ge (tgt := 155) hx hb dX12_goChance_148 (by decide) (fun c_148 => ?_) (fun c_148 => ?_)
        · have n_148 : 4 ≤ ic + 1 := b_le_t (by omega) (by omega) c_148
          refine lv_iconst (v := 0) hx hb dX12_goChance_155 (by decide) ?_
          refine W_sQ hQ ?_
          refine W.widen (k := 0) (n := 0) (Nat.le_of_ble_eq_true rfl) (Nat.le_of_ble_eq_true rfl) ?_
          have hP9 := hP.sub (ws' := [(m0, .inr (12, [.ref mp, .int (nI ms), .int (nI C), .int (nI P), .ref mw, .ref mh, .ref mo, .int 3, .int x_value, .int x_digits, .int (nI rc), .int (nI rp), .int (nI (ic + 1)), .ref m5, .ref m6, .ref m7, .long x_all, .int (nI mpn), .ref mk, .ref mn, .int x_kind, .ref mq, .ref m8, .ref m9, .int x_last, .int x_steps, .int x_isRound, .int x_tablesDone, .ref mz, .int (nI mrs), .ref mb, .ref md, .long x_hash])), (m6, .inl (cs 0, 20, .inl f_107))]) [0, 1] rfl
          have hD9 := hD.sub (ws' := [(m0, .inr (12, [.ref mp, .int (nI ms), .int (nI C), .int (nI P), .ref mw, .ref mh, .ref mo, .int 3, .int x_value, .int x_digits, .int (nI rc), .int (nI rp), .int (nI (ic + 1)), .ref m5, .ref m6, .ref m7, .long x_all, .int (nI mpn), .ref mk, .ref mn, .int x_kind, .ref mq, .ref m8, .ref m9, .int x_last, .int x_steps, .int x_isRound, .int x_tablesDone, .ref mz, .int (nI mrs), .ref mb, .ref md, .long x_hash])), (m6, .inl (cs 0, 20, .inl f_107))]) [0, 1] (by decide) rfl
          exact W.zret (v := 0) hx hb hr (by decide) (fun t ht hW => ⟨⟨0, 0, rfl, ⟨rfl, Or.inl rfl⟩, ⟨3, x_value, x_digits, rc, rp, ic + 1, f_107, (by omega), (by omega), (by omega), (by omega), (fun q9 => absurd q9 (by decide)), by rw [ht]; exact hP9, hD9⟩⟩, hS.F ht⟩) hS.2.2 dX12_goChance_156
        · have n_148 : ic + 1 < 4 := b_le_f (by omega) (by omega) c_148
          refine lv_iconst (v := 1) hx hb dX12_goChance_151 (by decide) ?_
          refine lv_goto (tgt := 156) hx hb dX12_goChance_152 (by decide) ?_
          refine W_sQ hQ ?_
          refine W.widen (k := 0) (n := 0) (Nat.le_of_ble_eq_true rfl) (Nat.le_of_ble_eq_true rfl) ?_
          have hP9 := hP.sub (ws' := [(m0, .inr (12, [.ref mp, .int (nI ms), .int (nI C), .int (nI P), .ref mw, .ref mh, .ref mo, .int 3, .int x_value, .int x_digits, .int (nI rc), .int (nI rp), .int (nI (ic + 1)), .ref m5, .ref m6, .ref m7, .long x_all, .int (nI mpn), .ref mk, .ref mn, .int x_kind, .ref mq, .ref m8, .ref m9, .int x_last, .int x_steps, .int x_isRound, .int x_tablesDone, .ref mz, .int (nI mrs), .ref mb, .ref md, .long x_hash])), (m6, .inl (cs 0, 20, .inl f_107))]) [0, 1] rfl
          have hD9 := hD.sub (ws' := [(m0, .inr (12, [.ref mp, .int (nI ms), .int (nI C), .int (nI P), .ref mw, .ref mh, .ref mo, .int 3, .int x_value, .int x_digits, .int (nI rc), .int (nI rp), .int (nI (ic + 1)), .ref m5, .ref m6, .ref m7, .long x_all, .int (nI mpn), .ref mk, .ref mn, .int x_kind, .ref mq, .ref m8, .ref m9, .int x_last, .int x_steps, .int x_isRound, .int x_tablesDone, .ref mz, .int (nI mrs), .ref mb, .ref md, .long x_hash])), (m6, .inl (cs 0, 20, .inl f_107))]) [0, 1] (by decide) rfl
          exact W.zret (v := 1) hx hb hr (by decide) (fun t ht hW => ⟨⟨1, 1, rfl, ⟨rfl, Or.inr rfl⟩, ⟨3, x_value, x_digits, rc, rp, ic + 1, f_107, (by omega), (by omega), (by omega), (by omega), (fun _ => by omega), by rw [ht]; exact hP9, hD9⟩⟩, hS.F ht⟩) hS.2.2 dX12_goChance_156
  · refine lv_istore_n (lv' := [(2, .int 1), (0, .ref m0), (1, .int cd_)]) hx hb dX12_goChance_11 rfl hl (by decide) rfl (fun ls hl => ?_)
    refine lv_iload_n hx hb dX12_goChance_12 rfl (lv_at hl 0 rfl) ?_
    refine lv_if_eq (tgt := 88) hx hb dX12_goChance_13 (by decide) (fun c_13 => absurd c_13 (by decide)) (fun c_13 => ?_)
    refine lv_aload_n hx hb dX12_goChance_16 rfl (lv_at hl 1 rfl) ?_
    refine va_get (D := D) (ci := 12) (v := .int x_digits) (C := RX12) (T := TX12) (N := 33) hx hb hg gwX12 hown hK hP 0 rfl rfl 9 (by decide) (hg _ kw_486) (fun _ h9 => h9) rfl dX12_goChance_17 ?_
    refine lv_iconst (v := 1) hx hb dX12_goChance_20 (by decide) ?_
    refine lv_icmp_ne (tgt := 31) hx hb dX12_goChance_21 (by decide) (fun c_21 => ?_) (fun c_21 => ?_)
    · refine lv_aload_n hx hb dX12_goChance_31 rfl (lv_at hl 1 rfl) ?_
      refine va_get (D := D) (ci := 12) (v := .int x_digits) (C := RX12) (T := TX12) (N := 33) hx hb hg gwX12 hown hK hP 0 rfl rfl 9 (by decide) (hg _ kw_486) (fun _ h9 => h9) rfl dX12_goChance_32 ?_
      refine lv_iconst (v := 2) hx hb dX12_goChance_35 (by decide) ?_
      refine lv_icmp_ne (tgt := 58) hx hb dX12_goChance_36 (by decide) (fun c_36 => ?_) (fun c_36 => ?_)
      · refine lv_iconst (v := 0) hx hb dX12_goChance_58 (by decide) ?_
        refine lv_istore_n (lv' := [(3, .int 0), (2, .int 1), (0, .ref m0), (1, .int cd_)]) hx hb dX12_goChance_59 rfl hl (by decide) rfl (fun ls hl => ?_)
        refine lv_aload_n hx hb dX12_goChance_60 rfl (lv_at hl 2 rfl) ?_
        refine lv_bipush (v := 10) hx hb dX12_goChance_61 (by decide) ?_
        refine lv_aload_n hx hb dX12_goChance_63 rfl (lv_at hl 2 rfl) ?_
        refine va_get (D := D) (ci := 12) (v := .int x_value) (C := RX12) (T := TX12) (N := 33) hx hb hg gwX12 hown hK hP 0 rfl rfl 8 (by decide) (hg _ kw_483) (fun _ h9 => h9) rfl dX12_goChance_64 ?_
        refine lv_imul hx hb dX12_goChance_67 ?_
        refine lv_topi (fun z_67 e_67 => ?_)
        refine lv_iload_n hx hb dX12_goChance_68 rfl (lv_at hl 3 rfl) ?_
        refine lv_iadd hx hb dX12_goChance_69 ?_
        refine lv_topi (fun z_69 e_69 => ?_)
        refine lv_bipush (v := 48) hx hb dX12_goChance_70 (by decide) ?_
        refine lv_isub hx hb dX12_goChance_72 ?_
        refine lv_topi (fun z_72 e_72 => ?_)
        refine va_put (D := D) (ci := 12) (v := .int z_72) (ty := .int) (C := RX12) (T := TX12) (N := 33) hx hb hg gwX12 tyX12 tyX12_ok nmX12 hown hK hP hD hS 0 rfl rfl 8 (by decide) (hg _ kw_483) (fun _ h9 => h9) rfl (by decide +kernel) rfl rfl (Nat.le_of_ble_eq_true rfl) dX12_goChance_73 (fun H locs hP hD hS => ?_)
        have hP : va_P D vwCl [(m0, .inr (12, [.ref mp, .int (nI ms), .int (nI C), .int (nI P), .ref mw, .ref mh, .ref mo, .int 4, .int z_72, .int x_digits, .int (nI rc), .int (nI rp), .int (nI ic), .ref m5, .ref m6, .ref m7, .long x_all, .int (nI mpn), .ref mk, .ref mn, .int x_kind, .ref mq, .ref m8, .ref m9, .int x_last, .int x_steps, .int x_isRound, .int x_tablesDone, .ref mz, .int (nI mrs), .ref mb, .ref md, .long x_hash])), (m6, .inl (cs 0, 20, .inl fm6))] H := hP
        have hD : va_D A [(m0, .inr (12, [.ref mp, .int (nI ms), .int (nI C), .int (nI P), .ref mw, .ref mh, .ref mo, .int 4, .int z_72, .int x_digits, .int (nI rc), .int (nI rp), .int (nI ic), .ref m5, .ref m6, .ref m7, .long x_all, .int (nI mpn), .ref mk, .ref mn, .int x_kind, .ref mq, .ref m8, .ref m9, .int x_last, .int x_steps, .int x_isRound, .int x_tablesDone, .ref mz, .int (nI mrs), .ref mb, .ref md, .long x_hash])), (m6, .inl (cs 0, 20, .inl fm6))] := hD
        refine lv_aload_n hx hb dX12_goChance_76 rfl (lv_at hl 2 rfl) ?_
        refine lv_dup hx hb dX12_goChance_77 rfl ?_
        refine va_get (D := D) (ci := 12) (v := .int x_digits) (C := RX12) (T := TX12) (N := 33) hx hb hg gwX12 hown hK hP 0 rfl rfl 9 (by decide) (hg _ kw_486) (fun _ h9 => h9) rfl dX12_goChance_78 ?_
        refine lv_iconst (v := 1) hx hb dX12_goChance_81 (by decide) ?_
        refine lv_iadd hx hb dX12_goChance_82 ?_
        refine lv_topi (fun z_82 e_82 => ?_)
        refine va_put (D := D) (ci := 12) (v := .int z_82) (ty := .int) (C := RX12) (T := TX12) (N := 33) hx hb hg gwX12 tyX12 tyX12_ok nmX12 hown hK hP hD hS 0 rfl rfl 9 (by decide) (hg _ kw_486) (fun _ h9 => h9) rfl (by decide +kernel) rfl rfl (Nat.le_of_ble_eq_true rfl) dX12_goChance_83 (fun H locs hP hD hS => ?_)
        have hP : va_P D vwCl [(m0, .inr (12, [.ref mp, .int (nI ms), .int (nI C), .int (nI P), .ref mw, .ref mh, .ref mo, .int 4, .int z_72, .int z_82, .int (nI rc), .int (nI rp), .int (nI ic), .ref m5, .ref m6, .ref m7, .long x_all, .int (nI mpn), .ref mk, .ref mn, .int x_kind, .ref mq, .ref m8, .ref m9, .int x_last, .int x_steps, .int x_isRound, .int x_tablesDone, .ref mz, .int (nI mrs), .ref mb, .ref md, .long x_hash])), (m6, .inl (cs 0, 20, .inl fm6))] H := hP
        have hD : va_D A [(m0, .inr (12, [.ref mp, .int (nI ms), .int (nI C), .int (nI P), .ref mw, .ref mh, .ref mo, .int 4, .int z_72, .int z_82, .int (nI rc), .int (nI rp), .int (nI ic), .ref m5, .ref m6, .ref m7, .long x_all, .int (nI mpn), .ref mk, .ref mn, .int x_kind, .ref mq, .ref m8, .ref m9, .int x_last, .int x_steps, .int x_isRound, .int x_tablesDone, .ref mz, .int (nI mrs), .ref mb, .ref md, .long x_hash])), (m6, .inl (cs 0, 20, .inl fm6))] := hD
        refine lv_iload_n hx hb dX12_goChance_86 rfl (lv_at hl 0 rfl) ?_
        refine W_sQ hQ ?_
        refine W.widen (k := 0) (n := 0) (Nat.le_of_ble_eq_true rfl) (Nat.le_of_ble_eq_true rfl) ?_
        have hP9 := hP.sub (ws' := [(m0, .inr (12, [.ref mp, .int (nI ms), .int (nI C), .int (nI P), .ref mw, .ref mh, .ref mo, .int 4, .int z_72, .int z_82, .int (nI rc), .int (nI rp), .int (nI ic), .ref m5, .ref m6, .ref m7, .long x_all, .int (nI mpn), .ref mk, .ref mn, .int x_kind, .ref mq, .ref m8, .ref m9, .int x_last, .int x_steps, .int x_isRound, .int x_tablesDone, .ref mz, .int (nI mrs), .ref mb, .ref md, .long x_hash])), (m6, .inl (cs 0, 20, .inl fm6))]) [0, 1] rfl
        have hD9 := hD.sub (ws' := [(m0, .inr (12, [.ref mp, .int (nI ms), .int (nI C), .int (nI P), .ref mw, .ref mh, .ref mo, .int 4, .int z_72, .int z_82, .int (nI rc), .int (nI rp), .int (nI ic), .ref m5, .ref m6, .ref m7, .long x_all, .int (nI mpn), .ref mk, .ref mn, .int x_kind, .ref mq, .ref m8, .ref m9, .int x_last, .int x_steps, .int x_isRound, .int x_tablesDone, .ref mz, .int (nI mrs), .ref mb, .ref md, .long x_hash])), (m6, .inl (cs 0, 20, .inl fm6))]) [0, 1] (by decide) rfl
        exact W.zret (v := 0) hx hb hr (by decide) (fun t ht hW => ⟨⟨0, 0, rfl, ⟨rfl, Or.inl rfl⟩, ⟨4, z_72, z_82, rc, rp, ic, fm6, (by omega), (by omega), (by omega), (by omega), (fun q9 => absurd q9 (by decide)), by rw [ht]; exact hP9, hD9⟩⟩, hS.F ht⟩) hS.2.2 dX12_goChance_87
      · refine lv_aload_n hx hb dX12_goChance_39 rfl (lv_at hl 1 rfl) ?_
        refine va_get (D := D) (ci := 12) (v := .int x_value) (C := RX12) (T := TX12) (N := 33) hx hb hg gwX12 hown hK hP 0 rfl rfl 8 (by decide) (hg _ kw_483) (fun _ h9 => h9) rfl dX12_goChance_40 ?_
        refine lv_bipush (v := 10) hx hb dX12_goChance_43 (by decide) ?_
        refine lv_icmp_ne (tgt := 58) hx hb dX12_goChance_45 (by decide) (fun c_45 => ?_) (fun c_45 => ?_)
        · refine lv_iconst (v := 0) hx hb dX12_goChance_58 (by decide) ?_
          refine lv_istore_n (lv' := [(3, .int 0), (2, .int 1), (0, .ref m0), (1, .int cd_)]) hx hb dX12_goChance_59 rfl hl (by decide) rfl (fun ls hl => ?_)
          refine lv_aload_n hx hb dX12_goChance_60 rfl (lv_at hl 2 rfl) ?_
          refine lv_bipush (v := 10) hx hb dX12_goChance_61 (by decide) ?_
          refine lv_aload_n hx hb dX12_goChance_63 rfl (lv_at hl 2 rfl) ?_
          refine va_get (D := D) (ci := 12) (v := .int x_value) (C := RX12) (T := TX12) (N := 33) hx hb hg gwX12 hown hK hP 0 rfl rfl 8 (by decide) (hg _ kw_483) (fun _ h9 => h9) rfl dX12_goChance_64 ?_
          refine lv_imul hx hb dX12_goChance_67 ?_
          refine lv_topi (fun z_67 e_67 => ?_)
          refine lv_iload_n hx hb dX12_goChance_68 rfl (lv_at hl 3 rfl) ?_
          refine lv_iadd hx hb dX12_goChance_69 ?_
          refine lv_topi (fun z_69 e_69 => ?_)
          refine lv_bipush (v := 48) hx hb dX12_goChance_70 (by decide) ?_
          refine lv_isub hx hb dX12_goChance_72 ?_
          refine lv_topi (fun z_72 e_72 => ?_)
          refine va_put (D := D) (ci := 12) (v := .int z_72) (ty := .int) (C := RX12) (T := TX12) (N := 33) hx hb hg gwX12 tyX12 tyX12_ok nmX12 hown hK hP hD hS 0 rfl rfl 8 (by decide) (hg _ kw_483) (fun _ h9 => h9) rfl (by decide +kernel) rfl rfl (Nat.le_of_ble_eq_true rfl) dX12_goChance_73 (fun H locs hP hD hS => ?_)
          have hP : va_P D vwCl [(m0, .inr (12, [.ref mp, .int (nI ms), .int (nI C), .int (nI P), .ref mw, .ref mh, .ref mo, .int 4, .int z_72, .int x_digits, .int (nI rc), .int (nI rp), .int (nI ic), .ref m5, .ref m6, .ref m7, .long x_all, .int (nI mpn), .ref mk, .ref mn, .int x_kind, .ref mq, .ref m8, .ref m9, .int x_last, .int x_steps, .int x_isRound, .int x_tablesDone, .ref mz, .int (nI mrs), .ref mb, .ref md, .long x_hash])), (m6, .inl (cs 0, 20, .inl fm6))] H := hP
          have hD : va_D A [(m0, .inr (12, [.ref mp, .int (nI ms), .int (nI C), .int (nI P), .ref mw, .ref mh, .ref mo, .int 4, .int z_72, .int x_digits, .int (nI rc), .int (nI rp), .int (nI ic), .ref m5, .ref m6, .ref m7, .long x_all, .int (nI mpn), .ref mk, .ref mn, .int x_kind, .ref mq, .ref m8, .ref m9, .int x_last, .int x_steps, .int x_isRound, .int x_tablesDone, .ref mz, .int (nI mrs), .ref mb, .ref md, .long x_hash])), (m6, .inl (cs 0, 20, .inl fm6))] := hD
          refine lv_aload_n hx hb dX12_goChance_76 rfl (lv_at hl 2 rfl) ?_
          refine lv_dup hx hb dX12_goChance_77 rfl ?_
          refine va_get (D := D) (ci := 12) (v := .int x_digits) (C := RX12) (T := TX12) (N := 33) hx hb hg gwX12 hown hK hP 0 rfl rfl 9 (by decide) (hg _ kw_486) (fun _ h9 => h9) rfl dX12_goChance_78 ?_
          refine lv_iconst (v := 1) hx hb dX12_goChance_81 (by decide) ?_
          refine lv_iadd hx hb dX12_goChance_82 ?_
          refine lv_topi (fun z_82 e_82 => ?_)
          refine va_put (D := D) (ci := 12) (v := .int z_82) (ty := .int) (C := RX12) (T := TX12) (N := 33) hx hb hg gwX12 tyX12 tyX12_ok nmX12 hown hK hP hD hS 0 rfl rfl 9 (by decide) (hg _ kw_486) (fun _ h9 => h9) rfl (by decide +kernel) rfl rfl (Nat.le_of_ble_eq_true rfl) dX12_goChance_83 (fun H locs hP hD hS => ?_)
          have hP : va_P D vwCl [(m0, .inr (12, [.ref mp, .int (nI ms), .int (nI C), .int (nI P), .ref mw, .ref mh, .ref mo, .int 4, .int z_72, .int z_82, .int (nI rc), .int (nI rp), .int (nI ic), .ref m5, .ref m6, .ref m7, .long x_all, .int (nI mpn), .ref mk, .ref mn, .int x_kind, .ref mq, .ref m8, .ref m9, .int x_last, .int x_steps, .int x_isRound, .int x_tablesDone, .ref mz, .int (nI mrs), .ref mb, .ref md, .long x_hash])), (m6, .inl (cs 0, 20, .inl fm6))] H := hP
          have hD : va_D A [(m0, .inr (12, [.ref mp, .int (nI ms), .int (nI C), .int (nI P), .ref mw, .ref mh, .ref mo, .int 4, .int z_72, .int z_82, .int (nI rc), .int (nI rp), .int (nI ic), .ref m5, .ref m6, .ref m7, .long x_all, .int (nI mpn), .ref mk, .ref mn, .int x_kind, .ref mq, .ref m8, .ref m9, .int x_last, .int x_steps, .int x_isRound, .int x_tablesDone, .ref mz, .int (nI mrs), .ref mb, .ref md, .long x_hash])), (m6, .inl (cs 0, 20, .inl fm6))] := hD
          refine lv_iload_n hx hb dX12_goChance_86 rfl (lv_at hl 0 rfl) ?_
          refine W_sQ hQ ?_
          refine W.widen (k := 0) (n := 0) (Nat.le_of_ble_eq_true rfl) (Nat.le_of_ble_eq_true rfl) ?_
          have hP9 := hP.sub (ws' := [(m0, .inr (12, [.ref mp, .int (nI ms), .int (nI C), .int (nI P), .ref mw, .ref mh, .ref mo, .int 4, .int z_72, .int z_82, .int (nI rc), .int (nI rp), .int (nI ic), .ref m5, .ref m6, .ref m7, .long x_all, .int (nI mpn), .ref mk, .ref mn, .int x_kind, .ref mq, .ref m8, .ref m9, .int x_last, .int x_steps, .int x_isRound, .int x_tablesDone, .ref mz, .int (nI mrs), .ref mb, .ref md, .long x_hash])), (m6, .inl (cs 0, 20, .inl fm6))]) [0, 1] rfl
          have hD9 := hD.sub (ws' := [(m0, .inr (12, [.ref mp, .int (nI ms), .int (nI C), .int (nI P), .ref mw, .ref mh, .ref mo, .int 4, .int z_72, .int z_82, .int (nI rc), .int (nI rp), .int (nI ic), .ref m5, .ref m6, .ref m7, .long x_all, .int (nI mpn), .ref mk, .ref mn, .int x_kind, .ref mq, .ref m8, .ref m9, .int x_last, .int x_steps, .int x_isRound, .int x_tablesDone, .ref mz, .int (nI mrs), .ref mb, .ref md, .long x_hash])), (m6, .inl (cs 0, 20, .inl fm6))]) [0, 1] (by decide) rfl
          exact W.zret (v := 0) hx hb hr (by decide) (fun t ht hW => ⟨⟨0, 0, rfl, ⟨rfl, Or.inl rfl⟩, ⟨4, z_72, z_82, rc, rp, ic, fm6, (by omega), (by omega), (by omega), (by omega), (fun q9 => absurd q9 (by decide)), by rw [ht]; exact hP9, hD9⟩⟩, hS.F ht⟩) hS.2.2 dX12_goChance_87
        · refine lv_iload_n hx hb dX12_goChance_48 rfl (lv_at hl 2 rfl) ?_
          refine lv_bipush (v := 48) hx hb dX12_goChance_49 (by decide) ?_
          refine lv_icmp_ne (tgt := 58) hx hb dX12_goChance_51 (by decide) (fun c_51 => ?_) (fun c_51 => ?_)
          · refine lv_iconst (v := 0) hx hb dX12_goChance_58 (by decide) ?_
            refine lv_istore_n (lv' := [(3, .int 0), (2, .int 1), (0, .ref m0), (1, .int cd_)]) hx hb dX12_goChance_59 rfl hl (by decide) rfl (fun ls hl => ?_)
            refine lv_aload_n hx hb dX12_goChance_60 rfl (lv_at hl 2 rfl) ?_
            refine lv_bipush (v := 10) hx hb dX12_goChance_61 (by decide) ?_
            refine lv_aload_n hx hb dX12_goChance_63 rfl (lv_at hl 2 rfl) ?_
            refine va_get (D := D) (ci := 12) (v := .int x_value) (C := RX12) (T := TX12) (N := 33) hx hb hg gwX12 hown hK hP 0 rfl rfl 8 (by decide) (hg _ kw_483) (fun _ h9 => h9) rfl dX12_goChance_64 ?_
            refine lv_imul hx hb dX12_goChance_67 ?_
            refine lv_topi (fun z_67 e_67 => ?_)
            refine lv_iload_n hx hb dX12_goChance_68 rfl (lv_at hl 3 rfl) ?_
            refine lv_iadd hx hb dX12_goChance_69 ?_
            refine lv_topi (fun z_69 e_69 => ?_)
            refine lv_bipush (v := 48) hx hb dX12_goChance_70 (by decide) ?_
            refine lv_isub hx hb dX12_goChance_72 ?_
            refine lv_topi (fun z_72 e_72 => ?_)
            refine va_put (D := D) (ci := 12) (v := .int z_72) (ty := .int) (C := RX12) (T := TX12) (N := 33) hx hb hg gwX12 tyX12 tyX12_ok nmX12 hown hK hP hD hS 0 rfl rfl 8 (by decide) (hg _ kw_483) (fun _ h9 => h9) rfl (by decide +kernel) rfl rfl (Nat.le_of_ble_eq_true rfl) dX12_goChance_73 (fun H locs hP hD hS => ?_)
            have hP : va_P D vwCl [(m0, .inr (12, [.ref mp, .int (nI ms), .int (nI C), .int (nI P), .ref mw, .ref mh, .ref mo, .int 4, .int z_72, .int x_digits, .int (nI rc), .int (nI rp), .int (nI ic), .ref m5, .ref m6, .ref m7, .long x_all, .int (nI mpn), .ref mk, .ref mn, .int x_kind, .ref mq, .ref m8, .ref m9, .int x_last, .int x_steps, .int x_isRound, .int x_tablesDone, .ref mz, .int (nI mrs), .ref mb, .ref md, .long x_hash])), (m6, .inl (cs 0, 20, .inl fm6))] H := hP
            have hD : va_D A [(m0, .inr (12, [.ref mp, .int (nI ms), .int (nI C), .int (nI P), .ref mw, .ref mh, .ref mo, .int 4, .int z_72, .int x_digits, .int (nI rc), .int (nI rp), .int (nI ic), .ref m5, .ref m6, .ref m7, .long x_all, .int (nI mpn), .ref mk, .ref mn, .int x_kind, .ref mq, .ref m8, .ref m9, .int x_last, .int x_steps, .int x_isRound, .int x_tablesDone, .ref mz, .int (nI mrs), .ref mb, .ref md, .long x_hash])), (m6, .inl (cs 0, 20, .inl fm6))] := hD
            refine lv_aload_n hx hb dX12_goChance_76 rfl (lv_at hl 2 rfl) ?_
            refine lv_dup hx hb dX12_goChance_77 rfl ?_
            refine va_get (D := D) (ci := 12) (v := .int x_digits) (C := RX12) (T := TX12) (N := 33) hx hb hg gwX12 hown hK hP 0 rfl rfl 9 (by decide) (hg _ kw_486) (fun _ h9 => h9) rfl dX12_goChance_78 ?_
            refine lv_iconst (v := 1) hx hb dX12_goChance_81 (by decide) ?_
            refine lv_iadd hx hb dX12_goChance_82 ?_
            refine lv_topi (fun z_82 e_82 => ?_)
            refine va_put (D := D) (ci := 12) (v := .int z_82) (ty := .int) (C := RX12) (T := TX12) (N := 33) hx hb hg gwX12 tyX12 tyX12_ok nmX12 hown hK hP hD hS 0 rfl rfl 9 (by decide) (hg _ kw_486) (fun _ h9 => h9) rfl (by decide +kernel) rfl rfl (Nat.le_of_ble_eq_true rfl) dX12_goChance_83 (fun H locs hP hD hS => ?_)
            have hP : va_P D vwCl [(m0, .inr (12, [.ref mp, .int (nI ms), .int (nI C), .int (nI P), .ref mw, .ref mh, .ref mo, .int 4, .int z_72, .int z_82, .int (nI rc), .int (nI rp), .int (nI ic), .ref m5, .ref m6, .ref m7, .long x_all, .int (nI mpn), .ref mk, .ref mn, .int x_kind, .ref mq, .ref m8, .ref m9, .int x_last, .int x_steps, .int x_isRound, .int x_tablesDone, .ref mz, .int (nI mrs), .ref mb, .ref md, .long x_hash])), (m6, .inl (cs 0, 20, .inl fm6))] H := hP
            have hD : va_D A [(m0, .inr (12, [.ref mp, .int (nI ms), .int (nI C), .int (nI P), .ref mw, .ref mh, .ref mo, .int 4, .int z_72, .int z_82, .int (nI rc), .int (nI rp), .int (nI ic), .ref m5, .ref m6, .ref m7, .long x_all, .int (nI mpn), .ref mk, .ref mn, .int x_kind, .ref mq, .ref m8, .ref m9, .int x_last, .int x_steps, .int x_isRound, .int x_tablesDone, .ref mz, .int (nI mrs), .ref mb, .ref md, .long x_hash])), (m6, .inl (cs 0, 20, .inl fm6))] := hD
            refine lv_iload_n hx hb dX12_goChance_86 rfl (lv_at hl 0 rfl) ?_
            refine W_sQ hQ ?_
            refine W.widen (k := 0) (n := 0) (Nat.le_of_ble_eq_true rfl) (Nat.le_of_ble_eq_true rfl) ?_
            have hP9 := hP.sub (ws' := [(m0, .inr (12, [.ref mp, .int (nI ms), .int (nI C), .int (nI P), .ref mw, .ref mh, .ref mo, .int 4, .int z_72, .int z_82, .int (nI rc), .int (nI rp), .int (nI ic), .ref m5, .ref m6, .ref m7, .long x_all, .int (nI mpn), .ref mk, .ref mn, .int x_kind, .ref mq, .ref m8, .ref m9, .int x_last, .int x_steps, .int x_isRound, .int x_tablesDone, .ref mz, .int (nI mrs), .ref mb, .ref md, .long x_hash])), (m6, .inl (cs 0, 20, .inl fm6))]) [0, 1] rfl
            have hD9 := hD.sub (ws' := [(m0, .inr (12, [.ref mp, .int (nI ms), .int (nI C), .int (nI P), .ref mw, .ref mh, .ref mo, .int 4, .int z_72, .int z_82, .int (nI rc), .int (nI rp), .int (nI ic), .ref m5, .ref m6, .ref m7, .long x_all, .int (nI mpn), .ref mk, .ref mn, .int x_kind, .ref mq, .ref m8, .ref m9, .int x_last, .int x_steps, .int x_isRound, .int x_tablesDone, .ref mz, .int (nI mrs), .ref mb, .ref md, .long x_hash])), (m6, .inl (cs 0, 20, .inl fm6))]) [0, 1] (by decide) rfl
            exact W.zret (v := 0) hx hb hr (by decide) (fun t ht hW => ⟨⟨0, 0, rfl, ⟨rfl, Or.inl rfl⟩, ⟨4, z_72, z_82, rc, rp, ic, fm6, (by omega), (by omega), (by omega), (by omega), (fun q9 => absurd q9 (by decide)), by rw [ht]; exact hP9, hD9⟩⟩, hS.F ht⟩) hS.2.2 dX12_goChance_87
          · refine lv_iconst (v := 1) hx hb dX12_goChance_54 (by decide) ?_
            refine lv_goto (tgt := 59) hx hb dX12_goChance_55 (by decide) ?_
            refine lv_istore_n (lv' := [(3, .int 1), (2, .int 1), (0, .ref m0), (1, .int cd_)]) hx hb dX12_goChance_59 rfl hl (by decide) rfl (fun ls hl => ?_)
            refine lv_aload_n hx hb dX12_goChance_60 rfl (lv_at hl 2 rfl) ?_
            refine lv_bipush (v := 10) hx hb dX12_goChance_61 (by decide) ?_
            refine lv_aload_n hx hb dX12_goChance_63 rfl (lv_at hl 2 rfl) ?_
            refine va_get (D := D) (ci := 12) (v := .int x_value) (C := RX12) (T := TX12) (N := 33) hx hb hg gwX12 hown hK hP 0 rfl rfl 8 (by decide) (hg _ kw_483) (fun _ h9 => h9) rfl dX12_goChance_64 ?_
            refine lv_imul hx hb dX12_goChance_67 ?_
            refine lv_topi (fun z_67 e_67 => ?_)
            refine lv_iload_n hx hb dX12_goChance_68 rfl (lv_at hl 3 rfl) ?_
            refine lv_iadd hx hb dX12_goChance_69 ?_
            refine lv_topi (fun z_69 e_69 => ?_)
            refine lv_bipush (v := 48) hx hb dX12_goChance_70 (by decide) ?_
            refine lv_isub hx hb dX12_goChance_72 ?_
            refine lv_topi (fun z_72 e_72 => ?_)
            refine va_put (D := D) (ci := 12) (v := .int z_72) (ty := .int) (C := RX12) (T := TX12) (N := 33) hx hb hg gwX12 tyX12 tyX12_ok nmX12 hown hK hP hD hS 0 rfl rfl 8 (by decide) (hg _ kw_483) (fun _ h9 => h9) rfl (by decide +kernel) rfl rfl (Nat.le_of_ble_eq_true rfl) dX12_goChance_73 (fun H locs hP hD hS => ?_)
            have hP : va_P D vwCl [(m0, .inr (12, [.ref mp, .int (nI ms), .int (nI C), .int (nI P), .ref mw, .ref mh, .ref mo, .int 4, .int z_72, .int x_digits, .int (nI rc), .int (nI rp), .int (nI ic), .ref m5, .ref m6, .ref m7, .long x_all, .int (nI mpn), .ref mk, .ref mn, .int x_kind, .ref mq, .ref m8, .ref m9, .int x_last, .int x_steps, .int x_isRound, .int x_tablesDone, .ref mz, .int (nI mrs), .ref mb, .ref md, .long x_hash])), (m6, .inl (cs 0, 20, .inl fm6))] H := hP
            have hD : va_D A [(m0, .inr (12, [.ref mp, .int (nI ms), .int (nI C), .int (nI P), .ref mw, .ref mh, .ref mo, .int 4, .int z_72, .int x_digits, .int (nI rc), .int (nI rp), .int (nI ic), .ref m5, .ref m6, .ref m7, .long x_all, .int (nI mpn), .ref mk, .ref mn, .int x_kind, .ref mq, .ref m8, .ref m9, .int x_last, .int x_steps, .int x_isRound, .int x_tablesDone, .ref mz, .int (nI mrs), .ref mb, .ref md, .long x_hash])), (m6, .inl (cs 0, 20, .inl fm6))] := hD
            refine lv_aload_n hx hb dX12_goChance_76 rfl (lv_at hl 2 rfl) ?_
            refine lv_dup hx hb dX12_goChance_77 rfl ?_
            refine va_get (D := D) (ci := 12) (v := .int x_digits) (C := RX12) (T := TX12) (N := 33) hx hb hg gwX12 hown hK hP 0 rfl rfl 9 (by decide) (hg _ kw_486) (fun _ h9 => h9) rfl dX12_goChance_78 ?_
            refine lv_iconst (v := 1) hx hb dX12_goChance_81 (by decide) ?_
            refine lv_iadd hx hb dX12_goChance_82 ?_
            refine lv_topi (fun z_82 e_82 => ?_)
            refine va_put (D := D) (ci := 12) (v := .int z_82) (ty := .int) (C := RX12) (T := TX12) (N := 33) hx hb hg gwX12 tyX12 tyX12_ok nmX12 hown hK hP hD hS 0 rfl rfl 9 (by decide) (hg _ kw_486) (fun _ h9 => h9) rfl (by decide +kernel) rfl rfl (Nat.le_of_ble_eq_true rfl) dX12_goChance_83 (fun H locs hP hD hS => ?_)
            have hP : va_P D vwCl [(m0, .inr (12, [.ref mp, .int (nI ms), .int (nI C), .int (nI P), .ref mw, .ref mh, .ref mo, .int 4, .int z_72, .int z_82, .int (nI rc), .int (nI rp), .int (nI ic), .ref m5, .ref m6, .ref m7, .long x_all, .int (nI mpn), .ref mk, .ref mn, .int x_kind, .ref mq, .ref m8, .ref m9, .int x_last, .int x_steps, .int x_isRound, .int x_tablesDone, .ref mz, .int (nI mrs), .ref mb, .ref md, .long x_hash])), (m6, .inl (cs 0, 20, .inl fm6))] H := hP
            have hD : va_D A [(m0, .inr (12, [.ref mp, .int (nI ms), .int (nI C), .int (nI P), .ref mw, .ref mh, .ref mo, .int 4, .int z_72, .int z_82, .int (nI rc), .int (nI rp), .int (nI ic), .ref m5, .ref m6, .ref m7, .long x_all, .int (nI mpn), .ref mk, .ref mn, .int x_kind, .ref mq, .ref m8, .ref m9, .int x_last, .int x_steps, .int x_isRound, .int x_tablesDone, .ref mz, .int (nI mrs), .ref mb, .ref md, .long x_hash])), (m6, .inl (cs 0, 20, .inl fm6))] := hD
            refine lv_iload_n hx hb dX12_goChance_86 rfl (lv_at hl 0 rfl) ?_
            refine W_sQ hQ ?_
            refine W.widen (k := 0) (n := 0) (Nat.le_of_ble_eq_true rfl) (Nat.le_of_ble_eq_true rfl) ?_
            have hP9 := hP.sub (ws' := [(m0, .inr (12, [.ref mp, .int (nI ms), .int (nI C), .int (nI P), .ref mw, .ref mh, .ref mo, .int 4, .int z_72, .int z_82, .int (nI rc), .int (nI rp), .int (nI ic), .ref m5, .ref m6, .ref m7, .long x_all, .int (nI mpn), .ref mk, .ref mn, .int x_kind, .ref mq, .ref m8, .ref m9, .int x_last, .int x_steps, .int x_isRound, .int x_tablesDone, .ref mz, .int (nI mrs), .ref mb, .ref md, .long x_hash])), (m6, .inl (cs 0, 20, .inl fm6))]) [0, 1] rfl
            have hD9 := hD.sub (ws' := [(m0, .inr (12, [.ref mp, .int (nI ms), .int (nI C), .int (nI P), .ref mw, .ref mh, .ref mo, .int 4, .int z_72, .int z_82, .int (nI rc), .int (nI rp), .int (nI ic), .ref m5, .ref m6, .ref m7, .long x_all, .int (nI mpn), .ref mk, .ref mn, .int x_kind, .ref mq, .ref m8, .ref m9, .int x_last, .int x_steps, .int x_isRound, .int x_tablesDone, .ref mz, .int (nI mrs), .ref mb, .ref md, .long x_hash])), (m6, .inl (cs 0, 20, .inl fm6))]) [0, 1] (by decide) rfl
            exact W.zret (v := 1) hx hb hr (by decide) (fun t ht hW => ⟨⟨1, 1, rfl, ⟨rfl, Or.inr rfl⟩, ⟨4, z_72, z_82, rc, rp, ic, fm6, (by omega), (by omega), (by omega), (by omega), (fun _ => by omega), by rw [ht]; exact hP9, hD9⟩⟩, hS.F ht⟩) hS.2.2 dX12_goChance_87
    · refine lv_aload_n hx hb dX12_goChance_24 rfl (lv_at hl 1 rfl) ?_
      refine va_get (D := D) (ci := 12) (v := .int x_value) (C := RX12) (T := TX12) (N := 33) hx hb hg gwX12 hown hK hP 0 rfl rfl 8 (by decide) (hg _ kw_483) (fun _ h9 => h9) rfl dX12_goChance_25 ?_
      refine lv_if_gt (tgt := 54) hx hb dX12_goChance_28 (by decide) (fun c_28 => ?_) (fun c_28 => ?_)
      · refine lv_iconst (v := 1) hx hb dX12_goChance_54 (by decide) ?_
        refine lv_goto (tgt := 59) hx hb dX12_goChance_55 (by decide) ?_
        refine lv_istore_n (lv' := [(3, .int 1), (2, .int 1), (0, .ref m0), (1, .int cd_)]) hx hb dX12_goChance_59 rfl hl (by decide) rfl (fun ls hl => ?_)
        refine lv_aload_n hx hb dX12_goChance_60 rfl (lv_at hl 2 rfl) ?_
        refine lv_bipush (v := 10) hx hb dX12_goChance_61 (by decide) ?_
        refine lv_aload_n hx hb dX12_goChance_63 rfl (lv_at hl 2 rfl) ?_
        refine va_get (D := D) (ci := 12) (v := .int x_value) (C := RX12) (T := TX12) (N := 33) hx hb hg gwX12 hown hK hP 0 rfl rfl 8 (by decide) (hg _ kw_483) (fun _ h9 => h9) rfl dX12_goChance_64 ?_
        refine lv_imul hx hb dX12_goChance_67 ?_
        refine lv_topi (fun z_67 e_67 => ?_)
        refine lv_iload_n hx hb dX12_goChance_68 rfl (lv_at hl 3 rfl) ?_
        refine lv_iadd hx hb dX12_goChance_69 ?_
        refine lv_topi (fun z_69 e_69 => ?_)
        refine lv_bipush (v := 48) hx hb dX12_goChance_70 (by decide) ?_
        refine lv_isub hx hb dX12_goChance_72 ?_
        refine lv_topi (fun z_72 e_72 => ?_)
        refine va_put (D := D) (ci := 12) (v := .int z_72) (ty := .int) (C := RX12) (T := TX12) (N := 33) hx hb hg gwX12 tyX12 tyX12_ok nmX12 hown hK hP hD hS 0 rfl rfl 8 (by decide) (hg _ kw_483) (fun _ h9 => h9) rfl (by decide +kernel) rfl rfl (Nat.le_of_ble_eq_true rfl) dX12_goChance_73 (fun H locs hP hD hS => ?_)
        have hP : va_P D vwCl [(m0, .inr (12, [.ref mp, .int (nI ms), .int (nI C), .int (nI P), .ref mw, .ref mh, .ref mo, .int 4, .int z_72, .int x_digits, .int (nI rc), .int (nI rp), .int (nI ic), .ref m5, .ref m6, .ref m7, .long x_all, .int (nI mpn), .ref mk, .ref mn, .int x_kind, .ref mq, .ref m8, .ref m9, .int x_last, .int x_steps, .int x_isRound, .int x_tablesDone, .ref mz, .int (nI mrs), .ref mb, .ref md, .long x_hash])), (m6, .inl (cs 0, 20, .inl fm6))] H := hP
        have hD : va_D A [(m0, .inr (12, [.ref mp, .int (nI ms), .int (nI C), .int (nI P), .ref mw, .ref mh, .ref mo, .int 4, .int z_72, .int x_digits, .int (nI rc), .int (nI rp), .int (nI ic), .ref m5, .ref m6, .ref m7, .long x_all, .int (nI mpn), .ref mk, .ref mn, .int x_kind, .ref mq, .ref m8, .ref m9, .int x_last, .int x_steps, .int x_isRound, .int x_tablesDone, .ref mz, .int (nI mrs), .ref mb, .ref md, .long x_hash])), (m6, .inl (cs 0, 20, .inl fm6))] := hD
        refine lv_aload_n hx hb dX12_goChance_76 rfl (lv_at hl 2 rfl) ?_
        refine lv_dup hx hb dX12_goChance_77 rfl ?_
        refine va_get (D := D) (ci := 12) (v := .int x_digits) (C := RX12) (T := TX12) (N := 33) hx hb hg gwX12 hown hK hP 0 rfl rfl 9 (by decide) (hg _ kw_486) (fun _ h9 => h9) rfl dX12_goChance_78 ?_
        refine lv_iconst (v := 1) hx hb dX12_goChance_81 (by decide) ?_
        refine lv_iadd hx hb dX12_goChance_82 ?_
        refine lv_topi (fun z_82 e_82 => ?_)
        refine va_put (D := D) (ci := 12) (v := .int z_82) (ty := .int) (C := RX12) (T := TX12) (N := 33) hx hb hg gwX12 tyX12 tyX12_ok nmX12 hown hK hP hD hS 0 rfl rfl 9 (by decide) (hg _ kw_486) (fun _ h9 => h9) rfl (by decide +kernel) rfl rfl (Nat.le_of_ble_eq_true rfl) dX12_goChance_83 (fun H locs hP hD hS => ?_)
        have hP : va_P D vwCl [(m0, .inr (12, [.ref mp, .int (nI ms), .int (nI C), .int (nI P), .ref mw, .ref mh, .ref mo, .int 4, .int z_72, .int z_82, .int (nI rc), .int (nI rp), .int (nI ic), .ref m5, .ref m6, .ref m7, .long x_all, .int (nI mpn), .ref mk, .ref mn, .int x_kind, .ref mq, .ref m8, .ref m9, .int x_last, .int x_steps, .int x_isRound, .int x_tablesDone, .ref mz, .int (nI mrs), .ref mb, .ref md, .long x_hash])), (m6, .inl (cs 0, 20, .inl fm6))] H := hP
        have hD : va_D A [(m0, .inr (12, [.ref mp, .int (nI ms), .int (nI C), .int (nI P), .ref mw, .ref mh, .ref mo, .int 4, .int z_72, .int z_82, .int (nI rc), .int (nI rp), .int (nI ic), .ref m5, .ref m6, .ref m7, .long x_all, .int (nI mpn), .ref mk, .ref mn, .int x_kind, .ref mq, .ref m8, .ref m9, .int x_last, .int x_steps, .int x_isRound, .int x_tablesDone, .ref mz, .int (nI mrs), .ref mb, .ref md, .long x_hash])), (m6, .inl (cs 0, 20, .inl fm6))] := hD
        refine lv_iload_n hx hb dX12_goChance_86 rfl (lv_at hl 0 rfl) ?_
        refine W_sQ hQ ?_
        refine W.widen (k := 0) (n := 0) (Nat.le_of_ble_eq_true rfl) (Nat.le_of_ble_eq_true rfl) ?_
        have hP9 := hP.sub (ws' := [(m0, .inr (12, [.ref mp, .int (nI ms), .int (nI C), .int (nI P), .ref mw, .ref mh, .ref mo, .int 4, .int z_72, .int z_82, .int (nI rc), .int (nI rp), .int (nI ic), .ref m5, .ref m6, .ref m7, .long x_all, .int (nI mpn), .ref mk, .ref mn, .int x_kind, .ref mq, .ref m8, .ref m9, .int x_last, .int x_steps, .int x_isRound, .int x_tablesDone, .ref mz, .int (nI mrs), .ref mb, .ref md, .long x_hash])), (m6, .inl (cs 0, 20, .inl fm6))]) [0, 1] rfl
        have hD9 := hD.sub (ws' := [(m0, .inr (12, [.ref mp, .int (nI ms), .int (nI C), .int (nI P), .ref mw, .ref mh, .ref mo, .int 4, .int z_72, .int z_82, .int (nI rc), .int (nI rp), .int (nI ic), .ref m5, .ref m6, .ref m7, .long x_all, .int (nI mpn), .ref mk, .ref mn, .int x_kind, .ref mq, .ref m8, .ref m9, .int x_last, .int x_steps, .int x_isRound, .int x_tablesDone, .ref mz, .int (nI mrs), .ref mb, .ref md, .long x_hash])), (m6, .inl (cs 0, 20, .inl fm6))]) [0, 1] (by decide) rfl
        exact W.zret (v := 1) hx hb hr (by decide) (fun t ht hW => ⟨⟨1, 1, rfl, ⟨rfl, Or.inr rfl⟩, ⟨4, z_72, z_82, rc, rp, ic, fm6, (by omega), (by omega), (by omega), (by omega), (fun _ => by omega), by rw [ht]; exact hP9, hD9⟩⟩, hS.F ht⟩) hS.2.2 dX12_goChance_87
      · refine lv_aload_n hx hb dX12_goChance_31 rfl (lv_at hl 1 rfl) ?_
        refine va_get (D := D) (ci := 12) (v := .int x_digits) (C := RX12) (T := TX12) (N := 33) hx hb hg gwX12 hown hK hP 0 rfl rfl 9 (by decide) (hg _ kw_486) (fun _ h9 => h9) rfl dX12_goChance_32 ?_
        refine lv_iconst (v := 2) hx hb dX12_goChance_35 (by decide) ?_
        refine lv_icmp_ne (tgt := 58) hx hb dX12_goChance_36 (by decide) (fun c_36 => ?_) (fun c_36 => ?_)
        · refine lv_iconst (v := 0) hx hb dX12_goChance_58 (by decide) ?_
          refine lv_istore_n (lv' := [(3, .int 0), (2, .int 1), (0, .ref m0), (1, .int cd_)]) hx hb dX12_goChance_59 rfl hl (by decide) rfl (fun ls hl => ?_)
          refine lv_aload_n hx hb dX12_goChance_60 rfl (lv_at hl 2 rfl) ?_
          refine lv_bipush (v := 10) hx hb dX12_goChance_61 (by decide) ?_
          refine lv_aload_n hx hb dX12_goChance_63 rfl (lv_at hl 2 rfl) ?_
          refine va_get (D := D) (ci := 12) (v := .int x_value) (C := RX12) (T := TX12) (N := 33) hx hb hg gwX12 hown hK hP 0 rfl rfl 8 (by decide) (hg _ kw_483) (fun _ h9 => h9) rfl dX12_goChance_64 ?_
          refine lv_imul hx hb dX12_goChance_67 ?_
          refine lv_topi (fun z_67 e_67 => ?_)
          refine lv_iload_n hx hb dX12_goChance_68 rfl (lv_at hl 3 rfl) ?_
          refine lv_iadd hx hb dX12_goChance_69 ?_
          refine lv_topi (fun z_69 e_69 => ?_)
          refine lv_bipush (v := 48) hx hb dX12_goChance_70 (by decide) ?_
          refine lv_isub hx hb dX12_goChance_72 ?_
          refine lv_topi (fun z_72 e_72 => ?_)
          refine va_put (D := D) (ci := 12) (v := .int z_72) (ty := .int) (C := RX12) (T := TX12) (N := 33) hx hb hg gwX12 tyX12 tyX12_ok nmX12 hown hK hP hD hS 0 rfl rfl 8 (by decide) (hg _ kw_483) (fun _ h9 => h9) rfl (by decide +kernel) rfl rfl (Nat.le_of_ble_eq_true rfl) dX12_goChance_73 (fun H locs hP hD hS => ?_)
          have hP : va_P D vwCl [(m0, .inr (12, [.ref mp, .int (nI ms), .int (nI C), .int (nI P), .ref mw, .ref mh, .ref mo, .int 4, .int z_72, .int x_digits, .int (nI rc), .int (nI rp), .int (nI ic), .ref m5, .ref m6, .ref m7, .long x_all, .int (nI mpn), .ref mk, .ref mn, .int x_kind, .ref mq, .ref m8, .ref m9, .int x_last, .int x_steps, .int x_isRound, .int x_tablesDone, .ref mz, .int (nI mrs), .ref mb, .ref md, .long x_hash])), (m6, .inl (cs 0, 20, .inl fm6))] H := hP
          have hD : va_D A [(m0, .inr (12, [.ref mp, .int (nI ms), .int (nI C), .int (nI P), .ref mw, .ref mh, .ref mo, .int 4, .int z_72, .int x_digits, .int (nI rc), .int (nI rp), .int (nI ic), .ref m5, .ref m6, .ref m7, .long x_all, .int (nI mpn), .ref mk, .ref mn, .int x_kind, .ref mq, .ref m8, .ref m9, .int x_last, .int x_steps, .int x_isRound, .int x_tablesDone, .ref mz, .int (nI mrs), .ref mb, .ref md, .long x_hash])), (m6, .inl (cs 0, 20, .inl fm6))] := hD
          refine lv_aload_n hx hb dX12_goChance_76 rfl (lv_at hl 2 rfl) ?_
          refine lv_dup hx hb dX12_goChance_77 rfl ?_
          refine va_get (D := D) (ci := 12) (v := .int x_digits) (C := RX12) (T := TX12) (N := 33) hx hb hg gwX12 hown hK hP 0 rfl rfl 9 (by decide) (hg _ kw_486) (fun _ h9 => h9) rfl dX12_goChance_78 ?_
          refine lv_iconst (v := 1) hx hb dX12_goChance_81 (by decide) ?_
          refine lv_iadd hx hb dX12_goChance_82 ?_
          refine lv_topi (fun z_82 e_82 => ?_)
          refine va_put (D := D) (ci := 12) (v := .int z_82) (ty := .int) (C := RX12) (T := TX12) (N := 33) hx hb hg gwX12 tyX12 tyX12_ok nmX12 hown hK hP hD hS 0 rfl rfl 9 (by decide) (hg _ kw_486) (fun _ h9 => h9) rfl (by decide +kernel) rfl rfl (Nat.le_of_ble_eq_true rfl) dX12_goChance_83 (fun H locs hP hD hS => ?_)
          have hP : va_P D vwCl [(m0, .inr (12, [.ref mp, .int (nI ms), .int (nI C), .int (nI P), .ref mw, .ref mh, .ref mo, .int 4, .int z_72, .int z_82, .int (nI rc), .int (nI rp), .int (nI ic), .ref m5, .ref m6, .ref m7, .long x_all, .int (nI mpn), .ref mk, .ref mn, .int x_kind, .ref mq, .ref m8, .ref m9, .int x_last, .int x_steps, .int x_isRound, .int x_tablesDone, .ref mz, .int (nI mrs), .ref mb, .ref md, .long x_hash])), (m6, .inl (cs 0, 20, .inl fm6))] H := hP
          have hD : va_D A [(m0, .inr (12, [.ref mp, .int (nI ms), .int (nI C), .int (nI P), .ref mw, .ref mh, .ref mo, .int 4, .int z_72, .int z_82, .int (nI rc), .int (nI rp), .int (nI ic), .ref m5, .ref m6, .ref m7, .long x_all, .int (nI mpn), .ref mk, .ref mn, .int x_kind, .ref mq, .ref m8, .ref m9, .int x_last, .int x_steps, .int x_isRound, .int x_tablesDone, .ref mz, .int (nI mrs), .ref mb, .ref md, .long x_hash])), (m6, .inl (cs 0, 20, .inl fm6))] := hD
          refine lv_iload_n hx hb dX12_goChance_86 rfl (lv_at hl 0 rfl) ?_
          refine W_sQ hQ ?_
          refine W.widen (k := 0) (n := 0) (Nat.le_of_ble_eq_true rfl) (Nat.le_of_ble_eq_true rfl) ?_
          have hP9 := hP.sub (ws' := [(m0, .inr (12, [.ref mp, .int (nI ms), .int (nI C), .int (nI P), .ref mw, .ref mh, .ref mo, .int 4, .int z_72, .int z_82, .int (nI rc), .int (nI rp), .int (nI ic), .ref m5, .ref m6, .ref m7, .long x_all, .int (nI mpn), .ref mk, .ref mn, .int x_kind, .ref mq, .ref m8, .ref m9, .int x_last, .int x_steps, .int x_isRound, .int x_tablesDone, .ref mz, .int (nI mrs), .ref mb, .ref md, .long x_hash])), (m6, .inl (cs 0, 20, .inl fm6))]) [0, 1] rfl
          have hD9 := hD.sub (ws' := [(m0, .inr (12, [.ref mp, .int (nI ms), .int (nI C), .int (nI P), .ref mw, .ref mh, .ref mo, .int 4, .int z_72, .int z_82, .int (nI rc), .int (nI rp), .int (nI ic), .ref m5, .ref m6, .ref m7, .long x_all, .int (nI mpn), .ref mk, .ref mn, .int x_kind, .ref mq, .ref m8, .ref m9, .int x_last, .int x_steps, .int x_isRound, .int x_tablesDone, .ref mz, .int (nI mrs), .ref mb, .ref md, .long x_hash])), (m6, .inl (cs 0, 20, .inl fm6))]) [0, 1] (by decide) rfl
          exact W.zret (v := 0) hx hb hr (by decide) (fun t ht hW => ⟨⟨0, 0, rfl, ⟨rfl, Or.inl rfl⟩, ⟨4, z_72, z_82, rc, rp, ic, fm6, (by omega), (by omega), (by omega), (by omega), (fun q9 => absurd q9 (by decide)), by rw [ht]; exact hP9, hD9⟩⟩, hS.F ht⟩) hS.2.2 dX12_goChance_87
        · refine lv_aload_n hx hb dX12_goChance_39 rfl (lv_at hl 1 rfl) ?_
          refine va_get (D := D) (ci := 12) (v := .int x_value) (C := RX12) (T := TX12) (N := 33) hx hb hg gwX12 hown hK hP 0 rfl rfl 8 (by decide) (hg _ kw_483) (fun _ h9 => h9) rfl dX12_goChance_40 ?_
          refine lv_bipush (v := 10) hx hb dX12_goChance_43 (by decide) ?_
          refine lv_icmp_ne (tgt := 58) hx hb dX12_goChance_45 (by decide) (fun c_45 => ?_) (fun c_45 => ?_)
          · refine lv_iconst (v := 0) hx hb dX12_goChance_58 (by decide) ?_
            refine lv_istore_n (lv' := [(3, .int 0), (2, .int 1), (0, .ref m0), (1, .int cd_)]) hx hb dX12_goChance_59 rfl hl (by decide) rfl (fun ls hl => ?_)
            refine lv_aload_n hx hb dX12_goChance_60 rfl (lv_at hl 2 rfl) ?_
            refine lv_bipush (v := 10) hx hb dX12_goChance_61 (by decide) ?_
            refine lv_aload_n hx hb dX12_goChance_63 rfl (lv_at hl 2 rfl) ?_
            refine va_get (D := D) (ci := 12) (v := .int x_value) (C := RX12) (T := TX12) (N := 33) hx hb hg gwX12 hown hK hP 0 rfl rfl 8 (by decide) (hg _ kw_483) (fun _ h9 => h9) rfl dX12_goChance_64 ?_
            refine lv_imul hx hb dX12_goChance_67 ?_
            refine lv_topi (fun z_67 e_67 => ?_)
            refine lv_iload_n hx hb dX12_goChance_68 rfl (lv_at hl 3 rfl) ?_
            refine lv_iadd hx hb dX12_goChance_69 ?_
            refine lv_topi (fun z_69 e_69 => ?_)
            refine lv_bipush (v := 48) hx hb dX12_goChance_70 (by decide) ?_
            refine lv_isub hx hb dX12_goChance_72 ?_
            refine lv_topi (fun z_72 e_72 => ?_)
            refine va_put (D := D) (ci := 12) (v := .int z_72) (ty := .int) (C := RX12) (T := TX12) (N := 33) hx hb hg gwX12 tyX12 tyX12_ok nmX12 hown hK hP hD hS 0 rfl rfl 8 (by decide) (hg _ kw_483) (fun _ h9 => h9) rfl (by decide +kernel) rfl rfl (Nat.le_of_ble_eq_true rfl) dX12_goChance_73 (fun H locs hP hD hS => ?_)
            have hP : va_P D vwCl [(m0, .inr (12, [.ref mp, .int (nI ms), .int (nI C), .int (nI P), .ref mw, .ref mh, .ref mo, .int 4, .int z_72, .int x_digits, .int (nI rc), .int (nI rp), .int (nI ic), .ref m5, .ref m6, .ref m7, .long x_all, .int (nI mpn), .ref mk, .ref mn, .int x_kind, .ref mq, .ref m8, .ref m9, .int x_last, .int x_steps, .int x_isRound, .int x_tablesDone, .ref mz, .int (nI mrs), .ref mb, .ref md, .long x_hash])), (m6, .inl (cs 0, 20, .inl fm6))] H := hP
            have hD : va_D A [(m0, .inr (12, [.ref mp, .int (nI ms), .int (nI C), .int (nI P), .ref mw, .ref mh, .ref mo, .int 4, .int z_72, .int x_digits, .int (nI rc), .int (nI rp), .int (nI ic), .ref m5, .ref m6, .ref m7, .long x_all, .int (nI mpn), .ref mk, .ref mn, .int x_kind, .ref mq, .ref m8, .ref m9, .int x_last, .int x_steps, .int x_isRound, .int x_tablesDone, .ref mz, .int (nI mrs), .ref mb, .ref md, .long x_hash])), (m6, .inl (cs 0, 20, .inl fm6))] := hD
            refine lv_aload_n hx hb dX12_goChance_76 rfl (lv_at hl 2 rfl) ?_
            refine lv_dup hx hb dX12_goChance_77 rfl ?_
            refine va_get (D := D) (ci := 12) (v := .int x_digits) (C := RX12) (T := TX12) (N := 33) hx hb hg gwX12 hown hK hP 0 rfl rfl 9 (by decide) (hg _ kw_486) (fun _ h9 => h9) rfl dX12_goChance_78 ?_
            refine lv_iconst (v := 1) hx hb dX12_goChance_81 (by decide) ?_
            refine lv_iadd hx hb dX12_goChance_82 ?_
            refine lv_topi (fun z_82 e_82 => ?_)
            refine va_put (D := D) (ci := 12) (v := .int z_82) (ty := .int) (C := RX12) (T := TX12) (N := 33) hx hb hg gwX12 tyX12 tyX12_ok nmX12 hown hK hP hD hS 0 rfl rfl 9 (by decide) (hg _ kw_486) (fun _ h9 => h9) rfl (by decide +kernel) rfl rfl (Nat.le_of_ble_eq_true rfl) dX12_goChance_83 (fun H locs hP hD hS => ?_)
            have hP : va_P D vwCl [(m0, .inr (12, [.ref mp, .int (nI ms), .int (nI C), .int (nI P), .ref mw, .ref mh, .ref mo, .int 4, .int z_72, .int z_82, .int (nI rc), .int (nI rp), .int (nI ic), .ref m5, .ref m6, .ref m7, .long x_all, .int (nI mpn), .ref mk, .ref mn, .int x_kind, .ref mq, .ref m8, .ref m9, .int x_last, .int x_steps, .int x_isRound, .int x_tablesDone, .ref mz, .int (nI mrs), .ref mb, .ref md, .long x_hash])), (m6, .inl (cs 0, 20, .inl fm6))] H := hP
            have hD : va_D A [(m0, .inr (12, [.ref mp, .int (nI ms), .int (nI C), .int (nI P), .ref mw, .ref mh, .ref mo, .int 4, .int z_72, .int z_82, .int (nI rc), .int (nI rp), .int (nI ic), .ref m5, .ref m6, .ref m7, .long x_all, .int (nI mpn), .ref mk, .ref mn, .int x_kind, .ref mq, .ref m8, .ref m9, .int x_last, .int x_steps, .int x_isRound, .int x_tablesDone, .ref mz, .int (nI mrs), .ref mb, .ref md, .long x_hash])), (m6, .inl (cs 0, 20, .inl fm6))] := hD
            refine lv_iload_n hx hb dX12_goChance_86 rfl (lv_at hl 0 rfl) ?_
            refine W_sQ hQ ?_
            refine W.widen (k := 0) (n := 0) (Nat.le_of_ble_eq_true rfl) (Nat.le_of_ble_eq_true rfl) ?_
            have hP9 := hP.sub (ws' := [(m0, .inr (12, [.ref mp, .int (nI ms), .int (nI C), .int (nI P), .ref mw, .ref mh, .ref mo, .int 4, .int z_72, .int z_82, .int (nI rc), .int (nI rp), .int (nI ic), .ref m5, .ref m6, .ref m7, .long x_all, .int (nI mpn), .ref mk, .ref mn, .int x_kind, .ref mq, .ref m8, .ref m9, .int x_last, .int x_steps, .int x_isRound, .int x_tablesDone, .ref mz, .int (nI mrs), .ref mb, .ref md, .long x_hash])), (m6, .inl (cs 0, 20, .inl fm6))]) [0, 1] rfl
            have hD9 := hD.sub (ws' := [(m0, .inr (12, [.ref mp, .int (nI ms), .int (nI C), .int (nI P), .ref mw, .ref mh, .ref mo, .int 4, .int z_72, .int z_82, .int (nI rc), .int (nI rp), .int (nI ic), .ref m5, .ref m6, .ref m7, .long x_all, .int (nI mpn), .ref mk, .ref mn, .int x_kind, .ref mq, .ref m8, .ref m9, .int x_last, .int x_steps, .int x_isRound, .int x_tablesDone, .ref mz, .int (nI mrs), .ref mb, .ref md, .long x_hash])), (m6, .inl (cs 0, 20, .inl fm6))]) [0, 1] (by decide) rfl
            exact W.zret (v := 0) hx hb hr (by decide) (fun t ht hW => ⟨⟨0, 0, rfl, ⟨rfl, Or.inl rfl⟩, ⟨4, z_72, z_82, rc, rp, ic, fm6, (by omega), (by omega), (by omega), (by omega), (fun q9 => absurd q9 (by decide)), by rw [ht]; exact hP9, hD9⟩⟩, hS.F ht⟩) hS.2.2 dX12_goChance_87
          · refine lv_iload_n hx hb dX12_goChance_48 rfl (lv_at hl 2 rfl) ?_
            refine lv_bipush (v := 48) hx hb dX12_goChance_49 (by decide) ?_
            refine lv_icmp_ne (tgt := 58) hx hb dX12_goChance_51 (by decide) (fun c_51 => ?_) (fun c_51 => ?_)
            · refine lv_iconst (v := 0) hx hb dX12_goChance_58 (by decide) ?_
              refine lv_istore_n (lv' := [(3, .int 0), (2, .int 1), (0, .ref m0), (1, .int cd_)]) hx hb dX12_goChance_59 rfl hl (by decide) rfl (fun ls hl => ?_)
              refine lv_aload_n hx hb dX12_goChance_60 rfl (lv_at hl 2 rfl) ?_
              refine lv_bipush (v := 10) hx hb dX12_goChance_61 (by decide) ?_
              refine lv_aload_n hx hb dX12_goChance_63 rfl (lv_at hl 2 rfl) ?_
              refine va_get (D := D) (ci := 12) (v := .int x_value) (C := RX12) (T := TX12) (N := 33) hx hb hg gwX12 hown hK hP 0 rfl rfl 8 (by decide) (hg _ kw_483) (fun _ h9 => h9) rfl dX12_goChance_64 ?_
              refine lv_imul hx hb dX12_goChance_67 ?_
              refine lv_topi (fun z_67 e_67 => ?_)
              refine lv_iload_n hx hb dX12_goChance_68 rfl (lv_at hl 3 rfl) ?_
              refine lv_iadd hx hb dX12_goChance_69 ?_
              refine lv_topi (fun z_69 e_69 => ?_)
              refine lv_bipush (v := 48) hx hb dX12_goChance_70 (by decide) ?_
              refine lv_isub hx hb dX12_goChance_72 ?_
              refine lv_topi (fun z_72 e_72 => ?_)
              refine va_put (D := D) (ci := 12) (v := .int z_72) (ty := .int) (C := RX12) (T := TX12) (N := 33) hx hb hg gwX12 tyX12 tyX12_ok nmX12 hown hK hP hD hS 0 rfl rfl 8 (by decide) (hg _ kw_483) (fun _ h9 => h9) rfl (by decide +kernel) rfl rfl (Nat.le_of_ble_eq_true rfl) dX12_goChance_73 (fun H locs hP hD hS => ?_)
              have hP : va_P D vwCl [(m0, .inr (12, [.ref mp, .int (nI ms), .int (nI C), .int (nI P), .ref mw, .ref mh, .ref mo, .int 4, .int z_72, .int x_digits, .int (nI rc), .int (nI rp), .int (nI ic), .ref m5, .ref m6, .ref m7, .long x_all, .int (nI mpn), .ref mk, .ref mn, .int x_kind, .ref mq, .ref m8, .ref m9, .int x_last, .int x_steps, .int x_isRound, .int x_tablesDone, .ref mz, .int (nI mrs), .ref mb, .ref md, .long x_hash])), (m6, .inl (cs 0, 20, .inl fm6))] H := hP
              have hD : va_D A [(m0, .inr (12, [.ref mp, .int (nI ms), .int (nI C), .int (nI P), .ref mw, .ref mh, .ref mo, .int 4, .int z_72, .int x_digits, .int (nI rc), .int (nI rp), .int (nI ic), .ref m5, .ref m6, .ref m7, .long x_all, .int (nI mpn), .ref mk, .ref mn, .int x_kind, .ref mq, .ref m8, .ref m9, .int x_last, .int x_steps, .int x_isRound, .int x_tablesDone, .ref mz, .int (nI mrs), .ref mb, .ref md, .long x_hash])), (m6, .inl (cs 0, 20, .inl fm6))] := hD
              refine lv_aload_n hx hb dX12_goChance_76 rfl (lv_at hl 2 rfl) ?_
              refine lv_dup hx hb dX12_goChance_77 rfl ?_
              refine va_get (D := D) (ci := 12) (v := .int x_digits) (C := RX12) (T := TX12) (N := 33) hx hb hg gwX12 hown hK hP 0 rfl rfl 9 (by decide) (hg _ kw_486) (fun _ h9 => h9) rfl dX12_goChance_78 ?_
              refine lv_iconst (v := 1) hx hb dX12_goChance_81 (by decide) ?_
              refine lv_iadd hx hb dX12_goChance_82 ?_
              refine lv_topi (fun z_82 e_82 => ?_)
              refine va_put (D := D) (ci := 12) (v := .int z_82) (ty := .int) (C := RX12) (T := TX12) (N := 33) hx hb hg gwX12 tyX12 tyX12_ok nmX12 hown hK hP hD hS 0 rfl rfl 9 (by decide) (hg _ kw_486) (fun _ h9 => h9) rfl (by decide +kernel) rfl rfl (Nat.le_of_ble_eq_true rfl) dX12_goChance_83 (fun H locs hP hD hS => ?_)
              have hP : va_P D vwCl [(m0, .inr (12, [.ref mp, .int (nI ms), .int (nI C), .int (nI P), .ref mw, .ref mh, .ref mo, .int 4, .int z_72, .int z_82, .int (nI rc), .int (nI rp), .int (nI ic), .ref m5, .ref m6, .ref m7, .long x_all, .int (nI mpn), .ref mk, .ref mn, .int x_kind, .ref mq, .ref m8, .ref m9, .int x_last, .int x_steps, .int x_isRound, .int x_tablesDone, .ref mz, .int (nI mrs), .ref mb, .ref md, .long x_hash])), (m6, .inl (cs 0, 20, .inl fm6))] H := hP
              have hD : va_D A [(m0, .inr (12, [.ref mp, .int (nI ms), .int (nI C), .int (nI P), .ref mw, .ref mh, .ref mo, .int 4, .int z_72, .int z_82, .int (nI rc), .int (nI rp), .int (nI ic), .ref m5, .ref m6, .ref m7, .long x_all, .int (nI mpn), .ref mk, .ref mn, .int x_kind, .ref mq, .ref m8, .ref m9, .int x_last, .int x_steps, .int x_isRound, .int x_tablesDone, .ref mz, .int (nI mrs), .ref mb, .ref md, .long x_hash])), (m6, .inl (cs 0, 20, .inl fm6))] := hD
              refine lv_iload_n hx hb dX12_goChance_86 rfl (lv_at hl 0 rfl) ?_
              refine W_sQ hQ ?_
              refine W.widen (k := 0) (n := 0) (Nat.le_of_ble_eq_true rfl) (Nat.le_of_ble_eq_true rfl) ?_
              have hP9 := hP.sub (ws' := [(m0, .inr (12, [.ref mp, .int (nI ms), .int (nI C), .int (nI P), .ref mw, .ref mh, .ref mo, .int 4, .int z_72, .int z_82, .int (nI rc), .int (nI rp), .int (nI ic), .ref m5, .ref m6, .ref m7, .long x_all, .int (nI mpn), .ref mk, .ref mn, .int x_kind, .ref mq, .ref m8, .ref m9, .int x_last, .int x_steps, .int x_isRound, .int x_tablesDone, .ref mz, .int (nI mrs), .ref mb, .ref md, .long x_hash])), (m6, .inl (cs 0, 20, .inl fm6))]) [0, 1] rfl
              have hD9 := hD.sub (ws' := [(m0, .inr (12, [.ref mp, .int (nI ms), .int (nI C), .int (nI P), .ref mw, .ref mh, .ref mo, .int 4, .int z_72, .int z_82, .int (nI rc), .int (nI rp), .int (nI ic), .ref m5, .ref m6, .ref m7, .long x_all, .int (nI mpn), .ref mk, .ref mn, .int x_kind, .ref mq, .ref m8, .ref m9, .int x_last, .int x_steps, .int x_isRound, .int x_tablesDone, .ref mz, .int (nI mrs), .ref mb, .ref md, .long x_hash])), (m6, .inl (cs 0, 20, .inl fm6))]) [0, 1] (by decide) rfl
              exact W.zret (v := 0) hx hb hr (by decide) (fun t ht hW => ⟨⟨0, 0, rfl, ⟨rfl, Or.inl rfl⟩, ⟨4, z_72, z_82, rc, rp, ic, fm6, (by omega), (by omega), (by omega), (by omega), (fun q9 => absurd q9 (by decide)), by rw [ht]; exact hP9, hD9⟩⟩, hS.F ht⟩) hS.2.2 dX12_goChance_87
            · refine lv_iconst (v := 1) hx hb dX12_goChance_54 (by decide) ?_
              refine lv_goto (tgt := 59) hx hb dX12_goChance_55 (by decide) ?_
              refine lv_istore_n (lv' := [(3, .int 1), (2, .int 1), (0, .ref m0), (1, .int cd_)]) hx hb dX12_goChance_59 rfl hl (by decide) rfl (fun ls hl => ?_)
              refine lv_aload_n hx hb dX12_goChance_60 rfl (lv_at hl 2 rfl) ?_
              refine lv_bipush (v := 10) hx hb dX12_goChance_61 (by decide) ?_
              refine lv_aload_n hx hb dX12_goChance_63 rfl (lv_at hl 2 rfl) ?_
              refine va_get (D := D) (ci := 12) (v := .int x_value) (C := RX12) (T := TX12) (N := 33) hx hb hg gwX12 hown hK hP 0 rfl rfl 8 (by decide) (hg _ kw_483) (fun _ h9 => h9) rfl dX12_goChance_64 ?_
              refine lv_imul hx hb dX12_goChance_67 ?_
              refine lv_topi (fun z_67 e_67 => ?_)
              refine lv_iload_n hx hb dX12_goChance_68 rfl (lv_at hl 3 rfl) ?_
              refine lv_iadd hx hb dX12_goChance_69 ?_
              refine lv_topi (fun z_69 e_69 => ?_)
              refine lv_bipush (v := 48) hx hb dX12_goChance_70 (by decide) ?_
              refine lv_isub hx hb dX12_goChance_72 ?_
              refine lv_topi (fun z_72 e_72 => ?_)
              refine va_put (D := D) (ci := 12) (v := .int z_72) (ty := .int) (C := RX12) (T := TX12) (N := 33) hx hb hg gwX12 tyX12 tyX12_ok nmX12 hown hK hP hD hS 0 rfl rfl 8 (by decide) (hg _ kw_483) (fun _ h9 => h9) rfl (by decide +kernel) rfl rfl (Nat.le_of_ble_eq_true rfl) dX12_goChance_73 (fun H locs hP hD hS => ?_)
              have hP : va_P D vwCl [(m0, .inr (12, [.ref mp, .int (nI ms), .int (nI C), .int (nI P), .ref mw, .ref mh, .ref mo, .int 4, .int z_72, .int x_digits, .int (nI rc), .int (nI rp), .int (nI ic), .ref m5, .ref m6, .ref m7, .long x_all, .int (nI mpn), .ref mk, .ref mn, .int x_kind, .ref mq, .ref m8, .ref m9, .int x_last, .int x_steps, .int x_isRound, .int x_tablesDone, .ref mz, .int (nI mrs), .ref mb, .ref md, .long x_hash])), (m6, .inl (cs 0, 20, .inl fm6))] H := hP
              have hD : va_D A [(m0, .inr (12, [.ref mp, .int (nI ms), .int (nI C), .int (nI P), .ref mw, .ref mh, .ref mo, .int 4, .int z_72, .int x_digits, .int (nI rc), .int (nI rp), .int (nI ic), .ref m5, .ref m6, .ref m7, .long x_all, .int (nI mpn), .ref mk, .ref mn, .int x_kind, .ref mq, .ref m8, .ref m9, .int x_last, .int x_steps, .int x_isRound, .int x_tablesDone, .ref mz, .int (nI mrs), .ref mb, .ref md, .long x_hash])), (m6, .inl (cs 0, 20, .inl fm6))] := hD
              refine lv_aload_n hx hb dX12_goChance_76 rfl (lv_at hl 2 rfl) ?_
              refine lv_dup hx hb dX12_goChance_77 rfl ?_
              refine va_get (D := D) (ci := 12) (v := .int x_digits) (C := RX12) (T := TX12) (N := 33) hx hb hg gwX12 hown hK hP 0 rfl rfl 9 (by decide) (hg _ kw_486) (fun _ h9 => h9) rfl dX12_goChance_78 ?_
              refine lv_iconst (v := 1) hx hb dX12_goChance_81 (by decide) ?_
              refine lv_iadd hx hb dX12_goChance_82 ?_
              refine lv_topi (fun z_82 e_82 => ?_)
              refine va_put (D := D) (ci := 12) (v := .int z_82) (ty := .int) (C := RX12) (T := TX12) (N := 33) hx hb hg gwX12 tyX12 tyX12_ok nmX12 hown hK hP hD hS 0 rfl rfl 9 (by decide) (hg _ kw_486) (fun _ h9 => h9) rfl (by decide +kernel) rfl rfl (Nat.le_of_ble_eq_true rfl) dX12_goChance_83 (fun H locs hP hD hS => ?_)
              have hP : va_P D vwCl [(m0, .inr (12, [.ref mp, .int (nI ms), .int (nI C), .int (nI P), .ref mw, .ref mh, .ref mo, .int 4, .int z_72, .int z_82, .int (nI rc), .int (nI rp), .int (nI ic), .ref m5, .ref m6, .ref m7, .long x_all, .int (nI mpn), .ref mk, .ref mn, .int x_kind, .ref mq, .ref m8, .ref m9, .int x_last, .int x_steps, .int x_isRound, .int x_tablesDone, .ref mz, .int (nI mrs), .ref mb, .ref md, .long x_hash])), (m6, .inl (cs 0, 20, .inl fm6))] H := hP
              have hD : va_D A [(m0, .inr (12, [.ref mp, .int (nI ms), .int (nI C), .int (nI P), .ref mw, .ref mh, .ref mo, .int 4, .int z_72, .int z_82, .int (nI rc), .int (nI rp), .int (nI ic), .ref m5, .ref m6, .ref m7, .long x_all, .int (nI mpn), .ref mk, .ref mn, .int x_kind, .ref mq, .ref m8, .ref m9, .int x_last, .int x_steps, .int x_isRound, .int x_tablesDone, .ref mz, .int (nI mrs), .ref mb, .ref md, .long x_hash])), (m6, .inl (cs 0, 20, .inl fm6))] := hD
              refine lv_iload_n hx hb dX12_goChance_86 rfl (lv_at hl 0 rfl) ?_
              refine W_sQ hQ ?_
              refine W.widen (k := 0) (n := 0) (Nat.le_of_ble_eq_true rfl) (Nat.le_of_ble_eq_true rfl) ?_
              have hP9 := hP.sub (ws' := [(m0, .inr (12, [.ref mp, .int (nI ms), .int (nI C), .int (nI P), .ref mw, .ref mh, .ref mo, .int 4, .int z_72, .int z_82, .int (nI rc), .int (nI rp), .int (nI ic), .ref m5, .ref m6, .ref m7, .long x_all, .int (nI mpn), .ref mk, .ref mn, .int x_kind, .ref mq, .ref m8, .ref m9, .int x_last, .int x_steps, .int x_isRound, .int x_tablesDone, .ref mz, .int (nI mrs), .ref mb, .ref md, .long x_hash])), (m6, .inl (cs 0, 20, .inl fm6))]) [0, 1] rfl
              have hD9 := hD.sub (ws' := [(m0, .inr (12, [.ref mp, .int (nI ms), .int (nI C), .int (nI P), .ref mw, .ref mh, .ref mo, .int 4, .int z_72, .int z_82, .int (nI rc), .int (nI rp), .int (nI ic), .ref m5, .ref m6, .ref m7, .long x_all, .int (nI mpn), .ref mk, .ref mn, .int x_kind, .ref mq, .ref m8, .ref m9, .int x_last, .int x_steps, .int x_isRound, .int x_tablesDone, .ref mz, .int (nI mrs), .ref mb, .ref md, .long x_hash])), (m6, .inl (cs 0, 20, .inl fm6))]) [0, 1] (by decide) rfl
              exact W.zret (v := 1) hx hb hr (by decide) (fun t ht hW => ⟨⟨1, 1, rfl, ⟨rfl, Or.inr rfl⟩, ⟨4, z_72, z_82, rc, rp, ic, fm6, (by omega), (by omega), (by omega), (by omega), (fun _ => by omega), by rw [ht]; exact hP9, hD9⟩⟩, hS.F ht⟩) hS.2.2 dX12_goChance_87
