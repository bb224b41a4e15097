theorem iw_mF {v r z : Int32} {n : Nat} (hn : n < 2 ^ 30) (e : z = nI n - 1) (h : r = iw v 0 z) : (r = 0 ∧ ∀ k : Nat, k < n → ¬ v = nI k) ∨ (r = 1 ∧ ∃ k : Nat, k < n ∧ v = nI k) := by
  rcases iw_m hn e h with q | q
  · refine Or.inl ⟨q, fun k hk hv => ?_⟩
    have h2 := iw_in hn hk e
    rw [hv] at h
    rw [h2, q] at h
    exact absurd h (by decide)
  · exact Or.inr q
def AG (rs : List PRec) (fk fn : Nat → Int32) : Prop := ∀ (k : Nat) (q : PRec), rs[k]? = some q → fk k = kdo q.2.1 ∧ fn (4 * k) = q.2.2.2.1 0 ∧ fn (4 * k + 1) = q.2.2.2.1 1 ∧ fn (4 * k + 2) = q.2.2.2.1 2 ∧ fn (4 * k + 3) = q.2.2.2.1 3
theorem AG_S {rs rs2 : List PRec} {fk fn : Nat → Int32} (h : pyS rs rs2) (ha : AG rs fk fn) : AG rs2 fk fn := fun k q hq => by
  obtain ⟨r0, h0, e⟩ := pyS_at h hq
  have e1 : q.2.1 = r0.2.1 := congrArg (fun x => x.2.1) e
  have e2 : q.2.2.2.1 = r0.2.2.2.1 := congrArg (fun x => x.2.2.2) e
  rw [e1, e2]
  exact ha k r0 h0
theorem AG_pay {rs rs2 : List PRec} {n n2 : Nat} {fk fk2 fn fn2 : Nat → Int32} {k a b d f : Int32} (ha : AG rs fk fn) (hl : n = rs.length) (hl2 : n2 = rs2.length) (hr : pRel rs rs2 k a b d f) (hk : (n2 = n + 1 → fk2 n = k ∧ (fn2 (4 * n) = a ∧ fn2 (4 * n + 1) = b ∧ fn2 (4 * n + 2) = d ∧ fn2 (4 * n + 3) = f)) ∧ (∀ i, i < n → fk2 i = fk i) ∧ (∀ i, i < 4 * n → fn2 i = fn i)) : AG rs2 fk2 fn2 := by
  intro j q hq
  obtain ⟨h1, h2, h3⟩ := hk
  have old : ∀ r : PRec, rs[j]? = some r → fk2 j = kdo r.2.1 ∧ fn2 (4 * j) = r.2.2.2.1 0 ∧ fn2 (4 * j + 1) = r.2.2.2.1 1 ∧ fn2 (4 * j + 2) = r.2.2.2.1 2 ∧ fn2 (4 * j + 3) = r.2.2.2.1 3 := fun r hr9 => by
    have hj : j < rs.length := (List.getElem?_eq_some_iff.mp hr9).1
    rw [h2 j (by omega), h3 (4 * j) (by omega), h3 (4 * j + 1) (by omega), h3 (4 * j + 2) (by omega), h3 (4 * j + 3) (by omega)]
    exact ha j r hr9
  rcases hr with rfl | ⟨q0, rfl, g0, g1, g2, g3, g4⟩
  · exact old q hq
  · rw [List.length_append] at hl2
    have hl3 : n2 = n + 1 := by rw [hl2, hl]; rfl
    obtain ⟨a0, a1, a2, a3, a4⟩ := h1 hl3
    rcases Nat.lt_trichotomy j rs.length with w | w | w
    · rw [List.getElem?_append_left w] at hq
      exact old q hq
    · subst w
      rw [List.getElem?_append_right (Nat.le_refl _), Nat.sub_self] at hq
      cases hq
      rw [← hl]
      exact ⟨a0.trans g0.symm, a1.trans g1.symm, a2.trans g2.symm, a3.trans g3.symm, a4.trans g4.symm⟩
    · rw [List.getElem?_eq_none (by rw [List.length_append]; show rs.length + 1 ≤ j; omega)] at hq
      cases hq
/-- what as(a, b) answers, by the PAYS of the class and by those of the reference -/
def asR (k : Nat) (b kd : Int32) : Int32 := if iw b 0 4 = 1 then (if isV b kd = 1 then nI k else -1) else -102
def asP (rs : List PRec) (a b r : Int32) : Prop := ((∀ k : Nat, k < rs.length → ¬ a = nI k) ∧ r = -101) ∨ ∃ (k : Nat) (q : PRec), rs[k]? = some q ∧ a = nI k ∧ r = asR k b (kdo q.2.1)
def asM (n : Nat) (fk : Nat → Int32) (a b r : Int32) : Prop := ((∀ k : Nat, k < n → ¬ a = nI k) ∧ r = -101) ∨ ∃ k : Nat, k < n ∧ a = nI k ∧ r = asR k b (fk k)
theorem as_same {rs : List PRec} {n : Nat} {fk fn : Nat → Int32} {a b r1 r2 : Int32} (ha : AG rs fk fn) (hl : n = rs.length) (hn : n ≤ 8) (h1 : asP rs a b r1) (h2 : asM n fk a b r2) : r1 = r2 := by
  subst hl
  rcases h1 with ⟨p1, q1⟩ | ⟨k, q, hq, e1, q1⟩ <;> rcases h2 with ⟨p2, q2⟩ | ⟨j, hj, e2, q2⟩
  · rw [q1, q2]
  · exact absurd e2 (p1 j hj)
  · exact absurd e1 (p2 k (List.getElem?_eq_some_iff.mp hq).1)
  · have hk : k < rs.length := (List.getElem?_eq_some_iff.mp hq).1
    have e3 : k = j := (nI_eq (by omega) (by omega)).mp (e1.symm.trans e2)
    subst e3
    rw [q1, q2, (ha k q hq).1]
theorem asR_no {k : Nat} {b kd : Int32} (h : 0 = iw b 0 4) : -102 = asR k b kd := by
  unfold asR; rw [← h]; exact (if_neg (by decide)).symm
theorem asR_y {k : Nat} {b kd : Int32} (h : 1 = iw b 0 4) (q : isV b kd = 1) : nI k = asR k b kd := by
  unfold asR; rw [← h, if_pos rfl, if_pos q]
theorem asR_n {k : Nat} {b kd : Int32} (h : 1 = iw b 0 4) (q : isV b kd = 0) : -1 = asR k b kd := by
  unfold asR; rw [← h, if_pos rfl, q]; exact (if_neg (by decide)).symm
/-- what about(a, b) answers -/
def abR (b kd n0 n1 n2 n3 : Int32) : Int32 := if b = 0 then n0 else if b = 1 then n1 else if b = 2 then n2 else if b = 3 then n3 else if b = 4 then kd else -102
def abP (rs : List PRec) (a b r : Int32) : Prop := ((∀ k : Nat, k < rs.length → ¬ a = nI k) ∧ r = -101) ∨ ∃ (k : Nat) (q : PRec), rs[k]? = some q ∧ a = nI k ∧ r = abR b (kdo q.2.1) (q.2.2.2.1 0) (q.2.2.2.1 1) (q.2.2.2.1 2) (q.2.2.2.1 3)
def abM (n : Nat) (fk fn : Nat → Int32) (a b r : Int32) : Prop := ((∀ k : Nat, k < n → ¬ a = nI k) ∧ r = -101) ∨ ∃ k : Nat, k < n ∧ a = nI k ∧ r = abR b (fk k) (fn (4 * k)) (fn (4 * k + 1)) (fn (4 * k + 2)) (fn (4 * k + 3))
theorem ab_same {rs : List PRec} {n : Nat} {fk fn : Nat → Int32} {a b r1 r2 : Int32} (ha : AG rs fk fn) (hl : n = rs.length) (hn : n ≤ 8) (h1 : abP rs a b r1) (h2 : abM n fk fn a b r2) : r1 = r2 := by
  subst hl
  rcases h1 with ⟨p1, q1⟩ | ⟨k, q, hq, e1, q1⟩ <;> rcases h2 with ⟨p2, q2⟩ | ⟨j, hj, e2, q2⟩
  · rw [q1, q2]
  · exact absurd e2 (p1 j hj)
  · exact absurd e1 (p2 k (List.getElem?_eq_some_iff.mp hq).1)
  · have hk : k < rs.length := (List.getElem?_eq_some_iff.mp hq).1
    have e3 : k = j := (nI_eq (by omega) (by omega)).mp (e1.symm.trans e2)
    subst e3
    obtain ⟨a0, a1, a2, a3, a4⟩ := ha k q hq
    rw [q1, q2, a0, a1, a2, a3, a4]
theorem abR_no {b kd n0 n1 n2 n3 : Int32} (h : ¬ iw b 0 4 = 1) : -102 = abR b kd n0 n1 n2 n3 := by
  unfold abR
  rw [if_neg (fun q => h (by rw [q]; decide)), if_neg (fun q => h (by rw [q]; decide)), if_neg (fun q => h (by rw [q]; decide)), if_neg (fun q => h (by rw [q]; decide)), if_neg (fun q => h (by rw [q]; decide))]
theorem abR_4 {kd n0 n1 n2 n3 : Int32} : kd = abR 4 kd n0 n1 n2 n3 := by
  unfold abR
  rw [if_neg (by decide), if_neg (by decide), if_neg (by decide), if_neg (by decide), if_pos rfl]
theorem abR_j {j : Nat} {kd n0 n1 n2 n3 r : Int32} (hj : j < 4) (h : (j = 0 → r = n0) ∧ (j = 1 → r = n1) ∧ (j = 2 → r = n2) ∧ (j = 3 → r = n3)) : r = abR (nI j) kd n0 n1 n2 n3 := by
  obtain ⟨h0, h1, h2, h3⟩ := h
  unfold abR
  rcases (show j = 0 ∨ j = 1 ∨ j = 2 ∨ j = 3 by omega) with rfl | rfl | rfl | rfl
  · rw [if_pos (by decide)]; exact h0 rfl
  · rw [if_neg (by decide), if_pos (by decide)]; exact h1 rfl
  · rw [if_neg (by decide), if_neg (by decide), if_pos (by decide)]; exact h2 rfl
  · rw [if_neg (by decide), if_neg (by decide), if_neg (by decide), if_pos (by decide)]; exact h3 rfl

set_option maxHeartbeats 4000000 in
set_option maxRecDepth 100000 in
theorem x_payOfF (l : Launch) (D : va_G) (cs : Nat → ClassId) (x0 : Nat) (py : Nat) (pn : Nat) (hpn : pn ≤ 8) (td : Int32) (pg : Nat) (rd : Nat) (aq : Nat) (pl : Nat) (ch : Nat) (ro : Nat) (fpy : Nat → Option Nat) (p1 : Int32) : Met l yX11_payOf (Cond.code yX11_payOf cX11_payOf 2 (some (.object "NobodyChecks$Pay")) :: gw_tbl) ({ frames := 1, cells := 0, slots := 0, locals := 22 }) (pc_S D cs [(x0, .inr (11, [.ref pg, .ref rd, .ref aq, .ref py, .ref pl, .ref ch, .ref ro, .int (nI pn), .int td])), (py, .inl (cs 3, 8, .inr (.inr (.inr (.inr fpy)))))] [.ref x0, .int p1]) (va_Sq (fun r => (r = none ∧ ∀ k : Nat, k < pn → ¬ p1 = nI k) ∨ ∃ k : Nat, k < pn ∧ p1 = nI k ∧ r = fpy k)) 0 0 (fun _ => False) := by
  refine Met.ofW (cc := cX11_payOf) (maxL := 2) (ret := (some (.object "NobodyChecks$Pay"))) (by decide) rfl ?_
  intro p e s m args below meth c s₁ B hml hv
  obtain ⟨hargs, hP, hK⟩ := hv
  have hx := B.exec
  have hb := B.bytes
  have hr := B.returns
  have hts := atoms_spec (ws := Cond.code yX11_payOf cX11_payOf 2 (some (.object "NobodyChecks$Pay")) :: gw_tbl) B.pre
  have hg := fun (w : Cond) (h : w ∈ gw_tbl) => hts w (List.mem_cons_of_mem _ h)
  have hown : s.vm.findClass RX11 = some m.cls := findClass_of_methodNamed B.named
  have hlocks := B.notSynchronized
  have hl := lv_entry ([.ref x0, .int p1]) (n := 2) (Nat.le_of_ble_eq_true rfl)
  rw [show entryFrame m args 2 = F0 m 0 (lg_sl ([.ref x0, .int p1]) ++ List.replicate (2 - (lg_sl ([.ref x0, .int p1])).length) Slot.unset).toArray [] from by rw [hargs]; exact lg_entry_eq ..]
  generalize (lg_sl ([.ref x0, .int p1]) ++ List.replicate (2 - (lg_sl ([.ref x0, .int p1])).length) Slot.unset).toArray = ls at hl ⊢
  have hl : lv_has ls 2 [(0, .ref x0), (1, .int p1)] := hl
  refine W_genQ (fun Q hQ => ?_)
  refine lv_iload_n hx hb dX11_payOf_0 rfl (lv_at hl 1 rfl) ?_
  refine lv_iconst (v := 0) hx hb dX11_payOf_1 (by decide) ?_
  refine lv_aload_n hx hb dX11_payOf_2 rfl (lv_at hl 0 rfl) ?_
  refine va_get (D := D) (ci := 11) (v := .int (nI pn)) (C := RX11) (T := TX11) (N := 9) hx hb hg gwX11 hown hK hP 0 rfl rfl 7 (by decide) (hg _ kw_593) (fun _ h9 => h9) rfl dX11_payOf_3 ?_
  refine lv_iconst (v := 1) hx hb dX11_payOf_6 (by decide) ?_
  refine lv_isub hx hb dX11_payOf_7 ?_
  refine lv_topi (fun z_7 e_7 => ?_)
  refine vp_callSi (W.runS (As := [.int p1, .int 0, .int z_7]) (rest := []) ⟨hx, hb, hml, hown, hg⟩ (c_isWithin l p1 0 z_7) (va_cwS 3 hg (gw_S kw_535 kw_536 kw_12 kw_534) rfl rfl rfl (by decide +kernel) ⟨(Nat.le_of_ble_eq_true rfl), (Nat.le_of_ble_eq_true rfl)⟩) pr_0 rfl rfl hl.1 rfl (lv_room (Nat.le_of_ble_eq_true rfl)) dX11_payOf_8 ⟨(Nat.le_of_ble_eq_true rfl), (Nat.le_of_ble_eq_true rfl)⟩) (fun r_8 h_8 => ?_)
  rcases iw_mF (by omega) e_7 h_8 with ⟨rfl, hno⟩ | ⟨rfl, k_8, hk_8, rfl⟩
  · refine lv_if_eq (tgt := 23) hx hb dX11_payOf_11 (by decide) (fun c_11 => ?_) (fun c_11 => absurd c_11 (by decide))
    refine lv_null hx hb dX11_payOf_23 ?_
    refine W_sQ hQ ?_
    exact W.aret (v := .null) hx hb hr (Or.inl ⟨_, rfl⟩) (Or.inl rfl) (fun t ht hW => ⟨none, rfl, (Or.inl ⟨rfl, hno⟩), ht⟩) (fun _ h => absurd h List.not_mem_nil) dX11_payOf_24
  · refine lv_if_eq (tgt := 23) hx hb dX11_payOf_11 (by decide) (fun c_11 => absurd c_11 (by decide)) (fun c_11 => ?_)
    refine lv_aload_n hx hb dX11_payOf_14 rfl (lv_at hl 0 rfl) ?_
    refine va_get (D := D) (ci := 11) (v := .ref py) (C := RX11) (T := TX11) (N := 9) hx hb hg gwX11 hown hK hP 0 rfl rfl 3 (by decide) (hg _ kw_606) (fun _ h9 => h9) rfl dX11_payOf_15 ?_
    refine lv_iload_n hx hb dX11_payOf_18 rfl (lv_at hl 1 rfl) ?_
    refine va_aldq hx hb hK hP 1 3 rfl rfl (vp_in_nI (show k_8 < 8 by omega) (by decide)) dX11_payOf_19 ?_
    refine lv_goto (tgt := 24) hx hb dX11_payOf_20 (by decide) ?_
    refine W_sQ hQ ?_
    exact W.aret (v := va_rf (fpy (nI k_8).toNatClampNeg)) hx hb hr (Or.inl ⟨_, rfl⟩) (va_rf_or _) (fun t ht hW => ⟨(fpy (nI k_8).toNatClampNeg), rfl, (Or.inr ⟨_, by assumption, rfl, by rw [nI_clamp (by omega)]⟩), ht⟩) (fun _ h => absurd h List.not_mem_nil) dX11_payOf_24

set_option maxHeartbeats 4000000 in
set_option maxRecDepth 100000 in
theorem m_isPayF (l : Launch) (D : va_G) (cs : Nat → ClassId) (m0 : Nat) (mp : Nat) (mw : Nat) (mh : Nat) (mo : Nat) (m5 : Nat) (m6 : Nat) (m7 : Nat) (mk : Nat) (mn : Nat) (mq : Nat) (m8 : Nat) (m9 : Nat) (mz : Nat) (mb : Nat) (md : Nat) (ms : Nat) (C : Nat) (P : Nat) (mpn : Nat) (mrs : Nat) (sS : Nat) (rc : Nat) (rp : Nat) (ic : Nat) (hms : ms ≤ 90) (hC5 : C ≤ 5) (hP4 : P ≤ 4) (hmpn : mpn ≤ 8) (hmrs : mrs ≤ 24) (hsS : sS ≤ 4) (hrc : rc ≤ 5) (hrp : rp ≤ 4) (hic : ic ≤ 4) (x_value : Int32) (x_digits : Int32) (x_all : Int64) (x_kind : Int32) (x_last : Int32) (x_steps : Int32) (x_isRound : Int32) (x_tablesDone : Int32) (x_hash : Int64) (v : Int32) : Met l yX12_isPay (Cond.code yX12_isPay cX12_isPay 2 (some .boolean) :: gw_tbl) ({ frames := 1, cells := 0, slots := 0, locals := 25 }) (pc_S D cs [(m0, .inr (12, [.ref mp, .int (nI ms), .int (nI C), .int (nI P), .ref mw, .ref mh, .ref mo, .int (nI sS), .int x_value, .int x_digits, .int (nI rc), .int (nI rp), .int (nI ic), .ref m5, .ref m6, .ref m7, .long x_all, .int (nI mpn), .ref mk, .ref mn, .int x_kind, .ref mq, .ref m8, .ref m9, .int x_last, .int x_steps, .int x_isRound, .int x_tablesDone, .ref mz, .int (nI mrs), .ref mb, .ref md, .long x_hash]))] [.ref m0, .int v]) (vp_Si (fun r => (r = 0 ∧ ∀ k : Nat, k < mpn → ¬ v = nI k) ∨ (r = 1 ∧ ∃ k : Nat, k < mpn ∧ v = nI k))) 0 0 (fun _ => False) := by
  refine Met.ofW (cc := cX12_isPay) (maxL := 2) (ret := (some .boolean)) (by decide) rfl ?_
  intro p e s m args below meth c s₁ B hml hv
  obtain ⟨hargs, hP, hK⟩ := hv
  have hx := B.exec
  have hb := B.bytes
  have hr := B.returns
  have hts := atoms_spec (ws := Cond.code yX12_isPay cX12_isPay 2 (some .boolean) :: gw_tbl) B.pre
  have hg := fun (w : Cond) (h : w ∈ gw_tbl) => hts w (List.mem_cons_of_mem _ h)
  have hown : s.vm.findClass RX12 = some m.cls := findClass_of_methodNamed B.named
  have hlocks := B.notSynchronized
  have hl := lv_entry ([.ref m0, .int v]) (n := 2) (Nat.le_of_ble_eq_true rfl)
  rw [show entryFrame m args 2 = F0 m 0 (lg_sl ([.ref m0, .int v]) ++ List.replicate (2 - (lg_sl ([.ref m0, .int v])).length) Slot.unset).toArray [] from by rw [hargs]; exact lg_entry_eq ..]
  generalize (lg_sl ([.ref m0, .int v]) ++ List.replicate (2 - (lg_sl ([.ref m0, .int v])).length) Slot.unset).toArray = ls at hl ⊢
  have hl : lv_has ls 2 [(0, .ref m0), (1, .int v)] := hl
  refine W_genQ (fun Q hQ => ?_)
  have hlm := lim_le hP4
  have hlq := lim_pos P
  have hsg := sgn_le hP4
  refine lv_iload_n hx hb dX12_isPay_0 rfl (lv_at hl 1 rfl) ?_
  refine lv_i2l hx hb dX12_isPay_1 rfl ?_
  refine lv_topl (fun z_1 e_1 => ?_)
  refine lv_lconst (v := 0) hx hb dX12_isPay_2 (by decide) ?_
  refine lv_aload_n hx hb dX12_isPay_3 rfl (lv_at hl 0 rfl) ?_
  refine va_get (D := D) (ci := 12) (v := .int (nI mpn)) (C := RX12) (T := TX12) (N := 33) hx hb hg gwX12 hown hK hP 0 rfl rfl 17 (by decide) (hg _ kw_320) (fun _ h9 => h9) rfl dX12_isPay_4 ?_
  refine lv_iconst (v := 1) hx hb dX12_isPay_7 (by decide) ?_
  refine lv_isub hx hb dX12_isPay_8 ?_
  refine lv_topi (fun z_8 e_8 => ?_)
  refine lv_i2l hx hb dX12_isPay_9 rfl ?_
  refine lv_topl (fun z_9 e_9 => ?_)
  refine vp_callSi (W.runS (As := [.long z_1, .long 0, .long z_9]) (rest := []) ⟨hx, hb, hml, hown, hg⟩ (c_in l z_1 0 z_9) (va_cwS 3 hg (gw_S kw_317 kw_318 kw_319 kw_316) rfl rfl rfl (by decide +kernel) ⟨(Nat.le_of_ble_eq_true rfl), (Nat.le_of_ble_eq_true rfl)⟩) pr_0 rfl rfl hl.1 rfl (lv_room (Nat.le_of_ble_eq_true rfl)) dX12_isPay_10 ⟨(Nat.le_of_ble_eq_true rfl), (Nat.le_of_ble_eq_true rfl)⟩) (fun r_10 h_10 => ?_)
  rcases iw_mF (by omega) e_8 (h_10.trans (by rw [e_1]; exact il_iw (by decide) e_9)) with ⟨rfl, hno⟩ | ⟨rfl, k_10, hk_10, rfl⟩
  · refine W_sQ hQ ?_
    exact W.zret (v := 0) hx hb hr (by decide) (fun t ht hW => ⟨0, rfl, (Or.inl ⟨rfl, hno⟩), ht⟩) (fun _ h => absurd h List.not_mem_nil) dX12_isPay_13
  · refine W_sQ hQ ?_
    exact W.zret (v := 1) hx hb hr (by decide) (fun t ht hW => ⟨1, rfl, (Or.inr ⟨rfl, _, by assumption, rfl⟩), ht⟩) (fun _ h => absurd h List.not_mem_nil) dX12_isPay_13

set_option maxHeartbeats 4000000 in
set_option maxRecDepth 100000 in
theorem x_aboutF (l : Launch) (D : va_G) (cs : Nat → ClassId) (x0 : Nat) (py : Nat) (pn : Nat) (hpn : pn ≤ 8) (td : Int32) (pg : Nat) (rd : Nat) (aq : Nat) (pl : Nat) (ch : Nat) (ro : Nat) (fpy : Nat → Option Nat) (rs : List PRec) (hpi : pyI fpy rs) (hpl : pn = rs.length) (p1 : Int32) (p2 : Int32) : Met l yX11_about (Cond.code yX11_about cX11_about 4 (some .int) :: gw_tbl) ({ frames := 2, cells := 0, slots := 0, locals := 43 }) (pc_S D cs ([(x0, .inr (11, [.ref pg, .ref rd, .ref aq, .ref py, .ref pl, .ref ch, .ref ro, .int (nI pn), .int td])), (py, .inl (cs 3, 8, .inr (.inr (.inr (.inr fpy)))))] ++ (pyL cs rs)) [.ref x0, .int p1, .int p2]) (vp_Si (fun r => abP rs p1 p2 r)) 0 0 (fun _ => False) := by
  refine Met.ofW (cc := cX11_about) (maxL := 4) (ret := (some .int)) (by decide) rfl ?_
  intro p e s m args below meth c s₁ B hml hv
  obtain ⟨hargs, hP, hK⟩ := hv
  have hx := B.exec
  have hb := B.bytes
  have hr := B.returns
  have hts := atoms_spec (ws := Cond.code yX11_about cX11_about 4 (some .int) :: gw_tbl) B.pre
  have hg := fun (w : Cond) (h : w ∈ gw_tbl) => hts w (List.mem_cons_of_mem _ h)
  have hown : s.vm.findClass RX11 = some m.cls := findClass_of_methodNamed B.named
  have hlocks := B.notSynchronized
  have hl := lv_entry ([.ref x0, .int p1, .int p2]) (n := 4) (Nat.le_of_ble_eq_true rfl)
  rw [show entryFrame m args 4 = F0 m 0 (lg_sl ([.ref x0, .int p1, .int p2]) ++ List.replicate (4 - (lg_sl ([.ref x0, .int p1, .int p2])).length) Slot.unset).toArray [] from by rw [hargs]; exact lg_entry_eq ..]
  generalize (lg_sl ([.ref x0, .int p1, .int p2]) ++ List.replicate (4 - (lg_sl ([.ref x0, .int p1, .int p2])).length) Slot.unset).toArray = ls at hl ⊢
  have hl : lv_has ls 4 [(0, .ref x0), (1, .int p1), (2, .int p2)] := hl
  refine W_genQ (fun Q hQ => ?_)
  refine lv_aload_n hx hb dX11_about_0 rfl (lv_at hl 0 rfl) ?_
  refine lv_iload_n hx hb dX11_about_1 rfl (lv_at hl 1 rfl) ?_
  have hPc := hP.sub (ws' := [(x0, .inr (11, [.ref pg, .ref rd, .ref aq, .ref py, .ref pl, .ref ch, .ref ro, .int (nI pn), .int td])), (py, .inl (cs 3, 8, .inr (.inr (.inr (.inr fpy)))))]) [0, 1] rfl
  refine va_csq (W.runV (As := [.int p1]) (rest := []) ⟨hx, hb, hml, hown, hg⟩ (x_payOfF l D cs x0 py pn (by omega) td pg rd aq pl ch ro fpy p1) (cwV 1 hg (gw_V kw_612 kw_613 kw_614 kw_12 kw_611) rfl rfl rfl (by decide +kernel) ⟨(Nat.le_of_ble_eq_true rfl), (Nat.le_of_ble_eq_true rfl)⟩) (pr_SV (q := (RX11, TX11, 9)) 11 0 hK hPc rfl rfl) rfl rfl hl.1 rfl (lv_room (Nat.le_of_ble_eq_true rfl)) dX11_about_2 ⟨(Nat.le_of_ble_eq_true rfl), (Nat.le_of_ble_eq_true rfl)⟩) (fun r_2 h_2 => ?_)
  rcases h_2 with ⟨rfl, hno⟩ | ⟨k_2, hk_2, rfl, rfl⟩
  · refine W.eq (g2 := F0 m 5 ls [.null]) rfl ?_
    refine lv_astore_nN (lv' := [(3, .null), (0, .ref x0), (1, .int p1), (2, .int p2)]) hx hb dX11_about_5 rfl hl (by decide) rfl (fun ls hl => ?_)
    refine lv_aload_nN hx hb dX11_about_6 rfl (lv_at hl 0 rfl) ?_
    refine lv_ifnonnullN hx hb dX11_about_7 ?_
    refine lv_bipush (v := (-101)) hx hb dX11_about_10 (by decide) ?_
    refine W_sQ hQ ?_
    exact W.iret (v := (-101)) hx hb hr (fun t ht hW => ⟨(-101), rfl, (Or.inl ⟨fun k9 h9 => hno k9 (by omega), rfl⟩), ht⟩) (fun _ h => absurd h List.not_mem_nil) dX11_about_12
  · obtain ⟨⟨h0, ci, nq, fq, avg, rk⟩, hrk⟩ : ∃ r9, rs[k_2]? = some r9 := ⟨_, List.getElem?_eq_getElem (by omega)⟩
    obtain ⟨hfa, hci⟩ := hpi.2 _ _ hrk
    rw [hfa]
    have hP := P_open hrk hP
    rcases avg with _ | ⟨va, fva⟩
    · have hP : va_P D vwCl ([(x0, .inr (11, [.ref pg, .ref rd, .ref aq, .ref py, .ref pl, .ref ch, .ref ro, .int (nI pn), .int td])), (py, .inl (cs 3, 8, .inr (.inr (.inr (.inr fpy))))), (h0, .inr (ci, [.ref nq, .null, .int rk])), (nq, .inl (cs 0, 4, .inl fq))] ++ (pyL cs (rs.take k_2) ++ pyL cs (rs.drop (k_2 + 1)))) s.heap := hP
      refine W.eq (g2 := F0 m 5 ls [.ref h0]) rfl ?_
      refine lv_astore_n (lv' := [(3, .ref h0), (0, .ref x0), (1, .int (nI k_2)), (2, .int p2)]) hx hb dX11_about_5 rfl hl (by decide) rfl (fun ls hl => ?_)
      refine lv_aload_n hx hb dX11_about_6 rfl (lv_at hl 0 rfl) ?_
      refine lv_ifnonnull (tgt := 13) hx hb dX11_about_7 (by decide) ?_
      refine lv_iload_n hx hb dX11_about_13 rfl (lv_at hl 3 rfl) ?_
      refine lv_iconst (v := 0) hx hb dX11_about_14 (by decide) ?_
      refine lv_iconst (v := 4) hx hb dX11_about_15 (by decide) ?_
      refine vp_callSi (W.runS (As := [.int p2, .int 0, .int 4]) (rest := []) ⟨hx, hb, hml, hown, hg⟩ (c_isWithin l p2 0 4) (va_cwS 3 hg (gw_S kw_535 kw_536 kw_12 kw_534) rfl rfl rfl (by decide +kernel) ⟨(Nat.le_of_ble_eq_true rfl), (Nat.le_of_ble_eq_true rfl)⟩) pr_0 rfl rfl hl.1 rfl (lv_room (Nat.le_of_ble_eq_true rfl)) dX11_about_16 ⟨(Nat.le_of_ble_eq_true rfl), (Nat.le_of_ble_eq_true rfl)⟩) (fun r_16 h_16 => ?_)
      have hw_16 := iw_s (n := 4) (by decide) h_16
      rcases hw_16 with rfl | ⟨rfl, j_16, hj_16, rfl⟩
      · refine lv_if_ne (tgt := 25) hx hb dX11_about_19 (by decide) (fun c_19 => absurd c_19 (by decide)) (fun c_19 => ?_)
        refine lv_bipush (v := (-102)) hx hb dX11_about_22 (by decide) ?_
        refine W_sQ hQ ?_
        exact W.iret (v := (-102)) hx hb hr (fun t ht hW => ⟨(-102), rfl, (Or.inr ⟨k_2, _, hrk, rfl, abR_no (fun q9 => ok_no h_16 q9)⟩), ht⟩) (fun _ h => absurd h List.not_mem_nil) dX11_about_24
      · refine lv_if_ne (tgt := 25) hx hb dX11_about_19 (by decide) (fun c_19 => ?_) (fun c_19 => absurd c_19 (by decide))
        refine lv_iload_n hx hb dX11_about_25 rfl (lv_at hl 3 rfl) ?_
        refine lv_iconst (v := 4) hx hb dX11_about_26 (by decide) ?_
        refine lv_icmp_ne (tgt := 37) hx hb dX11_about_27 (by decide) (fun c_27 => ?_) (fun c_27 => ?_)
        · have n_27 : ¬ j_16 = 4 := b_eq_f (by omega) (by omega) c_27
          refine lv_aload_n hx hb dX11_about_37 rfl (lv_at hl 0 rfl) ?_
          refine pg_get0 (v := .ref nq) hx hb hg hown hK hP 2 rfl hci (hg _ kw_673) rfl dX11_about_38 ?_
          refine lv_iload_n hx hb dX11_about_41 rfl (lv_at hl 3 rfl) ?_
          refine va_iald hx hb hK hP 3 0 rfl rfl (vp_in_nI (show j_16 < 4 by omega) (by decide)) dX11_about_42 ?_
          refine lv_topi (fun z_42 e_42 => ?_)
          refine W_sQ hQ ?_
          exact W.iret (v := z_42) hx hb hr (fun t ht hW => ⟨z_42, rfl, (Or.inr ⟨k_2, _, hrk, rfl, abR_j (by omega) ⟨fun q9 => by rw [e_42]; subst q9; rfl, fun q9 => by rw [e_42]; subst q9; rfl, fun q9 => by rw [e_42]; subst q9; rfl, fun q9 => by rw [e_42]; subst q9; rfl⟩⟩), ht⟩) (fun _ h => absurd h List.not_mem_nil) dX11_about_43
        · have n_27 : j_16 = 4 := b_eq_t (by omega) (by omega) c_27
          refine lv_aload_n hx hb dX11_about_30 rfl (lv_at hl 0 rfl) ?_
          have R0_31 : CallRun p l e ({ frames := 2, cells := 0, slots := 0, locals := 43 } : Room) s m args below meth c s.heap [] 0 0 0 0 (F0 m 31 ls [.ref h0]) [] (vp_Si (fun r => r = kdo ci) (Value.ref h0 :: []).toArray) (fun _ => False) := by
            rcases hci with rfl | rfl | rfl | rfl | rfl
            · exact va_Run.run (va_runU (As := []) (rest := []) ⟨hx, hb, hml, hown, hg⟩ (p_kind_X1_1 l D cs h0 nq .null rk) (va_cwO (owner := "NobodyChecks$Pay") (x := yX3_kind) 0 hg (gw_O kw_675 kw_676 kw_679 kw_677 kw_678 kw_147 kw_674) rfl rfl rfl kw_680 (by decide +kernel) ⟨(Nat.le_of_ble_eq_true rfl), (Nat.le_of_ble_eq_true rfl)⟩) (pr_SV (q := (RX1, TX1, 3)) 1 0 hK (hP.sub (ws' := [(h0, .inr (1, [.ref nq, .null, .int rk]))]) [2] rfl) rfl rfl) rfl rfl hl.1 rfl (lv_room (Nat.le_of_ble_eq_true rfl)) dX11_about_31 ⟨(Nat.le_of_ble_eq_true rfl), (Nat.le_of_ble_eq_true rfl)⟩)
            · exact W.runV (As := []) (rest := []) ⟨hx, hb, hml, hown, hg⟩ (p_kind_X3_3 l D cs h0 nq .null rk) (cwV 0 hg (gw_V kw_675 kw_679 kw_681 kw_151 kw_680) rfl rfl rfl (by decide +kernel) ⟨(Nat.le_of_ble_eq_true rfl), (Nat.le_of_ble_eq_true rfl)⟩) (pr_SV (q := (RX3, TX3, 3)) 3 0 hK (hP.sub (ws' := [(h0, .inr (3, [.ref nq, .null, .int rk]))]) [2] rfl) rfl rfl) rfl rfl hl.1 rfl (lv_room (Nat.le_of_ble_eq_true rfl)) dX11_about_31 ⟨(Nat.le_of_ble_eq_true rfl), (Nat.le_of_ble_eq_true rfl)⟩
            · exact va_Run.run (va_runU (As := []) (rest := []) ⟨hx, hb, hml, hown, hg⟩ (p_kind_X6_6 l D cs h0 nq .null rk) (va_cwO (owner := "NobodyChecks$Pay") (x := yX3_kind) 0 hg (gw_O kw_675 kw_676 kw_679 kw_683 kw_684 kw_171 kw_682) rfl rfl rfl kw_680 (by decide +kernel) ⟨(Nat.le_of_ble_eq_true rfl), (Nat.le_of_ble_eq_true rfl)⟩) (pr_SV (q := (RX6, TX6, 3)) 6 0 hK (hP.sub (ws' := [(h0, .inr (6, [.ref nq, .null, .int rk]))]) [2] rfl) rfl rfl) rfl rfl hl.1 rfl (lv_room (Nat.le_of_ble_eq_true rfl)) dX11_about_31 ⟨(Nat.le_of_ble_eq_true rfl), (Nat.le_of_ble_eq_true rfl)⟩)
            · exact va_Run.run (va_runU (As := []) (rest := []) ⟨hx, hb, hml, hown, hg⟩ (p_kind_X9_9 l D cs h0 nq .null rk) (va_cwO (owner := "NobodyChecks$Pay") (x := yX3_kind) 0 hg (gw_O kw_675 kw_676 kw_679 kw_686 kw_687 kw_164 kw_685) rfl rfl rfl kw_680 (by decide +kernel) ⟨(Nat.le_of_ble_eq_true rfl), (Nat.le_of_ble_eq_true rfl)⟩) (pr_SV (q := (RX9, TX9, 3)) 9 0 hK (hP.sub (ws' := [(h0, .inr (9, [.ref nq, .null, .int rk]))]) [2] rfl) rfl rfl) rfl rfl hl.1 rfl (lv_room (Nat.le_of_ble_eq_true rfl)) dX11_about_31 ⟨(Nat.le_of_ble_eq_true rfl), (Nat.le_of_ble_eq_true rfl)⟩)
            · exact va_Run.run (va_runU (As := []) (rest := []) ⟨hx, hb, hml, hown, hg⟩ (p_kind_X10_10 l D cs h0 nq .null rk) (va_cwO (owner := "NobodyChecks$Pay") (x := yX3_kind) 0 hg (gw_O kw_675 kw_676 kw_679 kw_689 kw_690 kw_134 kw_688) rfl rfl rfl kw_680 (by decide +kernel) ⟨(Nat.le_of_ble_eq_true rfl), (Nat.le_of_ble_eq_true rfl)⟩) (pr_SV (q := (RX10, TX10, 3)) 10 0 hK (hP.sub (ws' := [(h0, .inr (10, [.ref nq, .null, .int rk]))]) [2] rfl) rfl rfl) rfl rfl hl.1 rfl (lv_room (Nat.le_of_ble_eq_true rfl)) dX11_about_31 ⟨(Nat.le_of_ble_eq_true rfl), (Nat.le_of_ble_eq_true rfl)⟩)
          refine vp_callSi R0_31 (fun r_31 h_31 => ?_)
          refine lv_goto (tgt := 43) hx hb dX11_about_34 (by decide) ?_
          refine W_sQ hQ ?_
          exact W.iret (v := r_31) hx hb hr (fun t ht hW => ⟨r_31, rfl, (Or.inr ⟨k_2, _, hrk, rfl, (by rw [h_31, n_27]; exact abR_4)⟩), ht⟩) (fun _ h => absurd h List.not_mem_nil) dX11_about_43
    · have hP : va_P D vwCl ([(x0, .inr (11, [.ref pg, .ref rd, .ref aq, .ref py, .ref pl, .ref ch, .ref ro, .int (nI pn), .int td])), (py, .inl (cs 3, 8, .inr (.inr (.inr (.inr fpy))))), (h0, .inr (ci, [.ref nq, .ref va, .int rk])), (nq, .inl (cs 0, 4, .inl fq)), (va, .inl (cs 1, 1024, .inr (.inl fva)))] ++ (pyL cs (rs.take k_2) ++ pyL cs (rs.drop (k_2 + 1)))) s.heap := hP
      refine W.eq (g2 := F0 m 5 ls [.ref h0]) rfl ?_
      refine lv_astore_n (lv' := [(3, .ref h0), (0, .ref x0), (1, .int (nI k_2)), (2, .int p2)]) hx hb dX11_about_5 rfl hl (by decide) rfl (fun ls hl => ?_)
      refine lv_aload_n hx hb dX11_about_6 rfl (lv_at hl 0 rfl) ?_
      refine lv_ifnonnull (tgt := 13) hx hb dX11_about_7 (by decide) ?_
      refine lv_iload_n hx hb dX11_about_13 rfl (lv_at hl 3 rfl) ?_
      refine lv_iconst (v := 0) hx hb dX11_about_14 (by decide) ?_
      refine lv_iconst (v := 4) hx hb dX11_about_15 (by decide) ?_
      refine vp_callSi (W.runS (As := [.int p2, .int 0, .int 4]) (rest := []) ⟨hx, hb, hml, hown, hg⟩ (c_isWithin l p2 0 4) (va_cwS 3 hg (gw_S kw_535 kw_536 kw_12 kw_534) rfl rfl rfl (by decide +kernel) ⟨(Nat.le_of_ble_eq_true rfl), (Nat.le_of_ble_eq_true rfl)⟩) pr_0 rfl rfl hl.1 rfl (lv_room (Nat.le_of_ble_eq_true rfl)) dX11_about_16 ⟨(Nat.le_of_ble_eq_true rfl), (Nat.le_of_ble_eq_true rfl)⟩) (fun r_16 h_16 => ?_)
      have hw_16 := iw_s (n := 4) (by decide) h_16
      rcases hw_16 with rfl | ⟨rfl, j_16, hj_16, rfl⟩
      · refine lv_if_ne (tgt := 25) hx hb dX11_about_19 (by decide) (fun c_19 => absurd c_19 (by decide)) (fun c_19 => ?_)
        refine lv_bipush (v := (-102)) hx hb dX11_about_22 (by decide) ?_
        refine W_sQ hQ ?_
        exact W.iret (v := (-102)) hx hb hr (fun t ht hW => ⟨(-102), rfl, (Or.inr ⟨k_2, _, hrk, rfl, abR_no (fun q9 => ok_no h_16 q9)⟩), ht⟩) (fun _ h => absurd h List.not_mem_nil) dX11_about_24
      · refine lv_if_ne (tgt := 25) hx hb dX11_about_19 (by decide) (fun c_19 => ?_) (fun c_19 => absurd c_19 (by decide))
        refine lv_iload_n hx hb dX11_about_25 rfl (lv_at hl 3 rfl) ?_
        refine lv_iconst (v := 4) hx hb dX11_about_26 (by decide) ?_
        refine lv_icmp_ne (tgt := 37) hx hb dX11_about_27 (by decide) (fun c_27 => ?_) (fun c_27 => ?_)
        · have n_27 : ¬ j_16 = 4 := b_eq_f (by omega) (by omega) c_27
          refine lv_aload_n hx hb dX11_about_37 rfl (lv_at hl 0 rfl) ?_
          refine pg_get0 (v := .ref nq) hx hb hg hown hK hP 2 rfl hci (hg _ kw_673) rfl dX11_about_38 ?_
          refine lv_iload_n hx hb dX11_about_41 rfl (lv_at hl 3 rfl) ?_
          refine va_iald hx hb hK hP 3 0 rfl rfl (vp_in_nI (show j_16 < 4 by omega) (by decide)) dX11_about_42 ?_
          refine lv_topi (fun z_42 e_42 => ?_)
          refine W_sQ hQ ?_
          exact W.iret (v := z_42) hx hb hr (fun t ht hW => ⟨z_42, rfl, (Or.inr ⟨k_2, _, hrk, rfl, abR_j (by omega) ⟨fun q9 => by rw [e_42]; subst q9; rfl, fun q9 => by rw [e_42]; subst q9; rfl, fun q9 => by rw [e_42]; subst q9; rfl, fun q9 => by rw [e_42]; subst q9; rfl⟩⟩), ht⟩) (fun _ h => absurd h List.not_mem_nil) dX11_about_43
        · have n_27 : j_16 = 4 := b_eq_t (by omega) (by omega) c_27
          refine lv_aload_n hx hb dX11_about_30 rfl (lv_at hl 0 rfl) ?_
          have R0_31 : CallRun p l e ({ frames := 2, cells := 0, slots := 0, locals := 43 } : Room) s m args below meth c s.heap [] 0 0 0 0 (F0 m 31 ls [.ref h0]) [] (vp_Si (fun r => r = kdo ci) (Value.ref h0 :: []).toArray) (fun _ => False) := by
            rcases hci with rfl | rfl | rfl | rfl | rfl
            · exact va_Run.run (va_runU (As := []) (rest := []) ⟨hx, hb, hml, hown, hg⟩ (p_kind_X1_1 l D cs h0 nq (.ref va) rk) (va_cwO (owner := "NobodyChecks$Pay") (x := yX3_kind) 0 hg (gw_O kw_675 kw_676 kw_679 kw_677 kw_678 kw_147 kw_674) rfl rfl rfl kw_680 (by decide +kernel) ⟨(Nat.le_of_ble_eq_true rfl), (Nat.le_of_ble_eq_true rfl)⟩) (pr_SV (q := (RX1, TX1, 3)) 1 0 hK (hP.sub (ws' := [(h0, .inr (1, [.ref nq, .ref va, .int rk]))]) [2] rfl) rfl rfl) rfl rfl hl.1 rfl (lv_room (Nat.le_of_ble_eq_true rfl)) dX11_about_31 ⟨(Nat.le_of_ble_eq_true rfl), (Nat.le_of_ble_eq_true rfl)⟩)
            · exact W.runV (As := []) (rest := []) ⟨hx, hb, hml, hown, hg⟩ (p_kind_X3_3 l D cs h0 nq (.ref va) rk) (cwV 0 hg (gw_V kw_675 kw_679 kw_681 kw_151 kw_680) rfl rfl rfl (by decide +kernel) ⟨(Nat.le_of_ble_eq_true rfl), (Nat.le_of_ble_eq_true rfl)⟩) (pr_SV (q := (RX3, TX3, 3)) 3 0 hK (hP.sub (ws' := [(h0, .inr (3, [.ref nq, .ref va, .int rk]))]) [2] rfl) rfl rfl) rfl rfl hl.1 rfl (lv_room (Nat.le_of_ble_eq_true rfl)) dX11_about_31 ⟨(Nat.le_of_ble_eq_true rfl), (Nat.le_of_ble_eq_true rfl)⟩
            · exact va_Run.run (va_runU (As := []) (rest := []) ⟨hx, hb, hml, hown, hg⟩ (p_kind_X6_6 l D cs h0 nq (.ref va) rk) (va_cwO (owner := "NobodyChecks$Pay") (x := yX3_kind) 0 hg (gw_O kw_675 kw_676 kw_679 kw_683 kw_684 kw_171 kw_682) rfl rfl rfl kw_680 (by decide +kernel) ⟨(Nat.le_of_ble_eq_true rfl), (Nat.le_of_ble_eq_true rfl)⟩) (pr_SV (q := (RX6, TX6, 3)) 6 0 hK (hP.sub (ws' := [(h0, .inr (6, [.ref nq, .ref va, .int rk]))]) [2] rfl) rfl rfl) rfl rfl hl.1 rfl (lv_room (Nat.le_of_ble_eq_true rfl)) dX11_about_31 ⟨(Nat.le_of_ble_eq_true rfl), (Nat.le_of_ble_eq_true rfl)⟩)
            · exact va_Run.run (va_runU (As := []) (rest := []) ⟨hx, hb, hml, hown, hg⟩ (p_kind_X9_9 l D cs h0 nq (.ref va) rk) (va_cwO (owner := "NobodyChecks$Pay") (x := yX3_kind) 0 hg (gw_O kw_675 kw_676 kw_679 kw_686 kw_687 kw_164 kw_685) rfl rfl rfl kw_680 (by decide +kernel) ⟨(Nat.le_of_ble_eq_true rfl), (Nat.le_of_ble_eq_true rfl)⟩) (pr_SV (q := (RX9, TX9, 3)) 9 0 hK (hP.sub (ws' := [(h0, .inr (9, [.ref nq, .ref va, .int rk]))]) [2] rfl) rfl rfl) rfl rfl hl.1 rfl (lv_room (Nat.le_of_ble_eq_true rfl)) dX11_about_31 ⟨(Nat.le_of_ble_eq_true rfl), (Nat.le_of_ble_eq_true rfl)⟩)
            · exact va_Run.run (va_runU (As := []) (rest := []) ⟨hx, hb, hml, hown, hg⟩ (p_kind_X10_10 l D cs h0 nq (.ref va) rk) (va_cwO (owner := "NobodyChecks$Pay") (x := yX3_kind) 0 hg (gw_O kw_675 kw_676 kw_679 kw_689 kw_690 kw_134 kw_688) rfl rfl rfl kw_680 (by decide +kernel) ⟨(Nat.le_of_ble_eq_true rfl), (Nat.le_of_ble_eq_true rfl)⟩) (pr_SV (q := (RX10, TX10, 3)) 10 0 hK (hP.sub (ws' := [(h0, .inr (10, [.ref nq, .ref va, .int rk]))]) [2] rfl) rfl rfl) rfl rfl hl.1 rfl (lv_room (Nat.le_of_ble_eq_true rfl)) dX11_about_31 ⟨(Nat.le_of_ble_eq_true rfl), (Nat.le_of_ble_eq_true rfl)⟩)
          refine vp_callSi R0_31 (fun r_31 h_31 => ?_)
          refine lv_goto (tgt := 43) hx hb dX11_about_34 (by decide) ?_
          refine W_sQ hQ ?_
          exact W.iret (v := r_31) hx hb hr (fun t ht hW => ⟨r_31, rfl, (Or.inr ⟨k_2, _, hrk, rfl, (by rw [h_31, n_27]; exact abR_4)⟩), ht⟩) (fun _ h => absurd h List.not_mem_nil) dX11_about_43

set_option maxHeartbeats 4000000 in
set_option maxRecDepth 100000 in
theorem m_aboutF (l : Launch) (D : va_G) (cs : Nat → ClassId) (m0 : Nat) (mp : Nat) (mw : Nat) (mh : Nat) (mo : Nat) (m5 : Nat) (m6 : Nat) (m7 : Nat) (mk : Nat) (mn : Nat) (mq : Nat) (m8 : Nat) (m9 : Nat) (mz : Nat) (mb : Nat) (md : Nat) (ms : Nat) (C : Nat) (P : Nat) (mpn : Nat) (mrs : Nat) (sS : Nat) (rc : Nat) (rp : Nat) (ic : Nat) (hms : ms ≤ 90) (hC5 : C ≤ 5) (hP4 : P ≤ 4) (hmpn : mpn ≤ 8) (hmrs : mrs ≤ 24) (hsS : sS ≤ 4) (hrc : rc ≤ 5) (hrp : rp ≤ 4) (hic : ic ≤ 4) (x_value : Int32) (x_digits : Int32) (x_all : Int64) (x_kind : Int32) (x_last : Int32) (x_steps : Int32) (x_isRound : Int32) (x_tablesDone : Int32) (x_hash : Int64) (fmk : Nat → Int32) (fmn : Nat → Int32) (p1 : Int32) (p2 : Int32) : Met l yX12_about (Cond.code yX12_about cX12_about 3 (some .int) :: gw_tbl) ({ frames := 2, cells := 0, slots := 0, locals := 46 }) (pc_S D cs [(m0, .inr (12, [.ref mp, .int (nI ms), .int (nI C), .int (nI P), .ref mw, .ref mh, .ref mo, .int (nI sS), .int x_value, .int x_digits, .int (nI rc), .int (nI rp), .int (nI ic), .ref m5, .ref m6, .ref m7, .long x_all, .int (nI mpn), .ref mk, .ref mn, .int x_kind, .ref mq, .ref m8, .ref m9, .int x_last, .int x_steps, .int x_isRound, .int x_tablesDone, .ref mz, .int (nI mrs), .ref mb, .ref md, .long x_hash])), (mk, .inl (cs 0, 8, .inl fmk)), (mn, .inl (cs 0, 32, .inl fmn))] [.ref m0, .int p1, .int p2]) (vp_Si (fun r => abM mpn fmk fmn p1 p2 r)) 0 0 (fun _ => False) := by
  refine Met.ofW (cc := cX12_about) (maxL := 3) (ret := (some .int)) (by decide) rfl ?_
  intro p e s m args below meth c s₁ B hml hv
  obtain ⟨hargs, hP, hK⟩ := hv
  have hx := B.exec
  have hb := B.bytes
  have hr := B.returns
  have hts := atoms_spec (ws := Cond.code yX12_about cX12_about 3 (some .int) :: gw_tbl) B.pre
  have hg := fun (w : Cond) (h : w ∈ gw_tbl) => hts w (List.mem_cons_of_mem _ h)
  have hown : s.vm.findClass RX12 = some m.cls := findClass_of_methodNamed B.named
  have hlocks := B.notSynchronized
  have hl := lv_entry ([.ref m0, .int p1, .int p2]) (n := 3) (Nat.le_of_ble_eq_true rfl)
  rw [show entryFrame m args 3 = F0 m 0 (lg_sl ([.ref m0, .int p1, .int p2]) ++ List.replicate (3 - (lg_sl ([.ref m0, .int p1, .int p2])).length) Slot.unset).toArray [] from by rw [hargs]; exact lg_entry_eq ..]
  generalize (lg_sl ([.ref m0, .int p1, .int p2]) ++ List.replicate (3 - (lg_sl ([.ref m0, .int p1, .int p2])).length) Slot.unset).toArray = ls at hl ⊢
  have hl : lv_has ls 3 [(0, .ref m0), (1, .int p1), (2, .int p2)] := hl
  refine W_genQ (fun Q hQ => ?_)
  have hlm := lim_le hP4
  have hlq := lim_pos P
  have hsg := sgn_le hP4
  refine lv_aload_n hx hb dX12_about_0 rfl (lv_at hl 0 rfl) ?_
  refine lv_iload_n hx hb dX12_about_1 rfl (lv_at hl 1 rfl) ?_
  have hPc := hP.sub (ws' := [(m0, .inr (12, [.ref mp, .int (nI ms), .int (nI C), .int (nI P), .ref mw, .ref mh, .ref mo, .int (nI sS), .int x_value, .int x_digits, .int (nI rc), .int (nI rp), .int (nI ic), .ref m5, .ref m6, .ref m7, .long x_all, .int (nI mpn), .ref mk, .ref mn, .int x_kind, .ref mq, .ref m8, .ref m9, .int x_last, .int x_steps, .int x_isRound, .int x_tablesDone, .ref mz, .int (nI mrs), .ref mb, .ref md, .long x_hash]))]) [0] rfl
  refine vp_callSi (W.runV (As := [.int p1]) (rest := []) ⟨hx, hb, hml, hown, hg⟩ (m_isPayF l D cs m0 mp mw mh mo m5 m6 m7 mk mn mq m8 m9 mz mb md ms C P mpn mrs sS rc rp ic (by omega) (by omega) (by omega) (by omega) (by omega) (by omega) (by omega) (by omega) (by omega) x_value x_digits x_all x_kind x_last x_steps x_isRound x_tablesDone x_hash p1) (cwV 1 hg (gw_V kw_419 kw_420 kw_421 kw_319 kw_418) rfl rfl rfl (by decide +kernel) ⟨(Nat.le_of_ble_eq_true rfl), (Nat.le_of_ble_eq_true rfl)⟩) (pr_SV (q := (RX12, TX12, 33)) 12 0 hK hPc rfl rfl) rfl rfl hl.1 rfl (lv_room (Nat.le_of_ble_eq_true rfl)) dX12_about_2 ⟨(Nat.le_of_ble_eq_true rfl), (Nat.le_of_ble_eq_true rfl)⟩) (fun r_2 h_2 => ?_)
  rcases h_2 with ⟨rfl, hno⟩ | ⟨rfl, k_2, hk_2, rfl⟩
  · refine lv_if_ne (tgt := 11) hx hb dX12_about_5 (by decide) (fun c_5 => absurd c_5 (by decide)) (fun c_5 => ?_)
    refine lv_bipush (v := (-101)) hx hb dX12_about_8 (by decide) ?_
    refine W_sQ hQ ?_
    exact W.iret (v := (-101)) hx hb hr (fun t ht hW => ⟨(-101), rfl, (Or.inl ⟨hno, rfl⟩), ht⟩) (fun _ h => absurd h List.not_mem_nil) dX12_about_10
  · refine lv_if_ne (tgt := 11) hx hb dX12_about_5 (by decide) (fun c_5 => ?_) (fun c_5 => absurd c_5 (by decide))
    refine lv_iload_n hx hb dX12_about_11 rfl (lv_at hl 2 rfl) ?_
    refine lv_i2l hx hb dX12_about_12 rfl ?_
    refine lv_topl (fun z_12 e_12 => ?_)
    refine lv_lconst (v := 0) hx hb dX12_about_13 (by decide) ?_
    refine lv_ldc2 hx hb hown (hg _ kw_461) dX12_about_14 ?_
    refine vp_callSi (W.runS (As := [.long z_12, .long 0, .long 3]) (rest := []) ⟨hx, hb, hml, hown, hg⟩ (c_in l z_12 0 3) (va_cwS 3 hg (gw_S kw_317 kw_318 kw_319 kw_316) rfl rfl rfl (by decide +kernel) ⟨(Nat.le_of_ble_eq_true rfl), (Nat.le_of_ble_eq_true rfl)⟩) pr_0 rfl rfl hl.1 rfl (lv_room (Nat.le_of_ble_eq_true rfl)) dX12_about_17 ⟨(Nat.le_of_ble_eq_true rfl), (Nat.le_of_ble_eq_true rfl)⟩) (fun r_17 h_17 => ?_)
    replace h_17 : r_17 = iw p2 0 3 := h_17.trans (by rw [e_12]; exact il_iw (by decide) (by decide))
    have hw_17 := iw_s (n := 3) (by decide) h_17
    rcases hw_17 with rfl | ⟨rfl, j_17, hj_17, rfl⟩
    · refine lv_if_eq (tgt := 36) hx hb dX12_about_20 (by decide) (fun c_20 => ?_) (fun c_20 => absurd c_20 (by decide))
      refine lv_iload_n hx hb dX12_about_36 rfl (lv_at hl 2 rfl) ?_
      refine lv_iconst (v := 4) hx hb dX12_about_37 (by decide) ?_
      refine lv_icmp_ne (tgt := 50) hx hb dX12_about_38 (by decide) (fun c_38 => ?_) (fun c_38 => ?_)
      · refine lv_bipush (v := (-102)) hx hb dX12_about_50 (by decide) ?_
        refine W_sQ hQ ?_
        exact W.iret (v := (-102)) hx hb hr (fun t ht hW => ⟨(-102), rfl, (Or.inr ⟨_, by assumption, rfl, abR_no (fun q9 => by rcases tw5 q9 with rfl | rfl | rfl | rfl | rfl <;> first | exact absurd h_17 (by decide) | exact absurd rfl c_38)⟩), ht⟩) (fun _ h => absurd h List.not_mem_nil) dX12_about_52
      · subst c_38
        refine lv_aload_n hx hb dX12_about_41 rfl (lv_at hl 0 rfl) ?_
        refine va_get (D := D) (ci := 12) (v := .ref mk) (C := RX12) (T := TX12) (N := 33) hx hb hg gwX12 hown hK hP 0 rfl rfl 18 (by decide) (hg _ kw_324) (fun _ h9 => h9) rfl dX12_about_42 ?_
        refine lv_iload_n hx hb dX12_about_45 rfl (lv_at hl 1 rfl) ?_
        refine va_iald hx hb hK hP 1 0 rfl rfl (vp_in_nI (show k_2 < 8 by omega) (by decide)) dX12_about_46 ?_
        refine lv_topi (fun z_46 e_46 => ?_)
        obtain rfl : z_46 = (fmk k_2) := e_46.trans (by rw [nI_clamp (by omega)])
        refine lv_goto (tgt := 52) hx hb dX12_about_47 (by decide) ?_
        refine W_sQ hQ ?_
        exact W.iret (v := (fmk k_2)) hx hb hr (fun t ht hW => ⟨(fmk k_2), rfl, (Or.inr ⟨_, by assumption, rfl, abR_4⟩), ht⟩) (fun _ h => absurd h List.not_mem_nil) dX12_about_52
    · refine lv_if_eq (tgt := 36) hx hb dX12_about_20 (by decide) (fun c_20 => absurd c_20 (by decide)) (fun c_20 => ?_)
      refine lv_aload_n hx hb dX12_about_23 rfl (lv_at hl 0 rfl) ?_
      refine va_get (D := D) (ci := 12) (v := .ref mn) (C := RX12) (T := TX12) (N := 33) hx hb hg gwX12 hown hK hP 0 rfl rfl 19 (by decide) (hg _ kw_327) (fun _ h9 => h9) rfl dX12_about_24 ?_
      refine lv_iconst (v := 4) hx hb dX12_about_27 (by decide) ?_
      refine lv_iload_n hx hb dX12_about_28 rfl (lv_at hl 1 rfl) ?_
      refine lv_imul hx hb dX12_about_29 ?_
      refine lv_topi (fun z_29 e_29 => ?_)
      obtain rfl : z_29 = nI (4 * k_2) := e_29.trans (pk_mul _ _)
      refine lv_iload_n hx hb dX12_about_30 rfl (lv_at hl 2 rfl) ?_
      refine lv_iadd hx hb dX12_about_31 ?_
      refine lv_topi (fun z_31 e_31 => ?_)
      obtain rfl : z_31 = nI (4 * k_2 + j_17) := e_31.trans (nI_add _ _)
      refine va_iald hx hb hK hP 2 0 rfl rfl (vp_in_nI (show 4 * k_2 + j_17 < 32 by omega) (by decide)) dX12_about_32 ?_
      refine lv_topi (fun z_32 e_32 => ?_)
      obtain rfl : z_32 = (fmn (4 * k_2 + j_17)) := e_32.trans (by rw [nI_clamp (by omega)])
      refine lv_goto (tgt := 52) hx hb dX12_about_33 (by decide) ?_
      refine W_sQ hQ ?_
      exact W.iret (v := (fmn (4 * k_2 + j_17))) hx hb hr (fun t ht hW => ⟨(fmn (4 * k_2 + j_17)), rfl, (Or.inr ⟨_, by assumption, rfl, abR_j (by omega) ⟨fun q9 => by subst q9; rfl, fun q9 => by subst q9; rfl, fun q9 => by subst q9; rfl, fun q9 => by subst q9; rfl⟩⟩), ht⟩) (fun _ h => absurd h List.not_mem_nil) dX12_about_52
