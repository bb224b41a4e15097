/-! which class is below which -/
def ic_y : List (String × String) := [(RX1, RX9), (RX6, RX10)]
def ic_n : List (String × String) := [(RX3, RX9), (RX3, RX10), (RX3, RX6), (RX3, RX1), (RX9, RX10), (RX9, RX6), (RX9, RX1), (RX10, RX9), (RX10, RX6), (RX10, RX1), (RX6, RX9), (RX6, RX1), (RX1, RX10), (RX1, RX6)]
def ic_C (U : State) : Prop := (∀ q ∈ ic_y, va_Nw (.castable q.1 q.2) U) ∧ ∀ q ∈ ic_n, va_Nc q.1 q.2 U
theorem ic_C.same {u U : State} (h : u.vm = U.vm) (hZ : ic_C u) : ic_C U := ⟨fun q hq => va_Nw.same rfl h (hZ.1 q hq), fun q hq => va_Nc.moved (by rw [h]; exact Vm.Alike.refl _) (hZ.2 q hq)⟩
theorem ic_C.warm {s U : State} (hW : s.WarmedH U.vm) (hZ : ic_C s) : ic_C U := ⟨fun q hq => va_Nw.warmC hW (hZ.1 q hq), fun q hq => va_Nc.moved hW.alike (hZ.2 q hq)⟩
def pc_E (D : va_G) (cs : Nat → ClassId) (ws : va_W) (av : List Value) : Array Value → State → Prop := va_Pc av (fun U => va_P D vwCl ws U.heap ∧ va_K D vwCl (GT cs) U ∧ ic_C U)
theorem pc_E_fb {D : va_G} {cs : Nat → ClassId} {ws : va_W} {av : List Value} : FrameBlind (pc_E D cs ws av) := fun a U g mk q => ⟨q.1, q.2.1, va_K.moved (u := U) (U := U.calling g mk a) (Vm.Alike.refl U.vm) q.2.2.1, ic_C.same (u := U) rfl q.2.2.2⟩
theorem pr_ES {s : State} {H : Heap} {D : va_G} {cs : Nat → ClassId} {ws : va_W} {As : List Value} (hK : va_K D vwCl (GT cs) s) (hP : va_P D vwCl ws H) (hI : ic_C s) : PreS s H (pc_E D cs ws As) As := ⟨pc_E_fb, fun U hU hW => ⟨rfl, by rw [hU]; exact hP, va_K.moved hW.alike hK, ic_C.warm hW hI⟩⟩
theorem pr_EV {s : State} {H : Heap} {D : va_G} {cs : Nat → ClassId} {ws : va_W} {As : List Value} {b : Addr} {fs : List Value} {q : vw_C} (ci q0 : Nat) (hK : va_K D vwCl (GT cs) s) (hP : va_P D vwCl ws H) (hI : ic_C s) (hc : vwCl[ci]? = some q) (he : ws[q0]? = some (b, .inr (ci, fs))) : PreV s H q.1 b (pc_E D cs ws (.ref b :: As)) As := ⟨pc_E_fb, va_recv hK hP hc he, fun U hU hW => ⟨rfl, by rw [hU]; exact hP, va_K.moved hW.alike hK, ic_C.warm hW hI⟩⟩
theorem tw_0_4 {x : Int32} (h : ¬ (x.toInt < 0 ∨ 4 < x.toInt)) : x = 0 ∨ x = 1 ∨ x = 2 ∨ x = 3 ∨ x = 4 := by
  have e0 : (0 : Int32).toInt = 0 := rfl
  have e1 : (1 : Int32).toInt = 1 := rfl
  have e2 : (2 : Int32).toInt = 2 := rfl
  have e3 : (3 : Int32).toInt = 3 := rfl
  have e4 : (4 : Int32).toInt = 4 := rfl
  simp only [fa_eq, e0, e1, e2, e3, e4]
  omega
theorem tw_1_4 {x : Int32} (h : ¬ (x.toInt < 1 ∨ 4 < x.toInt)) : x = 1 ∨ x = 2 ∨ x = 3 ∨ x = 4 := by
  have e1 : (1 : Int32).toInt = 1 := rfl
  have e2 : (2 : Int32).toInt = 2 := rfl
  have e3 : (3 : Int32).toInt = 3 := rfl
  have e4 : (4 : Int32).toInt = 4 := rfl
  simp only [fa_eq, e1, e2, e3, e4]
  omega
theorem tw5 {x : Int32} (h : iw x 0 4 = 1) : x = 0 ∨ x = 1 ∨ x = 2 ∨ x = 3 ∨ x = 4 := by
  obtain ⟨h1, h2⟩ := iw_ge h
  have e0 : (0 : Int32).toInt = 0 := rfl
  have e4 : (4 : Int32).toInt = 4 := rfl
  rw [fa_le, e0] at h1
  rw [fa_le, e4] at h2
  exact tw_0_4 (by omega)
/-- is a PAY of the one kind also one of the other -/
def isV (b kd : Int32) : Int32 := if b = 0 ∨ b = kd ∨ (b = 2 ∧ kd = 3) ∨ (b = 1 ∧ kd = 4) then 1 else 0
theorem isV_01 {b kd : Int32} : isV b kd = 0 ∨ isV b kd = 1 := by
  unfold isV; split
  · exact Or.inr rfl
  · exact Or.inl rfl
theorem nOK_of {k a b d f : Int32} : pOK k a b d f ↔ iw k 0 4 = 1 ∧ (iw a 0 999 = 1 ∧ iw b 0 (pTop k) = 1 ∧ iw d 0 999 = 1 ∧ iw f 0 (pTop k) = 1) := Iff.rfl

theorem dX11_isOf_0 : decode cX11_isOf 0 = .ok (.iload_n 1, 1) := by decide +kernel
theorem dX11_isOf_1 : decode cX11_isOf 1 = .ok (.tableswitch 57 0 4 #[35, 37, 42, 47, 52], 35) := by decide +kernel
theorem dX11_isOf_36 : decode cX11_isOf 36 = .ok (.iconst 1, 1) := by decide +kernel
theorem dX11_isOf_37 : decode cX11_isOf 37 = .ok (.ireturn, 1) := by decide +kernel
theorem dX11_isOf_38 : decode cX11_isOf 38 = .ok (.aload_n 0, 1) := by decide +kernel
theorem dX11_isOf_39 : decode cX11_isOf 39 = .ok (.instanceof 334, 3) := by decide +kernel
theorem dX11_isOf_42 : decode cX11_isOf 42 = .ok (.ireturn, 1) := by decide +kernel
theorem dX11_isOf_43 : decode cX11_isOf 43 = .ok (.aload_n 0, 1) := by decide +kernel
theorem dX11_isOf_44 : decode cX11_isOf 44 = .ok (.instanceof 337, 3) := by decide +kernel
theorem dX11_isOf_47 : decode cX11_isOf 47 = .ok (.ireturn, 1) := by decide +kernel
theorem dX11_isOf_48 : decode cX11_isOf 48 = .ok (.aload_n 0, 1) := by decide +kernel
theorem dX11_isOf_49 : decode cX11_isOf 49 = .ok (.instanceof 340, 3) := by decide +kernel
theorem dX11_isOf_52 : decode cX11_isOf 52 = .ok (.ireturn, 1) := by decide +kernel
theorem dX11_isOf_53 : decode cX11_isOf 53 = .ok (.aload_n 0, 1) := by decide +kernel
theorem dX11_isOf_54 : decode cX11_isOf 54 = .ok (.instanceof 343, 3) := by decide +kernel
theorem dX11_isOf_57 : decode cX11_isOf 57 = .ok (.ireturn, 1) := by decide +kernel
theorem dX11_isOf_58 : decode cX11_isOf 58 = .ok (.iconst 0, 1) := by decide +kernel
theorem dX11_isOf_59 : decode cX11_isOf 59 = .ok (.ireturn, 1) := by decide +kernel
theorem kw_666 : (.classLink RX11 334 RX9 : Cond) ∈ gw_tbl := gw_in (by decide +kernel) (by decide +kernel)
theorem kw_667 : (.classLink RX11 337 RX10 : Cond) ∈ gw_tbl := gw_in (by decide +kernel) (by decide +kernel)
theorem kw_668 : (.classLink RX11 340 RX6 : Cond) ∈ gw_tbl := gw_in (by decide +kernel) (by decide +kernel)
theorem kw_669 : (.classLink RX11 343 RX1 : Cond) ∈ gw_tbl := gw_in (by decide +kernel) (by decide +kernel)

set_option maxHeartbeats 4000000 in
set_option maxRecDepth 100000 in
theorem x_isOf_3 (l : Launch) (D : va_G) (cs : Nat → ClassId) (h0 : Nat) (nq : Nat) (av : Value) (rk : Int32) (p1 : Int32) : Met l yX11_isOf (Cond.code yX11_isOf cX11_isOf 2 (some .boolean) :: gw_tbl) ({ frames := 0, cells := 0, slots := 0, locals := 0 }) (pc_E D cs [(h0, .inr (3, [.ref nq, av, .int rk]))] [.ref h0, .int p1]) (vp_Si (fun r => (r = 0 ∧ (iw p1 0 4 = 1 → isV p1 (kdo 3) = 0)) ∨ (r = 1 ∧ (iw p1 0 4 = 1 → isV p1 (kdo 3) = 1)))) 0 0 (fun _ => False) := by
  refine Met.ofW (cc := cX11_isOf) (maxL := 2) (ret := (some .boolean)) (by decide) rfl ?_
  intro p e s m args below meth c s₁ B hml hv
  obtain ⟨hargs, hP, hK, hI⟩ := hv
  have hx := B.exec
  have hb := B.bytes
  have hr := B.returns
  have hts := atoms_spec (ws := Cond.code yX11_isOf cX11_isOf 2 (some .boolean) :: gw_tbl) B.pre
  have hg := fun (w : Cond) (h : w ∈ gw_tbl) => hts w (List.mem_cons_of_mem _ h)
  have hown : s.vm.findClass RX11 = some m.cls := findClass_of_methodNamed B.named
  have hlocks := B.notSynchronized
  have hl := lv_entry ([.ref h0, .int p1]) (n := 2) (Nat.le_of_ble_eq_true rfl)
  rw [show entryFrame m args 2 = F0 m 0 (lg_sl ([.ref h0, .int p1]) ++ List.replicate (2 - (lg_sl ([.ref h0, .int p1])).length) Slot.unset).toArray [] from by rw [hargs]; exact lg_entry_eq ..]
  generalize (lg_sl ([.ref h0, .int p1]) ++ List.replicate (2 - (lg_sl ([.ref h0, .int p1])).length) Slot.unset).toArray = ls at hl ⊢
  have hl : lv_has ls 2 [(0, .ref h0), (1, .int p1)] := hl
  refine W_genQ (fun Q hQ => ?_)
  refine lv_iload_n hx hb dX11_isOf_0 rfl (lv_at hl 1 rfl) ?_
  by_cases t_1 : p1.toInt < 0 ∨ 4 < p1.toInt
  · refine lv_tableOut (tgt := 58) hx hb dX11_isOf_1 t_1 (by decide) ?_
    refine lv_iconst (v := 0) hx hb dX11_isOf_58 (by decide) ?_
    refine W_sQ hQ ?_
    exact W.zret (v := 0) hx hb hr (by decide) (fun t ht hW => ⟨0, rfl, (Or.inl ⟨rfl, fun q9 => absurd q9 (fun q8 => by rcases tw5 q8 with rfl | rfl | rfl | rfl | rfl <;> revert t_1 <;> decide)⟩), ht⟩) (fun _ h => absurd h List.not_mem_nil) dX11_isOf_59
  · rcases tw_0_4 t_1 with rfl | rfl | rfl | rfl | rfl
    · refine lv_tableIn (tgt := 36) hx hb dX11_isOf_1 (by decide) (by decide) rfl (by decide) ?_
      refine lv_iconst (v := 1) hx hb dX11_isOf_36 (by decide) ?_
      refine W_sQ hQ ?_
      exact W.zret (v := 1) hx hb hr (by decide) (fun t ht hW => ⟨1, rfl, (Or.inr ⟨rfl, fun _ => by decide⟩), ht⟩) (fun _ h => absurd h List.not_mem_nil) dX11_isOf_37
    · refine lv_tableIn (tgt := 38) hx hb dX11_isOf_1 (by decide) (by decide) rfl (by decide) ?_
      refine lv_aload_n hx hb dX11_isOf_38 rfl (lv_at hl 0 rfl) ?_
      refine va_instNo (C := RX3) hx hb hown (hg _ kw_666) (hI.2 (RX3, RX9) (by decide +kernel)) (va_recv (q := (RX3, TX3, 3)) hK hP rfl (show (_ : va_W)[0]? = _ from rfl)) dX11_isOf_39 ?_
      refine W_sQ hQ ?_
      exact W.zret (v := 0) hx hb hr (by decide) (fun t ht hW => ⟨0, rfl, (Or.inl ⟨rfl, fun _ => by decide⟩), ht⟩) (fun _ h => absurd h List.not_mem_nil) dX11_isOf_42
    · refine lv_tableIn (tgt := 43) hx hb dX11_isOf_1 (by decide) (by decide) rfl (by decide) ?_
      refine lv_aload_n hx hb dX11_isOf_43 rfl (lv_at hl 0 rfl) ?_
      refine va_instNo (C := RX3) hx hb hown (hg _ kw_667) (hI.2 (RX3, RX10) (by decide +kernel)) (va_recv (q := (RX3, TX3, 3)) hK hP rfl (show (_ : va_W)[0]? = _ from rfl)) dX11_isOf_44 ?_
      refine W_sQ hQ ?_
      exact W.zret (v := 0) hx hb hr (by decide) (fun t ht hW => ⟨0, rfl, (Or.inl ⟨rfl, fun _ => by decide⟩), ht⟩) (fun _ h => absurd h List.not_mem_nil) dX11_isOf_47
    · refine lv_tableIn (tgt := 48) hx hb dX11_isOf_1 (by decide) (by decide) rfl (by decide) ?_
      refine lv_aload_n hx hb dX11_isOf_48 rfl (lv_at hl 0 rfl) ?_
      refine va_instNo (C := RX3) hx hb hown (hg _ kw_668) (hI.2 (RX3, RX6) (by decide +kernel)) (va_recv (q := (RX3, TX3, 3)) hK hP rfl (show (_ : va_W)[0]? = _ from rfl)) dX11_isOf_49 ?_
      refine W_sQ hQ ?_
      exact W.zret (v := 0) hx hb hr (by decide) (fun t ht hW => ⟨0, rfl, (Or.inl ⟨rfl, fun _ => by decide⟩), ht⟩) (fun _ h => absurd h List.not_mem_nil) dX11_isOf_52
    · refine lv_tableIn (tgt := 53) hx hb dX11_isOf_1 (by decide) (by decide) rfl (by decide) ?_
      refine lv_aload_n hx hb dX11_isOf_53 rfl (lv_at hl 0 rfl) ?_
      refine va_instNo (C := RX3) hx hb hown (hg _ kw_669) (hI.2 (RX3, RX1) (by decide +kernel)) (va_recv (q := (RX3, TX3, 3)) hK hP rfl (show (_ : va_W)[0]? = _ from rfl)) dX11_isOf_54 ?_
      refine W_sQ hQ ?_
      exact W.zret (v := 0) hx hb hr (by decide) (fun t ht hW => ⟨0, rfl, (Or.inl ⟨rfl, fun _ => by decide⟩), ht⟩) (fun _ h => absurd h List.not_mem_nil) dX11_isOf_57

set_option maxHeartbeats 4000000 in
set_option maxRecDepth 100000 in
theorem x_isOf_9 (l : Launch) (D : va_G) (cs : Nat → ClassId) (h0 : Nat) (nq : Nat) (av : Value) (rk : Int32) (p1 : Int32) : Met l yX11_isOf (Cond.code yX11_isOf cX11_isOf 2 (some .boolean) :: gw_tbl) ({ frames := 0, cells := 0, slots := 0, locals := 0 }) (pc_E D cs [(h0, .inr (9, [.ref nq, av, .int rk]))] [.ref h0, .int p1]) (vp_Si (fun r => (r = 0 ∧ (iw p1 0 4 = 1 → isV p1 (kdo 9) = 0)) ∨ (r = 1 ∧ (iw p1 0 4 = 1 → isV p1 (kdo 9) = 1)))) 0 0 (fun _ => False) := by
  refine Met.ofW (cc := cX11_isOf) (maxL := 2) (ret := (some .boolean)) (by decide) rfl ?_
  intro p e s m args below meth c s₁ B hml hv
  obtain ⟨hargs, hP, hK, hI⟩ := hv
  have hx := B.exec
  have hb := B.bytes
  have hr := B.returns
  have hts := atoms_spec (ws := Cond.code yX11_isOf cX11_isOf 2 (some .boolean) :: gw_tbl) B.pre
  have hg := fun (w : Cond) (h : w ∈ gw_tbl) => hts w (List.mem_cons_of_mem _ h)
  have hown : s.vm.findClass RX11 = some m.cls := findClass_of_methodNamed B.named
  have hlocks := B.notSynchronized
  have hl := lv_entry ([.ref h0, .int p1]) (n := 2) (Nat.le_of_ble_eq_true rfl)
  rw [show entryFrame m args 2 = F0 m 0 (lg_sl ([.ref h0, .int p1]) ++ List.replicate (2 - (lg_sl ([.ref h0, .int p1])).length) Slot.unset).toArray [] from by rw [hargs]; exact lg_entry_eq ..]
  generalize (lg_sl ([.ref h0, .int p1]) ++ List.replicate (2 - (lg_sl ([.ref h0, .int p1])).length) Slot.unset).toArray = ls at hl ⊢
  have hl : lv_has ls 2 [(0, .ref h0), (1, .int p1)] := hl
  refine W_genQ (fun Q hQ => ?_)
  refine lv_iload_n hx hb dX11_isOf_0 rfl (lv_at hl 1 rfl) ?_
  by_cases t_1 : p1.toInt < 0 ∨ 4 < p1.toInt
  · refine lv_tableOut (tgt := 58) hx hb dX11_isOf_1 t_1 (by decide) ?_
    refine lv_iconst (v := 0) hx hb dX11_isOf_58 (by decide) ?_
    refine W_sQ hQ ?_
    exact W.zret (v := 0) hx hb hr (by decide) (fun t ht hW => ⟨0, rfl, (Or.inl ⟨rfl, fun q9 => absurd q9 (fun q8 => by rcases tw5 q8 with rfl | rfl | rfl | rfl | rfl <;> revert t_1 <;> decide)⟩), ht⟩) (fun _ h => absurd h List.not_mem_nil) dX11_isOf_59
  · rcases tw_0_4 t_1 with rfl | rfl | rfl | rfl | rfl
    · refine lv_tableIn (tgt := 36) hx hb dX11_isOf_1 (by decide) (by decide) rfl (by decide) ?_
      refine lv_iconst (v := 1) hx hb dX11_isOf_36 (by decide) ?_
      refine W_sQ hQ ?_
      exact W.zret (v := 1) hx hb hr (by decide) (fun t ht hW => ⟨1, rfl, (Or.inr ⟨rfl, fun _ => by decide⟩), ht⟩) (fun _ h => absurd h List.not_mem_nil) dX11_isOf_37
    · refine lv_tableIn (tgt := 38) hx hb dX11_isOf_1 (by decide) (by decide) rfl (by decide) ?_
      refine lv_aload_n hx hb dX11_isOf_38 rfl (lv_at hl 0 rfl) ?_
      refine va_instS hx hb hown (hg _ kw_666) (hK.1 9 (RX9, TX9, 3) rfl).2 (va_recv (q := (RX9, TX9, 3)) hK hP rfl (show (_ : va_W)[0]? = _ from rfl)) dX11_isOf_39 ?_
      refine W_sQ hQ ?_
      exact W.zret (v := 1) hx hb hr (by decide) (fun t ht hW => ⟨1, rfl, (Or.inr ⟨rfl, fun _ => by decide⟩), ht⟩) (fun _ h => absurd h List.not_mem_nil) dX11_isOf_42
    · refine lv_tableIn (tgt := 43) hx hb dX11_isOf_1 (by decide) (by decide) rfl (by decide) ?_
      refine lv_aload_n hx hb dX11_isOf_43 rfl (lv_at hl 0 rfl) ?_
      refine va_instNo (C := RX9) hx hb hown (hg _ kw_667) (hI.2 (RX9, RX10) (by decide +kernel)) (va_recv (q := (RX9, TX9, 3)) hK hP rfl (show (_ : va_W)[0]? = _ from rfl)) dX11_isOf_44 ?_
      refine W_sQ hQ ?_
      exact W.zret (v := 0) hx hb hr (by decide) (fun t ht hW => ⟨0, rfl, (Or.inl ⟨rfl, fun _ => by decide⟩), ht⟩) (fun _ h => absurd h List.not_mem_nil) dX11_isOf_47
    · refine lv_tableIn (tgt := 48) hx hb dX11_isOf_1 (by decide) (by decide) rfl (by decide) ?_
      refine lv_aload_n hx hb dX11_isOf_48 rfl (lv_at hl 0 rfl) ?_
      refine va_instNo (C := RX9) hx hb hown (hg _ kw_668) (hI.2 (RX9, RX6) (by decide +kernel)) (va_recv (q := (RX9, TX9, 3)) hK hP rfl (show (_ : va_W)[0]? = _ from rfl)) dX11_isOf_49 ?_
      refine W_sQ hQ ?_
      exact W.zret (v := 0) hx hb hr (by decide) (fun t ht hW => ⟨0, rfl, (Or.inl ⟨rfl, fun _ => by decide⟩), ht⟩) (fun _ h => absurd h List.not_mem_nil) dX11_isOf_52
    · refine lv_tableIn (tgt := 53) hx hb dX11_isOf_1 (by decide) (by decide) rfl (by decide) ?_
      refine lv_aload_n hx hb dX11_isOf_53 rfl (lv_at hl 0 rfl) ?_
      refine va_instNo (C := RX9) hx hb hown (hg _ kw_669) (hI.2 (RX9, RX1) (by decide +kernel)) (va_recv (q := (RX9, TX9, 3)) hK hP rfl (show (_ : va_W)[0]? = _ from rfl)) dX11_isOf_54 ?_
      refine W_sQ hQ ?_
      exact W.zret (v := 0) hx hb hr (by decide) (fun t ht hW => ⟨0, rfl, (Or.inl ⟨rfl, fun _ => by decide⟩), ht⟩) (fun _ h => absurd h List.not_mem_nil) dX11_isOf_57

set_option maxHeartbeats 4000000 in
set_option maxRecDepth 100000 in
theorem x_isOf_10 (l : Launch) (D : va_G) (cs : Nat → ClassId) (h0 : Nat) (nq : Nat) (av : Value) (rk : Int32) (p1 : Int32) : Met l yX11_isOf (Cond.code yX11_isOf cX11_isOf 2 (some .boolean) :: gw_tbl) ({ frames := 0, cells := 0, slots := 0, locals := 0 }) (pc_E D cs [(h0, .inr (10, [.ref nq, av, .int rk]))] [.ref h0, .int p1]) (vp_Si (fun r => (r = 0 ∧ (iw p1 0 4 = 1 → isV p1 (kdo 10) = 0)) ∨ (r = 1 ∧ (iw p1 0 4 = 1 → isV p1 (kdo 10) = 1)))) 0 0 (fun _ => False) := by
  refine Met.ofW (cc := cX11_isOf) (maxL := 2) (ret := (some .boolean)) (by decide) rfl ?_
  intro p e s m args below meth c s₁ B hml hv
  obtain ⟨hargs, hP, hK, hI⟩ := hv
  have hx := B.exec
  have hb := B.bytes
  have hr := B.returns
  have hts := atoms_spec (ws := Cond.code yX11_isOf cX11_isOf 2 (some .boolean) :: gw_tbl) B.pre
  have hg := fun (w : Cond) (h : w ∈ gw_tbl) => hts w (List.mem_cons_of_mem _ h)
  have hown : s.vm.findClass RX11 = some m.cls := findClass_of_methodNamed B.named
  have hlocks := B.notSynchronized
  have hl := lv_entry ([.ref h0, .int p1]) (n := 2) (Nat.le_of_ble_eq_true rfl)
  rw [show entryFrame m args 2 = F0 m 0 (lg_sl ([.ref h0, .int p1]) ++ List.replicate (2 - (lg_sl ([.ref h0, .int p1])).length) Slot.unset).toArray [] from by rw [hargs]; exact lg_entry_eq ..]
  generalize (lg_sl ([.ref h0, .int p1]) ++ List.replicate (2 - (lg_sl ([.ref h0, .int p1])).length) Slot.unset).toArray = ls at hl ⊢
  have hl : lv_has ls 2 [(0, .ref h0), (1, .int p1)] := hl
  refine W_genQ (fun Q hQ => ?_)
  refine lv_iload_n hx hb dX11_isOf_0 rfl (lv_at hl 1 rfl) ?_
  by_cases t_1 : p1.toInt < 0 ∨ 4 < p1.toInt
  · refine lv_tableOut (tgt := 58) hx hb dX11_isOf_1 t_1 (by decide) ?_
    refine lv_iconst (v := 0) hx hb dX11_isOf_58 (by decide) ?_
    refine W_sQ hQ ?_
    exact W.zret (v := 0) hx hb hr (by decide) (fun t ht hW => ⟨0, rfl, (Or.inl ⟨rfl, fun q9 => absurd q9 (fun q8 => by rcases tw5 q8 with rfl | rfl | rfl | rfl | rfl <;> revert t_1 <;> decide)⟩), ht⟩) (fun _ h => absurd h List.not_mem_nil) dX11_isOf_59
  · rcases tw_0_4 t_1 with rfl | rfl | rfl | rfl | rfl
    · refine lv_tableIn (tgt := 36) hx hb dX11_isOf_1 (by decide) (by decide) rfl (by decide) ?_
      refine lv_iconst (v := 1) hx hb dX11_isOf_36 (by decide) ?_
      refine W_sQ hQ ?_
      exact W.zret (v := 1) hx hb hr (by decide) (fun t ht hW => ⟨1, rfl, (Or.inr ⟨rfl, fun _ => by decide⟩), ht⟩) (fun _ h => absurd h List.not_mem_nil) dX11_isOf_37
    · refine lv_tableIn (tgt := 38) hx hb dX11_isOf_1 (by decide) (by decide) rfl (by decide) ?_
      refine lv_aload_n hx hb dX11_isOf_38 rfl (lv_at hl 0 rfl) ?_
      refine va_instNo (C := RX10) hx hb hown (hg _ kw_666) (hI.2 (RX10, RX9) (by decide +kernel)) (va_recv (q := (RX10, TX10, 3)) hK hP rfl (show (_ : va_W)[0]? = _ from rfl)) dX11_isOf_39 ?_
      refine W_sQ hQ ?_
      exact W.zret (v := 0) hx hb hr (by decide) (fun t ht hW => ⟨0, rfl, (Or.inl ⟨rfl, fun _ => by decide⟩), ht⟩) (fun _ h => absurd h List.not_mem_nil) dX11_isOf_42
    · refine lv_tableIn (tgt := 43) hx hb dX11_isOf_1 (by decide) (by decide) rfl (by decide) ?_
      refine lv_aload_n hx hb dX11_isOf_43 rfl (lv_at hl 0 rfl) ?_
      refine va_instS hx hb hown (hg _ kw_667) (hK.1 10 (RX10, TX10, 3) rfl).2 (va_recv (q := (RX10, TX10, 3)) hK hP rfl (show (_ : va_W)[0]? = _ from rfl)) dX11_isOf_44 ?_
      refine W_sQ hQ ?_
      exact W.zret (v := 1) hx hb hr (by decide) (fun t ht hW => ⟨1, rfl, (Or.inr ⟨rfl, fun _ => by decide⟩), ht⟩) (fun _ h => absurd h List.not_mem_nil) dX11_isOf_47
    · refine lv_tableIn (tgt := 48) hx hb dX11_isOf_1 (by decide) (by decide) rfl (by decide) ?_
      refine lv_aload_n hx hb dX11_isOf_48 rfl (lv_at hl 0 rfl) ?_
      refine va_instNo (C := RX10) hx hb hown (hg _ kw_668) (hI.2 (RX10, RX6) (by decide +kernel)) (va_recv (q := (RX10, TX10, 3)) hK hP rfl (show (_ : va_W)[0]? = _ from rfl)) dX11_isOf_49 ?_
      refine W_sQ hQ ?_
      exact W.zret (v := 0) hx hb hr (by decide) (fun t ht hW => ⟨0, rfl, (Or.inl ⟨rfl, fun _ => by decide⟩), ht⟩) (fun _ h => absurd h List.not_mem_nil) dX11_isOf_52
    · refine lv_tableIn (tgt := 53) hx hb dX11_isOf_1 (by decide) (by decide) rfl (by decide) ?_
      refine lv_aload_n hx hb dX11_isOf_53 rfl (lv_at hl 0 rfl) ?_
      refine va_instNo (C := RX10) hx hb hown (hg _ kw_669) (hI.2 (RX10, RX1) (by decide +kernel)) (va_recv (q := (RX10, TX10, 3)) hK hP rfl (show (_ : va_W)[0]? = _ from rfl)) dX11_isOf_54 ?_
      refine W_sQ hQ ?_
      exact W.zret (v := 0) hx hb hr (by decide) (fun t ht hW => ⟨0, rfl, (Or.inl ⟨rfl, fun _ => by decide⟩), ht⟩) (fun _ h => absurd h List.not_mem_nil) dX11_isOf_57

set_option maxHeartbeats 4000000 in
set_option maxRecDepth 100000 in
theorem x_isOf_6 (l : Launch) (D : va_G) (cs : Nat → ClassId) (h0 : Nat) (nq : Nat) (av : Value) (rk : Int32) (p1 : Int32) : Met l yX11_isOf (Cond.code yX11_isOf cX11_isOf 2 (some .boolean) :: gw_tbl) ({ frames := 0, cells := 0, slots := 0, locals := 0 }) (pc_E D cs [(h0, .inr (6, [.ref nq, av, .int rk]))] [.ref h0, .int p1]) (vp_Si (fun r => (r = 0 ∧ (iw p1 0 4 = 1 → isV p1 (kdo 6) = 0)) ∨ (r = 1 ∧ (iw p1 0 4 = 1 → isV p1 (kdo 6) = 1)))) 0 0 (fun _ => False) := by
  refine Met.ofW (cc := cX11_isOf) (maxL := 2) (ret := (some .boolean)) (by decide) rfl ?_
  intro p e s m args below meth c s₁ B hml hv
  obtain ⟨hargs, hP, hK, hI⟩ := hv
  have hx := B.exec
  have hb := B.bytes
  have hr := B.returns
  have hts := atoms_spec (ws := Cond.code yX11_isOf cX11_isOf 2 (some .boolean) :: gw_tbl) B.pre
  have hg := fun (w : Cond) (h : w ∈ gw_tbl) => hts w (List.mem_cons_of_mem _ h)
  have hown : s.vm.findClass RX11 = some m.cls := findClass_of_methodNamed B.named
  have hlocks := B.notSynchronized
  have hl := lv_entry ([.ref h0, .int p1]) (n := 2) (Nat.le_of_ble_eq_true rfl)
  rw [show entryFrame m args 2 = F0 m 0 (lg_sl ([.ref h0, .int p1]) ++ List.replicate (2 - (lg_sl ([.ref h0, .int p1])).length) Slot.unset).toArray [] from by rw [hargs]; exact lg_entry_eq ..]
  generalize (lg_sl ([.ref h0, .int p1]) ++ List.replicate (2 - (lg_sl ([.ref h0, .int p1])).length) Slot.unset).toArray = ls at hl ⊢
  have hl : lv_has ls 2 [(0, .ref h0), (1, .int p1)] := hl
  refine W_genQ (fun Q hQ => ?_)
  refine lv_iload_n hx hb dX11_isOf_0 rfl (lv_at hl 1 rfl) ?_
  by_cases t_1 : p1.toInt < 0 ∨ 4 < p1.toInt
  · refine lv_tableOut (tgt := 58) hx hb dX11_isOf_1 t_1 (by decide) ?_
    refine lv_iconst (v := 0) hx hb dX11_isOf_58 (by decide) ?_
    refine W_sQ hQ ?_
    exact W.zret (v := 0) hx hb hr (by decide) (fun t ht hW => ⟨0, rfl, (Or.inl ⟨rfl, fun q9 => absurd q9 (fun q8 => by rcases tw5 q8 with rfl | rfl | rfl | rfl | rfl <;> revert t_1 <;> decide)⟩), ht⟩) (fun _ h => absurd h List.not_mem_nil) dX11_isOf_59
  · rcases tw_0_4 t_1 with rfl | rfl | rfl | rfl | rfl
    · refine lv_tableIn (tgt := 36) hx hb dX11_isOf_1 (by decide) (by decide) rfl (by decide) ?_
      refine lv_iconst (v := 1) hx hb dX11_isOf_36 (by decide) ?_
      refine W_sQ hQ ?_
      exact W.zret (v := 1) hx hb hr (by decide) (fun t ht hW => ⟨1, rfl, (Or.inr ⟨rfl, fun _ => by decide⟩), ht⟩) (fun _ h => absurd h List.not_mem_nil) dX11_isOf_37
    · refine lv_tableIn (tgt := 38) hx hb dX11_isOf_1 (by decide) (by decide) rfl (by decide) ?_
      refine lv_aload_n hx hb dX11_isOf_38 rfl (lv_at hl 0 rfl) ?_
      refine va_instNo (C := RX6) hx hb hown (hg _ kw_666) (hI.2 (RX6, RX9) (by decide +kernel)) (va_recv (q := (RX6, TX6, 3)) hK hP rfl (show (_ : va_W)[0]? = _ from rfl)) dX11_isOf_39 ?_
      refine W_sQ hQ ?_
      exact W.zret (v := 0) hx hb hr (by decide) (fun t ht hW => ⟨0, rfl, (Or.inl ⟨rfl, fun _ => by decide⟩), ht⟩) (fun _ h => absurd h List.not_mem_nil) dX11_isOf_42
    · refine lv_tableIn (tgt := 43) hx hb dX11_isOf_1 (by decide) (by decide) rfl (by decide) ?_
      refine lv_aload_n hx hb dX11_isOf_43 rfl (lv_at hl 0 rfl) ?_
      refine va_instY (C := RX6) hx hb hown (hg _ kw_667) (hI.1 (RX6, RX10) (by decide +kernel)) (va_recv (q := (RX6, TX6, 3)) hK hP rfl (show (_ : va_W)[0]? = _ from rfl)) dX11_isOf_44 ?_
      refine W_sQ hQ ?_
      exact W.zret (v := 1) hx hb hr (by decide) (fun t ht hW => ⟨1, rfl, (Or.inr ⟨rfl, fun _ => by decide⟩), ht⟩) (fun _ h => absurd h List.not_mem_nil) dX11_isOf_47
    · refine lv_tableIn (tgt := 48) hx hb dX11_isOf_1 (by decide) (by decide) rfl (by decide) ?_
      refine lv_aload_n hx hb dX11_isOf_48 rfl (lv_at hl 0 rfl) ?_
      refine va_instS hx hb hown (hg _ kw_668) (hK.1 6 (RX6, TX6, 3) rfl).2 (va_recv (q := (RX6, TX6, 3)) hK hP rfl (show (_ : va_W)[0]? = _ from rfl)) dX11_isOf_49 ?_
      refine W_sQ hQ ?_
      exact W.zret (v := 1) hx hb hr (by decide) (fun t ht hW => ⟨1, rfl, (Or.inr ⟨rfl, fun _ => by decide⟩), ht⟩) (fun _ h => absurd h List.not_mem_nil) dX11_isOf_52
    · refine lv_tableIn (tgt := 53) hx hb dX11_isOf_1 (by decide) (by decide) rfl (by decide) ?_
      refine lv_aload_n hx hb dX11_isOf_53 rfl (lv_at hl 0 rfl) ?_
      refine va_instNo (C := RX6) hx hb hown (hg _ kw_669) (hI.2 (RX6, RX1) (by decide +kernel)) (va_recv (q := (RX6, TX6, 3)) hK hP rfl (show (_ : va_W)[0]? = _ from rfl)) dX11_isOf_54 ?_
      refine W_sQ hQ ?_
      exact W.zret (v := 0) hx hb hr (by decide) (fun t ht hW => ⟨0, rfl, (Or.inl ⟨rfl, fun _ => by decide⟩), ht⟩) (fun _ h => absurd h List.not_mem_nil) dX11_isOf_57

set_option maxHeartbeats 4000000 in
set_option maxRecDepth 100000 in
theorem x_isOf_1 (l : Launch) (D : va_G) (cs : Nat → ClassId) (h0 : Nat) (nq : Nat) (av : Value) (rk : Int32) (p1 : Int32) : Met l yX11_isOf (Cond.code yX11_isOf cX11_isOf 2 (some .boolean) :: gw_tbl) ({ frames := 0, cells := 0, slots := 0, locals := 0 }) (pc_E D cs [(h0, .inr (1, [.ref nq, av, .int rk]))] [.ref h0, .int p1]) (vp_Si (fun r => (r = 0 ∧ (iw p1 0 4 = 1 → isV p1 (kdo 1) = 0)) ∨ (r = 1 ∧ (iw p1 0 4 = 1 → isV p1 (kdo 1) = 1)))) 0 0 (fun _ => False) := by
  refine Met.ofW (cc := cX11_isOf) (maxL := 2) (ret := (some .boolean)) (by decide) rfl ?_
  intro p e s m args below meth c s₁ B hml hv
  obtain ⟨hargs, hP, hK, hI⟩ := hv
  have hx := B.exec
  have hb := B.bytes
  have hr := B.returns
  have hts := atoms_spec (ws := Cond.code yX11_isOf cX11_isOf 2 (some .boolean) :: gw_tbl) B.pre
  have hg := fun (w : Cond) (h : w ∈ gw_tbl) => hts w (List.mem_cons_of_mem _ h)
  have hown : s.vm.findClass RX11 = some m.cls := findClass_of_methodNamed B.named
  have hlocks := B.notSynchronized
  have hl := lv_entry ([.ref h0, .int p1]) (n := 2) (Nat.le_of_ble_eq_true rfl)
  rw [show entryFrame m args 2 = F0 m 0 (lg_sl ([.ref h0, .int p1]) ++ List.replicate (2 - (lg_sl ([.ref h0, .int p1])).length) Slot.unset).toArray [] from by rw [hargs]; exact lg_entry_eq ..]
  generalize (lg_sl ([.ref h0, .int p1]) ++ List.replicate (2 - (lg_sl ([.ref h0, .int p1])).length) Slot.unset).toArray = ls at hl ⊢
  have hl : lv_has ls 2 [(0, .ref h0), (1, .int p1)] := hl
  refine W_genQ (fun Q hQ => ?_)
  refine lv_iload_n hx hb dX11_isOf_0 rfl (lv_at hl 1 rfl) ?_
  by_cases t_1 : p1.toInt < 0 ∨ 4 < p1.toInt
  · refine lv_tableOut (tgt := 58) hx hb dX11_isOf_1 t_1 (by decide) ?_
    refine lv_iconst (v := 0) hx hb dX11_isOf_58 (by decide) ?_
    refine W_sQ hQ ?_
    exact W.zret (v := 0) hx hb hr (by decide) (fun t ht hW => ⟨0, rfl, (Or.inl ⟨rfl, fun q9 => absurd q9 (fun q8 => by rcases tw5 q8 with rfl | rfl | rfl | rfl | rfl <;> revert t_1 <;> decide)⟩), ht⟩) (fun _ h => absurd h List.not_mem_nil) dX11_isOf_59
  · rcases tw_0_4 t_1 with rfl | rfl | rfl | rfl | rfl
    · refine lv_tableIn (tgt := 36) hx hb dX11_isOf_1 (by decide) (by decide) rfl (by decide) ?_
      refine lv_iconst (v := 1) hx hb dX11_isOf_36 (by decide) ?_
      refine W_sQ hQ ?_
      exact W.zret (v := 1) hx hb hr (by decide) (fun t ht hW => ⟨1, rfl, (Or.inr ⟨rfl, fun _ => by decide⟩), ht⟩) (fun _ h => absurd h List.not_mem_nil) dX11_isOf_37
    · refine lv_tableIn (tgt := 38) hx hb dX11_isOf_1 (by decide) (by decide) rfl (by decide) ?_
      refine lv_aload_n hx hb dX11_isOf_38 rfl (lv_at hl 0 rfl) ?_
      refine va_instY (C := RX1) hx hb hown (hg _ kw_666) (hI.1 (RX1, RX9) (by decide +kernel)) (va_recv (q := (RX1, TX1, 3)) hK hP rfl (show (_ : va_W)[0]? = _ from rfl)) dX11_isOf_39 ?_
      refine W_sQ hQ ?_
      exact W.zret (v := 1) hx hb hr (by decide) (fun t ht hW => ⟨1, rfl, (Or.inr ⟨rfl, fun _ => by decide⟩), ht⟩) (fun _ h => absurd h List.not_mem_nil) dX11_isOf_42
    · refine lv_tableIn (tgt := 43) hx hb dX11_isOf_1 (by decide) (by decide) rfl (by decide) ?_
      refine lv_aload_n hx hb dX11_isOf_43 rfl (lv_at hl 0 rfl) ?_
      refine va_instNo (C := RX1) hx hb hown (hg _ kw_667) (hI.2 (RX1, RX10) (by decide +kernel)) (va_recv (q := (RX1, TX1, 3)) hK hP rfl (show (_ : va_W)[0]? = _ from rfl)) dX11_isOf_44 ?_
      refine W_sQ hQ ?_
      exact W.zret (v := 0) hx hb hr (by decide) (fun t ht hW => ⟨0, rfl, (Or.inl ⟨rfl, fun _ => by decide⟩), ht⟩) (fun _ h => absurd h List.not_mem_nil) dX11_isOf_47
    · refine lv_tableIn (tgt := 48) hx hb dX11_isOf_1 (by decide) (by decide) rfl (by decide) ?_
      refine lv_aload_n hx hb dX11_isOf_48 rfl (lv_at hl 0 rfl) ?_
      refine va_instNo (C := RX1) hx hb hown (hg _ kw_668) (hI.2 (RX1, RX6) (by decide +kernel)) (va_recv (q := (RX1, TX1, 3)) hK hP rfl (show (_ : va_W)[0]? = _ from rfl)) dX11_isOf_49 ?_
      refine W_sQ hQ ?_
      exact W.zret (v := 0) hx hb hr (by decide) (fun t ht hW => ⟨0, rfl, (Or.inl ⟨rfl, fun _ => by decide⟩), ht⟩) (fun _ h => absurd h List.not_mem_nil) dX11_isOf_52
    · refine lv_tableIn (tgt := 53) hx hb dX11_isOf_1 (by decide) (by decide) rfl (by decide) ?_
      refine lv_aload_n hx hb dX11_isOf_53 rfl (lv_at hl 0 rfl) ?_
      refine va_instS hx hb hown (hg _ kw_669) (hK.1 1 (RX1, TX1, 3) rfl).2 (va_recv (q := (RX1, TX1, 3)) hK hP rfl (show (_ : va_W)[0]? = _ from rfl)) dX11_isOf_54 ?_
      refine W_sQ hQ ?_
      exact W.zret (v := 1) hx hb hr (by decide) (fun t ht hW => ⟨1, rfl, (Or.inr ⟨rfl, fun _ => by decide⟩), ht⟩) (fun _ h => absurd h List.not_mem_nil) dX11_isOf_57

theorem dX11_as_0 : decode cX11_as 0 = .ok (.aload_n 0, 1) := by decide +kernel
theorem dX11_as_1 : decode cX11_as 1 = .ok (.iload_n 1, 1) := by decide +kernel
theorem dX11_as_2 : decode cX11_as 2 = .ok (.invokevirtual 145, 3) := by decide +kernel
theorem dX11_as_5 : decode cX11_as 5 = .ok (.astore_n 3, 1) := by decide +kernel
theorem dX11_as_6 : decode cX11_as 6 = .ok (.aload_n 3, 1) := by decide +kernel
theorem dX11_as_7 : decode cX11_as 7 = .ok (.ifnonnull 6, 3) := by decide +kernel
theorem dX11_as_10 : decode cX11_as 10 = .ok (.bipush (-101), 2) := by decide +kernel
theorem dX11_as_12 : decode cX11_as 12 = .ok (.ireturn, 1) := by decide +kernel
theorem dX11_as_13 : decode cX11_as 13 = .ok (.iload_n 2, 1) := by decide +kernel
theorem dX11_as_14 : decode cX11_as 14 = .ok (.iconst 0, 1) := by decide +kernel
theorem dX11_as_15 : decode cX11_as 15 = .ok (.iconst 4, 1) := by decide +kernel
theorem dX11_as_16 : decode cX11_as 16 = .ok (.invokestatic 105, 3) := by decide +kernel
theorem dX11_as_19 : decode cX11_as 19 = .ok (.ifCond .ne 6, 3) := by decide +kernel
theorem dX11_as_22 : decode cX11_as 22 = .ok (.bipush (-102), 2) := by decide +kernel
theorem dX11_as_24 : decode cX11_as 24 = .ok (.ireturn, 1) := by decide +kernel
theorem dX11_as_25 : decode cX11_as 25 = .ok (.aload_n 3, 1) := by decide +kernel
theorem dX11_as_26 : decode cX11_as 26 = .ok (.iload_n 2, 1) := by decide +kernel
theorem dX11_as_27 : decode cX11_as 27 = .ok (.invokestatic 148, 3) := by decide +kernel
theorem dX11_as_30 : decode cX11_as 30 = .ok (.ifCond .eq 7, 3) := by decide +kernel
theorem dX11_as_33 : decode cX11_as 33 = .ok (.iload_n 1, 1) := by decide +kernel
theorem dX11_as_34 : decode cX11_as 34 = .ok (.goto 4, 3) := by decide +kernel
theorem dX11_as_37 : decode cX11_as 37 = .ok (.iconst (-1), 1) := by decide +kernel
theorem dX11_as_38 : decode cX11_as 38 = .ok (.ireturn, 1) := by decide +kernel
theorem kw_670 : (.code yX11_isOf cX11_isOf 2 (some .boolean) : Cond) ∈ gw_tbl := gw_in (by decide +kernel) (by decide +kernel)
theorem kw_671 : (.methodLink RX11 148 yX11_isOf : Cond) ∈ gw_tbl := gw_in (by decide +kernel) (by decide +kernel)
theorem kw_672 : (.static yX11_isOf : Cond) ∈ gw_tbl := gw_in (by decide +kernel) (by decide +kernel)

set_option maxHeartbeats 4000000 in
set_option maxRecDepth 100000 in
theorem x_as (l : Launch) (D : va_G) (cs : Nat → ClassId) (x0 : Nat) (py : Nat) (pn : Nat) (hpn : pn ≤ 8) (td : Int32) (pg : Nat) (rd : Nat) (aq : Nat) (pl : Nat) (ch : Nat) (ro : Nat) (fpy : Nat → Option Nat) (rs : List PRec) (hpi : pyI fpy rs) (hpl : pn = rs.length) (p1 : Int32) (p2 : Int32) : Met l yX11_as (Cond.code yX11_as cX11_as 4 (some .int) :: gw_tbl) ({ frames := 2, cells := 0, slots := 0, locals := 43 }) (pc_E D cs ([(x0, .inr (11, [.ref pg, .ref rd, .ref aq, .ref py, .ref pl, .ref ch, .ref ro, .int (nI pn), .int td])), (py, .inl (cs 3, 8, .inr (.inr (.inr (.inr fpy)))))] ++ (pyL cs rs)) [.ref x0, .int p1, .int p2]) (vp_Si (fun r => True)) 0 0 (fun _ => False) := by
  refine Met.ofW (cc := cX11_as) (maxL := 4) (ret := (some .int)) (by decide) rfl ?_
  intro p e s m args below meth c s₁ B hml hv
  obtain ⟨hargs, hP, hK, hI⟩ := hv
  have hx := B.exec
  have hb := B.bytes
  have hr := B.returns
  have hts := atoms_spec (ws := Cond.code yX11_as cX11_as 4 (some .int) :: gw_tbl) B.pre
  have hg := fun (w : Cond) (h : w ∈ gw_tbl) => hts w (List.mem_cons_of_mem _ h)
  have hown : s.vm.findClass RX11 = some m.cls := findClass_of_methodNamed B.named
  have hlocks := B.notSynchronized
  have hl := lv_entry ([.ref x0, .int p1, .int p2]) (n := 4) (Nat.le_of_ble_eq_true rfl)
  rw [show entryFrame m args 4 = F0 m 0 (lg_sl ([.ref x0, .int p1, .int p2]) ++ List.replicate (4 - (lg_sl ([.ref x0, .int p1, .int p2])).length) Slot.unset).toArray [] from by rw [hargs]; exact lg_entry_eq ..]
  generalize (lg_sl ([.ref x0, .int p1, .int p2]) ++ List.replicate (4 - (lg_sl ([.ref x0, .int p1, .int p2])).length) Slot.unset).toArray = ls at hl ⊢
  have hl : lv_has ls 4 [(0, .ref x0), (1, .int p1), (2, .int p2)] := hl
  refine W_genQ (fun Q hQ => ?_)
  refine lv_aload_n hx hb dX11_as_0 rfl (lv_at hl 0 rfl) ?_
  refine lv_iload_n hx hb dX11_as_1 rfl (lv_at hl 1 rfl) ?_
  have hPc := hP.sub (ws' := [(x0, .inr (11, [.ref pg, .ref rd, .ref aq, .ref py, .ref pl, .ref ch, .ref ro, .int (nI pn), .int td])), (py, .inl (cs 3, 8, .inr (.inr (.inr (.inr fpy)))))]) [0, 1] rfl
  refine va_csq (W.runV (As := [.int p1]) (rest := []) ⟨hx, hb, hml, hown, hg⟩ (x_payOf l D cs x0 py pn (by omega) td pg rd aq pl ch ro fpy p1) (cwV 1 hg (gw_V kw_612 kw_613 kw_614 kw_12 kw_611) rfl rfl rfl (by decide +kernel) ⟨(Nat.le_of_ble_eq_true rfl), (Nat.le_of_ble_eq_true rfl)⟩) (pr_SV (q := (RX11, TX11, 9)) 11 0 hK hPc rfl rfl) rfl rfl hl.1 rfl (lv_room (Nat.le_of_ble_eq_true rfl)) dX11_as_2 ⟨(Nat.le_of_ble_eq_true rfl), (Nat.le_of_ble_eq_true rfl)⟩) (fun r_2 h_2 => ?_)
  rcases h_2 with rfl | ⟨k_2, hk_2, rfl, rfl⟩
  · refine W.eq (g2 := F0 m 5 ls [.null]) rfl ?_
    refine lv_astore_nN (lv' := [(3, .null), (0, .ref x0), (1, .int p1), (2, .int p2)]) hx hb dX11_as_5 rfl hl (by decide) rfl (fun ls hl => ?_)
    refine lv_aload_nN hx hb dX11_as_6 rfl (lv_at hl 0 rfl) ?_
    refine lv_ifnonnullN hx hb dX11_as_7 ?_
    refine lv_bipush (v := (-101)) hx hb dX11_as_10 (by decide) ?_
    refine W_sQ hQ ?_
    exact W.iret (v := (-101)) hx hb hr (fun t ht hW => ⟨(-101), rfl, trivial, ht⟩) (fun _ h => absurd h List.not_mem_nil) dX11_as_12
  · obtain ⟨⟨h0, ci, nq, fq, avg, rk⟩, hrk⟩ : ∃ r9, rs[k_2]? = some r9 := ⟨_, List.getElem?_eq_getElem (by omega)⟩
    obtain ⟨hfa, hci⟩ := hpi.2 _ _ hrk
    rw [hfa]
    have hP := P_open hrk hP
    rcases avg with _ | ⟨va, fva⟩
    · have hP : va_P D vwCl ([(x0, .inr (11, [.ref pg, .ref rd, .ref aq, .ref py, .ref pl, .ref ch, .ref ro, .int (nI pn), .int td])), (py, .inl (cs 3, 8, .inr (.inr (.inr (.inr fpy))))), (h0, .inr (ci, [.ref nq, .null, .int rk])), (nq, .inl (cs 0, 4, .inl fq))] ++ (pyL cs (rs.take k_2) ++ pyL cs (rs.drop (k_2 + 1)))) s.heap := hP
      refine W.eq (g2 := F0 m 5 ls [.ref h0]) rfl ?_
      refine lv_astore_n (lv' := [(3, .ref h0), (0, .ref x0), (1, .int (nI k_2)), (2, .int p2)]) hx hb dX11_as_5 rfl hl (by decide) rfl (fun ls hl => ?_)
      refine lv_aload_n hx hb dX11_as_6 rfl (lv_at hl 0 rfl) ?_
      refine lv_ifnonnull (tgt := 13) hx hb dX11_as_7 (by decide) ?_
      refine lv_iload_n hx hb dX11_as_13 rfl (lv_at hl 3 rfl) ?_
      refine lv_iconst (v := 0) hx hb dX11_as_14 (by decide) ?_
      refine lv_iconst (v := 4) hx hb dX11_as_15 (by decide) ?_
      refine vp_callSi (W.runS (As := [.int p2, .int 0, .int 4]) (rest := []) ⟨hx, hb, hml, hown, hg⟩ (c_isWithin l p2 0 4) (va_cwS 3 hg (gw_S kw_535 kw_536 kw_12 kw_534) rfl rfl rfl (by decide +kernel) ⟨(Nat.le_of_ble_eq_true rfl), (Nat.le_of_ble_eq_true rfl)⟩) pr_0 rfl rfl hl.1 rfl (lv_room (Nat.le_of_ble_eq_true rfl)) dX11_as_16 ⟨(Nat.le_of_ble_eq_true rfl), (Nat.le_of_ble_eq_true rfl)⟩) (fun r_16 h_16 => ?_)
      replace h_16 : r_16 = 0 ∨ r_16 = 1 := by rw [h_16]; exact iw_01
      rcases h_16 with rfl | rfl
      · refine lv_if_ne (tgt := 25) hx hb dX11_as_19 (by decide) (fun c_19 => absurd c_19 (by decide)) (fun c_19 => ?_)
        refine lv_bipush (v := (-102)) hx hb dX11_as_22 (by decide) ?_
        refine W_sQ hQ ?_
        exact W.iret (v := (-102)) hx hb hr (fun t ht hW => ⟨(-102), rfl, trivial, ht⟩) (fun _ h => absurd h List.not_mem_nil) dX11_as_24
      · refine lv_if_ne (tgt := 25) hx hb dX11_as_19 (by decide) (fun c_19 => ?_) (fun c_19 => absurd c_19 (by decide))
        refine lv_aload_n hx hb dX11_as_25 rfl (lv_at hl 0 rfl) ?_
        refine lv_iload_n hx hb dX11_as_26 rfl (lv_at hl 3 rfl) ?_
        have R0_27 : CallRun p l e ({ frames := 2, cells := 0, slots := 0, locals := 43 } : Room) s m args below meth c s.heap [] 0 0 0 0 (F0 m 27 ls [.int p2, .ref h0]) [] (vp_Si (fun r => (r = 0 ∧ (iw p2 0 4 = 1 → isV p2 (kdo ci) = 0)) ∨ (r = 1 ∧ (iw p2 0 4 = 1 → isV p2 (kdo ci) = 1))) ([.ref h0, .int p2] : List Value).toArray) (fun _ => False) := by
          rcases hci with rfl | rfl | rfl | rfl | rfl
          · have hPc : va_P D vwCl [(h0, .inr (1, [.ref nq, .null, .int rk]))] s.heap := fun k9 q9 h9 => (hP.part (cx := [(h0, .inr (1, [.ref nq, .null, .int rk]))]) [2] rfl) k9 q9 (by rw [List.getElem?_append_left (List.getElem?_eq_some_iff.mp h9).1]; exact h9)
            exact W.runS (As := [.ref h0, .int p2]) (rest := []) ⟨hx, hb, hml, hown, hg⟩ (x_isOf_1 l D cs h0 nq .null rk p2) (va_cwS 2 hg (gw_S kw_671 kw_672 kw_12 kw_670) rfl rfl rfl (by decide +kernel) ⟨(Nat.le_of_ble_eq_true rfl), (Nat.le_of_ble_eq_true rfl)⟩) (pr_ES hK hPc hI) rfl rfl hl.1 rfl (lv_room (Nat.le_of_ble_eq_true rfl)) dX11_as_27 ⟨(Nat.le_of_ble_eq_true rfl), (Nat.le_of_ble_eq_true rfl)⟩
          · have hPc : va_P D vwCl [(h0, .inr (3, [.ref nq, .null, .int rk]))] s.heap := fun k9 q9 h9 => (hP.part (cx := [(h0, .inr (3, [.ref nq, .null, .int rk]))]) [2] rfl) k9 q9 (by rw [List.getElem?_append_left (List.getElem?_eq_some_iff.mp h9).1]; exact h9)
            exact W.runS (As := [.ref h0, .int p2]) (rest := []) ⟨hx, hb, hml, hown, hg⟩ (x_isOf_3 l D cs h0 nq .null rk p2) (va_cwS 2 hg (gw_S kw_671 kw_672 kw_12 kw_670) rfl rfl rfl (by decide +kernel) ⟨(Nat.le_of_ble_eq_true rfl), (Nat.le_of_ble_eq_true rfl)⟩) (pr_ES hK hPc hI) rfl rfl hl.1 rfl (lv_room (Nat.le_of_ble_eq_true rfl)) dX11_as_27 ⟨(Nat.le_of_ble_eq_true rfl), (Nat.le_of_ble_eq_true rfl)⟩
          · have hPc : va_P D vwCl [(h0, .inr (6, [.ref nq, .null, .int rk]))] s.heap := fun k9 q9 h9 => (hP.part (cx := [(h0, .inr (6, [.ref nq, .null, .int rk]))]) [2] rfl) k9 q9 (by rw [List.getElem?_append_left (List.getElem?_eq_some_iff.mp h9).1]; exact h9)
            exact W.runS (As := [.ref h0, .int p2]) (rest := []) ⟨hx, hb, hml, hown, hg⟩ (x_isOf_6 l D cs h0 nq .null rk p2) (va_cwS 2 hg (gw_S kw_671 kw_672 kw_12 kw_670) rfl rfl rfl (by decide +kernel) ⟨(Nat.le_of_ble_eq_true rfl), (Nat.le_of_ble_eq_true rfl)⟩) (pr_ES hK hPc hI) rfl rfl hl.1 rfl (lv_room (Nat.le_of_ble_eq_true rfl)) dX11_as_27 ⟨(Nat.le_of_ble_eq_true rfl), (Nat.le_of_ble_eq_true rfl)⟩
          · have hPc : va_P D vwCl [(h0, .inr (9, [.ref nq, .null, .int rk]))] s.heap := fun k9 q9 h9 => (hP.part (cx := [(h0, .inr (9, [.ref nq, .null, .int rk]))]) [2] rfl) k9 q9 (by rw [List.getElem?_append_left (List.getElem?_eq_some_iff.mp h9).1]; exact h9)
            exact W.runS (As := [.ref h0, .int p2]) (rest := []) ⟨hx, hb, hml, hown, hg⟩ (x_isOf_9 l D cs h0 nq .null rk p2) (va_cwS 2 hg (gw_S kw_671 kw_672 kw_12 kw_670) rfl rfl rfl (by decide +kernel) ⟨(Nat.le_of_ble_eq_true rfl), (Nat.le_of_ble_eq_true rfl)⟩) (pr_ES hK hPc hI) rfl rfl hl.1 rfl (lv_room (Nat.le_of_ble_eq_true rfl)) dX11_as_27 ⟨(Nat.le_of_ble_eq_true rfl), (Nat.le_of_ble_eq_true rfl)⟩
          · have hPc : va_P D vwCl [(h0, .inr (10, [.ref nq, .null, .int rk]))] s.heap := fun k9 q9 h9 => (hP.part (cx := [(h0, .inr (10, [.ref nq, .null, .int rk]))]) [2] rfl) k9 q9 (by rw [List.getElem?_append_left (List.getElem?_eq_some_iff.mp h9).1]; exact h9)
            exact W.runS (As := [.ref h0, .int p2]) (rest := []) ⟨hx, hb, hml, hown, hg⟩ (x_isOf_10 l D cs h0 nq .null rk p2) (va_cwS 2 hg (gw_S kw_671 kw_672 kw_12 kw_670) rfl rfl rfl (by decide +kernel) ⟨(Nat.le_of_ble_eq_true rfl), (Nat.le_of_ble_eq_true rfl)⟩) (pr_ES hK hPc hI) rfl rfl hl.1 rfl (lv_room (Nat.le_of_ble_eq_true rfl)) dX11_as_27 ⟨(Nat.le_of_ble_eq_true rfl), (Nat.le_of_ble_eq_true rfl)⟩
        refine vp_callSi R0_27 (fun r_27 h_27 => ?_)
        rcases h_27 with ⟨rfl, h_27⟩ | ⟨rfl, h_27⟩
        · refine lv_if_eq (tgt := 37) hx hb dX11_as_30 (by decide) (fun c_30 => ?_) (fun c_30 => absurd c_30 (by decide))
          refine lv_iconst (v := (-1)) hx hb dX11_as_37 (by decide) ?_
          refine W_sQ hQ ?_
          exact W.iret (v := (-1)) hx hb hr (fun t ht hW => ⟨(-1), rfl, trivial, ht⟩) (fun _ h => absurd h List.not_mem_nil) dX11_as_38
        · refine lv_if_eq (tgt := 37) hx hb dX11_as_30 (by decide) (fun c_30 => absurd c_30 (by decide)) (fun c_30 => ?_)
          refine lv_iload_n hx hb dX11_as_33 rfl (lv_at hl 2 rfl) ?_
          refine lv_goto (tgt := 38) hx hb dX11_as_34 (by decide) ?_
          refine W_sQ hQ ?_
          exact W.iret (v := (nI k_2)) hx hb hr (fun t ht hW => ⟨(nI k_2), rfl, trivial, ht⟩) (fun _ h => absurd h List.not_mem_nil) dX11_as_38
    · have hP : va_P D vwCl ([(x0, .inr (11, [.ref pg, .ref rd, .ref aq, .ref py, .ref pl, .ref ch, .ref ro, .int (nI pn), .int td])), (py, .inl (cs 3, 8, .inr (.inr (.inr (.inr fpy))))), (h0, .inr (ci, [.ref nq, .ref va, .int rk])), (nq, .inl (cs 0, 4, .inl fq)), (va, .inl (cs 1, 1024, .inr (.inl fva)))] ++ (pyL cs (rs.take k_2) ++ pyL cs (rs.drop (k_2 + 1)))) s.heap := hP
      refine W.eq (g2 := F0 m 5 ls [.ref h0]) rfl ?_
      refine lv_astore_n (lv' := [(3, .ref h0), (0, .ref x0), (1, .int (nI k_2)), (2, .int p2)]) hx hb dX11_as_5 rfl hl (by decide) rfl (fun ls hl => ?_)
      refine lv_aload_n hx hb dX11_as_6 rfl (lv_at hl 0 rfl) ?_
      refine lv_ifnonnull (tgt := 13) hx hb dX11_as_7 (by decide) ?_
      refine lv_iload_n hx hb dX11_as_13 rfl (lv_at hl 3 rfl) ?_
      refine lv_iconst (v := 0) hx hb dX11_as_14 (by decide) ?_
      refine lv_iconst (v := 4) hx hb dX11_as_15 (by decide) ?_
      refine vp_callSi (W.runS (As := [.int p2, .int 0, .int 4]) (rest := []) ⟨hx, hb, hml, hown, hg⟩ (c_isWithin l p2 0 4) (va_cwS 3 hg (gw_S kw_535 kw_536 kw_12 kw_534) rfl rfl rfl (by decide +kernel) ⟨(Nat.le_of_ble_eq_true rfl), (Nat.le_of_ble_eq_true rfl)⟩) pr_0 rfl rfl hl.1 rfl (lv_room (Nat.le_of_ble_eq_true rfl)) dX11_as_16 ⟨(Nat.le_of_ble_eq_true rfl), (Nat.le_of_ble_eq_true rfl)⟩) (fun r_16 h_16 => ?_)
      replace h_16 : r_16 = 0 ∨ r_16 = 1 := by rw [h_16]; exact iw_01
      rcases h_16 with rfl | rfl
      · refine lv_if_ne (tgt := 25) hx hb dX11_as_19 (by decide) (fun c_19 => absurd c_19 (by decide)) (fun c_19 => ?_)
        refine lv_bipush (v := (-102)) hx hb dX11_as_22 (by decide) ?_
        refine W_sQ hQ ?_
        exact W.iret (v := (-102)) hx hb hr (fun t ht hW => ⟨(-102), rfl, trivial, ht⟩) (fun _ h => absurd h List.not_mem_nil) dX11_as_24
      · refine lv_if_ne (tgt := 25) hx hb dX11_as_19 (by decide) (fun c_19 => ?_) (fun c_19 => absurd c_19 (by decide))
        refine lv_aload_n hx hb dX11_as_25 rfl (lv_at hl 0 rfl) ?_
        refine lv_iload_n hx hb dX11_as_26 rfl (lv_at hl 3 rfl) ?_
        have R0_27 : CallRun p l e ({ frames := 2, cells := 0, slots := 0, locals := 43 } : Room) s m args below meth c s.heap [] 0 0 0 0 (F0 m 27 ls [.int p2, .ref h0]) [] (vp_Si (fun r => (r = 0 ∧ (iw p2 0 4 = 1 → isV p2 (kdo ci) = 0)) ∨ (r = 1 ∧ (iw p2 0 4 = 1 → isV p2 (kdo ci) = 1))) ([.ref h0, .int p2] : List Value).toArray) (fun _ => False) := by
          rcases hci with rfl | rfl | rfl | rfl | rfl
          · have hPc : va_P D vwCl [(h0, .inr (1, [.ref nq, .ref va, .int rk]))] s.heap := fun k9 q9 h9 => (hP.part (cx := [(h0, .inr (1, [.ref nq, .ref va, .int rk]))]) [2] rfl) k9 q9 (by rw [List.getElem?_append_left (List.getElem?_eq_some_iff.mp h9).1]; exact h9)
            exact W.runS (As := [.ref h0, .int p2]) (rest := []) ⟨hx, hb, hml, hown, hg⟩ (x_isOf_1 l D cs h0 nq (.ref va) rk p2) (va_cwS 2 hg (gw_S kw_671 kw_672 kw_12 kw_670) rfl rfl rfl (by decide +kernel) ⟨(Nat.le_of_ble_eq_true rfl), (Nat.le_of_ble_eq_true rfl)⟩) (pr_ES hK hPc hI) rfl rfl hl.1 rfl (lv_room (Nat.le_of_ble_eq_true rfl)) dX11_as_27 ⟨(Nat.le_of_ble_eq_true rfl), (Nat.le_of_ble_eq_true rfl)⟩
          · have hPc : va_P D vwCl [(h0, .inr (3, [.ref nq, .ref va, .int rk]))] s.heap := fun k9 q9 h9 => (hP.part (cx := [(h0, .inr (3, [.ref nq, .ref va, .int rk]))]) [2] rfl) k9 q9 (by rw [List.getElem?_append_left (List.getElem?_eq_some_iff.mp h9).1]; exact h9)
            exact W.runS (As := [.ref h0, .int p2]) (rest := []) ⟨hx, hb, hml, hown, hg⟩ (x_isOf_3 l D cs h0 nq (.ref va) rk p2) (va_cwS 2 hg (gw_S kw_671 kw_672 kw_12 kw_670) rfl rfl rfl (by decide +kernel) ⟨(Nat.le_of_ble_eq_true rfl), (Nat.le_of_ble_eq_true rfl)⟩) (pr_ES hK hPc hI) rfl rfl hl.1 rfl (lv_room (Nat.le_of_ble_eq_true rfl)) dX11_as_27 ⟨(Nat.le_of_ble_eq_true rfl), (Nat.le_of_ble_eq_true rfl)⟩
          · have hPc : va_P D vwCl [(h0, .inr (6, [.ref nq, .ref va, .int rk]))] s.heap := fun k9 q9 h9 => (hP.part (cx := [(h0, .inr (6, [.ref nq, .ref va, .int rk]))]) [2] rfl) k9 q9 (by rw [List.getElem?_append_left (List.getElem?_eq_some_iff.mp h9).1]; exact h9)
            exact W.runS (As := [.ref h0, .int p2]) (rest := []) ⟨hx, hb, hml, hown, hg⟩ (x_isOf_6 l D cs h0 nq (.ref va) rk p2) (va_cwS 2 hg (gw_S kw_671 kw_672 kw_12 kw_670) rfl rfl rfl (by decide +kernel) ⟨(Nat.le_of_ble_eq_true rfl), (Nat.le_of_ble_eq_true rfl)⟩) (pr_ES hK hPc hI) rfl rfl hl.1 rfl (lv_room (Nat.le_of_ble_eq_true rfl)) dX11_as_27 ⟨(Nat.le_of_ble_eq_true rfl), (Nat.le_of_ble_eq_true rfl)⟩
          · have hPc : va_P D vwCl [(h0, .inr (9, [.ref nq, .ref va, .int rk]))] s.heap := fun k9 q9 h9 => (hP.part (cx := [(h0, .inr (9, [.ref nq, .ref va, .int rk]))]) [2] rfl) k9 q9 (by rw [List.getElem?_append_left (List.getElem?_eq_some_iff.mp h9).1]; exact h9)
            exact W.runS (As := [.ref h0, .int p2]) (rest := []) ⟨hx, hb, hml, hown, hg⟩ (x_isOf_9 l D cs h0 nq (.ref va) rk p2) (va_cwS 2 hg (gw_S kw_671 kw_672 kw_12 kw_670) rfl rfl rfl (by decide +kernel) ⟨(Nat.le_of_ble_eq_true rfl), (Nat.le_of_ble_eq_true rfl)⟩) (pr_ES hK hPc hI) rfl rfl hl.1 rfl (lv_room (Nat.le_of_ble_eq_true rfl)) dX11_as_27 ⟨(Nat.le_of_ble_eq_true rfl), (Nat.le_of_ble_eq_true rfl)⟩
          · have hPc : va_P D vwCl [(h0, .inr (10, [.ref nq, .ref va, .int rk]))] s.heap := fun k9 q9 h9 => (hP.part (cx := [(h0, .inr (10, [.ref nq, .ref va, .int rk]))]) [2] rfl) k9 q9 (by rw [List.getElem?_append_left (List.getElem?_eq_some_iff.mp h9).1]; exact h9)
            exact W.runS (As := [.ref h0, .int p2]) (rest := []) ⟨hx, hb, hml, hown, hg⟩ (x_isOf_10 l D cs h0 nq (.ref va) rk p2) (va_cwS 2 hg (gw_S kw_671 kw_672 kw_12 kw_670) rfl rfl rfl (by decide +kernel) ⟨(Nat.le_of_ble_eq_true rfl), (Nat.le_of_ble_eq_true rfl)⟩) (pr_ES hK hPc hI) rfl rfl hl.1 rfl (lv_room (Nat.le_of_ble_eq_true rfl)) dX11_as_27 ⟨(Nat.le_of_ble_eq_true rfl), (Nat.le_of_ble_eq_true rfl)⟩
        refine vp_callSi R0_27 (fun r_27 h_27 => ?_)
        rcases h_27 with ⟨rfl, h_27⟩ | ⟨rfl, h_27⟩
        · refine lv_if_eq (tgt := 37) hx hb dX11_as_30 (by decide) (fun c_30 => ?_) (fun c_30 => absurd c_30 (by decide))
          refine lv_iconst (v := (-1)) hx hb dX11_as_37 (by decide) ?_
          refine W_sQ hQ ?_
          exact W.iret (v := (-1)) hx hb hr (fun t ht hW => ⟨(-1), rfl, trivial, ht⟩) (fun _ h => absurd h List.not_mem_nil) dX11_as_38
        · refine lv_if_eq (tgt := 37) hx hb dX11_as_30 (by decide) (fun c_30 => absurd c_30 (by decide)) (fun c_30 => ?_)
          refine lv_iload_n hx hb dX11_as_33 rfl (lv_at hl 2 rfl) ?_
          refine lv_goto (tgt := 38) hx hb dX11_as_34 (by decide) ?_
          refine W_sQ hQ ?_
          exact W.iret (v := (nI k_2)) hx hb hr (fun t ht hW => ⟨(nI k_2), rfl, trivial, ht⟩) (fun _ h => absurd h List.not_mem_nil) dX11_as_38

theorem dX11_about_0 : decode cX11_about 0 = .ok (.aload_n 0, 1) := by decide +kernel
theorem dX11_about_1 : decode cX11_about 1 = .ok (.iload_n 1, 1) := by decide +kernel
theorem dX11_about_2 : decode cX11_about 2 = .ok (.invokevirtual 145, 3) := by decide +kernel
theorem dX11_about_5 : decode cX11_about 5 = .ok (.astore_n 3, 1) := by decide +kernel
theorem dX11_about_6 : decode cX11_about 6 = .ok (.aload_n 3, 1) := by decide +kernel
theorem dX11_about_7 : decode cX11_about 7 = .ok (.ifnonnull 6, 3) := by decide +kernel
theorem dX11_about_10 : decode cX11_about 10 = .ok (.bipush (-101), 2) := by decide +kernel
theorem dX11_about_12 : decode cX11_about 12 = .ok (.ireturn, 1) := by decide +kernel
theorem dX11_about_13 : decode cX11_about 13 = .ok (.iload_n 2, 1) := by decide +kernel
theorem dX11_about_14 : decode cX11_about 14 = .ok (.iconst 0, 1) := by decide +kernel
theorem dX11_about_15 : decode cX11_about 15 = .ok (.iconst 4, 1) := by decide +kernel
theorem dX11_about_16 : decode cX11_about 16 = .ok (.invokestatic 105, 3) := by decide +kernel
theorem dX11_about_19 : decode cX11_about 19 = .ok (.ifCond .ne 6, 3) := by decide +kernel
theorem dX11_about_22 : decode cX11_about 22 = .ok (.bipush (-102), 2) := by decide +kernel
theorem dX11_about_24 : decode cX11_about 24 = .ok (.ireturn, 1) := by decide +kernel
theorem dX11_about_25 : decode cX11_about 25 = .ok (.iload_n 2, 1) := by decide +kernel
theorem dX11_about_26 : decode cX11_about 26 = .ok (.iconst 4, 1) := by decide +kernel
theorem dX11_about_27 : decode cX11_about 27 = .ok (.if_icmp .ne 10, 3) := by decide +kernel
theorem dX11_about_30 : decode cX11_about 30 = .ok (.aload_n 3, 1) := by decide +kernel
theorem dX11_about_31 : decode cX11_about 31 = .ok (.invokevirtual 152, 3) := by decide +kernel
theorem dX11_about_34 : decode cX11_about 34 = .ok (.goto 9, 3) := by decide +kernel
theorem dX11_about_37 : decode cX11_about 37 = .ok (.aload_n 3, 1) := by decide +kernel
theorem dX11_about_38 : decode cX11_about 38 = .ok (.getfield 156, 3) := by decide +kernel
theorem dX11_about_41 : decode cX11_about 41 = .ok (.iload_n 2, 1) := by decide +kernel
theorem dX11_about_42 : decode cX11_about 42 = .ok (.iaload, 1) := by decide +kernel
theorem dX11_about_43 : decode cX11_about 43 = .ok (.ireturn, 1) := by decide +kernel
theorem kw_673 : (.fieldLink RX11 156 "NobodyChecks$Pay" "numbers" "[I" : Cond) ∈ gw_tbl := gw_in (by decide +kernel) (by decide +kernel)
theorem kw_674 : (.code yX1_kind cX1_kind 1 (some .int) : Cond) ∈ gw_tbl := gw_in (by decide +kernel) (by decide +kernel)
theorem kw_675 : (.methodLink RX11 152 yX3_kind : Cond) ∈ gw_tbl := gw_in (by decide +kernel) (by decide +kernel)
theorem kw_676 : (.sameMethod yX3_kind.cls "NobodyChecks$Pay" yX3_kind.name yX3_kind.desc : Cond) ∈ gw_tbl := gw_in (by decide +kernel) (by decide +kernel)
theorem kw_677 : (.selects RX1 yX3_kind yX1_kind : Cond) ∈ gw_tbl := gw_in (by decide +kernel) (by decide +kernel)
theorem kw_678 : (.instanceMethod yX1_kind : Cond) ∈ gw_tbl := gw_in (by decide +kernel) (by decide +kernel)
theorem kw_679 : (.instanceMethod yX3_kind : Cond) ∈ gw_tbl := gw_in (by decide +kernel) (by decide +kernel)
theorem kw_680 : (.code yX3_kind cX3_kind 1 (some .int) : Cond) ∈ gw_tbl := gw_in (by decide +kernel) (by decide +kernel)
theorem kw_681 : (.selects RX3 yX3_kind yX3_kind : Cond) ∈ gw_tbl := gw_in (by decide +kernel) (by decide +kernel)
theorem kw_682 : (.code yX6_kind cX6_kind 1 (some .int) : Cond) ∈ gw_tbl := gw_in (by decide +kernel) (by decide +kernel)
theorem kw_683 : (.selects RX6 yX3_kind yX6_kind : Cond) ∈ gw_tbl := gw_in (by decide +kernel) (by decide +kernel)
theorem kw_684 : (.instanceMethod yX6_kind : Cond) ∈ gw_tbl := gw_in (by decide +kernel) (by decide +kernel)
theorem kw_685 : (.code yX9_kind cX9_kind 1 (some .int) : Cond) ∈ gw_tbl := gw_in (by decide +kernel) (by decide +kernel)
theorem kw_686 : (.selects RX9 yX3_kind yX9_kind : Cond) ∈ gw_tbl := gw_in (by decide +kernel) (by decide +kernel)
theorem kw_687 : (.instanceMethod yX9_kind : Cond) ∈ gw_tbl := gw_in (by decide +kernel) (by decide +kernel)
theorem kw_688 : (.code yX10_kind cX10_kind 1 (some .int) : Cond) ∈ gw_tbl := gw_in (by decide +kernel) (by decide +kernel)
theorem kw_689 : (.selects RX10 yX3_kind yX10_kind : Cond) ∈ gw_tbl := gw_in (by decide +kernel) (by decide +kernel)
theorem kw_690 : (.instanceMethod yX10_kind : Cond) ∈ gw_tbl := gw_in (by decide +kernel) (by decide +kernel)

set_option maxHeartbeats 4000000 in
set_option maxRecDepth 100000 in
theorem x_about (l : Launch) (D : va_G) (cs : Nat → ClassId) (x0 : Nat) (py : Nat) (pn : Nat) (hpn : pn ≤ 8) (td : Int32) (pg : Nat) (rd : Nat) (aq : Nat) (pl : Nat) (ch : Nat) (ro : Nat) (fpy : Nat → Option Nat) (rs : List PRec) (hpi : pyI fpy rs) (hpl : pn = rs.length) (p1 : Int32) (p2 : Int32) : Met l yX11_about (Cond.code yX11_about cX11_about 4 (some .int) :: gw_tbl) ({ frames := 2, cells := 0, slots := 0, locals := 43 }) (pc_S D cs ([(x0, .inr (11, [.ref pg, .ref rd, .ref aq, .ref py, .ref pl, .ref ch, .ref ro, .int (nI pn), .int td])), (py, .inl (cs 3, 8, .inr (.inr (.inr (.inr fpy)))))] ++ (pyL cs rs)) [.ref x0, .int p1, .int p2]) (vp_Si (fun r => True)) 0 0 (fun _ => False) := by
  refine Met.ofW (cc := cX11_about) (maxL := 4) (ret := (some .int)) (by decide) rfl ?_
  intro p e s m args below meth c s₁ B hml hv
  obtain ⟨hargs, hP, hK⟩ := hv
  have hx := B.exec
  have hb := B.bytes
  have hr := B.returns
  have hts := atoms_spec (ws := Cond.code yX11_about cX11_about 4 (some .int) :: gw_tbl) B.pre
  have hg := fun (w : Cond) (h : w ∈ gw_tbl) => hts w (List.mem_cons_of_mem _ h)
  have hown : s.vm.findClass RX11 = some m.cls := findClass_of_methodNamed B.named
  have hlocks := B.notSynchronized
  have hl := lv_entry ([.ref x0, .int p1, .int p2]) (n := 4) (Nat.le_of_ble_eq_true rfl)
  rw [show entryFrame m args 4 = F0 m 0 (lg_sl ([.ref x0, .int p1, .int p2]) ++ List.replicate (4 - (lg_sl ([.ref x0, .int p1, .int p2])).length) Slot.unset).toArray [] from by rw [hargs]; exact lg_entry_eq ..]
  generalize (lg_sl ([.ref x0, .int p1, .int p2]) ++ List.replicate (4 - (lg_sl ([.ref x0, .int p1, .int p2])).length) Slot.unset).toArray = ls at hl ⊢
  have hl : lv_has ls 4 [(0, .ref x0), (1, .int p1), (2, .int p2)] := hl
  refine W_genQ (fun Q hQ => ?_)
  refine lv_aload_n hx hb dX11_about_0 rfl (lv_at hl 0 rfl) ?_
  refine lv_iload_n hx hb dX11_about_1 rfl (lv_at hl 1 rfl) ?_
  have hPc := hP.sub (ws' := [(x0, .inr (11, [.ref pg, .ref rd, .ref aq, .ref py, .ref pl, .ref ch, .ref ro, .int (nI pn), .int td])), (py, .inl (cs 3, 8, .inr (.inr (.inr (.inr fpy)))))]) [0, 1] rfl
  refine va_csq (W.runV (As := [.int p1]) (rest := []) ⟨hx, hb, hml, hown, hg⟩ (x_payOf l D cs x0 py pn (by omega) td pg rd aq pl ch ro fpy p1) (cwV 1 hg (gw_V kw_612 kw_613 kw_614 kw_12 kw_611) rfl rfl rfl (by decide +kernel) ⟨(Nat.le_of_ble_eq_true rfl), (Nat.le_of_ble_eq_true rfl)⟩) (pr_SV (q := (RX11, TX11, 9)) 11 0 hK hPc rfl rfl) rfl rfl hl.1 rfl (lv_room (Nat.le_of_ble_eq_true rfl)) dX11_about_2 ⟨(Nat.le_of_ble_eq_true rfl), (Nat.le_of_ble_eq_true rfl)⟩) (fun r_2 h_2 => ?_)
  rcases h_2 with rfl | ⟨k_2, hk_2, rfl, rfl⟩
  · refine W.eq (g2 := F0 m 5 ls [.null]) rfl ?_
    refine lv_astore_nN (lv' := [(3, .null), (0, .ref x0), (1, .int p1), (2, .int p2)]) hx hb dX11_about_5 rfl hl (by decide) rfl (fun ls hl => ?_)
    refine lv_aload_nN hx hb dX11_about_6 rfl (lv_at hl 0 rfl) ?_
    refine lv_ifnonnullN hx hb dX11_about_7 ?_
    refine lv_bipush (v := (-101)) hx hb dX11_about_10 (by decide) ?_
    refine W_sQ hQ ?_
    exact W.iret (v := (-101)) hx hb hr (fun t ht hW => ⟨(-101), rfl, trivial, ht⟩) (fun _ h => absurd h List.not_mem_nil) dX11_about_12
  · obtain ⟨⟨h0, ci, nq, fq, avg, rk⟩, hrk⟩ : ∃ r9, rs[k_2]? = some r9 := ⟨_, List.getElem?_eq_getElem (by omega)⟩
    obtain ⟨hfa, hci⟩ := hpi.2 _ _ hrk
    rw [hfa]
    have hP := P_open hrk hP
    rcases avg with _ | ⟨va, fva⟩
    · have hP : va_P D vwCl ([(x0, .inr (11, [.ref pg, .ref rd, .ref aq, .ref py, .ref pl, .ref ch, .ref ro, .int (nI pn), .int td])), (py, .inl (cs 3, 8, .inr (.inr (.inr (.inr fpy))))), (h0, .inr (ci, [.ref nq, .null, .int rk])), (nq, .inl (cs 0, 4, .inl fq))] ++ (pyL cs (rs.take k_2) ++ pyL cs (rs.drop (k_2 + 1)))) s.heap := hP
      refine W.eq (g2 := F0 m 5 ls [.ref h0]) rfl ?_
      refine lv_astore_n (lv' := [(3, .ref h0), (0, .ref x0), (1, .int (nI k_2)), (2, .int p2)]) hx hb dX11_about_5 rfl hl (by decide) rfl (fun ls hl => ?_)
      refine lv_aload_n hx hb dX11_about_6 rfl (lv_at hl 0 rfl) ?_
      refine lv_ifnonnull (tgt := 13) hx hb dX11_about_7 (by decide) ?_
      refine lv_iload_n hx hb dX11_about_13 rfl (lv_at hl 3 rfl) ?_
      refine lv_iconst (v := 0) hx hb dX11_about_14 (by decide) ?_
      refine lv_iconst (v := 4) hx hb dX11_about_15 (by decide) ?_
      refine vp_callSi (W.runS (As := [.int p2, .int 0, .int 4]) (rest := []) ⟨hx, hb, hml, hown, hg⟩ (c_isWithin l p2 0 4) (va_cwS 3 hg (gw_S kw_535 kw_536 kw_12 kw_534) rfl rfl rfl (by decide +kernel) ⟨(Nat.le_of_ble_eq_true rfl), (Nat.le_of_ble_eq_true rfl)⟩) pr_0 rfl rfl hl.1 rfl (lv_room (Nat.le_of_ble_eq_true rfl)) dX11_about_16 ⟨(Nat.le_of_ble_eq_true rfl), (Nat.le_of_ble_eq_true rfl)⟩) (fun r_16 h_16 => ?_)
      replace h_16 := iw_s (n := 4) (by decide) h_16
      rcases h_16 with rfl | ⟨rfl, k_16, hk_16, rfl⟩
      · refine lv_if_ne (tgt := 25) hx hb dX11_about_19 (by decide) (fun c_19 => absurd c_19 (by decide)) (fun c_19 => ?_)
        refine lv_bipush (v := (-102)) hx hb dX11_about_22 (by decide) ?_
        refine W_sQ hQ ?_
        exact W.iret (v := (-102)) hx hb hr (fun t ht hW => ⟨(-102), rfl, trivial, ht⟩) (fun _ h => absurd h List.not_mem_nil) dX11_about_24
      · refine lv_if_ne (tgt := 25) hx hb dX11_about_19 (by decide) (fun c_19 => ?_) (fun c_19 => absurd c_19 (by decide))
        refine lv_iload_n hx hb dX11_about_25 rfl (lv_at hl 3 rfl) ?_
        refine lv_iconst (v := 4) hx hb dX11_about_26 (by decide) ?_
        refine lv_icmp_ne (tgt := 37) hx hb dX11_about_27 (by decide) (fun c_27 => ?_) (fun c_27 => ?_)
        · have n_27 : ¬ k_16 = 4 := b_eq_f (by omega) (by omega) c_27
          refine lv_aload_n hx hb dX11_about_37 rfl (lv_at hl 0 rfl) ?_
          refine pg_get0 (v := .ref nq) hx hb hg hown hK hP 2 rfl hci (hg _ kw_673) rfl dX11_about_38 ?_
          refine lv_iload_n hx hb dX11_about_41 rfl (lv_at hl 3 rfl) ?_
          refine va_iald hx hb hK hP 3 0 rfl rfl (vp_in_nI (show k_16 < 4 by omega) (by decide)) dX11_about_42 ?_
          refine lv_topi (fun z_42 e_42 => ?_)
          refine W_sQ hQ ?_
          exact W.iret (v := z_42) hx hb hr (fun t ht hW => ⟨z_42, rfl, trivial, ht⟩) (fun _ h => absurd h List.not_mem_nil) dX11_about_43
        · have n_27 : k_16 = 4 := b_eq_t (by omega) (by omega) c_27
          refine lv_aload_n hx hb dX11_about_30 rfl (lv_at hl 0 rfl) ?_
          have R0_31 : CallRun p l e ({ frames := 2, cells := 0, slots := 0, locals := 43 } : Room) s m args below meth c s.heap [] 0 0 0 0 (F0 m 31 ls [.ref h0]) [] (vp_Si (fun r => r = kdo ci) (Value.ref h0 :: []).toArray) (fun _ => False) := by
            rcases hci with rfl | rfl | rfl | rfl | rfl
            · exact va_Run.run (va_runU (As := []) (rest := []) ⟨hx, hb, hml, hown, hg⟩ (p_kind_X1_1 l D cs h0 nq .null rk) (va_cwO (owner := "NobodyChecks$Pay") (x := yX3_kind) 0 hg (gw_O kw_675 kw_676 kw_679 kw_677 kw_678 kw_147 kw_674) rfl rfl rfl kw_680 (by decide +kernel) ⟨(Nat.le_of_ble_eq_true rfl), (Nat.le_of_ble_eq_true rfl)⟩) (pr_SV (q := (RX1, TX1, 3)) 1 0 hK (hP.sub (ws' := [(h0, .inr (1, [.ref nq, .null, .int rk]))]) [2] rfl) rfl rfl) rfl rfl hl.1 rfl (lv_room (Nat.le_of_ble_eq_true rfl)) dX11_about_31 ⟨(Nat.le_of_ble_eq_true rfl), (Nat.le_of_ble_eq_true rfl)⟩)
            · exact W.runV (As := []) (rest := []) ⟨hx, hb, hml, hown, hg⟩ (p_kind_X3_3 l D cs h0 nq .null rk) (cwV 0 hg (gw_V kw_675 kw_679 kw_681 kw_151 kw_680) rfl rfl rfl (by decide +kernel) ⟨(Nat.le_of_ble_eq_true rfl), (Nat.le_of_ble_eq_true rfl)⟩) (pr_SV (q := (RX3, TX3, 3)) 3 0 hK (hP.sub (ws' := [(h0, .inr (3, [.ref nq, .null, .int rk]))]) [2] rfl) rfl rfl) rfl rfl hl.1 rfl (lv_room (Nat.le_of_ble_eq_true rfl)) dX11_about_31 ⟨(Nat.le_of_ble_eq_true rfl), (Nat.le_of_ble_eq_true rfl)⟩
            · exact va_Run.run (va_runU (As := []) (rest := []) ⟨hx, hb, hml, hown, hg⟩ (p_kind_X6_6 l D cs h0 nq .null rk) (va_cwO (owner := "NobodyChecks$Pay") (x := yX3_kind) 0 hg (gw_O kw_675 kw_676 kw_679 kw_683 kw_684 kw_171 kw_682) rfl rfl rfl kw_680 (by decide +kernel) ⟨(Nat.le_of_ble_eq_true rfl), (Nat.le_of_ble_eq_true rfl)⟩) (pr_SV (q := (RX6, TX6, 3)) 6 0 hK (hP.sub (ws' := [(h0, .inr (6, [.ref nq, .null, .int rk]))]) [2] rfl) rfl rfl) rfl rfl hl.1 rfl (lv_room (Nat.le_of_ble_eq_true rfl)) dX11_about_31 ⟨(Nat.le_of_ble_eq_true rfl), (Nat.le_of_ble_eq_true rfl)⟩)
            · exact va_Run.run (va_runU (As := []) (rest := []) ⟨hx, hb, hml, hown, hg⟩ (p_kind_X9_9 l D cs h0 nq .null rk) (va_cwO (owner := "NobodyChecks$Pay") (x := yX3_kind) 0 hg (gw_O kw_675 kw_676 kw_679 kw_686 kw_687 kw_164 kw_685) rfl rfl rfl kw_680 (by decide +kernel) ⟨(Nat.le_of_ble_eq_true rfl), (Nat.le_of_ble_eq_true rfl)⟩) (pr_SV (q := (RX9, TX9, 3)) 9 0 hK (hP.sub (ws' := [(h0, .inr (9, [.ref nq, .null, .int rk]))]) [2] rfl) rfl rfl) rfl rfl hl.1 rfl (lv_room (Nat.le_of_ble_eq_true rfl)) dX11_about_31 ⟨(Nat.le_of_ble_eq_true rfl), (Nat.le_of_ble_eq_true rfl)⟩)
            · exact va_Run.run (va_runU (As := []) (rest := []) ⟨hx, hb, hml, hown, hg⟩ (p_kind_X10_10 l D cs h0 nq .null rk) (va_cwO (owner := "NobodyChecks$Pay") (x := yX3_kind) 0 hg (gw_O kw_675 kw_676 kw_679 kw_689 kw_690 kw_134 kw_688) rfl rfl rfl kw_680 (by decide +kernel) ⟨(Nat.le_of_ble_eq_true rfl), (Nat.le_of_ble_eq_true rfl)⟩) (pr_SV (q := (RX10, TX10, 3)) 10 0 hK (hP.sub (ws' := [(h0, .inr (10, [.ref nq, .null, .int rk]))]) [2] rfl) rfl rfl) rfl rfl hl.1 rfl (lv_room (Nat.le_of_ble_eq_true rfl)) dX11_about_31 ⟨(Nat.le_of_ble_eq_true rfl), (Nat.le_of_ble_eq_true rfl)⟩)
          refine vp_callSi R0_31 (fun r_31 h_31 => ?_)
          refine lv_goto (tgt := 43) hx hb dX11_about_34 (by decide) ?_
          refine W_sQ hQ ?_
          exact W.iret (v := r_31) hx hb hr (fun t ht hW => ⟨r_31, rfl, trivial, ht⟩) (fun _ h => absurd h List.not_mem_nil) dX11_about_43
    · have hP : va_P D vwCl ([(x0, .inr (11, [.ref pg, .ref rd, .ref aq, .ref py, .ref pl, .ref ch, .ref ro, .int (nI pn), .int td])), (py, .inl (cs 3, 8, .inr (.inr (.inr (.inr fpy))))), (h0, .inr (ci, [.ref nq, .ref va, .int rk])), (nq, .inl (cs 0, 4, .inl fq)), (va, .inl (cs 1, 1024, .inr (.inl fva)))] ++ (pyL cs (rs.take k_2) ++ pyL cs (rs.drop (k_2 + 1)))) s.heap := hP
      refine W.eq (g2 := F0 m 5 ls [.ref h0]) rfl ?_
      refine lv_astore_n (lv' := [(3, .ref h0), (0, .ref x0), (1, .int (nI k_2)), (2, .int p2)]) hx hb dX11_about_5 rfl hl (by decide) rfl (fun ls hl => ?_)
      refine lv_aload_n hx hb dX11_about_6 rfl (lv_at hl 0 rfl) ?_
      refine lv_ifnonnull (tgt := 13) hx hb dX11_about_7 (by decide) ?_
      refine lv_iload_n hx hb dX11_about_13 rfl (lv_at hl 3 rfl) ?_
      refine lv_iconst (v := 0) hx hb dX11_about_14 (by decide) ?_
      refine lv_iconst (v := 4) hx hb dX11_about_15 (by decide) ?_
      refine vp_callSi (W.runS (As := [.int p2, .int 0, .int 4]) (rest := []) ⟨hx, hb, hml, hown, hg⟩ (c_isWithin l p2 0 4) (va_cwS 3 hg (gw_S kw_535 kw_536 kw_12 kw_534) rfl rfl rfl (by decide +kernel) ⟨(Nat.le_of_ble_eq_true rfl), (Nat.le_of_ble_eq_true rfl)⟩) pr_0 rfl rfl hl.1 rfl (lv_room (Nat.le_of_ble_eq_true rfl)) dX11_about_16 ⟨(Nat.le_of_ble_eq_true rfl), (Nat.le_of_ble_eq_true rfl)⟩) (fun r_16 h_16 => ?_)
      replace h_16 := iw_s (n := 4) (by decide) h_16
      rcases h_16 with rfl | ⟨rfl, k_16, hk_16, rfl⟩
      · refine lv_if_ne (tgt := 25) hx hb dX11_about_19 (by decide) (fun c_19 => absurd c_19 (by decide)) (fun c_19 => ?_)
        refine lv_bipush (v := (-102)) hx hb dX11_about_22 (by decide) ?_
        refine W_sQ hQ ?_
        exact W.iret (v := (-102)) hx hb hr (fun t ht hW => ⟨(-102), rfl, trivial, ht⟩) (fun _ h => absurd h List.not_mem_nil) dX11_about_24
      · refine lv_if_ne (tgt := 25) hx hb dX11_about_19 (by decide) (fun c_19 => ?_) (fun c_19 => absurd c_19 (by decide))
        refine lv_iload_n hx hb dX11_about_25 rfl (lv_at hl 3 rfl) ?_
        refine lv_iconst (v := 4) hx hb dX11_about_26 (by decide) ?_
        refine lv_icmp_ne (tgt := 37) hx hb dX11_about_27 (by decide) (fun c_27 => ?_) (fun c_27 => ?_)
        · have n_27 : ¬ k_16 = 4 := b_eq_f (by omega) (by omega) c_27
          refine lv_aload_n hx hb dX11_about_37 rfl (lv_at hl 0 rfl) ?_
          refine pg_get0 (v := .ref nq) hx hb hg hown hK hP 2 rfl hci (hg _ kw_673) rfl dX11_about_38 ?_
          refine lv_iload_n hx hb dX11_about_41 rfl (lv_at hl 3 rfl) ?_
          refine va_iald hx hb hK hP 3 0 rfl rfl (vp_in_nI (show k_16 < 4 by omega) (by decide)) dX11_about_42 ?_
          refine lv_topi (fun z_42 e_42 => ?_)
          refine W_sQ hQ ?_
          exact W.iret (v := z_42) hx hb hr (fun t ht hW => ⟨z_42, rfl, trivial, ht⟩) (fun _ h => absurd h List.not_mem_nil) dX11_about_43
        · have n_27 : k_16 = 4 := b_eq_t (by omega) (by omega) c_27
          refine lv_aload_n hx hb dX11_about_30 rfl (lv_at hl 0 rfl) ?_
          have R0_31 : CallRun p l e ({ frames := 2, cells := 0, slots := 0, locals := 43 } : Room) s m args below meth c s.heap [] 0 0 0 0 (F0 m 31 ls [.ref h0]) [] (vp_Si (fun r => r = kdo ci) (Value.ref h0 :: []).toArray) (fun _ => False) := by
            rcases hci with rfl | rfl | rfl | rfl | rfl
            · exact va_Run.run (va_runU (As := []) (rest := []) ⟨hx, hb, hml, hown, hg⟩ (p_kind_X1_1 l D cs h0 nq (.ref va) rk) (va_cwO (owner := "NobodyChecks$Pay") (x := yX3_kind) 0 hg (gw_O kw_675 kw_676 kw_679 kw_677 kw_678 kw_147 kw_674) rfl rfl rfl kw_680 (by decide +kernel) ⟨(Nat.le_of_ble_eq_true rfl), (Nat.le_of_ble_eq_true rfl)⟩) (pr_SV (q := (RX1, TX1, 3)) 1 0 hK (hP.sub (ws' := [(h0, .inr (1, [.ref nq, .ref va, .int rk]))]) [2] rfl) rfl rfl) rfl rfl hl.1 rfl (lv_room (Nat.le_of_ble_eq_true rfl)) dX11_about_31 ⟨(Nat.le_of_ble_eq_true rfl), (Nat.le_of_ble_eq_true rfl)⟩)
            · exact W.runV (As := []) (rest := []) ⟨hx, hb, hml, hown, hg⟩ (p_kind_X3_3 l D cs h0 nq (.ref va) rk) (cwV 0 hg (gw_V kw_675 kw_679 kw_681 kw_151 kw_680) rfl rfl rfl (by decide +kernel) ⟨(Nat.le_of_ble_eq_true rfl), (Nat.le_of_ble_eq_true rfl)⟩) (pr_SV (q := (RX3, TX3, 3)) 3 0 hK (hP.sub (ws' := [(h0, .inr (3, [.ref nq, .ref va, .int rk]))]) [2] rfl) rfl rfl) rfl rfl hl.1 rfl (lv_room (Nat.le_of_ble_eq_true rfl)) dX11_about_31 ⟨(Nat.le_of_ble_eq_true rfl), (Nat.le_of_ble_eq_true rfl)⟩
            · exact va_Run.run (va_runU (As := []) (rest := []) ⟨hx, hb, hml, hown, hg⟩ (p_kind_X6_6 l D cs h0 nq (.ref va) rk) (va_cwO (owner := "NobodyChecks$Pay") (x := yX3_kind) 0 hg (gw_O kw_675 kw_676 kw_679 kw_683 kw_684 kw_171 kw_682) rfl rfl rfl kw_680 (by decide +kernel) ⟨(Nat.le_of_ble_eq_true rfl), (Nat.le_of_ble_eq_true rfl)⟩) (pr_SV (q := (RX6, TX6, 3)) 6 0 hK (hP.sub (ws' := [(h0, .inr (6, [.ref nq, .ref va, .int rk]))]) [2] rfl) rfl rfl) rfl rfl hl.1 rfl (lv_room (Nat.le_of_ble_eq_true rfl)) dX11_about_31 ⟨(Nat.le_of_ble_eq_true rfl), (Nat.le_of_ble_eq_true rfl)⟩)
            · exact va_Run.run (va_runU (As := []) (rest := []) ⟨hx, hb, hml, hown, hg⟩ (p_kind_X9_9 l D cs h0 nq (.ref va) rk) (va_cwO (owner := "NobodyChecks$Pay") (x := yX3_kind) 0 hg (gw_O kw_675 kw_676 kw_679 kw_686 kw_687 kw_164 kw_685) rfl rfl rfl kw_680 (by decide +kernel) ⟨(Nat.le_of_ble_eq_true rfl), (Nat.le_of_ble_eq_true rfl)⟩) (pr_SV (q := (RX9, TX9, 3)) 9 0 hK (hP.sub (ws' := [(h0, .inr (9, [.ref nq, .ref va, .int rk]))]) [2] rfl) rfl rfl) rfl rfl hl.1 rfl (lv_room (Nat.le_of_ble_eq_true rfl)) dX11_about_31 ⟨(Nat.le_of_ble_eq_true rfl), (Nat.le_of_ble_eq_true rfl)⟩)
            · exact va_Run.run (va_runU (As := []) (rest := []) ⟨hx, hb, hml, hown, hg⟩ (p_kind_X10_10 l D cs h0 nq (.ref va) rk) (va_cwO (owner := "NobodyChecks$Pay") (x := yX3_kind) 0 hg (gw_O kw_675 kw_676 kw_679 kw_689 kw_690 kw_134 kw_688) rfl rfl rfl kw_680 (by decide +kernel) ⟨(Nat.le_of_ble_eq_true rfl), (Nat.le_of_ble_eq_true rfl)⟩) (pr_SV (q := (RX10, TX10, 3)) 10 0 hK (hP.sub (ws' := [(h0, .inr (10, [.ref nq, .ref va, .int rk]))]) [2] rfl) rfl rfl) rfl rfl hl.1 rfl (lv_room (Nat.le_of_ble_eq_true rfl)) dX11_about_31 ⟨(Nat.le_of_ble_eq_true rfl), (Nat.le_of_ble_eq_true rfl)⟩)
          refine vp_callSi R0_31 (fun r_31 h_31 => ?_)
          refine lv_goto (tgt := 43) hx hb dX11_about_34 (by decide) ?_
          refine W_sQ hQ ?_
          exact W.iret (v := r_31) hx hb hr (fun t ht hW => ⟨r_31, rfl, trivial, ht⟩) (fun _ h => absurd h List.not_mem_nil) dX11_about_43

theorem dX3_init_0 : decode cX3_init 0 = .ok (.aload_n 0, 1) := by decide +kernel
theorem dX3_init_1 : decode cX3_init 1 = .ok (.invokespecial 3, 3) := by decide +kernel
theorem dX3_init_4 : decode cX3_init 4 = .ok (.aload_n 0, 1) := by decide +kernel
theorem dX3_init_5 : decode cX3_init 5 = .ok (.iconst 4, 1) := by decide +kernel
theorem dX3_init_6 : decode cX3_init 6 = .ok (.newarray .int, 2) := by decide +kernel
theorem dX3_init_8 : decode cX3_init 8 = .ok (.putfield 9, 3) := by decide +kernel
theorem dX3_init_11 : decode cX3_init 11 = .ok (.return_, 1) := by decide +kernel
theorem kw_691 : (.methodLink RX3 3 objectInit : Cond) ∈ gw_tbl := gw_in (by decide +kernel) (by decide +kernel)
theorem kw_692 : (.instanceMethod objectInit : Cond) ∈ gw_tbl := gw_in (by decide +kernel) (by decide +kernel)
theorem kw_693 : (.code objectInit ⟨#[0xb1]⟩ 1 none : Cond) ∈ gw_tbl := gw_in (by decide +kernel) (by decide +kernel)
theorem kw_694 : (.arrayClass .int : Cond) ∈ gw_tbl := gw_in (by decide +kernel) (by decide +kernel)

set_option maxHeartbeats 4000000 in
set_option maxRecDepth 100000 in
theorem i_X3_3 (l : Launch) (D : va_G) (cs : Nat → ClassId) (h0 : Nat) (sz : Nat) : Met l yX3_init (Cond.code yX3_init cX3_init 1 none :: gw_tbl) ({ frames := 1, cells := 1, slots := 4, locals := 12 }) (pc_C D cs [(h0, .inr (3, [.null, .null, .int 0]))] sz [.ref h0]) (va_Qv (fun (u : Unit) => True) (fun u t => ∃ (nq2 : Nat), ∃ (fq2 : Nat → Int32), va_P D vwCl [(h0, .inr (3, [.ref nq2, .null, .int 0])), (nq2, .inl (cs 0, 4, .inl fq2))] t.heap ∧ va_D (va_A [(h0, .inr (3, [.null, .null, .int 0]))] sz) [(h0, .inr (3, [.ref nq2, .null, .int 0])), (nq2, .inl (cs 0, 4, .inl fq2))]) (va_A [(h0, .inr (3, [.null, .null, .int 0]))] sz)) 1 4 (va_A [(h0, .inr (3, [.null, .null, .int 0]))] sz) := by
  refine Met.ofW (cc := cX3_init) (maxL := 1) (ret := none) (by decide) rfl ?_
  intro p e s m args below meth c s₁ B hml hv
  obtain ⟨hargs, hsz, hP, hK, hD0, hN⟩ := hv
  have hx := B.exec
  have hb := B.bytes
  have hr := B.returns
  have hts := atoms_spec (ws := Cond.code yX3_init cX3_init 1 none :: gw_tbl) B.pre
  have hg := fun (w : Cond) (h : w ∈ gw_tbl) => hts w (List.mem_cons_of_mem _ h)
  have hown : s.vm.findClass RX3 = some m.cls := findClass_of_methodNamed B.named
  have hlocks := B.notSynchronized
  have hin : meth.name = "<init>" := (name_of_methodNamed B.named B.method).1
  subst hsz
  have hD := hD0.self (sz := s.heap.size)
  generalize hAe : va_A [(h0, .inr (3, [.null, .null, .int 0]))] s.heap.size = A at hD ⊢
  have hA : ∀ q : Nat, s.heap.size ≤ q → A q := fun q h => by rw [← hAe]; exact Or.inr h
  have hS : va_S A s.heap s.heap [] := va_S.rf
  have hP : va_P D vwCl [(h0, .inr (3, [.null, .null, .int 0]))] s.heap := hP
  have hl := lv_entry ([.ref h0]) (n := 1) (Nat.le_of_ble_eq_true rfl)
  rw [show entryFrame m args 1 = F0 m 0 (lg_sl ([.ref h0]) ++ List.replicate (1 - (lg_sl ([.ref h0])).length) Slot.unset).toArray [] from by rw [hargs]; exact lg_entry_eq ..]
  generalize (lg_sl ([.ref h0]) ++ List.replicate (1 - (lg_sl ([.ref h0])).length) Slot.unset).toArray = ls at hl ⊢
  have hl : lv_has ls 1 [(0, .ref h0)] := hl
  refine W_genQ (fun Q hQ => ?_)
  refine lv_aload_n hx hb dX3_init_0 rfl (lv_at hl 0 rfl) ?_
  refine W.objInit hx hb hown (hg _ kw_691) (hg _ kw_692) (hg _ kw_693) rfl (by rw [hml]; exact hl.1) rfl dX3_init_1 (Nat.le_of_ble_eq_true rfl) (Nat.le_of_ble_eq_true rfl) ?_
  refine W.eq (g2 := F0 m 4 ls []) rfl ?_
  refine lv_aload_n hx hb dX3_init_4 rfl (lv_at hl 0 rfl) ?_
  refine lv_iconst (v := 4) hx hb dX3_init_5 (by decide) ?_
  refine nw_a (atype := .int) (ty := .int) (N' := 4) (a0 := (4, .inl (fun _ => 0))) 0 hx hb (hg _ kw_694) rfl hK rfl (by decide) hP hD hS hA (fun _ => rfl) (by decide) (by decide) (by decide) (Nat.le_of_ble_eq_true rfl) (Nat.le_of_ble_eq_true rfl) dX3_init_6 (fun q_6 H hP hD hS => ?_)
  have hP : va_P D vwCl [(h0, .inr (3, [.null, .null, .int 0])), (q_6, .inl (cs 0, 4, .inl (fun _ => 0)))] H := hP
  have hD : va_D A [(h0, .inr (3, [.null, .null, .int 0])), (q_6, .inl (cs 0, 4, .inl (fun _ => 0)))] := hD
  refine W.cs (cells' := 1) (slots' := 4) rfl rfl ?_
  refine va_putF (D := D) (ci := 3) (v := .ref q_6) (ty := .array .int) (C := RX3) (T := TX3) (N := 3) hx hb hg gwX3 tyX3 tyX3_ok nmX3 hown hK hP hD hS 0 rfl rfl 0 (by decide) (hg _ kw_122) (fun _ h9 => h9) rfl hin rfl (by decide +kernel) rfl rfl (Nat.le_of_ble_eq_true rfl) dX3_init_8 (fun H locs hP hD hS => ?_)
  have hP : va_P D vwCl [(h0, .inr (3, [.ref q_6, .null, .int 0])), (q_6, .inl (cs 0, 4, .inl (fun _ => 0)))] H := hP
  have hD : va_D A [(h0, .inr (3, [.ref q_6, .null, .int 0])), (q_6, .inl (cs 0, 4, .inl (fun _ => 0)))] := hD
  refine W_sQ hQ ?_
  refine W.widen (k := 1) (n := 4) (Nat.le_of_ble_eq_true rfl) (Nat.le_of_ble_eq_true rfl) ?_
  have hP9 := hP.sub (ws' := [(h0, .inr (3, [.ref q_6, .null, .int 0])), (q_6, .inl (cs 0, 4, .inl (fun _ => 0)))]) [0, 1] rfl
  have hD9 := hD.sub (ws' := [(h0, .inr (3, [.ref q_6, .null, .int 0])), (q_6, .inl (cs 0, 4, .inl (fun _ => 0)))]) [0, 1] (by decide) rfl
  exact W.vret hx hb hr (fun t ht hW => ⟨⟨(), rfl, trivial, ⟨q_6, (fun _ => 0), by rw [ht]; exact hP9, hD9⟩⟩, hS.F ht⟩) hS.2.2 dX3_init_11

set_option maxHeartbeats 4000000 in
set_option maxRecDepth 100000 in
theorem i_X3_9 (l : Launch) (D : va_G) (cs : Nat → ClassId) (h0 : Nat) (sz : Nat) : Met l yX3_init (Cond.code yX3_init cX3_init 1 none :: gw_tbl) ({ frames := 1, cells := 1, slots := 4, locals := 12 }) (pc_C D cs [(h0, .inr (9, [.null, .null, .int 0]))] sz [.ref h0]) (va_Qv (fun (u : Unit) => True) (fun u t => ∃ (nq2 : Nat), ∃ (fq2 : Nat → Int32), va_P D vwCl [(h0, .inr (9, [.ref nq2, .null, .int 0])), (nq2, .inl (cs 0, 4, .inl fq2))] t.heap ∧ va_D (va_A [(h0, .inr (9, [.null, .null, .int 0]))] sz) [(h0, .inr (9, [.ref nq2, .null, .int 0])), (nq2, .inl (cs 0, 4, .inl fq2))]) (va_A [(h0, .inr (9, [.null, .null, .int 0]))] sz)) 1 4 (va_A [(h0, .inr (9, [.null, .null, .int 0]))] sz) := by
  refine Met.ofW (cc := cX3_init) (maxL := 1) (ret := none) (by decide) rfl ?_
  intro p e s m args below meth c s₁ B hml hv
  obtain ⟨hargs, hsz, hP, hK, hD0, hN⟩ := hv
  have hx := B.exec
  have hb := B.bytes
  have hr := B.returns
  have hts := atoms_spec (ws := Cond.code yX3_init cX3_init 1 none :: gw_tbl) B.pre
  have hg := fun (w : Cond) (h : w ∈ gw_tbl) => hts w (List.mem_cons_of_mem _ h)
  have hown : s.vm.findClass RX3 = some m.cls := findClass_of_methodNamed B.named
  have hlocks := B.notSynchronized
  have hin : meth.name = "<init>" := (name_of_methodNamed B.named B.method).1
  subst hsz
  have hD := hD0.self (sz := s.heap.size)
  generalize hAe : va_A [(h0, .inr (9, [.null, .null, .int 0]))] s.heap.size = A at hD ⊢
  have hA : ∀ q : Nat, s.heap.size ≤ q → A q := fun q h => by rw [← hAe]; exact Or.inr h
  have hS : va_S A s.heap s.heap [] := va_S.rf
  have hP : va_P D vwCl [(h0, .inr (9, [.null, .null, .int 0]))] s.heap := hP
  have hl := lv_entry ([.ref h0]) (n := 1) (Nat.le_of_ble_eq_true rfl)
  rw [show entryFrame m args 1 = F0 m 0 (lg_sl ([.ref h0]) ++ List.replicate (1 - (lg_sl ([.ref h0])).length) Slot.unset).toArray [] from by rw [hargs]; exact lg_entry_eq ..]
  generalize (lg_sl ([.ref h0]) ++ List.replicate (1 - (lg_sl ([.ref h0])).length) Slot.unset).toArray = ls at hl ⊢
  have hl : lv_has ls 1 [(0, .ref h0)] := hl
  refine W_genQ (fun Q hQ => ?_)
  refine lv_aload_n hx hb dX3_init_0 rfl (lv_at hl 0 rfl) ?_
  refine W.objInit hx hb hown (hg _ kw_691) (hg _ kw_692) (hg _ kw_693) rfl (by rw [hml]; exact hl.1) rfl dX3_init_1 (Nat.le_of_ble_eq_true rfl) (Nat.le_of_ble_eq_true rfl) ?_
  refine W.eq (g2 := F0 m 4 ls []) rfl ?_
  refine lv_aload_n hx hb dX3_init_4 rfl (lv_at hl 0 rfl) ?_
  refine lv_iconst (v := 4) hx hb dX3_init_5 (by decide) ?_
  refine nw_a (atype := .int) (ty := .int) (N' := 4) (a0 := (4, .inl (fun _ => 0))) 0 hx hb (hg _ kw_694) rfl hK rfl (by decide) hP hD hS hA (fun _ => rfl) (by decide) (by decide) (by decide) (Nat.le_of_ble_eq_true rfl) (Nat.le_of_ble_eq_true rfl) dX3_init_6 (fun q_6 H hP hD hS => ?_)
  have hP : va_P D vwCl [(h0, .inr (9, [.null, .null, .int 0])), (q_6, .inl (cs 0, 4, .inl (fun _ => 0)))] H := hP
  have hD : va_D A [(h0, .inr (9, [.null, .null, .int 0])), (q_6, .inl (cs 0, 4, .inl (fun _ => 0)))] := hD
  refine W.cs (cells' := 1) (slots' := 4) rfl rfl ?_
  refine va_putF (D := D) (ci := 9) (v := .ref q_6) (ty := .array .int) (C := RX9) (T := TX9) (N := 3) hx hb hg gwX9 tyX9 tyX9_ok nmX9 hown hK hP hD hS 0 rfl rfl 0 (by decide) (hg _ kw_122) (fun _ h9 => h9) rfl hin rfl (by decide +kernel) rfl rfl (Nat.le_of_ble_eq_true rfl) dX3_init_8 (fun H locs hP hD hS => ?_)
  have hP : va_P D vwCl [(h0, .inr (9, [.ref q_6, .null, .int 0])), (q_6, .inl (cs 0, 4, .inl (fun _ => 0)))] H := hP
  have hD : va_D A [(h0, .inr (9, [.ref q_6, .null, .int 0])), (q_6, .inl (cs 0, 4, .inl (fun _ => 0)))] := hD
  refine W_sQ hQ ?_
  refine W.widen (k := 1) (n := 4) (Nat.le_of_ble_eq_true rfl) (Nat.le_of_ble_eq_true rfl) ?_
  have hP9 := hP.sub (ws' := [(h0, .inr (9, [.ref q_6, .null, .int 0])), (q_6, .inl (cs 0, 4, .inl (fun _ => 0)))]) [0, 1] rfl
  have hD9 := hD.sub (ws' := [(h0, .inr (9, [.ref q_6, .null, .int 0])), (q_6, .inl (cs 0, 4, .inl (fun _ => 0)))]) [0, 1] (by decide) rfl
  exact W.vret hx hb hr (fun t ht hW => ⟨⟨(), rfl, trivial, ⟨q_6, (fun _ => 0), by rw [ht]; exact hP9, hD9⟩⟩, hS.F ht⟩) hS.2.2 dX3_init_11

set_option maxHeartbeats 4000000 in
set_option maxRecDepth 100000 in
theorem i_X3_10 (l : Launch) (D : va_G) (cs : Nat → ClassId) (h0 : Nat) (sz : Nat) : Met l yX3_init (Cond.code yX3_init cX3_init 1 none :: gw_tbl) ({ frames := 1, cells := 1, slots := 4, locals := 12 }) (pc_C D cs [(h0, .inr (10, [.null, .null, .int 0]))] sz [.ref h0]) (va_Qv (fun (u : Unit) => True) (fun u t => ∃ (nq2 : Nat), ∃ (fq2 : Nat → Int32), va_P D vwCl [(h0, .inr (10, [.ref nq2, .null, .int 0])), (nq2, .inl (cs 0, 4, .inl fq2))] t.heap ∧ va_D (va_A [(h0, .inr (10, [.null, .null, .int 0]))] sz) [(h0, .inr (10, [.ref nq2, .null, .int 0])), (nq2, .inl (cs 0, 4, .inl fq2))]) (va_A [(h0, .inr (10, [.null, .null, .int 0]))] sz)) 1 4 (va_A [(h0, .inr (10, [.null, .null, .int 0]))] sz) := by
  refine Met.ofW (cc := cX3_init) (maxL := 1) (ret := none) (by decide) rfl ?_
  intro p e s m args below meth c s₁ B hml hv
  obtain ⟨hargs, hsz, hP, hK, hD0, hN⟩ := hv
  have hx := B.exec
  have hb := B.bytes
  have hr := B.returns
  have hts := atoms_spec (ws := Cond.code yX3_init cX3_init 1 none :: gw_tbl) B.pre
  have hg := fun (w : Cond) (h : w ∈ gw_tbl) => hts w (List.mem_cons_of_mem _ h)
  have hown : s.vm.findClass RX3 = some m.cls := findClass_of_methodNamed B.named
  have hlocks := B.notSynchronized
  have hin : meth.name = "<init>" := (name_of_methodNamed B.named B.method).1
  subst hsz
  have hD := hD0.self (sz := s.heap.size)
  generalize hAe : va_A [(h0, .inr (10, [.null, .null, .int 0]))] s.heap.size = A at hD ⊢
  have hA : ∀ q : Nat, s.heap.size ≤ q → A q := fun q h => by rw [← hAe]; exact Or.inr h
  have hS : va_S A s.heap s.heap [] := va_S.rf
  have hP : va_P D vwCl [(h0, .inr (10, [.null, .null, .int 0]))] s.heap := hP
  have hl := lv_entry ([.ref h0]) (n := 1) (Nat.le_of_ble_eq_true rfl)
  rw [show entryFrame m args 1 = F0 m 0 (lg_sl ([.ref h0]) ++ List.replicate (1 - (lg_sl ([.ref h0])).length) Slot.unset).toArray [] from by rw [hargs]; exact lg_entry_eq ..]
  generalize (lg_sl ([.ref h0]) ++ List.replicate (1 - (lg_sl ([.ref h0])).length) Slot.unset).toArray = ls at hl ⊢
  have hl : lv_has ls 1 [(0, .ref h0)] := hl
  refine W_genQ (fun Q hQ => ?_)
  refine lv_aload_n hx hb dX3_init_0 rfl (lv_at hl 0 rfl) ?_
  refine W.objInit hx hb hown (hg _ kw_691) (hg _ kw_692) (hg _ kw_693) rfl (by rw [hml]; exact hl.1) rfl dX3_init_1 (Nat.le_of_ble_eq_true rfl) (Nat.le_of_ble_eq_true rfl) ?_
  refine W.eq (g2 := F0 m 4 ls []) rfl ?_
  refine lv_aload_n hx hb dX3_init_4 rfl (lv_at hl 0 rfl) ?_
  refine lv_iconst (v := 4) hx hb dX3_init_5 (by decide) ?_
  refine nw_a (atype := .int) (ty := .int) (N' := 4) (a0 := (4, .inl (fun _ => 0))) 0 hx hb (hg _ kw_694) rfl hK rfl (by decide) hP hD hS hA (fun _ => rfl) (by decide) (by decide) (by decide) (Nat.le_of_ble_eq_true rfl) (Nat.le_of_ble_eq_true rfl) dX3_init_6 (fun q_6 H hP hD hS => ?_)
  have hP : va_P D vwCl [(h0, .inr (10, [.null, .null, .int 0])), (q_6, .inl (cs 0, 4, .inl (fun _ => 0)))] H := hP
  have hD : va_D A [(h0, .inr (10, [.null, .null, .int 0])), (q_6, .inl (cs 0, 4, .inl (fun _ => 0)))] := hD
  refine W.cs (cells' := 1) (slots' := 4) rfl rfl ?_
  refine va_putF (D := D) (ci := 10) (v := .ref q_6) (ty := .array .int) (C := RX10) (T := TX10) (N := 3) hx hb hg gwX10 tyX10 tyX10_ok nmX10 hown hK hP hD hS 0 rfl rfl 0 (by decide) (hg _ kw_122) (fun _ h9 => h9) rfl hin rfl (by decide +kernel) rfl rfl (Nat.le_of_ble_eq_true rfl) dX3_init_8 (fun H locs hP hD hS => ?_)
  have hP : va_P D vwCl [(h0, .inr (10, [.ref q_6, .null, .int 0])), (q_6, .inl (cs 0, 4, .inl (fun _ => 0)))] H := hP
  have hD : va_D A [(h0, .inr (10, [.ref q_6, .null, .int 0])), (q_6, .inl (cs 0, 4, .inl (fun _ => 0)))] := hD
  refine W_sQ hQ ?_
  refine W.widen (k := 1) (n := 4) (Nat.le_of_ble_eq_true rfl) (Nat.le_of_ble_eq_true rfl) ?_
  have hP9 := hP.sub (ws' := [(h0, .inr (10, [.ref q_6, .null, .int 0])), (q_6, .inl (cs 0, 4, .inl (fun _ => 0)))]) [0, 1] rfl
  have hD9 := hD.sub (ws' := [(h0, .inr (10, [.ref q_6, .null, .int 0])), (q_6, .inl (cs 0, 4, .inl (fun _ => 0)))]) [0, 1] (by decide) rfl
  exact W.vret hx hb hr (fun t ht hW => ⟨⟨(), rfl, trivial, ⟨q_6, (fun _ => 0), by rw [ht]; exact hP9, hD9⟩⟩, hS.F ht⟩) hS.2.2 dX3_init_11

set_option maxHeartbeats 4000000 in
set_option maxRecDepth 100000 in
theorem i_X3_6 (l : Launch) (D : va_G) (cs : Nat → ClassId) (h0 : Nat) (sz : Nat) : Met l yX3_init (Cond.code yX3_init cX3_init 1 none :: gw_tbl) ({ frames := 1, cells := 1, slots := 4, locals := 12 }) (pc_C D cs [(h0, .inr (6, [.null, .null, .int 0]))] sz [.ref h0]) (va_Qv (fun (u : Unit) => True) (fun u t => ∃ (nq2 : Nat), ∃ (fq2 : Nat → Int32), va_P D vwCl [(h0, .inr (6, [.ref nq2, .null, .int 0])), (nq2, .inl (cs 0, 4, .inl fq2))] t.heap ∧ va_D (va_A [(h0, .inr (6, [.null, .null, .int 0]))] sz) [(h0, .inr (6, [.ref nq2, .null, .int 0])), (nq2, .inl (cs 0, 4, .inl fq2))]) (va_A [(h0, .inr (6, [.null, .null, .int 0]))] sz)) 1 4 (va_A [(h0, .inr (6, [.null, .null, .int 0]))] sz) := by
  refine Met.ofW (cc := cX3_init) (maxL := 1) (ret := none) (by decide) rfl ?_
  intro p e s m args below meth c s₁ B hml hv
  obtain ⟨hargs, hsz, hP, hK, hD0, hN⟩ := hv
  have hx := B.exec
  have hb := B.bytes
  have hr := B.returns
  have hts := atoms_spec (ws := Cond.code yX3_init cX3_init 1 none :: gw_tbl) B.pre
  have hg := fun (w : Cond) (h : w ∈ gw_tbl) => hts w (List.mem_cons_of_mem _ h)
  have hown : s.vm.findClass RX3 = some m.cls := findClass_of_methodNamed B.named
  have hlocks := B.notSynchronized
  have hin : meth.name = "<init>" := (name_of_methodNamed B.named B.method).1
  subst hsz
  have hD := hD0.self (sz := s.heap.size)
  generalize hAe : va_A [(h0, .inr (6, [.null, .null, .int 0]))] s.heap.size = A at hD ⊢
  have hA : ∀ q : Nat, s.heap.size ≤ q → A q := fun q h => by rw [← hAe]; exact Or.inr h
  have hS : va_S A s.heap s.heap [] := va_S.rf
  have hP : va_P D vwCl [(h0, .inr (6, [.null, .null, .int 0]))] s.heap := hP
  have hl := lv_entry ([.ref h0]) (n := 1) (Nat.le_of_ble_eq_true rfl)
  rw [show entryFrame m args 1 = F0 m 0 (lg_sl ([.ref h0]) ++ List.replicate (1 - (lg_sl ([.ref h0])).length) Slot.unset).toArray [] from by rw [hargs]; exact lg_entry_eq ..]
  generalize (lg_sl ([.ref h0]) ++ List.replicate (1 - (lg_sl ([.ref h0])).length) Slot.unset).toArray = ls at hl ⊢
  have hl : lv_has ls 1 [(0, .ref h0)] := hl
  refine W_genQ (fun Q hQ => ?_)
  refine lv_aload_n hx hb dX3_init_0 rfl (lv_at hl 0 rfl) ?_
  refine W.objInit hx hb hown (hg _ kw_691) (hg _ kw_692) (hg _ kw_693) rfl (by rw [hml]; exact hl.1) rfl dX3_init_1 (Nat.le_of_ble_eq_true rfl) (Nat.le_of_ble_eq_true rfl) ?_
  refine W.eq (g2 := F0 m 4 ls []) rfl ?_
  refine lv_aload_n hx hb dX3_init_4 rfl (lv_at hl 0 rfl) ?_
  refine lv_iconst (v := 4) hx hb dX3_init_5 (by decide) ?_
  refine nw_a (atype := .int) (ty := .int) (N' := 4) (a0 := (4, .inl (fun _ => 0))) 0 hx hb (hg _ kw_694) rfl hK rfl (by decide) hP hD hS hA (fun _ => rfl) (by decide) (by decide) (by decide) (Nat.le_of_ble_eq_true rfl) (Nat.le_of_ble_eq_true rfl) dX3_init_6 (fun q_6 H hP hD hS => ?_)
  have hP : va_P D vwCl [(h0, .inr (6, [.null, .null, .int 0])), (q_6, .inl (cs 0, 4, .inl (fun _ => 0)))] H := hP
  have hD : va_D A [(h0, .inr (6, [.null, .null, .int 0])), (q_6, .inl (cs 0, 4, .inl (fun _ => 0)))] := hD
  refine W.cs (cells' := 1) (slots' := 4) rfl rfl ?_
  refine va_putF (D := D) (ci := 6) (v := .ref q_6) (ty := .array .int) (C := RX6) (T := TX6) (N := 3) hx hb hg gwX6 tyX6 tyX6_ok nmX6 hown hK hP hD hS 0 rfl rfl 0 (by decide) (hg _ kw_122) (fun _ h9 => h9) rfl hin rfl (by decide +kernel) rfl rfl (Nat.le_of_ble_eq_true rfl) dX3_init_8 (fun H locs hP hD hS => ?_)
  have hP : va_P D vwCl [(h0, .inr (6, [.ref q_6, .null, .int 0])), (q_6, .inl (cs 0, 4, .inl (fun _ => 0)))] H := hP
  have hD : va_D A [(h0, .inr (6, [.ref q_6, .null, .int 0])), (q_6, .inl (cs 0, 4, .inl (fun _ => 0)))] := hD
  refine W_sQ hQ ?_
  refine W.widen (k := 1) (n := 4) (Nat.le_of_ble_eq_true rfl) (Nat.le_of_ble_eq_true rfl) ?_
  have hP9 := hP.sub (ws' := [(h0, .inr (6, [.ref q_6, .null, .int 0])), (q_6, .inl (cs 0, 4, .inl (fun _ => 0)))]) [0, 1] rfl
  have hD9 := hD.sub (ws' := [(h0, .inr (6, [.ref q_6, .null, .int 0])), (q_6, .inl (cs 0, 4, .inl (fun _ => 0)))]) [0, 1] (by decide) rfl
  exact W.vret hx hb hr (fun t ht hW => ⟨⟨(), rfl, trivial, ⟨q_6, (fun _ => 0), by rw [ht]; exact hP9, hD9⟩⟩, hS.F ht⟩) hS.2.2 dX3_init_11

set_option maxHeartbeats 4000000 in
set_option maxRecDepth 100000 in
theorem i_X3_1 (l : Launch) (D : va_G) (cs : Nat → ClassId) (h0 : Nat) (sz : Nat) : Met l yX3_init (Cond.code yX3_init cX3_init 1 none :: gw_tbl) ({ frames := 1, cells := 1, slots := 4, locals := 12 }) (pc_C D cs [(h0, .inr (1, [.null, .null, .int 0]))] sz [.ref h0]) (va_Qv (fun (u : Unit) => True) (fun u t => ∃ (nq2 : Nat), ∃ (fq2 : Nat → Int32), va_P D vwCl [(h0, .inr (1, [.ref nq2, .null, .int 0])), (nq2, .inl (cs 0, 4, .inl fq2))] t.heap ∧ va_D (va_A [(h0, .inr (1, [.null, .null, .int 0]))] sz) [(h0, .inr (1, [.ref nq2, .null, .int 0])), (nq2, .inl (cs 0, 4, .inl fq2))]) (va_A [(h0, .inr (1, [.null, .null, .int 0]))] sz)) 1 4 (va_A [(h0, .inr (1, [.null, .null, .int 0]))] sz) := by
  refine Met.ofW (cc := cX3_init) (maxL := 1) (ret := none) (by decide) rfl ?_
  intro p e s m args below meth c s₁ B hml hv
  obtain ⟨hargs, hsz, hP, hK, hD0, hN⟩ := hv
  have hx := B.exec
  have hb := B.bytes
  have hr := B.returns
  have hts := atoms_spec (ws := Cond.code yX3_init cX3_init 1 none :: gw_tbl) B.pre
  have hg := fun (w : Cond) (h : w ∈ gw_tbl) => hts w (List.mem_cons_of_mem _ h)
  have hown : s.vm.findClass RX3 = some m.cls := findClass_of_methodNamed B.named
  have hlocks := B.notSynchronized
  have hin : meth.name = "<init>" := (name_of_methodNamed B.named B.method).1
  subst hsz
  have hD := hD0.self (sz := s.heap.size)
  generalize hAe : va_A [(h0, .inr (1, [.null, .null, .int 0]))] s.heap.size = A at hD ⊢
  have hA : ∀ q : Nat, s.heap.size ≤ q → A q := fun q h => by rw [← hAe]; exact Or.inr h
  have hS : va_S A s.heap s.heap [] := va_S.rf
  have hP : va_P D vwCl [(h0, .inr (1, [.null, .null, .int 0]))] s.heap := hP
  have hl := lv_entry ([.ref h0]) (n := 1) (Nat.le_of_ble_eq_true rfl)
  rw [show entryFrame m args 1 = F0 m 0 (lg_sl ([.ref h0]) ++ List.replicate (1 - (lg_sl ([.ref h0])).length) Slot.unset).toArray [] from by rw [hargs]; exact lg_entry_eq ..]
  generalize (lg_sl ([.ref h0]) ++ List.replicate (1 - (lg_sl ([.ref h0])).length) Slot.unset).toArray = ls at hl ⊢
  have hl : lv_has ls 1 [(0, .ref h0)] := hl
  refine W_genQ (fun Q hQ => ?_)
  refine lv_aload_n hx hb dX3_init_0 rfl (lv_at hl 0 rfl) ?_
  refine W.objInit hx hb hown (hg _ kw_691) (hg _ kw_692) (hg _ kw_693) rfl (by rw [hml]; exact hl.1) rfl dX3_init_1 (Nat.le_of_ble_eq_true rfl) (Nat.le_of_ble_eq_true rfl) ?_
  refine W.eq (g2 := F0 m 4 ls []) rfl ?_
  refine lv_aload_n hx hb dX3_init_4 rfl (lv_at hl 0 rfl) ?_
  refine lv_iconst (v := 4) hx hb dX3_init_5 (by decide) ?_
  refine nw_a (atype := .int) (ty := .int) (N' := 4) (a0 := (4, .inl (fun _ => 0))) 0 hx hb (hg _ kw_694) rfl hK rfl (by decide) hP hD hS hA (fun _ => rfl) (by decide) (by decide) (by decide) (Nat.le_of_ble_eq_true rfl) (Nat.le_of_ble_eq_true rfl) dX3_init_6 (fun q_6 H hP hD hS => ?_)
  have hP : va_P D vwCl [(h0, .inr (1, [.null, .null, .int 0])), (q_6, .inl (cs 0, 4, .inl (fun _ => 0)))] H := hP
  have hD : va_D A [(h0, .inr (1, [.null, .null, .int 0])), (q_6, .inl (cs 0, 4, .inl (fun _ => 0)))] := hD
  refine W.cs (cells' := 1) (slots' := 4) rfl rfl ?_
  refine va_putF (D := D) (ci := 1) (v := .ref q_6) (ty := .array .int) (C := RX1) (T := TX1) (N := 3) hx hb hg gwX1 tyX1 tyX1_ok nmX1 hown hK hP hD hS 0 rfl rfl 0 (by decide) (hg _ kw_122) (fun _ h9 => h9) rfl hin rfl (by decide +kernel) rfl rfl (Nat.le_of_ble_eq_true rfl) dX3_init_8 (fun H locs hP hD hS => ?_)
  have hP : va_P D vwCl [(h0, .inr (1, [.ref q_6, .null, .int 0])), (q_6, .inl (cs 0, 4, .inl (fun _ => 0)))] H := hP
  have hD : va_D A [(h0, .inr (1, [.ref q_6, .null, .int 0])), (q_6, .inl (cs 0, 4, .inl (fun _ => 0)))] := hD
  refine W_sQ hQ ?_
  refine W.widen (k := 1) (n := 4) (Nat.le_of_ble_eq_true rfl) (Nat.le_of_ble_eq_true rfl) ?_
  have hP9 := hP.sub (ws' := [(h0, .inr (1, [.ref q_6, .null, .int 0])), (q_6, .inl (cs 0, 4, .inl (fun _ => 0)))]) [0, 1] rfl
  have hD9 := hD.sub (ws' := [(h0, .inr (1, [.ref q_6, .null, .int 0])), (q_6, .inl (cs 0, 4, .inl (fun _ => 0)))]) [0, 1] (by decide) rfl
  exact W.vret hx hb hr (fun t ht hW => ⟨⟨(), rfl, trivial, ⟨q_6, (fun _ => 0), by rw [ht]; exact hP9, hD9⟩⟩, hS.F ht⟩) hS.2.2 dX3_init_11

theorem dX9_init_0 : decode cX9_init 0 = .ok (.aload_n 0, 1) := by decide +kernel
theorem dX9_init_1 : decode cX9_init 1 = .ok (.invokespecial 3, 3) := by decide +kernel
theorem dX9_init_4 : decode cX9_init 4 = .ok (.return_, 1) := by decide +kernel
theorem kw_695 : (.code yX3_init cX3_init 1 none : Cond) ∈ gw_tbl := gw_in (by decide +kernel) (by decide +kernel)
theorem kw_696 : (.instanceMethod yX3_init : Cond) ∈ gw_tbl := gw_in (by decide +kernel) (by decide +kernel)

set_option maxHeartbeats 4000000 in
set_option maxRecDepth 100000 in
theorem i_X9_9 (l : Launch) (D : va_G) (cs : Nat → ClassId) (h0 : Nat) (sz : Nat) : Met l yX9_init (Cond.code yX9_init cX9_init 1 none :: gw_tbl) ({ frames := 2, cells := 1, slots := 4, locals := 32 }) (pc_C D cs [(h0, .inr (9, [.null, .null, .int 0]))] sz [.ref h0]) (va_Qv (fun (u : Unit) => True) (fun u t => ∃ (nq2 : Nat), ∃ (fq2 : Nat → Int32), va_P D vwCl [(h0, .inr (9, [.ref nq2, .null, .int 0])), (nq2, .inl (cs 0, 4, .inl fq2))] t.heap ∧ va_D (va_A [(h0, .inr (9, [.null, .null, .int 0]))] sz) [(h0, .inr (9, [.ref nq2, .null, .int 0])), (nq2, .inl (cs 0, 4, .inl fq2))]) (va_A [(h0, .inr (9, [.null, .null, .int 0]))] sz)) 1 4 (va_A [(h0, .inr (9, [.null, .null, .int 0]))] sz) := by
  refine Met.ofW (cc := cX9_init) (maxL := 1) (ret := none) (by decide) rfl ?_
  intro p e s m args below meth c s₁ B hml hv
  obtain ⟨hargs, hsz, hP, hK, hD0, hN⟩ := hv
  have hx := B.exec
  have hb := B.bytes
  have hr := B.returns
  have hts := atoms_spec (ws := Cond.code yX9_init cX9_init 1 none :: gw_tbl) B.pre
  have hg := fun (w : Cond) (h : w ∈ gw_tbl) => hts w (List.mem_cons_of_mem _ h)
  have hown : s.vm.findClass RX9 = some m.cls := findClass_of_methodNamed B.named
  have hlocks := B.notSynchronized
  have hin : meth.name = "<init>" := (name_of_methodNamed B.named B.method).1
  subst hsz
  have hD := hD0.self (sz := s.heap.size)
  generalize hAe : va_A [(h0, .inr (9, [.null, .null, .int 0]))] s.heap.size = A at hD ⊢
  have hA : ∀ q : Nat, s.heap.size ≤ q → A q := fun q h => by rw [← hAe]; exact Or.inr h
  have hS : va_S A s.heap s.heap [] := va_S.rf
  have hP : va_P D vwCl [(h0, .inr (9, [.null, .null, .int 0]))] s.heap := hP
  have hl := lv_entry ([.ref h0]) (n := 1) (Nat.le_of_ble_eq_true rfl)
  rw [show entryFrame m args 1 = F0 m 0 (lg_sl ([.ref h0]) ++ List.replicate (1 - (lg_sl ([.ref h0])).length) Slot.unset).toArray [] from by rw [hargs]; exact lg_entry_eq ..]
  generalize (lg_sl ([.ref h0]) ++ List.replicate (1 - (lg_sl ([.ref h0])).length) Slot.unset).toArray = ls at hl ⊢
  have hl : lv_has ls 1 [(0, .ref h0)] := hl
  refine W_genQ (fun Q hQ => ?_)
  refine lv_aload_n hx hb dX9_init_0 rfl (lv_at hl 0 rfl) ?_
  have hPc := hP.sub (ws' := [(h0, .inr (9, [.null, .null, .int 0]))]) [0] rfl
  have hDc := hD.sub (ws' := [(h0, .inr (9, [.null, .null, .int 0]))]) [0] (by decide) rfl
  have hFc := va_free (wc := [(h0, .inr (9, [.null, .null, .int 0]))]) hD hS hA [0] rfl
  refine va_callv (va_runIN (As := []) (rest := []) ⟨hx, hb, hml, hown, hg⟩ (i_X3_9 l D cs h0 _) ⟨va_cnB 0 hg (gw_I kw_695) rfl rfl rfl (hN.1 (RX9, 3, yX3_init) (by decide +kernel)) (hg _ kw_151) (by decide +kernel) ⟨(Nat.le_of_ble_eq_true rfl), (Nat.le_of_ble_eq_true rfl)⟩, rfl, hg _ kw_696⟩ (pr_C hK hPc hDc hN) rfl rfl hl.1 rfl (lv_room (Nat.le_of_ble_eq_true rfl)) dX9_init_1 ⟨(Nat.le_of_ble_eq_true rfl), (Nat.le_of_ble_eq_true rfl)⟩) hS (fun q _ h => hFc q h) hFc (fun u t H1 locs ht hvm h_1 hB hz1 hk1 hS => ?_)
  obtain ⟨nq2_1, fq2_1, hP1, hD1⟩ := hB
  rw [ht] at hP1
  obtain ⟨hP, hD⟩ := va_join (wr := []) (w1 := [(h0, .inr (9, [.ref nq2_1, .null, .int 0])), (nq2_1, .inl (cs 0, 4, .inl fq2_1))]) hP hD [0] [] rfl rfl (by decide) (by decide) hk1 hFc hP1 hD1
  generalize H1 = H at hP hS ⊢
  have hP : va_P D vwCl [(h0, .inr (9, [.ref nq2_1, .null, .int 0])), (nq2_1, .inl (cs 0, 4, .inl fq2_1))] H := hP
  have hD : va_D A [(h0, .inr (9, [.ref nq2_1, .null, .int 0])), (nq2_1, .inl (cs 0, 4, .inl fq2_1))] := hD
  refine W.cs (cells' := 1) (slots' := 4) rfl rfl ?_
  refine W_sQ hQ ?_
  refine W.widen (k := 1) (n := 4) (Nat.le_of_ble_eq_true rfl) (Nat.le_of_ble_eq_true rfl) ?_
  have hP9 := hP.sub (ws' := [(h0, .inr (9, [.ref nq2_1, .null, .int 0])), (nq2_1, .inl (cs 0, 4, .inl fq2_1))]) [0, 1] rfl
  have hD9 := hD.sub (ws' := [(h0, .inr (9, [.ref nq2_1, .null, .int 0])), (nq2_1, .inl (cs 0, 4, .inl fq2_1))]) [0, 1] (by decide) rfl
  exact W.vret hx hb hr (fun t ht hW => ⟨⟨(), rfl, trivial, ⟨nq2_1, fq2_1, by rw [ht]; exact hP9, hD9⟩⟩, hS.F ht⟩) hS.2.2 dX9_init_4

set_option maxHeartbeats 4000000 in
set_option maxRecDepth 100000 in
theorem i_X9_1 (l : Launch) (D : va_G) (cs : Nat → ClassId) (h0 : Nat) (sz : Nat) : Met l yX9_init (Cond.code yX9_init cX9_init 1 none :: gw_tbl) ({ frames := 2, cells := 1, slots := 4, locals := 32 }) (pc_C D cs [(h0, .inr (1, [.null, .null, .int 0]))] sz [.ref h0]) (va_Qv (fun (u : Unit) => True) (fun u t => ∃ (nq2 : Nat), ∃ (fq2 : Nat → Int32), va_P D vwCl [(h0, .inr (1, [.ref nq2, .null, .int 0])), (nq2, .inl (cs 0, 4, .inl fq2))] t.heap ∧ va_D (va_A [(h0, .inr (1, [.null, .null, .int 0]))] sz) [(h0, .inr (1, [.ref nq2, .null, .int 0])), (nq2, .inl (cs 0, 4, .inl fq2))]) (va_A [(h0, .inr (1, [.null, .null, .int 0]))] sz)) 1 4 (va_A [(h0, .inr (1, [.null, .null, .int 0]))] sz) := by
  refine Met.ofW (cc := cX9_init) (maxL := 1) (ret := none) (by decide) rfl ?_
  intro p e s m args below meth c s₁ B hml hv
  obtain ⟨hargs, hsz, hP, hK, hD0, hN⟩ := hv
  have hx := B.exec
  have hb := B.bytes
  have hr := B.returns
  have hts := atoms_spec (ws := Cond.code yX9_init cX9_init 1 none :: gw_tbl) B.pre
  have hg := fun (w : Cond) (h : w ∈ gw_tbl) => hts w (List.mem_cons_of_mem _ h)
  have hown : s.vm.findClass RX9 = some m.cls := findClass_of_methodNamed B.named
  have hlocks := B.notSynchronized
  have hin : meth.name = "<init>" := (name_of_methodNamed B.named B.method).1
  subst hsz
  have hD := hD0.self (sz := s.heap.size)
  generalize hAe : va_A [(h0, .inr (1, [.null, .null, .int 0]))] s.heap.size = A at hD ⊢
  have hA : ∀ q : Nat, s.heap.size ≤ q → A q := fun q h => by rw [← hAe]; exact Or.inr h
  have hS : va_S A s.heap s.heap [] := va_S.rf
  have hP : va_P D vwCl [(h0, .inr (1, [.null, .null, .int 0]))] s.heap := hP
  have hl := lv_entry ([.ref h0]) (n := 1) (Nat.le_of_ble_eq_true rfl)
  rw [show entryFrame m args 1 = F0 m 0 (lg_sl ([.ref h0]) ++ List.replicate (1 - (lg_sl ([.ref h0])).length) Slot.unset).toArray [] from by rw [hargs]; exact lg_entry_eq ..]
  generalize (lg_sl ([.ref h0]) ++ List.replicate (1 - (lg_sl ([.ref h0])).length) Slot.unset).toArray = ls at hl ⊢
  have hl : lv_has ls 1 [(0, .ref h0)] := hl
  refine W_genQ (fun Q hQ => ?_)
  refine lv_aload_n hx hb dX9_init_0 rfl (lv_at hl 0 rfl) ?_
  have hPc := hP.sub (ws' := [(h0, .inr (1, [.null, .null, .int 0]))]) [0] rfl
  have hDc := hD.sub (ws' := [(h0, .inr (1, [.null, .null, .int 0]))]) [0] (by decide) rfl
  have hFc := va_free (wc := [(h0, .inr (1, [.null, .null, .int 0]))]) hD hS hA [0] rfl
  refine va_callv (va_runIN (As := []) (rest := []) ⟨hx, hb, hml, hown, hg⟩ (i_X3_1 l D cs h0 _) ⟨va_cnB 0 hg (gw_I kw_695) rfl rfl rfl (hN.1 (RX9, 3, yX3_init) (by decide +kernel)) (hg _ kw_151) (by decide +kernel) ⟨(Nat.le_of_ble_eq_true rfl), (Nat.le_of_ble_eq_true rfl)⟩, rfl, hg _ kw_696⟩ (pr_C hK hPc hDc hN) rfl rfl hl.1 rfl (lv_room (Nat.le_of_ble_eq_true rfl)) dX9_init_1 ⟨(Nat.le_of_ble_eq_true rfl), (Nat.le_of_ble_eq_true rfl)⟩) hS (fun q _ h => hFc q h) hFc (fun u t H1 locs ht hvm h_1 hB hz1 hk1 hS => ?_)
  obtain ⟨nq2_1, fq2_1, hP1, hD1⟩ := hB
  rw [ht] at hP1
  obtain ⟨hP, hD⟩ := va_join (wr := []) (w1 := [(h0, .inr (1, [.ref nq2_1, .null, .int 0])), (nq2_1, .inl (cs 0, 4, .inl fq2_1))]) hP hD [0] [] rfl rfl (by decide) (by decide) hk1 hFc hP1 hD1
  generalize H1 = H at hP hS ⊢
  have hP : va_P D vwCl [(h0, .inr (1, [.ref nq2_1, .null, .int 0])), (nq2_1, .inl (cs 0, 4, .inl fq2_1))] H := hP
  have hD : va_D A [(h0, .inr (1, [.ref nq2_1, .null, .int 0])), (nq2_1, .inl (cs 0, 4, .inl fq2_1))] := hD
  refine W.cs (cells' := 1) (slots' := 4) rfl rfl ?_
  refine W_sQ hQ ?_
  refine W.widen (k := 1) (n := 4) (Nat.le_of_ble_eq_true rfl) (Nat.le_of_ble_eq_true rfl) ?_
  have hP9 := hP.sub (ws' := [(h0, .inr (1, [.ref nq2_1, .null, .int 0])), (nq2_1, .inl (cs 0, 4, .inl fq2_1))]) [0, 1] rfl
  have hD9 := hD.sub (ws' := [(h0, .inr (1, [.ref nq2_1, .null, .int 0])), (nq2_1, .inl (cs 0, 4, .inl fq2_1))]) [0, 1] (by decide) rfl
  exact W.vret hx hb hr (fun t ht hW => ⟨⟨(), rfl, trivial, ⟨nq2_1, fq2_1, by rw [ht]; exact hP9, hD9⟩⟩, hS.F ht⟩) hS.2.2 dX9_init_4

theorem dX10_init_0 : decode cX10_init 0 = .ok (.aload_n 0, 1) := by decide +kernel
theorem dX10_init_1 : decode cX10_init 1 = .ok (.invokespecial 3, 3) := by decide +kernel
theorem dX10_init_4 : decode cX10_init 4 = .ok (.return_, 1) := by decide +kernel

set_option maxHeartbeats 4000000 in
set_option maxRecDepth 100000 in
theorem i_X10_10 (l : Launch) (D : va_G) (cs : Nat → ClassId) (h0 : Nat) (sz : Nat) : Met l yX10_init (Cond.code yX10_init cX10_init 1 none :: gw_tbl) ({ frames := 2, cells := 1, slots := 4, locals := 32 }) (pc_C D cs [(h0, .inr (10, [.null, .null, .int 0]))] sz [.ref h0]) (va_Qv (fun (u : Unit) => True) (fun u t => ∃ (nq2 : Nat), ∃ (fq2 : Nat → Int32), va_P D vwCl [(h0, .inr (10, [.ref nq2, .null, .int 0])), (nq2, .inl (cs 0, 4, .inl fq2))] t.heap ∧ va_D (va_A [(h0, .inr (10, [.null, .null, .int 0]))] sz) [(h0, .inr (10, [.ref nq2, .null, .int 0])), (nq2, .inl (cs 0, 4, .inl fq2))]) (va_A [(h0, .inr (10, [.null, .null, .int 0]))] sz)) 1 4 (va_A [(h0, .inr (10, [.null, .null, .int 0]))] sz) := by
  refine Met.ofW (cc := cX10_init) (maxL := 1) (ret := none) (by decide) rfl ?_
  intro p e s m args below meth c s₁ B hml hv
  obtain ⟨hargs, hsz, hP, hK, hD0, hN⟩ := hv
  have hx := B.exec
  have hb := B.bytes
  have hr := B.returns
  have hts := atoms_spec (ws := Cond.code yX10_init cX10_init 1 none :: gw_tbl) B.pre
  have hg := fun (w : Cond) (h : w ∈ gw_tbl) => hts w (List.mem_cons_of_mem _ h)
  have hown : s.vm.findClass RX10 = some m.cls := findClass_of_methodNamed B.named
  have hlocks := B.notSynchronized
  have hin : meth.name = "<init>" := (name_of_methodNamed B.named B.method).1
  subst hsz
  have hD := hD0.self (sz := s.heap.size)
  generalize hAe : va_A [(h0, .inr (10, [.null, .null, .int 0]))] s.heap.size = A at hD ⊢
  have hA : ∀ q : Nat, s.heap.size ≤ q → A q := fun q h => by rw [← hAe]; exact Or.inr h
  have hS : va_S A s.heap s.heap [] := va_S.rf
  have hP : va_P D vwCl [(h0, .inr (10, [.null, .null, .int 0]))] s.heap := hP
  have hl := lv_entry ([.ref h0]) (n := 1) (Nat.le_of_ble_eq_true rfl)
  rw [show entryFrame m args 1 = F0 m 0 (lg_sl ([.ref h0]) ++ List.replicate (1 - (lg_sl ([.ref h0])).length) Slot.unset).toArray [] from by rw [hargs]; exact lg_entry_eq ..]
  generalize (lg_sl ([.ref h0]) ++ List.replicate (1 - (lg_sl ([.ref h0])).length) Slot.unset).toArray = ls at hl ⊢
  have hl : lv_has ls 1 [(0, .ref h0)] := hl
  refine W_genQ (fun Q hQ => ?_)
  refine lv_aload_n hx hb dX10_init_0 rfl (lv_at hl 0 rfl) ?_
  have hPc := hP.sub (ws' := [(h0, .inr (10, [.null, .null, .int 0]))]) [0] rfl
  have hDc := hD.sub (ws' := [(h0, .inr (10, [.null, .null, .int 0]))]) [0] (by decide) rfl
  have hFc := va_free (wc := [(h0, .inr (10, [.null, .null, .int 0]))]) hD hS hA [0] rfl
  refine va_callv (va_runIN (As := []) (rest := []) ⟨hx, hb, hml, hown, hg⟩ (i_X3_10 l D cs h0 _) ⟨va_cnB 0 hg (gw_I kw_695) rfl rfl rfl (hN.1 (RX10, 3, yX3_init) (by decide +kernel)) (hg _ kw_151) (by decide +kernel) ⟨(Nat.le_of_ble_eq_true rfl), (Nat.le_of_ble_eq_true rfl)⟩, rfl, hg _ kw_696⟩ (pr_C hK hPc hDc hN) rfl rfl hl.1 rfl (lv_room (Nat.le_of_ble_eq_true rfl)) dX10_init_1 ⟨(Nat.le_of_ble_eq_true rfl), (Nat.le_of_ble_eq_true rfl)⟩) hS (fun q _ h => hFc q h) hFc (fun u t H1 locs ht hvm h_1 hB hz1 hk1 hS => ?_)
  obtain ⟨nq2_1, fq2_1, hP1, hD1⟩ := hB
  rw [ht] at hP1
  obtain ⟨hP, hD⟩ := va_join (wr := []) (w1 := [(h0, .inr (10, [.ref nq2_1, .null, .int 0])), (nq2_1, .inl (cs 0, 4, .inl fq2_1))]) hP hD [0] [] rfl rfl (by decide) (by decide) hk1 hFc hP1 hD1
  generalize H1 = H at hP hS ⊢
  have hP : va_P D vwCl [(h0, .inr (10, [.ref nq2_1, .null, .int 0])), (nq2_1, .inl (cs 0, 4, .inl fq2_1))] H := hP
  have hD : va_D A [(h0, .inr (10, [.ref nq2_1, .null, .int 0])), (nq2_1, .inl (cs 0, 4, .inl fq2_1))] := hD
  refine W.cs (cells' := 1) (slots' := 4) rfl rfl ?_
  refine W_sQ hQ ?_
  refine W.widen (k := 1) (n := 4) (Nat.le_of_ble_eq_true rfl) (Nat.le_of_ble_eq_true rfl) ?_
  have hP9 := hP.sub (ws' := [(h0, .inr (10, [.ref nq2_1, .null, .int 0])), (nq2_1, .inl (cs 0, 4, .inl fq2_1))]) [0, 1] rfl
  have hD9 := hD.sub (ws' := [(h0, .inr (10, [.ref nq2_1, .null, .int 0])), (nq2_1, .inl (cs 0, 4, .inl fq2_1))]) [0, 1] (by decide) rfl
  exact W.vret hx hb hr (fun t ht hW => ⟨⟨(), rfl, trivial, ⟨nq2_1, fq2_1, by rw [ht]; exact hP9, hD9⟩⟩, hS.F ht⟩) hS.2.2 dX10_init_4

set_option maxHeartbeats 4000000 in
set_option maxRecDepth 100000 in
theorem i_X10_6 (l : Launch) (D : va_G) (cs : Nat → ClassId) (h0 : Nat) (sz : Nat) : Met l yX10_init (Cond.code yX10_init cX10_init 1 none :: gw_tbl) ({ frames := 2, cells := 1, slots := 4, locals := 32 }) (pc_C D cs [(h0, .inr (6, [.null, .null, .int 0]))] sz [.ref h0]) (va_Qv (fun (u : Unit) => True) (fun u t => ∃ (nq2 : Nat), ∃ (fq2 : Nat → Int32), va_P D vwCl [(h0, .inr (6, [.ref nq2, .null, .int 0])), (nq2, .inl (cs 0, 4, .inl fq2))] t.heap ∧ va_D (va_A [(h0, .inr (6, [.null, .null, .int 0]))] sz) [(h0, .inr (6, [.ref nq2, .null, .int 0])), (nq2, .inl (cs 0, 4, .inl fq2))]) (va_A [(h0, .inr (6, [.null, .null, .int 0]))] sz)) 1 4 (va_A [(h0, .inr (6, [.null, .null, .int 0]))] sz) := by
  refine Met.ofW (cc := cX10_init) (maxL := 1) (ret := none) (by decide) rfl ?_
  intro p e s m args below meth c s₁ B hml hv
  obtain ⟨hargs, hsz, hP, hK, hD0, hN⟩ := hv
  have hx := B.exec
  have hb := B.bytes
  have hr := B.returns
  have hts := atoms_spec (ws := Cond.code yX10_init cX10_init 1 none :: gw_tbl) B.pre
  have hg := fun (w : Cond) (h : w ∈ gw_tbl) => hts w (List.mem_cons_of_mem _ h)
  have hown : s.vm.findClass RX10 = some m.cls := findClass_of_methodNamed B.named
  have hlocks := B.notSynchronized
  have hin : meth.name = "<init>" := (name_of_methodNamed B.named B.method).1
  subst hsz
  have hD := hD0.self (sz := s.heap.size)
  generalize hAe : va_A [(h0, .inr (6, [.null, .null, .int 0]))] s.heap.size = A at hD ⊢
  have hA : ∀ q : Nat, s.heap.size ≤ q → A q := fun q h => by rw [← hAe]; exact Or.inr h
  have hS : va_S A s.heap s.heap [] := va_S.rf
  have hP : va_P D vwCl [(h0, .inr (6, [.null, .null, .int 0]))] s.heap := hP
  have hl := lv_entry ([.ref h0]) (n := 1) (Nat.le_of_ble_eq_true rfl)
  rw [show entryFrame m args 1 = F0 m 0 (lg_sl ([.ref h0]) ++ List.replicate (1 - (lg_sl ([.ref h0])).length) Slot.unset).toArray [] from by rw [hargs]; exact lg_entry_eq ..]
  generalize (lg_sl ([.ref h0]) ++ List.replicate (1 - (lg_sl ([.ref h0])).length) Slot.unset).toArray = ls at hl ⊢
  have hl : lv_has ls 1 [(0, .ref h0)] := hl
  refine W_genQ (fun Q hQ => ?_)
  refine lv_aload_n hx hb dX10_init_0 rfl (lv_at hl 0 rfl) ?_
  have hPc := hP.sub (ws' := [(h0, .inr (6, [.null, .null, .int 0]))]) [0] rfl
  have hDc := hD.sub (ws' := [(h0, .inr (6, [.null, .null, .int 0]))]) [0] (by decide) rfl
  have hFc := va_free (wc := [(h0, .inr (6, [.null, .null, .int 0]))]) hD hS hA [0] rfl
  refine va_callv (va_runIN (As := []) (rest := []) ⟨hx, hb, hml, hown, hg⟩ (i_X3_6 l D cs h0 _) ⟨va_cnB 0 hg (gw_I kw_695) rfl rfl rfl (hN.1 (RX10, 3, yX3_init) (by decide +kernel)) (hg _ kw_151) (by decide +kernel) ⟨(Nat.le_of_ble_eq_true rfl), (Nat.le_of_ble_eq_true rfl)⟩, rfl, hg _ kw_696⟩ (pr_C hK hPc hDc hN) rfl rfl hl.1 rfl (lv_room (Nat.le_of_ble_eq_true rfl)) dX10_init_1 ⟨(Nat.le_of_ble_eq_true rfl), (Nat.le_of_ble_eq_true rfl)⟩) hS (fun q _ h => hFc q h) hFc (fun u t H1 locs ht hvm h_1 hB hz1 hk1 hS => ?_)
  obtain ⟨nq2_1, fq2_1, hP1, hD1⟩ := hB
  rw [ht] at hP1
  obtain ⟨hP, hD⟩ := va_join (wr := []) (w1 := [(h0, .inr (6, [.ref nq2_1, .null, .int 0])), (nq2_1, .inl (cs 0, 4, .inl fq2_1))]) hP hD [0] [] rfl rfl (by decide) (by decide) hk1 hFc hP1 hD1
  generalize H1 = H at hP hS ⊢
  have hP : va_P D vwCl [(h0, .inr (6, [.ref nq2_1, .null, .int 0])), (nq2_1, .inl (cs 0, 4, .inl fq2_1))] H := hP
  have hD : va_D A [(h0, .inr (6, [.ref nq2_1, .null, .int 0])), (nq2_1, .inl (cs 0, 4, .inl fq2_1))] := hD
  refine W.cs (cells' := 1) (slots' := 4) rfl rfl ?_
  refine W_sQ hQ ?_
  refine W.widen (k := 1) (n := 4) (Nat.le_of_ble_eq_true rfl) (Nat.le_of_ble_eq_true rfl) ?_
  have hP9 := hP.sub (ws' := [(h0, .inr (6, [.ref nq2_1, .null, .int 0])), (nq2_1, .inl (cs 0, 4, .inl fq2_1))]) [0, 1] rfl
  have hD9 := hD.sub (ws' := [(h0, .inr (6, [.ref nq2_1, .null, .int 0])), (nq2_1, .inl (cs 0, 4, .inl fq2_1))]) [0, 1] (by decide) rfl
  exact W.vret hx hb hr (fun t ht hW => ⟨⟨(), rfl, trivial, ⟨nq2_1, fq2_1, by rw [ht]; exact hP9, hD9⟩⟩, hS.F ht⟩) hS.2.2 dX10_init_4

theorem dX1_init_0 : decode cX1_init 0 = .ok (.aload_n 0, 1) := by decide +kernel
theorem dX1_init_1 : decode cX1_init 1 = .ok (.invokespecial 3, 3) := by decide +kernel
theorem dX1_init_4 : decode cX1_init 4 = .ok (.return_, 1) := by decide +kernel
theorem kw_697 : (.code yX9_init cX9_init 1 none : Cond) ∈ gw_tbl := gw_in (by decide +kernel) (by decide +kernel)
theorem kw_698 : (.instanceMethod yX9_init : Cond) ∈ gw_tbl := gw_in (by decide +kernel) (by decide +kernel)

set_option maxHeartbeats 4000000 in
set_option maxRecDepth 100000 in
theorem i_X1_1 (l : Launch) (D : va_G) (cs : Nat → ClassId) (h0 : Nat) (sz : Nat) : Met l yX1_init (Cond.code yX1_init cX1_init 1 none :: gw_tbl) ({ frames := 3, cells := 1, slots := 4, locals := 52 }) (pc_C D cs [(h0, .inr (1, [.null, .null, .int 0]))] sz [.ref h0]) (va_Qv (fun (u : Unit) => True) (fun u t => ∃ (nq2 : Nat), ∃ (fq2 : Nat → Int32), va_P D vwCl [(h0, .inr (1, [.ref nq2, .null, .int 0])), (nq2, .inl (cs 0, 4, .inl fq2))] t.heap ∧ va_D (va_A [(h0, .inr (1, [.null, .null, .int 0]))] sz) [(h0, .inr (1, [.ref nq2, .null, .int 0])), (nq2, .inl (cs 0, 4, .inl fq2))]) (va_A [(h0, .inr (1, [.null, .null, .int 0]))] sz)) 1 4 (va_A [(h0, .inr (1, [.null, .null, .int 0]))] sz) := by
  refine Met.ofW (cc := cX1_init) (maxL := 1) (ret := none) (by decide) rfl ?_
  intro p e s m args below meth c s₁ B hml hv
  obtain ⟨hargs, hsz, hP, hK, hD0, hN⟩ := hv
  have hx := B.exec
  have hb := B.bytes
  have hr := B.returns
  have hts := atoms_spec (ws := Cond.code yX1_init cX1_init 1 none :: gw_tbl) B.pre
  have hg := fun (w : Cond) (h : w ∈ gw_tbl) => hts w (List.mem_cons_of_mem _ h)
  have hown : s.vm.findClass RX1 = some m.cls := findClass_of_methodNamed B.named
  have hlocks := B.notSynchronized
  have hin : meth.name = "<init>" := (name_of_methodNamed B.named B.method).1
  subst hsz
  have hD := hD0.self (sz := s.heap.size)
  generalize hAe : va_A [(h0, .inr (1, [.null, .null, .int 0]))] s.heap.size = A at hD ⊢
  have hA : ∀ q : Nat, s.heap.size ≤ q → A q := fun q h => by rw [← hAe]; exact Or.inr h
  have hS : va_S A s.heap s.heap [] := va_S.rf
  have hP : va_P D vwCl [(h0, .inr (1, [.null, .null, .int 0]))] s.heap := hP
  have hl := lv_entry ([.ref h0]) (n := 1) (Nat.le_of_ble_eq_true rfl)
  rw [show entryFrame m args 1 = F0 m 0 (lg_sl ([.ref h0]) ++ List.replicate (1 - (lg_sl ([.ref h0])).length) Slot.unset).toArray [] from by rw [hargs]; exact lg_entry_eq ..]
  generalize (lg_sl ([.ref h0]) ++ List.replicate (1 - (lg_sl ([.ref h0])).length) Slot.unset).toArray = ls at hl ⊢
  have hl : lv_has ls 1 [(0, .ref h0)] := hl
  refine W_genQ (fun Q hQ => ?_)
  refine lv_aload_n hx hb dX1_init_0 rfl (lv_at hl 0 rfl) ?_
  have hPc := hP.sub (ws' := [(h0, .inr (1, [.null, .null, .int 0]))]) [0] rfl
  have hDc := hD.sub (ws' := [(h0, .inr (1, [.null, .null, .int 0]))]) [0] (by decide) rfl
  have hFc := va_free (wc := [(h0, .inr (1, [.null, .null, .int 0]))]) hD hS hA [0] rfl
  refine va_callv (va_runIN (As := []) (rest := []) ⟨hx, hb, hml, hown, hg⟩ (i_X9_1 l D cs h0 _) ⟨va_cnB 0 hg (gw_I kw_697) rfl rfl rfl (hN.1 (RX1, 3, yX9_init) (by decide +kernel)) (hg _ kw_164) (by decide +kernel) ⟨(Nat.le_of_ble_eq_true rfl), (Nat.le_of_ble_eq_true rfl)⟩, rfl, hg _ kw_698⟩ (pr_C hK hPc hDc hN) rfl rfl hl.1 rfl (lv_room (Nat.le_of_ble_eq_true rfl)) dX1_init_1 ⟨(Nat.le_of_ble_eq_true rfl), (Nat.le_of_ble_eq_true rfl)⟩) hS (fun q _ h => hFc q h) hFc (fun u t H1 locs ht hvm h_1 hB hz1 hk1 hS => ?_)
  obtain ⟨nq2_1, fq2_1, hP1, hD1⟩ := hB
  rw [ht] at hP1
  obtain ⟨hP, hD⟩ := va_join (wr := []) (w1 := [(h0, .inr (1, [.ref nq2_1, .null, .int 0])), (nq2_1, .inl (cs 0, 4, .inl fq2_1))]) hP hD [0] [] rfl rfl (by decide) (by decide) hk1 hFc hP1 hD1
  generalize H1 = H at hP hS ⊢
  have hP : va_P D vwCl [(h0, .inr (1, [.ref nq2_1, .null, .int 0])), (nq2_1, .inl (cs 0, 4, .inl fq2_1))] H := hP
  have hD : va_D A [(h0, .inr (1, [.ref nq2_1, .null, .int 0])), (nq2_1, .inl (cs 0, 4, .inl fq2_1))] := hD
  refine W.cs (cells' := 1) (slots' := 4) rfl rfl ?_
  refine W_sQ hQ ?_
  refine W.widen (k := 1) (n := 4) (Nat.le_of_ble_eq_true rfl) (Nat.le_of_ble_eq_true rfl) ?_
  have hP9 := hP.sub (ws' := [(h0, .inr (1, [.ref nq2_1, .null, .int 0])), (nq2_1, .inl (cs 0, 4, .inl fq2_1))]) [0, 1] rfl
  have hD9 := hD.sub (ws' := [(h0, .inr (1, [.ref nq2_1, .null, .int 0])), (nq2_1, .inl (cs 0, 4, .inl fq2_1))]) [0, 1] (by decide) rfl
  exact W.vret hx hb hr (fun t ht hW => ⟨⟨(), rfl, trivial, ⟨nq2_1, fq2_1, by rw [ht]; exact hP9, hD9⟩⟩, hS.F ht⟩) hS.2.2 dX1_init_4

theorem dX6_init_0 : decode cX6_init 0 = .ok (.aload_n 0, 1) := by decide +kernel
theorem dX6_init_1 : decode cX6_init 1 = .ok (.invokespecial 3, 3) := by decide +kernel
theorem dX6_init_4 : decode cX6_init 4 = .ok (.return_, 1) := by decide +kernel
theorem kw_699 : (.code yX10_init cX10_init 1 none : Cond) ∈ gw_tbl := gw_in (by decide +kernel) (by decide +kernel)
theorem kw_700 : (.instanceMethod yX10_init : Cond) ∈ gw_tbl := gw_in (by decide +kernel) (by decide +kernel)

set_option maxHeartbeats 4000000 in
set_option maxRecDepth 100000 in
theorem i_X6_6 (l : Launch) (D : va_G) (cs : Nat → ClassId) (h0 : Nat) (sz : Nat) : Met l yX6_init (Cond.code yX6_init cX6_init 1 none :: gw_tbl) ({ frames := 3, cells := 1, slots := 4, locals := 52 }) (pc_C D cs [(h0, .inr (6, [.null, .null, .int 0]))] sz [.ref h0]) (va_Qv (fun (u : Unit) => True) (fun u t => ∃ (nq2 : Nat), ∃ (fq2 : Nat → Int32), va_P D vwCl [(h0, .inr (6, [.ref nq2, .null, .int 0])), (nq2, .inl (cs 0, 4, .inl fq2))] t.heap ∧ va_D (va_A [(h0, .inr (6, [.null, .null, .int 0]))] sz) [(h0, .inr (6, [.ref nq2, .null, .int 0])), (nq2, .inl (cs 0, 4, .inl fq2))]) (va_A [(h0, .inr (6, [.null, .null, .int 0]))] sz)) 1 4 (va_A [(h0, .inr (6, [.null, .null, .int 0]))] sz) := by
  refine Met.ofW (cc := cX6_init) (maxL := 1) (ret := none) (by decide) rfl ?_
  intro p e s m args below meth c s₁ B hml hv
  obtain ⟨hargs, hsz, hP, hK, hD0, hN⟩ := hv
  have hx := B.exec
  have hb := B.bytes
  have hr := B.returns
  have hts := atoms_spec (ws := Cond.code yX6_init cX6_init 1 none :: gw_tbl) B.pre
  have hg := fun (w : Cond) (h : w ∈ gw_tbl) => hts w (List.mem_cons_of_mem _ h)
  have hown : s.vm.findClass RX6 = some m.cls := findClass_of_methodNamed B.named
  have hlocks := B.notSynchronized
  have hin : meth.name = "<init>" := (name_of_methodNamed B.named B.method).1
  subst hsz
  have hD := hD0.self (sz := s.heap.size)
  generalize hAe : va_A [(h0, .inr (6, [.null, .null, .int 0]))] s.heap.size = A at hD ⊢
  have hA : ∀ q : Nat, s.heap.size ≤ q → A q := fun q h => by rw [← hAe]; exact Or.inr h
  have hS : va_S A s.heap s.heap [] := va_S.rf
  have hP : va_P D vwCl [(h0, .inr (6, [.null, .null, .int 0]))] s.heap := hP
  have hl := lv_entry ([.ref h0]) (n := 1) (Nat.le_of_ble_eq_true rfl)
  rw [show entryFrame m args 1 = F0 m 0 (lg_sl ([.ref h0]) ++ List.replicate (1 - (lg_sl ([.ref h0])).length) Slot.unset).toArray [] from by rw [hargs]; exact lg_entry_eq ..]
  generalize (lg_sl ([.ref h0]) ++ List.replicate (1 - (lg_sl ([.ref h0])).length) Slot.unset).toArray = ls at hl ⊢
  have hl : lv_has ls 1 [(0, .ref h0)] := hl
  refine W_genQ (fun Q hQ => ?_)
  refine lv_aload_n hx hb dX6_init_0 rfl (lv_at hl 0 rfl) ?_
  have hPc := hP.sub (ws' := [(h0, .inr (6, [.null, .null, .int 0]))]) [0] rfl
  have hDc := hD.sub (ws' := [(h0, .inr (6, [.null, .null, .int 0]))]) [0] (by decide) rfl
  have hFc := va_free (wc := [(h0, .inr (6, [.null, .null, .int 0]))]) hD hS hA [0] rfl
  refine va_callv (va_runIN (As := []) (rest := []) ⟨hx, hb, hml, hown, hg⟩ (i_X10_6 l D cs h0 _) ⟨va_cnB 0 hg (gw_I kw_699) rfl rfl rfl (hN.1 (RX6, 3, yX10_init) (by decide +kernel)) (hg _ kw_134) (by decide +kernel) ⟨(Nat.le_of_ble_eq_true rfl), (Nat.le_of_ble_eq_true rfl)⟩, rfl, hg _ kw_700⟩ (pr_C hK hPc hDc hN) rfl rfl hl.1 rfl (lv_room (Nat.le_of_ble_eq_true rfl)) dX6_init_1 ⟨(Nat.le_of_ble_eq_true rfl), (Nat.le_of_ble_eq_true rfl)⟩) hS (fun q _ h => hFc q h) hFc (fun u t H1 locs ht hvm h_1 hB hz1 hk1 hS => ?_)
  obtain ⟨nq2_1, fq2_1, hP1, hD1⟩ := hB
  rw [ht] at hP1
  obtain ⟨hP, hD⟩ := va_join (wr := []) (w1 := [(h0, .inr (6, [.ref nq2_1, .null, .int 0])), (nq2_1, .inl (cs 0, 4, .inl fq2_1))]) hP hD [0] [] rfl rfl (by decide) (by decide) hk1 hFc hP1 hD1
  generalize H1 = H at hP hS ⊢
  have hP : va_P D vwCl [(h0, .inr (6, [.ref nq2_1, .null, .int 0])), (nq2_1, .inl (cs 0, 4, .inl fq2_1))] H := hP
  have hD : va_D A [(h0, .inr (6, [.ref nq2_1, .null, .int 0])), (nq2_1, .inl (cs 0, 4, .inl fq2_1))] := hD
  refine W.cs (cells' := 1) (slots' := 4) rfl rfl ?_
  refine W_sQ hQ ?_
  refine W.widen (k := 1) (n := 4) (Nat.le_of_ble_eq_true rfl) (Nat.le_of_ble_eq_true rfl) ?_
  have hP9 := hP.sub (ws' := [(h0, .inr (6, [.ref nq2_1, .null, .int 0])), (nq2_1, .inl (cs 0, 4, .inl fq2_1))]) [0, 1] rfl
  have hD9 := hD.sub (ws' := [(h0, .inr (6, [.ref nq2_1, .null, .int 0])), (nq2_1, .inl (cs 0, 4, .inl fq2_1))]) [0, 1] (by decide) rfl
  exact W.vret hx hb hr (fun t ht hW => ⟨⟨(), rfl, trivial, ⟨nq2_1, fq2_1, by rw [ht]; exact hP9, hD9⟩⟩, hS.F ht⟩) hS.2.2 dX6_init_4

theorem dX11_madeOf_0 : decode cX11_madeOf 0 = .ok (.iload_n 0, 1) := by decide +kernel
theorem dX11_madeOf_1 : decode cX11_madeOf 1 = .ok (.tableswitch 63 1 4 #[31, 39, 47, 55], 31) := by decide +kernel
theorem dX11_madeOf_32 : decode cX11_madeOf 32 = .ok (.new 334, 3) := by decide +kernel
theorem dX11_madeOf_35 : decode cX11_madeOf 35 = .ok (.dup, 1) := by decide +kernel
theorem dX11_madeOf_36 : decode cX11_madeOf 36 = .ok (.invokespecial 336, 3) := by decide +kernel
theorem dX11_madeOf_39 : decode cX11_madeOf 39 = .ok (.areturn, 1) := by decide +kernel
theorem dX11_madeOf_40 : decode cX11_madeOf 40 = .ok (.new 337, 3) := by decide +kernel
theorem dX11_madeOf_43 : decode cX11_madeOf 43 = .ok (.dup, 1) := by decide +kernel
theorem dX11_madeOf_44 : decode cX11_madeOf 44 = .ok (.invokespecial 339, 3) := by decide +kernel
theorem dX11_madeOf_47 : decode cX11_madeOf 47 = .ok (.areturn, 1) := by decide +kernel
theorem dX11_madeOf_48 : decode cX11_madeOf 48 = .ok (.new 340, 3) := by decide +kernel
theorem dX11_madeOf_51 : decode cX11_madeOf 51 = .ok (.dup, 1) := by decide +kernel
theorem dX11_madeOf_52 : decode cX11_madeOf 52 = .ok (.invokespecial 342, 3) := by decide +kernel
theorem dX11_madeOf_55 : decode cX11_madeOf 55 = .ok (.areturn, 1) := by decide +kernel
theorem dX11_madeOf_56 : decode cX11_madeOf 56 = .ok (.new 343, 3) := by decide +kernel
theorem dX11_madeOf_59 : decode cX11_madeOf 59 = .ok (.dup, 1) := by decide +kernel
theorem dX11_madeOf_60 : decode cX11_madeOf 60 = .ok (.invokespecial 345, 3) := by decide +kernel
theorem dX11_madeOf_63 : decode cX11_madeOf 63 = .ok (.areturn, 1) := by decide +kernel
theorem dX11_madeOf_64 : decode cX11_madeOf 64 = .ok (.new 30, 3) := by decide +kernel
theorem dX11_madeOf_67 : decode cX11_madeOf 67 = .ok (.dup, 1) := by decide +kernel
theorem dX11_madeOf_68 : decode cX11_madeOf 68 = .ok (.invokespecial 346, 3) := by decide +kernel
theorem dX11_madeOf_71 : decode cX11_madeOf 71 = .ok (.areturn, 1) := by decide +kernel
theorem kw_701 : (.classLink RX11 30 RX3 : Cond) ∈ gw_tbl := gw_in (by decide +kernel) (by decide +kernel)
theorem kw_702 : (.instantiable RX3 3 : Cond) ∈ gw_tbl := gw_in (by decide +kernel) (by decide +kernel)

set_option maxHeartbeats 4000000 in
set_option maxRecDepth 100000 in
theorem x_madeOf_0 (l : Launch) (D : va_G) (cs : Nat → ClassId) (sz : Nat) : Met l yX11_madeOf (Cond.code yX11_madeOf cX11_madeOf 1 (some (.object "NobodyChecks$Pay")) :: gw_tbl) ({ frames := 2, cells := 2, slots := 7, locals := 32 }) (pc_C D cs [] sz [.int 0]) (va_Qr (fun (u : Unit) => True) (fun u ra t => ∃ (nq2 : Nat), ∃ (fq2 : Nat → Int32), va_P D vwCl [(ra, .inr (3, [.ref nq2, .null, .int 0])), (nq2, .inl (cs 0, 4, .inl fq2))] t.heap ∧ va_D (va_A [] sz) [(ra, .inr (3, [.ref nq2, .null, .int 0])), (nq2, .inl (cs 0, 4, .inl fq2))]) (va_A [] sz)) 2 7 (va_A [] sz) := by
  refine Met.ofW (cc := cX11_madeOf) (maxL := 1) (ret := (some (.object "NobodyChecks$Pay"))) (by decide) rfl ?_
  intro p e s m args below meth c s₁ B hml hv
  obtain ⟨hargs, hsz, hP, hK, hD0, hN⟩ := hv
  have hx := B.exec
  have hb := B.bytes
  have hr := B.returns
  have hts := atoms_spec (ws := Cond.code yX11_madeOf cX11_madeOf 1 (some (.object "NobodyChecks$Pay")) :: gw_tbl) B.pre
  have hg := fun (w : Cond) (h : w ∈ gw_tbl) => hts w (List.mem_cons_of_mem _ h)
  have hown : s.vm.findClass RX11 = some m.cls := findClass_of_methodNamed B.named
  have hlocks := B.notSynchronized
  subst hsz
  have hD := hD0.self (sz := s.heap.size)
  generalize hAe : va_A [] s.heap.size = A at hD ⊢
  have hA : ∀ q : Nat, s.heap.size ≤ q → A q := fun q h => by rw [← hAe]; exact Or.inr h
  have hS : va_S A s.heap s.heap [] := va_S.rf
  have hP : va_P D vwCl [] s.heap := hP
  have hl := lv_entry ([.int 0]) (n := 1) (Nat.le_of_ble_eq_true rfl)
  rw [show entryFrame m args 1 = F0 m 0 (lg_sl ([.int 0]) ++ List.replicate (1 - (lg_sl ([.int 0])).length) Slot.unset).toArray [] from by rw [hargs]; exact lg_entry_eq ..]
  generalize (lg_sl ([.int 0]) ++ List.replicate (1 - (lg_sl ([.int 0])).length) Slot.unset).toArray = ls at hl ⊢
  have hl : lv_has ls 1 [(0, .int 0)] := hl
  refine W_genQ (fun Q hQ => ?_)
  refine lv_iload_n hx hb dX11_madeOf_0 rfl (lv_at hl 0 rfl) ?_
  refine lv_tableOut (tgt := 64) hx hb dX11_madeOf_1 (by decide) (by decide) ?_
  refine va_new (ci := 3) (fs := [.null, .null, .int 0]) (C := RX3) (T := TX3) (N := 3) hx hb hg gwX3 tyX3 tyX3_ok hown (hg _ kw_701) (hg _ kw_702) (hg _ kw_151) hK hP hD hS hA rfl (by decide +kernel) (Nat.le_of_ble_eq_true rfl) (Nat.le_of_ble_eq_true rfl) dX11_madeOf_64 (fun q_64 H hP hD hS => ?_)
  have hP : va_P D vwCl [(q_64, .inr (3, [.null, .null, .int 0]))] H := hP
  have hD : va_D A [(q_64, .inr (3, [.null, .null, .int 0]))] := hD
  refine W.cs (cells' := 1) (slots' := 3) rfl rfl ?_
  refine lv_dup hx hb dX11_madeOf_67 rfl ?_
  have hPc := hP.sub (ws' := [(q_64, .inr (3, [.null, .null, .int 0]))]) [0] rfl
  have hDc := hD.sub (ws' := [(q_64, .inr (3, [.null, .null, .int 0]))]) [0] (by decide) rfl
  have hFc := va_free (wc := [(q_64, .inr (3, [.null, .null, .int 0]))]) hD hS hA [0] rfl
  refine va_callv (va_runIN (As := []) (rest := [.ref q_64]) ⟨hx, hb, hml, hown, hg⟩ (i_X3_3 l D cs q_64 _) ⟨va_cnB 0 hg (gw_I kw_695) rfl rfl rfl (hN.1 (RX11, 346, yX3_init) (by decide +kernel)) (hg _ kw_151) (by decide +kernel) ⟨(Nat.le_of_ble_eq_true rfl), (Nat.le_of_ble_eq_true rfl)⟩, rfl, hg _ kw_696⟩ (pr_C hK hPc hDc hN) rfl rfl hl.1 rfl (lv_room (Nat.le_of_ble_eq_true rfl)) dX11_madeOf_68 ⟨(Nat.le_of_ble_eq_true rfl), (Nat.le_of_ble_eq_true rfl)⟩) hS (fun q _ h => hFc q h) hFc (fun u t H1 locs ht hvm h_68 hB hz1 hk1 hS => ?_)
  obtain ⟨nq2_68, fq2_68, hP1, hD1⟩ := hB
  rw [ht] at hP1
  obtain ⟨hP, hD⟩ := va_join (wr := []) (w1 := [(q_64, .inr (3, [.ref nq2_68, .null, .int 0])), (nq2_68, .inl (cs 0, 4, .inl fq2_68))]) hP hD [0] [] rfl rfl (by decide) (by decide) hk1 hFc hP1 hD1
  generalize H1 = H at hP hS ⊢
  have hP : va_P D vwCl [(q_64, .inr (3, [.ref nq2_68, .null, .int 0])), (nq2_68, .inl (cs 0, 4, .inl fq2_68))] H := hP
  have hD : va_D A [(q_64, .inr (3, [.ref nq2_68, .null, .int 0])), (nq2_68, .inl (cs 0, 4, .inl fq2_68))] := hD
  refine W.cs (cells' := 2) (slots' := 7) rfl rfl ?_
  refine W_sQ hQ ?_
  refine W.widen (k := 2) (n := 7) (Nat.le_of_ble_eq_true rfl) (Nat.le_of_ble_eq_true rfl) ?_
  have hP9 := hP.sub (ws' := [(q_64, .inr (3, [.ref nq2_68, .null, .int 0])), (nq2_68, .inl (cs 0, 4, .inl fq2_68))]) [0, 1] rfl
  have hD9 := hD.sub (ws' := [(q_64, .inr (3, [.ref nq2_68, .null, .int 0])), (nq2_68, .inl (cs 0, 4, .inl fq2_68))]) [0, 1] (by decide) rfl
  exact W.aret (v := .ref q_64) hx hb hr (Or.inl ⟨_, rfl⟩) (Or.inr ⟨_, rfl⟩) (fun t ht hW => ⟨⟨(), q_64, rfl, trivial, ⟨nq2_68, fq2_68, by rw [ht]; exact hP9, hD9⟩⟩, hS.F ht⟩) hS.2.2 dX11_madeOf_71

theorem kw_703 : (.instantiable RX9 3 : Cond) ∈ gw_tbl := gw_in (by decide +kernel) (by decide +kernel)

set_option maxHeartbeats 4000000 in
set_option maxRecDepth 100000 in
theorem x_madeOf_1 (l : Launch) (D : va_G) (cs : Nat → ClassId) (sz : Nat) : Met l yX11_madeOf (Cond.code yX11_madeOf cX11_madeOf 1 (some (.object "NobodyChecks$Pay")) :: gw_tbl) ({ frames := 3, cells := 2, slots := 7, locals := 52 }) (pc_C D cs [] sz [.int 1]) (va_Qr (fun (u : Unit) => True) (fun u ra t => ∃ (nq2 : Nat), ∃ (fq2 : Nat → Int32), va_P D vwCl [(ra, .inr (9, [.ref nq2, .null, .int 0])), (nq2, .inl (cs 0, 4, .inl fq2))] t.heap ∧ va_D (va_A [] sz) [(ra, .inr (9, [.ref nq2, .null, .int 0])), (nq2, .inl (cs 0, 4, .inl fq2))]) (va_A [] sz)) 2 7 (va_A [] sz) := by
  refine Met.ofW (cc := cX11_madeOf) (maxL := 1) (ret := (some (.object "NobodyChecks$Pay"))) (by decide) rfl ?_
  intro p e s m args below meth c s₁ B hml hv
  obtain ⟨hargs, hsz, hP, hK, hD0, hN⟩ := hv
  have hx := B.exec
  have hb := B.bytes
  have hr := B.returns
  have hts := atoms_spec (ws := Cond.code yX11_madeOf cX11_madeOf 1 (some (.object "NobodyChecks$Pay")) :: gw_tbl) B.pre
  have hg := fun (w : Cond) (h : w ∈ gw_tbl) => hts w (List.mem_cons_of_mem _ h)
  have hown : s.vm.findClass RX11 = some m.cls := findClass_of_methodNamed B.named
  have hlocks := B.notSynchronized
  subst hsz
  have hD := hD0.self (sz := s.heap.size)
  generalize hAe : va_A [] s.heap.size = A at hD ⊢
  have hA : ∀ q : Nat, s.heap.size ≤ q → A q := fun q h => by rw [← hAe]; exact Or.inr h
  have hS : va_S A s.heap s.heap [] := va_S.rf
  have hP : va_P D vwCl [] s.heap := hP
  have hl := lv_entry ([.int 1]) (n := 1) (Nat.le_of_ble_eq_true rfl)
  rw [show entryFrame m args 1 = F0 m 0 (lg_sl ([.int 1]) ++ List.replicate (1 - (lg_sl ([.int 1])).length) Slot.unset).toArray [] from by rw [hargs]; exact lg_entry_eq ..]
  generalize (lg_sl ([.int 1]) ++ List.replicate (1 - (lg_sl ([.int 1])).length) Slot.unset).toArray = ls at hl ⊢
  have hl : lv_has ls 1 [(0, .int 1)] := hl
  refine W_genQ (fun Q hQ => ?_)
  refine lv_iload_n hx hb dX11_madeOf_0 rfl (lv_at hl 0 rfl) ?_
  refine lv_tableIn (tgt := 32) hx hb dX11_madeOf_1 (by decide) (by decide) rfl (by decide) ?_
  refine va_new (ci := 9) (fs := [.null, .null, .int 0]) (C := RX9) (T := TX9) (N := 3) hx hb hg gwX9 tyX9 tyX9_ok hown (hg _ kw_666) (hg _ kw_703) (hg _ kw_164) hK hP hD hS hA rfl (by decide +kernel) (Nat.le_of_ble_eq_true rfl) (Nat.le_of_ble_eq_true rfl) dX11_madeOf_32 (fun q_32 H hP hD hS => ?_)
  have hP : va_P D vwCl [(q_32, .inr (9, [.null, .null, .int 0]))] H := hP
  have hD : va_D A [(q_32, .inr (9, [.null, .null, .int 0]))] := hD
  refine W.cs (cells' := 1) (slots' := 3) rfl rfl ?_
  refine lv_dup hx hb dX11_madeOf_35 rfl ?_
  have hPc := hP.sub (ws' := [(q_32, .inr (9, [.null, .null, .int 0]))]) [0] rfl
  have hDc := hD.sub (ws' := [(q_32, .inr (9, [.null, .null, .int 0]))]) [0] (by decide) rfl
  have hFc := va_free (wc := [(q_32, .inr (9, [.null, .null, .int 0]))]) hD hS hA [0] rfl
  refine va_callv (va_runIN (As := []) (rest := [.ref q_32]) ⟨hx, hb, hml, hown, hg⟩ (i_X9_9 l D cs q_32 _) ⟨va_cnB 0 hg (gw_I kw_697) rfl rfl rfl (hN.1 (RX11, 336, yX9_init) (by decide +kernel)) (hg _ kw_164) (by decide +kernel) ⟨(Nat.le_of_ble_eq_true rfl), (Nat.le_of_ble_eq_true rfl)⟩, rfl, hg _ kw_698⟩ (pr_C hK hPc hDc hN) rfl rfl hl.1 rfl (lv_room (Nat.le_of_ble_eq_true rfl)) dX11_madeOf_36 ⟨(Nat.le_of_ble_eq_true rfl), (Nat.le_of_ble_eq_true rfl)⟩) hS (fun q _ h => hFc q h) hFc (fun u t H1 locs ht hvm h_36 hB hz1 hk1 hS => ?_)
  obtain ⟨nq2_36, fq2_36, hP1, hD1⟩ := hB
  rw [ht] at hP1
  obtain ⟨hP, hD⟩ := va_join (wr := []) (w1 := [(q_32, .inr (9, [.ref nq2_36, .null, .int 0])), (nq2_36, .inl (cs 0, 4, .inl fq2_36))]) hP hD [0] [] rfl rfl (by decide) (by decide) hk1 hFc hP1 hD1
  generalize H1 = H at hP hS ⊢
  have hP : va_P D vwCl [(q_32, .inr (9, [.ref nq2_36, .null, .int 0])), (nq2_36, .inl (cs 0, 4, .inl fq2_36))] H := hP
  have hD : va_D A [(q_32, .inr (9, [.ref nq2_36, .null, .int 0])), (nq2_36, .inl (cs 0, 4, .inl fq2_36))] := hD
  refine W.cs (cells' := 2) (slots' := 7) rfl rfl ?_
  refine W_sQ hQ ?_
  refine W.widen (k := 2) (n := 7) (Nat.le_of_ble_eq_true rfl) (Nat.le_of_ble_eq_true rfl) ?_
  have hP9 := hP.sub (ws' := [(q_32, .inr (9, [.ref nq2_36, .null, .int 0])), (nq2_36, .inl (cs 0, 4, .inl fq2_36))]) [0, 1] rfl
  have hD9 := hD.sub (ws' := [(q_32, .inr (9, [.ref nq2_36, .null, .int 0])), (nq2_36, .inl (cs 0, 4, .inl fq2_36))]) [0, 1] (by decide) rfl
  exact W.aret (v := .ref q_32) hx hb hr (Or.inl ⟨_, rfl⟩) (Or.inr ⟨_, rfl⟩) (fun t ht hW => ⟨⟨(), q_32, rfl, trivial, ⟨nq2_36, fq2_36, by rw [ht]; exact hP9, hD9⟩⟩, hS.F ht⟩) hS.2.2 dX11_madeOf_39

theorem kw_704 : (.instantiable RX10 3 : Cond) ∈ gw_tbl := gw_in (by decide +kernel) (by decide +kernel)

set_option maxHeartbeats 4000000 in
set_option maxRecDepth 100000 in
theorem x_madeOf_2 (l : Launch) (D : va_G) (cs : Nat → ClassId) (sz : Nat) : Met l yX11_madeOf (Cond.code yX11_madeOf cX11_madeOf 1 (some (.object "NobodyChecks$Pay")) :: gw_tbl) ({ frames := 3, cells := 2, slots := 7, locals := 52 }) (pc_C D cs [] sz [.int 2]) (va_Qr (fun (u : Unit) => True) (fun u ra t => ∃ (nq2 : Nat), ∃ (fq2 : Nat → Int32), va_P D vwCl [(ra, .inr (10, [.ref nq2, .null, .int 0])), (nq2, .inl (cs 0, 4, .inl fq2))] t.heap ∧ va_D (va_A [] sz) [(ra, .inr (10, [.ref nq2, .null, .int 0])), (nq2, .inl (cs 0, 4, .inl fq2))]) (va_A [] sz)) 2 7 (va_A [] sz) := by
  refine Met.ofW (cc := cX11_madeOf) (maxL := 1) (ret := (some (.object "NobodyChecks$Pay"))) (by decide) rfl ?_
  intro p e s m args below meth c s₁ B hml hv
  obtain ⟨hargs, hsz, hP, hK, hD0, hN⟩ := hv
  have hx := B.exec
  have hb := B.bytes
  have hr := B.returns
  have hts := atoms_spec (ws := Cond.code yX11_madeOf cX11_madeOf 1 (some (.object "NobodyChecks$Pay")) :: gw_tbl) B.pre
  have hg := fun (w : Cond) (h : w ∈ gw_tbl) => hts w (List.mem_cons_of_mem _ h)
  have hown : s.vm.findClass RX11 = some m.cls := findClass_of_methodNamed B.named
  have hlocks := B.notSynchronized
  subst hsz
  have hD := hD0.self (sz := s.heap.size)
  generalize hAe : va_A [] s.heap.size = A at hD ⊢
  have hA : ∀ q : Nat, s.heap.size ≤ q → A q := fun q h => by rw [← hAe]; exact Or.inr h
  have hS : va_S A s.heap s.heap [] := va_S.rf
  have hP : va_P D vwCl [] s.heap := hP
  have hl := lv_entry ([.int 2]) (n := 1) (Nat.le_of_ble_eq_true rfl)
  rw [show entryFrame m args 1 = F0 m 0 (lg_sl ([.int 2]) ++ List.replicate (1 - (lg_sl ([.int 2])).length) Slot.unset).toArray [] from by rw [hargs]; exact lg_entry_eq ..]
  generalize (lg_sl ([.int 2]) ++ List.replicate (1 - (lg_sl ([.int 2])).length) Slot.unset).toArray = ls at hl ⊢
  have hl : lv_has ls 1 [(0, .int 2)] := hl
  refine W_genQ (fun Q hQ => ?_)
  refine lv_iload_n hx hb dX11_madeOf_0 rfl (lv_at hl 0 rfl) ?_
  refine lv_tableIn (tgt := 40) hx hb dX11_madeOf_1 (by decide) (by decide) rfl (by decide) ?_
  refine va_new (ci := 10) (fs := [.null, .null, .int 0]) (C := RX10) (T := TX10) (N := 3) hx hb hg gwX10 tyX10 tyX10_ok hown (hg _ kw_667) (hg _ kw_704) (hg _ kw_134) hK hP hD hS hA rfl (by decide +kernel) (Nat.le_of_ble_eq_true rfl) (Nat.le_of_ble_eq_true rfl) dX11_madeOf_40 (fun q_40 H hP hD hS => ?_)
  have hP : va_P D vwCl [(q_40, .inr (10, [.null, .null, .int 0]))] H := hP
  have hD : va_D A [(q_40, .inr (10, [.null, .null, .int 0]))] := hD
  refine W.cs (cells' := 1) (slots' := 3) rfl rfl ?_
  refine lv_dup hx hb dX11_madeOf_43 rfl ?_
  have hPc := hP.sub (ws' := [(q_40, .inr (10, [.null, .null, .int 0]))]) [0] rfl
  have hDc := hD.sub (ws' := [(q_40, .inr (10, [.null, .null, .int 0]))]) [0] (by decide) rfl
  have hFc := va_free (wc := [(q_40, .inr (10, [.null, .null, .int 0]))]) hD hS hA [0] rfl
  refine va_callv (va_runIN (As := []) (rest := [.ref q_40]) ⟨hx, hb, hml, hown, hg⟩ (i_X10_10 l D cs q_40 _) ⟨va_cnB 0 hg (gw_I kw_699) rfl rfl rfl (hN.1 (RX11, 339, yX10_init) (by decide +kernel)) (hg _ kw_134) (by decide +kernel) ⟨(Nat.le_of_ble_eq_true rfl), (Nat.le_of_ble_eq_true rfl)⟩, rfl, hg _ kw_700⟩ (pr_C hK hPc hDc hN) rfl rfl hl.1 rfl (lv_room (Nat.le_of_ble_eq_true rfl)) dX11_madeOf_44 ⟨(Nat.le_of_ble_eq_true rfl), (Nat.le_of_ble_eq_true rfl)⟩) hS (fun q _ h => hFc q h) hFc (fun u t H1 locs ht hvm h_44 hB hz1 hk1 hS => ?_)
  obtain ⟨nq2_44, fq2_44, hP1, hD1⟩ := hB
  rw [ht] at hP1
  obtain ⟨hP, hD⟩ := va_join (wr := []) (w1 := [(q_40, .inr (10, [.ref nq2_44, .null, .int 0])), (nq2_44, .inl (cs 0, 4, .inl fq2_44))]) hP hD [0] [] rfl rfl (by decide) (by decide) hk1 hFc hP1 hD1
  generalize H1 = H at hP hS ⊢
  have hP : va_P D vwCl [(q_40, .inr (10, [.ref nq2_44, .null, .int 0])), (nq2_44, .inl (cs 0, 4, .inl fq2_44))] H := hP
  have hD : va_D A [(q_40, .inr (10, [.ref nq2_44, .null, .int 0])), (nq2_44, .inl (cs 0, 4, .inl fq2_44))] := hD
  refine W.cs (cells' := 2) (slots' := 7) rfl rfl ?_
  refine W_sQ hQ ?_
  refine W.widen (k := 2) (n := 7) (Nat.le_of_ble_eq_true rfl) (Nat.le_of_ble_eq_true rfl) ?_
  have hP9 := hP.sub (ws' := [(q_40, .inr (10, [.ref nq2_44, .null, .int 0])), (nq2_44, .inl (cs 0, 4, .inl fq2_44))]) [0, 1] rfl
  have hD9 := hD.sub (ws' := [(q_40, .inr (10, [.ref nq2_44, .null, .int 0])), (nq2_44, .inl (cs 0, 4, .inl fq2_44))]) [0, 1] (by decide) rfl
  exact W.aret (v := .ref q_40) hx hb hr (Or.inl ⟨_, rfl⟩) (Or.inr ⟨_, rfl⟩) (fun t ht hW => ⟨⟨(), q_40, rfl, trivial, ⟨nq2_44, fq2_44, by rw [ht]; exact hP9, hD9⟩⟩, hS.F ht⟩) hS.2.2 dX11_madeOf_47

theorem kw_705 : (.instantiable RX6 3 : Cond) ∈ gw_tbl := gw_in (by decide +kernel) (by decide +kernel)
theorem kw_706 : (.code yX6_init cX6_init 1 none : Cond) ∈ gw_tbl := gw_in (by decide +kernel) (by decide +kernel)
theorem kw_707 : (.instanceMethod yX6_init : Cond) ∈ gw_tbl := gw_in (by decide +kernel) (by decide +kernel)

set_option maxHeartbeats 4000000 in
set_option maxRecDepth 100000 in
theorem x_madeOf_3 (l : Launch) (D : va_G) (cs : Nat → ClassId) (sz : Nat) : Met l yX11_madeOf (Cond.code yX11_madeOf cX11_madeOf 1 (some (.object "NobodyChecks$Pay")) :: gw_tbl) ({ frames := 4, cells := 2, slots := 7, locals := 72 }) (pc_C D cs [] sz [.int 3]) (va_Qr (fun (u : Unit) => True) (fun u ra t => ∃ (nq2 : Nat), ∃ (fq2 : Nat → Int32), va_P D vwCl [(ra, .inr (6, [.ref nq2, .null, .int 0])), (nq2, .inl (cs 0, 4, .inl fq2))] t.heap ∧ va_D (va_A [] sz) [(ra, .inr (6, [.ref nq2, .null, .int 0])), (nq2, .inl (cs 0, 4, .inl fq2))]) (va_A [] sz)) 2 7 (va_A [] sz) := by
  refine Met.ofW (cc := cX11_madeOf) (maxL := 1) (ret := (some (.object "NobodyChecks$Pay"))) (by decide) rfl ?_
  intro p e s m args below meth c s₁ B hml hv
  obtain ⟨hargs, hsz, hP, hK, hD0, hN⟩ := hv
  have hx := B.exec
  have hb := B.bytes
  have hr := B.returns
  have hts := atoms_spec (ws := Cond.code yX11_madeOf cX11_madeOf 1 (some (.object "NobodyChecks$Pay")) :: gw_tbl) B.pre
  have hg := fun (w : Cond) (h : w ∈ gw_tbl) => hts w (List.mem_cons_of_mem _ h)
  have hown : s.vm.findClass RX11 = some m.cls := findClass_of_methodNamed B.named
  have hlocks := B.notSynchronized
  subst hsz
  have hD := hD0.self (sz := s.heap.size)
  generalize hAe : va_A [] s.heap.size = A at hD ⊢
  have hA : ∀ q : Nat, s.heap.size ≤ q → A q := fun q h => by rw [← hAe]; exact Or.inr h
  have hS : va_S A s.heap s.heap [] := va_S.rf
  have hP : va_P D vwCl [] s.heap := hP
  have hl := lv_entry ([.int 3]) (n := 1) (Nat.le_of_ble_eq_true rfl)
  rw [show entryFrame m args 1 = F0 m 0 (lg_sl ([.int 3]) ++ List.replicate (1 - (lg_sl ([.int 3])).length) Slot.unset).toArray [] from by rw [hargs]; exact lg_entry_eq ..]
  generalize (lg_sl ([.int 3]) ++ List.replicate (1 - (lg_sl ([.int 3])).length) Slot.unset).toArray = ls at hl ⊢
  have hl : lv_has ls 1 [(0, .int 3)] := hl
  refine W_genQ (fun Q hQ => ?_)
  refine lv_iload_n hx hb dX11_madeOf_0 rfl (lv_at hl 0 rfl) ?_
  refine lv_tableIn (tgt := 48) hx hb dX11_madeOf_1 (by decide) (by decide) rfl (by decide) ?_
  refine va_new (ci := 6) (fs := [.null, .null, .int 0]) (C := RX6) (T := TX6) (N := 3) hx hb hg gwX6 tyX6 tyX6_ok hown (hg _ kw_668) (hg _ kw_705) (hg _ kw_171) hK hP hD hS hA rfl (by decide +kernel) (Nat.le_of_ble_eq_true rfl) (Nat.le_of_ble_eq_true rfl) dX11_madeOf_48 (fun q_48 H hP hD hS => ?_)
  have hP : va_P D vwCl [(q_48, .inr (6, [.null, .null, .int 0]))] H := hP
  have hD : va_D A [(q_48, .inr (6, [.null, .null, .int 0]))] := hD
  refine W.cs (cells' := 1) (slots' := 3) rfl rfl ?_
  refine lv_dup hx hb dX11_madeOf_51 rfl ?_
  have hPc := hP.sub (ws' := [(q_48, .inr (6, [.null, .null, .int 0]))]) [0] rfl
  have hDc := hD.sub (ws' := [(q_48, .inr (6, [.null, .null, .int 0]))]) [0] (by decide) rfl
  have hFc := va_free (wc := [(q_48, .inr (6, [.null, .null, .int 0]))]) hD hS hA [0] rfl
  refine va_callv (va_runIN (As := []) (rest := [.ref q_48]) ⟨hx, hb, hml, hown, hg⟩ (i_X6_6 l D cs q_48 _) ⟨va_cnB 0 hg (gw_I kw_706) rfl rfl rfl (hN.1 (RX11, 342, yX6_init) (by decide +kernel)) (hg _ kw_171) (by decide +kernel) ⟨(Nat.le_of_ble_eq_true rfl), (Nat.le_of_ble_eq_true rfl)⟩, rfl, hg _ kw_707⟩ (pr_C hK hPc hDc hN) rfl rfl hl.1 rfl (lv_room (Nat.le_of_ble_eq_true rfl)) dX11_madeOf_52 ⟨(Nat.le_of_ble_eq_true rfl), (Nat.le_of_ble_eq_true rfl)⟩) hS (fun q _ h => hFc q h) hFc (fun u t H1 locs ht hvm h_52 hB hz1 hk1 hS => ?_)
  obtain ⟨nq2_52, fq2_52, hP1, hD1⟩ := hB
  rw [ht] at hP1
  obtain ⟨hP, hD⟩ := va_join (wr := []) (w1 := [(q_48, .inr (6, [.ref nq2_52, .null, .int 0])), (nq2_52, .inl (cs 0, 4, .inl fq2_52))]) hP hD [0] [] rfl rfl (by decide) (by decide) hk1 hFc hP1 hD1
  generalize H1 = H at hP hS ⊢
  have hP : va_P D vwCl [(q_48, .inr (6, [.ref nq2_52, .null, .int 0])), (nq2_52, .inl (cs 0, 4, .inl fq2_52))] H := hP
  have hD : va_D A [(q_48, .inr (6, [.ref nq2_52, .null, .int 0])), (nq2_52, .inl (cs 0, 4, .inl fq2_52))] := hD
  refine W.cs (cells' := 2) (slots' := 7) rfl rfl ?_
  refine W_sQ hQ ?_
  refine W.widen (k := 2) (n := 7) (Nat.le_of_ble_eq_true rfl) (Nat.le_of_ble_eq_true rfl) ?_
  have hP9 := hP.sub (ws' := [(q_48, .inr (6, [.ref nq2_52, .null, .int 0])), (nq2_52, .inl (cs 0, 4, .inl fq2_52))]) [0, 1] rfl
  have hD9 := hD.sub (ws' := [(q_48, .inr (6, [.ref nq2_52, .null, .int 0])), (nq2_52, .inl (cs 0, 4, .inl fq2_52))]) [0, 1] (by decide) rfl
  exact W.aret (v := .ref q_48) hx hb hr (Or.inl ⟨_, rfl⟩) (Or.inr ⟨_, rfl⟩) (fun t ht hW => ⟨⟨(), q_48, rfl, trivial, ⟨nq2_52, fq2_52, by rw [ht]; exact hP9, hD9⟩⟩, hS.F ht⟩) hS.2.2 dX11_madeOf_55

theorem kw_708 : (.instantiable RX1 3 : Cond) ∈ gw_tbl := gw_in (by decide +kernel) (by decide +kernel)
theorem kw_709 : (.code yX1_init cX1_init 1 none : Cond) ∈ gw_tbl := gw_in (by decide +kernel) (by decide +kernel)
theorem kw_710 : (.instanceMethod yX1_init : Cond) ∈ gw_tbl := gw_in (by decide +kernel) (by decide +kernel)

set_option maxHeartbeats 4000000 in
set_option maxRecDepth 100000 in
theorem x_madeOf_4 (l : Launch) (D : va_G) (cs : Nat → ClassId) (sz : Nat) : Met l yX11_madeOf (Cond.code yX11_madeOf cX11_madeOf 1 (some (.object "NobodyChecks$Pay")) :: gw_tbl) ({ frames := 4, cells := 2, slots := 7, locals := 72 }) (pc_C D cs [] sz [.int 4]) (va_Qr (fun (u : Unit) => True) (fun u ra t => ∃ (nq2 : Nat), ∃ (fq2 : Nat → Int32), va_P D vwCl [(ra, .inr (1, [.ref nq2, .null, .int 0])), (nq2, .inl (cs 0, 4, .inl fq2))] t.heap ∧ va_D (va_A [] sz) [(ra, .inr (1, [.ref nq2, .null, .int 0])), (nq2, .inl (cs 0, 4, .inl fq2))]) (va_A [] sz)) 2 7 (va_A [] sz) := by
  refine Met.ofW (cc := cX11_madeOf) (maxL := 1) (ret := (some (.object "NobodyChecks$Pay"))) (by decide) rfl ?_
  intro p e s m args below meth c s₁ B hml hv
  obtain ⟨hargs, hsz, hP, hK, hD0, hN⟩ := hv
  have hx := B.exec
  have hb := B.bytes
  have hr := B.returns
  have hts := atoms_spec (ws := Cond.code yX11_madeOf cX11_madeOf 1 (some (.object "NobodyChecks$Pay")) :: gw_tbl) B.pre
  have hg := fun (w : Cond) (h : w ∈ gw_tbl) => hts w (List.mem_cons_of_mem _ h)
  have hown : s.vm.findClass RX11 = some m.cls := findClass_of_methodNamed B.named
  have hlocks := B.notSynchronized
  subst hsz
  have hD := hD0.self (sz := s.heap.size)
  generalize hAe : va_A [] s.heap.size = A at hD ⊢
  have hA : ∀ q : Nat, s.heap.size ≤ q → A q := fun q h => by rw [← hAe]; exact Or.inr h
  have hS : va_S A s.heap s.heap [] := va_S.rf
  have hP : va_P D vwCl [] s.heap := hP
  have hl := lv_entry ([.int 4]) (n := 1) (Nat.le_of_ble_eq_true rfl)
  rw [show entryFrame m args 1 = F0 m 0 (lg_sl ([.int 4]) ++ List.replicate (1 - (lg_sl ([.int 4])).length) Slot.unset).toArray [] from by rw [hargs]; exact lg_entry_eq ..]
  generalize (lg_sl ([.int 4]) ++ List.replicate (1 - (lg_sl ([.int 4])).length) Slot.unset).toArray = ls at hl ⊢
  have hl : lv_has ls 1 [(0, .int 4)] := hl
  refine W_genQ (fun Q hQ => ?_)
  refine lv_iload_n hx hb dX11_madeOf_0 rfl (lv_at hl 0 rfl) ?_
  refine lv_tableIn (tgt := 56) hx hb dX11_madeOf_1 (by decide) (by decide) rfl (by decide) ?_
  refine va_new (ci := 1) (fs := [.null, .null, .int 0]) (C := RX1) (T := TX1) (N := 3) hx hb hg gwX1 tyX1 tyX1_ok hown (hg _ kw_669) (hg _ kw_708) (hg _ kw_147) hK hP hD hS hA rfl (by decide +kernel) (Nat.le_of_ble_eq_true rfl) (Nat.le_of_ble_eq_true rfl) dX11_madeOf_56 (fun q_56 H hP hD hS => ?_)
  have hP : va_P D vwCl [(q_56, .inr (1, [.null, .null, .int 0]))] H := hP
  have hD : va_D A [(q_56, .inr (1, [.null, .null, .int 0]))] := hD
  refine W.cs (cells' := 1) (slots' := 3) rfl rfl ?_
  refine lv_dup hx hb dX11_madeOf_59 rfl ?_
  have hPc := hP.sub (ws' := [(q_56, .inr (1, [.null, .null, .int 0]))]) [0] rfl
  have hDc := hD.sub (ws' := [(q_56, .inr (1, [.null, .null, .int 0]))]) [0] (by decide) rfl
  have hFc := va_free (wc := [(q_56, .inr (1, [.null, .null, .int 0]))]) hD hS hA [0] rfl
  refine va_callv (va_runIN (As := []) (rest := [.ref q_56]) ⟨hx, hb, hml, hown, hg⟩ (i_X1_1 l D cs q_56 _) ⟨va_cnB 0 hg (gw_I kw_709) rfl rfl rfl (hN.1 (RX11, 345, yX1_init) (by decide +kernel)) (hg _ kw_147) (by decide +kernel) ⟨(Nat.le_of_ble_eq_true rfl), (Nat.le_of_ble_eq_true rfl)⟩, rfl, hg _ kw_710⟩ (pr_C hK hPc hDc hN) rfl rfl hl.1 rfl (lv_room (Nat.le_of_ble_eq_true rfl)) dX11_madeOf_60 ⟨(Nat.le_of_ble_eq_true rfl), (Nat.le_of_ble_eq_true rfl)⟩) hS (fun q _ h => hFc q h) hFc (fun u t H1 locs ht hvm h_60 hB hz1 hk1 hS => ?_)
  obtain ⟨nq2_60, fq2_60, hP1, hD1⟩ := hB
  rw [ht] at hP1
  obtain ⟨hP, hD⟩ := va_join (wr := []) (w1 := [(q_56, .inr (1, [.ref nq2_60, .null, .int 0])), (nq2_60, .inl (cs 0, 4, .inl fq2_60))]) hP hD [0] [] rfl rfl (by decide) (by decide) hk1 hFc hP1 hD1
  generalize H1 = H at hP hS ⊢
  have hP : va_P D vwCl [(q_56, .inr (1, [.ref nq2_60, .null, .int 0])), (nq2_60, .inl (cs 0, 4, .inl fq2_60))] H := hP
  have hD : va_D A [(q_56, .inr (1, [.ref nq2_60, .null, .int 0])), (nq2_60, .inl (cs 0, 4, .inl fq2_60))] := hD
  refine W.cs (cells' := 2) (slots' := 7) rfl rfl ?_
  refine W_sQ hQ ?_
  refine W.widen (k := 2) (n := 7) (Nat.le_of_ble_eq_true rfl) (Nat.le_of_ble_eq_true rfl) ?_
  have hP9 := hP.sub (ws' := [(q_56, .inr (1, [.ref nq2_60, .null, .int 0])), (nq2_60, .inl (cs 0, 4, .inl fq2_60))]) [0, 1] rfl
  have hD9 := hD.sub (ws' := [(q_56, .inr (1, [.ref nq2_60, .null, .int 0])), (nq2_60, .inl (cs 0, 4, .inl fq2_60))]) [0, 1] (by decide) rfl
  exact W.aret (v := .ref q_56) hx hb hr (Or.inl ⟨_, rfl⟩) (Or.inr ⟨_, rfl⟩) (fun t ht hW => ⟨⟨(), q_56, rfl, trivial, ⟨nq2_60, fq2_60, by rw [ht]; exact hP9, hD9⟩⟩, hS.F ht⟩) hS.2.2 dX11_madeOf_63

theorem dX11_areNumbers_0 : decode cX11_areNumbers 0 = .ok (.iload_n 0, 1) := by decide +kernel
theorem dX11_areNumbers_1 : decode cX11_areNumbers 1 = .ok (.iconst 4, 1) := by decide +kernel
theorem dX11_areNumbers_2 : decode cX11_areNumbers 2 = .ok (.if_icmp .ne 8, 3) := by decide +kernel
theorem dX11_areNumbers_5 : decode cX11_areNumbers 5 = .ok (.bipush 100, 2) := by decide +kernel
theorem dX11_areNumbers_7 : decode cX11_areNumbers 7 = .ok (.goto 6, 3) := by decide +kernel
theorem dX11_areNumbers_10 : decode cX11_areNumbers 10 = .ok (.sipush 999, 3) := by decide +kernel
theorem dX11_areNumbers_13 : decode cX11_areNumbers 13 = .ok (.istore 5, 2) := by decide +kernel
theorem dX11_areNumbers_15 : decode cX11_areNumbers 15 = .ok (.iload_n 1, 1) := by decide +kernel
theorem dX11_areNumbers_16 : decode cX11_areNumbers 16 = .ok (.iconst 0, 1) := by decide +kernel
theorem dX11_areNumbers_17 : decode cX11_areNumbers 17 = .ok (.sipush 999, 3) := by decide +kernel
theorem dX11_areNumbers_20 : decode cX11_areNumbers 20 = .ok (.invokestatic 105, 3) := by decide +kernel
theorem dX11_areNumbers_23 : decode cX11_areNumbers 23 = .ok (.ifCond .eq 39, 3) := by decide +kernel
theorem dX11_areNumbers_26 : decode cX11_areNumbers 26 = .ok (.iload_n 2, 1) := by decide +kernel
theorem dX11_areNumbers_27 : decode cX11_areNumbers 27 = .ok (.iconst 0, 1) := by decide +kernel
theorem dX11_areNumbers_28 : decode cX11_areNumbers 28 = .ok (.iload 5, 2) := by decide +kernel
theorem dX11_areNumbers_30 : decode cX11_areNumbers 30 = .ok (.invokestatic 105, 3) := by decide +kernel
theorem dX11_areNumbers_33 : decode cX11_areNumbers 33 = .ok (.ifCond .eq 29, 3) := by decide +kernel
theorem dX11_areNumbers_36 : decode cX11_areNumbers 36 = .ok (.iload_n 3, 1) := by decide +kernel
theorem dX11_areNumbers_37 : decode cX11_areNumbers 37 = .ok (.iconst 0, 1) := by decide +kernel
theorem dX11_areNumbers_38 : decode cX11_areNumbers 38 = .ok (.sipush 999, 3) := by decide +kernel
theorem dX11_areNumbers_41 : decode cX11_areNumbers 41 = .ok (.invokestatic 105, 3) := by decide +kernel
theorem dX11_areNumbers_44 : decode cX11_areNumbers 44 = .ok (.ifCond .eq 18, 3) := by decide +kernel
theorem dX11_areNumbers_47 : decode cX11_areNumbers 47 = .ok (.iload 4, 2) := by decide +kernel
theorem dX11_areNumbers_49 : decode cX11_areNumbers 49 = .ok (.iconst 0, 1) := by decide +kernel
theorem dX11_areNumbers_50 : decode cX11_areNumbers 50 = .ok (.iload 5, 2) := by decide +kernel
theorem dX11_areNumbers_52 : decode cX11_areNumbers 52 = .ok (.invokestatic 105, 3) := by decide +kernel
theorem dX11_areNumbers_55 : decode cX11_areNumbers 55 = .ok (.ifCond .eq 7, 3) := by decide +kernel
theorem dX11_areNumbers_58 : decode cX11_areNumbers 58 = .ok (.iconst 1, 1) := by decide +kernel
theorem dX11_areNumbers_59 : decode cX11_areNumbers 59 = .ok (.goto 4, 3) := by decide +kernel
theorem dX11_areNumbers_62 : decode cX11_areNumbers 62 = .ok (.iconst 0, 1) := by decide +kernel
theorem dX11_areNumbers_63 : decode cX11_areNumbers 63 = .ok (.ireturn, 1) := by decide +kernel

set_option maxHeartbeats 4000000 in
set_option maxRecDepth 100000 in
theorem x_areNumbers (l : Launch) (p1 : Int32) (p2 : Int32) (p3 : Int32) (p4 : Int32) (p5 : Int32) : Met l yX11_areNumbers (Cond.code yX11_areNumbers cX11_areNumbers 6 (some .boolean) :: gw_tbl) ({ frames := 1, cells := 0, slots := 0, locals := 22 }) (pc_0 [.int p1, .int p2, .int p3, .int p4, .int p5]) (vp_Si (fun r => (r = 0 ∧ ¬ (iw p2 0 999 = 1 ∧ iw p3 0 (pTop p1) = 1 ∧ iw p4 0 999 = 1 ∧ iw p5 0 (pTop p1) = 1)) ∨ (r = 1 ∧ (iw p2 0 999 = 1 ∧ iw p3 0 (pTop p1) = 1 ∧ iw p4 0 999 = 1 ∧ iw p5 0 (pTop p1) = 1)))) 0 0 (fun _ => False) := by
  refine Met.ofW (cc := cX11_areNumbers) (maxL := 6) (ret := (some .boolean)) (by decide) rfl ?_
  intro p e s m args below meth c s₁ B hml hv
  obtain ⟨hargs, -⟩ := hv
  have hx := B.exec
  have hb := B.bytes
  have hr := B.returns
  have hts := atoms_spec (ws := Cond.code yX11_areNumbers cX11_areNumbers 6 (some .boolean) :: gw_tbl) B.pre
  have hg := fun (w : Cond) (h : w ∈ gw_tbl) => hts w (List.mem_cons_of_mem _ h)
  have hown : s.vm.findClass RX11 = some m.cls := findClass_of_methodNamed B.named
  have hlocks := B.notSynchronized
  have hl := lv_entry ([.int p1, .int p2, .int p3, .int p4, .int p5]) (n := 6) (Nat.le_of_ble_eq_true rfl)
  rw [show entryFrame m args 6 = F0 m 0 (lg_sl ([.int p1, .int p2, .int p3, .int p4, .int p5]) ++ List.replicate (6 - (lg_sl ([.int p1, .int p2, .int p3, .int p4, .int p5])).length) Slot.unset).toArray [] from by rw [hargs]; exact lg_entry_eq ..]
  generalize (lg_sl ([.int p1, .int p2, .int p3, .int p4, .int p5]) ++ List.replicate (6 - (lg_sl ([.int p1, .int p2, .int p3, .int p4, .int p5])).length) Slot.unset).toArray = ls at hl ⊢
  have hl : lv_has ls 6 [(0, .int p1), (1, .int p2), (2, .int p3), (3, .int p4), (4, .int p5)] := hl
  refine W_genQ (fun Q hQ => ?_)
  refine lv_iload_n hx hb dX11_areNumbers_0 rfl (lv_at hl 0 rfl) ?_
  refine lv_iconst (v := 4) hx hb dX11_areNumbers_1 (by decide) ?_
  refine lv_icmp_ne (tgt := 10) hx hb dX11_areNumbers_2 (by decide) (fun c_2 => ?_) (fun c_2 => ?_)
  · refine lv_sipush (v := 999) hx hb dX11_areNumbers_10 (by decide) ?_
    refine lv_istore (lv' := [(5, .int 999), (0, .int p1), (1, .int p2), (2, .int p3), (3, .int p4), (4, .int p5)]) hx hb dX11_areNumbers_13 hl (by decide) rfl (fun ls hl => ?_)
    refine lv_iload_n hx hb dX11_areNumbers_15 rfl (lv_at hl 2 rfl) ?_
    refine lv_iconst (v := 0) hx hb dX11_areNumbers_16 (by decide) ?_
    refine lv_sipush (v := 999) hx hb dX11_areNumbers_17 (by decide) ?_
    refine vp_callSi (W.runS (As := [.int p2, .int 0, .int 999]) (rest := []) ⟨hx, hb, hml, hown, hg⟩ (c_isWithin l p2 0 999) (va_cwS 3 hg (gw_S kw_535 kw_536 kw_12 kw_534) rfl rfl rfl (by decide +kernel) ⟨(Nat.le_of_ble_eq_true rfl), (Nat.le_of_ble_eq_true rfl)⟩) pr_0 rfl rfl hl.1 rfl (lv_room (Nat.le_of_ble_eq_true rfl)) dX11_areNumbers_20 ⟨(Nat.le_of_ble_eq_true rfl), (Nat.le_of_ble_eq_true rfl)⟩) (fun r_20 h_20 => ?_)
    rcases (show r_20 = 0 ∨ r_20 = 1 by rw [h_20]; exact iw_01) with rfl | rfl
    · refine lv_if_eq (tgt := 62) hx hb dX11_areNumbers_23 (by decide) (fun c_23 => ?_) (fun c_23 => absurd c_23 (by decide))
      refine lv_iconst (v := 0) hx hb dX11_areNumbers_62 (by decide) ?_
      refine W_sQ hQ ?_
      exact W.zret (v := 0) hx hb hr (by decide) (fun t ht hW => ⟨0, rfl, (Or.inl ⟨rfl, fun q9 => ok_no h_20 (by have q8 := q9.1; exact q8)⟩), ht⟩) (fun _ h => absurd h List.not_mem_nil) dX11_areNumbers_63
    · refine lv_if_eq (tgt := 62) hx hb dX11_areNumbers_23 (by decide) (fun c_23 => absurd c_23 (by decide)) (fun c_23 => ?_)
      refine lv_iload_n hx hb dX11_areNumbers_26 rfl (lv_at hl 3 rfl) ?_
      refine lv_iconst (v := 0) hx hb dX11_areNumbers_27 (by decide) ?_
      refine lv_iload hx hb dX11_areNumbers_28 (lv_at hl 0 rfl) ?_
      refine vp_callSi (W.runS (As := [.int p3, .int 0, .int 999]) (rest := []) ⟨hx, hb, hml, hown, hg⟩ (c_isWithin l p3 0 999) (va_cwS 3 hg (gw_S kw_535 kw_536 kw_12 kw_534) rfl rfl rfl (by decide +kernel) ⟨(Nat.le_of_ble_eq_true rfl), (Nat.le_of_ble_eq_true rfl)⟩) pr_0 rfl rfl hl.1 rfl (lv_room (Nat.le_of_ble_eq_true rfl)) dX11_areNumbers_30 ⟨(Nat.le_of_ble_eq_true rfl), (Nat.le_of_ble_eq_true rfl)⟩) (fun r_30 h_30 => ?_)
      rcases (show r_30 = 0 ∨ r_30 = 1 by rw [h_30]; exact iw_01) with rfl | rfl
      · refine lv_if_eq (tgt := 62) hx hb dX11_areNumbers_33 (by decide) (fun c_33 => ?_) (fun c_33 => absurd c_33 (by decide))
        refine lv_iconst (v := 0) hx hb dX11_areNumbers_62 (by decide) ?_
        refine W_sQ hQ ?_
        exact W.zret (v := 0) hx hb hr (by decide) (fun t ht hW => ⟨0, rfl, (Or.inl ⟨rfl, fun q9 => ok_no h_30 (by have q8 := q9.2.1; rw [pTop_n c_2] at q8; exact q8)⟩), ht⟩) (fun _ h => absurd h List.not_mem_nil) dX11_areNumbers_63
      · refine lv_if_eq (tgt := 62) hx hb dX11_areNumbers_33 (by decide) (fun c_33 => absurd c_33 (by decide)) (fun c_33 => ?_)
        refine lv_iload_n hx hb dX11_areNumbers_36 rfl (lv_at hl 4 rfl) ?_
        refine lv_iconst (v := 0) hx hb dX11_areNumbers_37 (by decide) ?_
        refine lv_sipush (v := 999) hx hb dX11_areNumbers_38 (by decide) ?_
        refine vp_callSi (W.runS (As := [.int p4, .int 0, .int 999]) (rest := []) ⟨hx, hb, hml, hown, hg⟩ (c_isWithin l p4 0 999) (va_cwS 3 hg (gw_S kw_535 kw_536 kw_12 kw_534) rfl rfl rfl (by decide +kernel) ⟨(Nat.le_of_ble_eq_true rfl), (Nat.le_of_ble_eq_true rfl)⟩) pr_0 rfl rfl hl.1 rfl (lv_room (Nat.le_of_ble_eq_true rfl)) dX11_areNumbers_41 ⟨(Nat.le_of_ble_eq_true rfl), (Nat.le_of_ble_eq_true rfl)⟩) (fun r_41 h_41 => ?_)
        rcases (show r_41 = 0 ∨ r_41 = 1 by rw [h_41]; exact iw_01) with rfl | rfl
        · refine lv_if_eq (tgt := 62) hx hb dX11_areNumbers_44 (by decide) (fun c_44 => ?_) (fun c_44 => absurd c_44 (by decide))
          refine lv_iconst (v := 0) hx hb dX11_areNumbers_62 (by decide) ?_
          refine W_sQ hQ ?_
          exact W.zret (v := 0) hx hb hr (by decide) (fun t ht hW => ⟨0, rfl, (Or.inl ⟨rfl, fun q9 => ok_no h_41 (by have q8 := q9.2.2.1; exact q8)⟩), ht⟩) (fun _ h => absurd h List.not_mem_nil) dX11_areNumbers_63
        · refine lv_if_eq (tgt := 62) hx hb dX11_areNumbers_44 (by decide) (fun c_44 => absurd c_44 (by decide)) (fun c_44 => ?_)
          refine lv_iload hx hb dX11_areNumbers_47 (lv_at hl 5 rfl) ?_
          refine lv_iconst (v := 0) hx hb dX11_areNumbers_49 (by decide) ?_
          refine lv_iload hx hb dX11_areNumbers_50 (lv_at hl 0 rfl) ?_
          refine vp_callSi (W.runS (As := [.int p5, .int 0, .int 999]) (rest := []) ⟨hx, hb, hml, hown, hg⟩ (c_isWithin l p5 0 999) (va_cwS 3 hg (gw_S kw_535 kw_536 kw_12 kw_534) rfl rfl rfl (by decide +kernel) ⟨(Nat.le_of_ble_eq_true rfl), (Nat.le_of_ble_eq_true rfl)⟩) pr_0 rfl rfl hl.1 rfl (lv_room (Nat.le_of_ble_eq_true rfl)) dX11_areNumbers_52 ⟨(Nat.le_of_ble_eq_true rfl), (Nat.le_of_ble_eq_true rfl)⟩) (fun r_52 h_52 => ?_)
          rcases (show r_52 = 0 ∨ r_52 = 1 by rw [h_52]; exact iw_01) with rfl | rfl
          · refine lv_if_eq (tgt := 62) hx hb dX11_areNumbers_55 (by decide) (fun c_55 => ?_) (fun c_55 => absurd c_55 (by decide))
            refine lv_iconst (v := 0) hx hb dX11_areNumbers_62 (by decide) ?_
            refine W_sQ hQ ?_
            exact W.zret (v := 0) hx hb hr (by decide) (fun t ht hW => ⟨0, rfl, (Or.inl ⟨rfl, fun q9 => ok_no h_52 (by have q8 := q9.2.2.2; rw [pTop_n c_2] at q8; exact q8)⟩), ht⟩) (fun _ h => absurd h List.not_mem_nil) dX11_areNumbers_63
          · refine lv_if_eq (tgt := 62) hx hb dX11_areNumbers_55 (by decide) (fun c_55 => absurd c_55 (by decide)) (fun c_55 => ?_)
            refine lv_iconst (v := 1) hx hb dX11_areNumbers_58 (by decide) ?_
            refine lv_goto (tgt := 63) hx hb dX11_areNumbers_59 (by decide) ?_
            refine W_sQ hQ ?_
            exact W.zret (v := 1) hx hb hr (by decide) (fun t ht hW => ⟨1, rfl, (Or.inr ⟨rfl, h_20.symm, by rw [pTop_n c_2]; exact h_30.symm, h_41.symm, by rw [pTop_n c_2]; exact h_52.symm⟩), ht⟩) (fun _ h => absurd h List.not_mem_nil) dX11_areNumbers_63
  · subst c_2
    refine lv_bipush (v := 100) hx hb dX11_areNumbers_5 (by decide) ?_
    refine lv_goto (tgt := 13) hx hb dX11_areNumbers_7 (by decide) ?_
    refine lv_istore (lv' := [(5, .int 100), (0, .int 4), (1, .int p2), (2, .int p3), (3, .int p4), (4, .int p5)]) hx hb dX11_areNumbers_13 hl (by decide) rfl (fun ls hl => ?_)
    refine lv_iload_n hx hb dX11_areNumbers_15 rfl (lv_at hl 2 rfl) ?_
    refine lv_iconst (v := 0) hx hb dX11_areNumbers_16 (by decide) ?_
    refine lv_sipush (v := 999) hx hb dX11_areNumbers_17 (by decide) ?_
    refine vp_callSi (W.runS (As := [.int p2, .int 0, .int 999]) (rest := []) ⟨hx, hb, hml, hown, hg⟩ (c_isWithin l p2 0 999) (va_cwS 3 hg (gw_S kw_535 kw_536 kw_12 kw_534) rfl rfl rfl (by decide +kernel) ⟨(Nat.le_of_ble_eq_true rfl), (Nat.le_of_ble_eq_true rfl)⟩) pr_0 rfl rfl hl.1 rfl (lv_room (Nat.le_of_ble_eq_true rfl)) dX11_areNumbers_20 ⟨(Nat.le_of_ble_eq_true rfl), (Nat.le_of_ble_eq_true rfl)⟩) (fun r_20 h_20 => ?_)
    rcases (show r_20 = 0 ∨ r_20 = 1 by rw [h_20]; exact iw_01) with rfl | rfl
    · refine lv_if_eq (tgt := 62) hx hb dX11_areNumbers_23 (by decide) (fun c_23 => ?_) (fun c_23 => absurd c_23 (by decide))
      refine lv_iconst (v := 0) hx hb dX11_areNumbers_62 (by decide) ?_
      refine W_sQ hQ ?_
      exact W.zret (v := 0) hx hb hr (by decide) (fun t ht hW => ⟨0, rfl, (Or.inl ⟨rfl, fun q9 => ok_no h_20 (by have q8 := q9.1; exact q8)⟩), ht⟩) (fun _ h => absurd h List.not_mem_nil) dX11_areNumbers_63
    · refine lv_if_eq (tgt := 62) hx hb dX11_areNumbers_23 (by decide) (fun c_23 => absurd c_23 (by decide)) (fun c_23 => ?_)
      refine lv_iload_n hx hb dX11_areNumbers_26 rfl (lv_at hl 3 rfl) ?_
      refine lv_iconst (v := 0) hx hb dX11_areNumbers_27 (by decide) ?_
      refine lv_iload hx hb dX11_areNumbers_28 (lv_at hl 0 rfl) ?_
      refine vp_callSi (W.runS (As := [.int p3, .int 0, .int 100]) (rest := []) ⟨hx, hb, hml, hown, hg⟩ (c_isWithin l p3 0 100) (va_cwS 3 hg (gw_S kw_535 kw_536 kw_12 kw_534) rfl rfl rfl (by decide +kernel) ⟨(Nat.le_of_ble_eq_true rfl), (Nat.le_of_ble_eq_true rfl)⟩) pr_0 rfl rfl hl.1 rfl (lv_room (Nat.le_of_ble_eq_true rfl)) dX11_areNumbers_30 ⟨(Nat.le_of_ble_eq_true rfl), (Nat.le_of_ble_eq_true rfl)⟩) (fun r_30 h_30 => ?_)
      rcases (show r_30 = 0 ∨ r_30 = 1 by rw [h_30]; exact iw_01) with rfl | rfl
      · refine lv_if_eq (tgt := 62) hx hb dX11_areNumbers_33 (by decide) (fun c_33 => ?_) (fun c_33 => absurd c_33 (by decide))
        refine lv_iconst (v := 0) hx hb dX11_areNumbers_62 (by decide) ?_
        refine W_sQ hQ ?_
        exact W.zret (v := 0) hx hb hr (by decide) (fun t ht hW => ⟨0, rfl, (Or.inl ⟨rfl, fun q9 => ok_no h_30 (by have q8 := q9.2.1; rw [pTop_4] at q8; exact q8)⟩), ht⟩) (fun _ h => absurd h List.not_mem_nil) dX11_areNumbers_63
      · refine lv_if_eq (tgt := 62) hx hb dX11_areNumbers_33 (by decide) (fun c_33 => absurd c_33 (by decide)) (fun c_33 => ?_)
        refine lv_iload_n hx hb dX11_areNumbers_36 rfl (lv_at hl 4 rfl) ?_
        refine lv_iconst (v := 0) hx hb dX11_areNumbers_37 (by decide) ?_
        refine lv_sipush (v := 999) hx hb dX11_areNumbers_38 (by decide) ?_
        refine vp_callSi (W.runS (As := [.int p4, .int 0, .int 999]) (rest := []) ⟨hx, hb, hml, hown, hg⟩ (c_isWithin l p4 0 999) (va_cwS 3 hg (gw_S kw_535 kw_536 kw_12 kw_534) rfl rfl rfl (by decide +kernel) ⟨(Nat.le_of_ble_eq_true rfl), (Nat.le_of_ble_eq_true rfl)⟩) pr_0 rfl rfl hl.1 rfl (lv_room (Nat.le_of_ble_eq_true rfl)) dX11_areNumbers_41 ⟨(Nat.le_of_ble_eq_true rfl), (Nat.le_of_ble_eq_true rfl)⟩) (fun r_41 h_41 => ?_)
        rcases (show r_41 = 0 ∨ r_41 = 1 by rw [h_41]; exact iw_01) with rfl | rfl
        · refine lv_if_eq (tgt := 62) hx hb dX11_areNumbers_44 (by decide) (fun c_44 => ?_) (fun c_44 => absurd c_44 (by decide))
          refine lv_iconst (v := 0) hx hb dX11_areNumbers_62 (by decide) ?_
          refine W_sQ hQ ?_
          exact W.zret (v := 0) hx hb hr (by decide) (fun t ht hW => ⟨0, rfl, (Or.inl ⟨rfl, fun q9 => ok_no h_41 (by have q8 := q9.2.2.1; exact q8)⟩), ht⟩) (fun _ h => absurd h List.not_mem_nil) dX11_areNumbers_63
        · refine lv_if_eq (tgt := 62) hx hb dX11_areNumbers_44 (by decide) (fun c_44 => absurd c_44 (by decide)) (fun c_44 => ?_)
          refine lv_iload hx hb dX11_areNumbers_47 (lv_at hl 5 rfl) ?_
          refine lv_iconst (v := 0) hx hb dX11_areNumbers_49 (by decide) ?_
          refine lv_iload hx hb dX11_areNumbers_50 (lv_at hl 0 rfl) ?_
          refine vp_callSi (W.runS (As := [.int p5, .int 0, .int 100]) (rest := []) ⟨hx, hb, hml, hown, hg⟩ (c_isWithin l p5 0 100) (va_cwS 3 hg (gw_S kw_535 kw_536 kw_12 kw_534) rfl rfl rfl (by decide +kernel) ⟨(Nat.le_of_ble_eq_true rfl), (Nat.le_of_ble_eq_true rfl)⟩) pr_0 rfl rfl hl.1 rfl (lv_room (Nat.le_of_ble_eq_true rfl)) dX11_areNumbers_52 ⟨(Nat.le_of_ble_eq_true rfl), (Nat.le_of_ble_eq_true rfl)⟩) (fun r_52 h_52 => ?_)
          rcases (show r_52 = 0 ∨ r_52 = 1 by rw [h_52]; exact iw_01) with rfl | rfl
          · refine lv_if_eq (tgt := 62) hx hb dX11_areNumbers_55 (by decide) (fun c_55 => ?_) (fun c_55 => absurd c_55 (by decide))
            refine lv_iconst (v := 0) hx hb dX11_areNumbers_62 (by decide) ?_
            refine W_sQ hQ ?_
            exact W.zret (v := 0) hx hb hr (by decide) (fun t ht hW => ⟨0, rfl, (Or.inl ⟨rfl, fun q9 => ok_no h_52 (by have q8 := q9.2.2.2; rw [pTop_4] at q8; exact q8)⟩), ht⟩) (fun _ h => absurd h List.not_mem_nil) dX11_areNumbers_63
          · refine lv_if_eq (tgt := 62) hx hb dX11_areNumbers_55 (by decide) (fun c_55 => absurd c_55 (by decide)) (fun c_55 => ?_)
            refine lv_iconst (v := 1) hx hb dX11_areNumbers_58 (by decide) ?_
            refine lv_goto (tgt := 63) hx hb dX11_areNumbers_59 (by decide) ?_
            refine W_sQ hQ ?_
            exact W.zret (v := 1) hx hb hr (by decide) (fun t ht hW => ⟨1, rfl, (Or.inr ⟨rfl, h_20.symm, by rw [pTop_4]; exact h_30.symm, h_41.symm, by rw [pTop_4]; exact h_52.symm⟩), ht⟩) (fun _ h => absurd h List.not_mem_nil) dX11_areNumbers_63

/-- a PAY more, or the same PAYS -/
def pRel (rs rs2 : List PRec) (k a b d f : Int32) : Prop := rs2 = rs ∨ ∃ q : PRec, rs2 = rs ++ [q] ∧ kdo q.2.1 = k ∧ q.2.2.2.1 0 = a ∧ q.2.2.2.1 1 = b ∧ q.2.2.2.1 2 = d ∧ q.2.2.2.1 3 = f
theorem py_app {cs : Nat → ClassId} {E : va_W} {rs : List PRec} {r : PRec} : ((E ++ pyW cs r) ++ pyL cs rs).Perm (E ++ pyL cs (rs ++ [r])) := by
  have e : pyL cs (rs ++ [r]) = pyL cs rs ++ pyW cs r := by
    unfold pyL
    rw [List.flatMap_append, List.flatMap_cons, List.flatMap_nil, List.append_nil]
  rw [e, List.append_assoc]
  exact List.Perm.append_left E List.perm_append_comm
theorem P_app {D : va_G} {cs : Nat → ClassId} {E : va_W} {rs : List PRec} (r : PRec) {H : Heap} (hP : va_P D vwCl ((E ++ pyW cs r) ++ pyL cs rs) H) : va_P D vwCl (E ++ pyL cs (rs ++ [r])) H := P_perm py_app hP
theorem D_app {A : Nat → Prop} {cs : Nat → ClassId} {E : va_W} {rs : List PRec} (r : PRec) (hD : va_D A ((E ++ pyW cs r) ++ pyL cs rs)) : va_D A (E ++ pyL cs (rs ++ [r])) := D_perm py_app hD
theorem pyI_app {f f2 : Nat → Option Nat} {rs : List PRec} {n : Nat} {r : PRec} (h : pyI f rs) (hl : n = rs.length) (hn : n < 8) (e : f2 = va_up f (nI n).toNatClampNeg (some r.1)) (hc : isPy r.2.1) : pyI f2 (rs ++ [r]) := by
  subst hl
  rw [nI_clamp (by omega)] at e
  refine ⟨by rw [List.length_append]; show rs.length + 1 ≤ 8; omega, fun k q hq => ?_⟩
  rcases Nat.lt_trichotomy k rs.length with w | w | w
  · rw [List.getElem?_append_left w] at hq
    obtain ⟨a, b⟩ := h.2 k q hq
    refine ⟨?_, b⟩
    rw [e, ← a]
    simp [va_up, Nat.ne_of_lt w]
  · subst w
    rw [List.getElem?_append_right (Nat.le_refl _), Nat.sub_self] at hq
    cases hq
    exact ⟨by rw [e]; simp [va_up], hc⟩
  · rw [List.getElem?_eq_none (by rw [List.length_append]; show rs.length + 1 ≤ k; omega)] at hq
    cases hq

theorem dX11_pay_0 : decode cX11_pay 0 = .ok (.iload_n 1, 1) := by decide +kernel
theorem dX11_pay_1 : decode cX11_pay 1 = .ok (.iconst 0, 1) := by decide +kernel
theorem dX11_pay_2 : decode cX11_pay 2 = .ok (.iconst 4, 1) := by decide +kernel
theorem dX11_pay_3 : decode cX11_pay 3 = .ok (.invokestatic 105, 3) := by decide +kernel
theorem dX11_pay_6 : decode cX11_pay 6 = .ok (.ifCond .eq 16, 3) := by decide +kernel
theorem dX11_pay_9 : decode cX11_pay 9 = .ok (.iload_n 1, 1) := by decide +kernel
theorem dX11_pay_10 : decode cX11_pay 10 = .ok (.iload_n 2, 1) := by decide +kernel
theorem dX11_pay_11 : decode cX11_pay 11 = .ok (.iload_n 3, 1) := by decide +kernel
theorem dX11_pay_12 : decode cX11_pay 12 = .ok (.iload 4, 2) := by decide +kernel
theorem dX11_pay_14 : decode cX11_pay 14 = .ok (.iload 5, 2) := by decide +kernel
theorem dX11_pay_16 : decode cX11_pay 16 = .ok (.invokestatic 130, 3) := by decide +kernel
theorem dX11_pay_19 : decode cX11_pay 19 = .ok (.ifCond .ne 6, 3) := by decide +kernel
theorem dX11_pay_22 : decode cX11_pay 22 = .ok (.bipush (-102), 2) := by decide +kernel
theorem dX11_pay_24 : decode cX11_pay 24 = .ok (.ireturn, 1) := by decide +kernel
theorem dX11_pay_25 : decode cX11_pay 25 = .ok (.aload_n 0, 1) := by decide +kernel
theorem dX11_pay_26 : decode cX11_pay 26 = .ok (.getfield 134, 3) := by decide +kernel
theorem dX11_pay_29 : decode cX11_pay 29 = .ok (.bipush 8, 2) := by decide +kernel
theorem dX11_pay_31 : decode cX11_pay 31 = .ok (.if_icmp .lt 6, 3) := by decide +kernel
theorem dX11_pay_34 : decode cX11_pay 34 = .ok (.bipush (-104), 2) := by decide +kernel
theorem dX11_pay_36 : decode cX11_pay 36 = .ok (.ireturn, 1) := by decide +kernel
theorem dX11_pay_37 : decode cX11_pay 37 = .ok (.iload_n 1, 1) := by decide +kernel
theorem dX11_pay_38 : decode cX11_pay 38 = .ok (.invokestatic 137, 3) := by decide +kernel
theorem dX11_pay_41 : decode cX11_pay 41 = .ok (.astore 6, 2) := by decide +kernel
theorem dX11_pay_43 : decode cX11_pay 43 = .ok (.aload 6, 2) := by decide +kernel
theorem dX11_pay_45 : decode cX11_pay 45 = .ok (.iload_n 2, 1) := by decide +kernel
theorem dX11_pay_46 : decode cX11_pay 46 = .ok (.iload_n 3, 1) := by decide +kernel
theorem dX11_pay_47 : decode cX11_pay 47 = .ok (.iload 4, 2) := by decide +kernel
theorem dX11_pay_49 : decode cX11_pay 49 = .ok (.iload 5, 2) := by decide +kernel
theorem dX11_pay_51 : decode cX11_pay 51 = .ok (.invokevirtual 141, 3) := by decide +kernel
theorem dX11_pay_54 : decode cX11_pay 54 = .ok (.aload_n 0, 1) := by decide +kernel
theorem dX11_pay_55 : decode cX11_pay 55 = .ok (.getfield 32, 3) := by decide +kernel
theorem dX11_pay_58 : decode cX11_pay 58 = .ok (.aload_n 0, 1) := by decide +kernel
theorem dX11_pay_59 : decode cX11_pay 59 = .ok (.getfield 134, 3) := by decide +kernel
theorem dX11_pay_62 : decode cX11_pay 62 = .ok (.aload 6, 2) := by decide +kernel
theorem dX11_pay_64 : decode cX11_pay 64 = .ok (.aastore, 1) := by decide +kernel
theorem dX11_pay_65 : decode cX11_pay 65 = .ok (.aload_n 0, 1) := by decide +kernel
theorem dX11_pay_66 : decode cX11_pay 66 = .ok (.dup, 1) := by decide +kernel
theorem dX11_pay_67 : decode cX11_pay 67 = .ok (.getfield 134, 3) := by decide +kernel
theorem dX11_pay_70 : decode cX11_pay 70 = .ok (.iconst 1, 1) := by decide +kernel
theorem dX11_pay_71 : decode cX11_pay 71 = .ok (.iadd, 1) := by decide +kernel
theorem dX11_pay_72 : decode cX11_pay 72 = .ok (.putfield 134, 3) := by decide +kernel
theorem dX11_pay_75 : decode cX11_pay 75 = .ok (.aload_n 0, 1) := by decide +kernel
theorem dX11_pay_76 : decode cX11_pay 76 = .ok (.getfield 134, 3) := by decide +kernel
theorem dX11_pay_79 : decode cX11_pay 79 = .ok (.iconst 1, 1) := by decide +kernel
theorem dX11_pay_80 : decode cX11_pay 80 = .ok (.isub, 1) := by decide +kernel
theorem dX11_pay_81 : decode cX11_pay 81 = .ok (.ireturn, 1) := by decide +kernel
theorem kw_711 : (.code yX11_areNumbers cX11_areNumbers 6 (some .boolean) : Cond) ∈ gw_tbl := gw_in (by decide +kernel) (by decide +kernel)
theorem kw_712 : (.methodLink RX11 130 yX11_areNumbers : Cond) ∈ gw_tbl := gw_in (by decide +kernel) (by decide +kernel)
theorem kw_713 : (.static yX11_areNumbers : Cond) ∈ gw_tbl := gw_in (by decide +kernel) (by decide +kernel)
theorem kw_714 : (.code yX11_madeOf cX11_madeOf 1 (some (.object "NobodyChecks$Pay")) : Cond) ∈ gw_tbl := gw_in (by decide +kernel) (by decide +kernel)
theorem kw_715 : (.methodLink RX11 137 yX11_madeOf : Cond) ∈ gw_tbl := gw_in (by decide +kernel) (by decide +kernel)
theorem kw_716 : (.static yX11_madeOf : Cond) ∈ gw_tbl := gw_in (by decide +kernel) (by decide +kernel)
theorem kw_717 : (.methodLink RX11 141 yX3_become : Cond) ∈ gw_tbl := gw_in (by decide +kernel) (by decide +kernel)
theorem kw_718 : (.selects RX3 yX3_become yX3_become : Cond) ∈ gw_tbl := gw_in (by decide +kernel) (by decide +kernel)
theorem kw_719 : (.sameMethod yX3_become.cls "NobodyChecks$Pay" yX3_become.name yX3_become.desc : Cond) ∈ gw_tbl := gw_in (by decide +kernel) (by decide +kernel)
theorem kw_720 : (.selects RX9 yX3_become yX3_become : Cond) ∈ gw_tbl := gw_in (by decide +kernel) (by decide +kernel)
theorem kw_721 : (.selects RX10 yX3_become yX3_become : Cond) ∈ gw_tbl := gw_in (by decide +kernel) (by decide +kernel)
theorem kw_722 : (.selects RX6 yX3_become yX3_become : Cond) ∈ gw_tbl := gw_in (by decide +kernel) (by decide +kernel)
theorem kw_723 : (.selects RX1 yX3_become yX3_become : Cond) ∈ gw_tbl := gw_in (by decide +kernel) (by decide +kernel)

set_option maxHeartbeats 4000000 in
set_option maxRecDepth 100000 in
theorem x_pay (l : Launch) (D : va_G) (cs : Nat → ClassId) (x0 : Nat) (py : Nat) (pn : Nat) (hpn : pn ≤ 8) (td : Int32) (pg : Nat) (rd : Nat) (aq : Nat) (pl : Nat) (ch : Nat) (ro : Nat) (fpy : Nat → Option Nat) (rs : List PRec) (hpi : pyI fpy rs) (hpl : pn = rs.length) (p1 : Int32) (p2 : Int32) (p3 : Int32) (p4 : Int32) (p5 : Int32) (sz : Nat) : Met l yX11_pay (Cond.code yX11_pay cX11_pay 7 (some .int) :: gw_tbl) ({ frames := 5, cells := 2, slots := 7, locals := 92 }) (pc_C D cs ([(x0, .inr (11, [.ref pg, .ref rd, .ref aq, .ref py, .ref pl, .ref ch, .ref ro, .int (nI pn), .int td])), (py, .inl (cs 3, 8, .inr (.inr (.inr (.inr fpy)))))] ++ (pyL cs rs)) sz [.ref x0, .int p1, .int p2, .int p3, .int p4, .int p5]) (va_Qi (fun (r : Int32) (u : Int32) => u = r) (fun u t => ∃ (pn2 : Nat) (fpy2 : Nat → Option Nat) (rs2 : List PRec), (pn2 ≤ 8) ∧ (pn2 = rs2.length) ∧ (pyI fpy2 rs2) ∧ (stepN pn pn2 p1 p2 p3 p4 p5 u) ∧ (pRel rs rs2 p1 p2 p3 p4 p5) ∧ va_P D vwCl ([(x0, .inr (11, [.ref pg, .ref rd, .ref aq, .ref py, .ref pl, .ref ch, .ref ro, .int (nI pn2), .int td])), (py, .inl (cs 3, 8, .inr (.inr (.inr (.inr fpy2)))))] ++ pyL cs rs2) t.heap ∧ va_D (va_A ([(x0, .inr (11, [.ref pg, .ref rd, .ref aq, .ref py, .ref pl, .ref ch, .ref ro, .int (nI pn), .int td])), (py, .inl (cs 3, 8, .inr (.inr (.inr (.inr fpy)))))] ++ pyL cs rs) sz) ([(x0, .inr (11, [.ref pg, .ref rd, .ref aq, .ref py, .ref pl, .ref ch, .ref ro, .int (nI pn2), .int td])), (py, .inl (cs 3, 8, .inr (.inr (.inr (.inr fpy2)))))] ++ pyL cs rs2)) (va_A ([(x0, .inr (11, [.ref pg, .ref rd, .ref aq, .ref py, .ref pl, .ref ch, .ref ro, .int (nI pn), .int td])), (py, .inl (cs 3, 8, .inr (.inr (.inr (.inr fpy)))))] ++ (pyL cs rs)) sz)) 2 7 (va_A ([(x0, .inr (11, [.ref pg, .ref rd, .ref aq, .ref py, .ref pl, .ref ch, .ref ro, .int (nI pn), .int td])), (py, .inl (cs 3, 8, .inr (.inr (.inr (.inr fpy)))))] ++ (pyL cs rs)) sz) := by
  refine Met.ofW (cc := cX11_pay) (maxL := 7) (ret := (some .int)) (by decide) rfl ?_
  intro p e s m args below meth c s₁ B hml hv
  obtain ⟨hargs, hsz, hP, hK, hD0, hN⟩ := hv
  have hx := B.exec
  have hb := B.bytes
  have hr := B.returns
  have hts := atoms_spec (ws := Cond.code yX11_pay cX11_pay 7 (some .int) :: gw_tbl) B.pre
  have hg := fun (w : Cond) (h : w ∈ gw_tbl) => hts w (List.mem_cons_of_mem _ h)
  have hown : s.vm.findClass RX11 = some m.cls := findClass_of_methodNamed B.named
  have hlocks := B.notSynchronized
  subst hsz
  have hD := hD0.self (sz := s.heap.size)
  generalize hAe : va_A ([(x0, .inr (11, [.ref pg, .ref rd, .ref aq, .ref py, .ref pl, .ref ch, .ref ro, .int (nI pn), .int td])), (py, .inl (cs 3, 8, .inr (.inr (.inr (.inr fpy)))))] ++ (pyL cs rs)) s.heap.size = A at hD ⊢
  have hA : ∀ q : Nat, s.heap.size ≤ q → A q := fun q h => by rw [← hAe]; exact Or.inr h
  have hS : va_S A s.heap s.heap [] := va_S.rf
  have hP : va_P D vwCl ([(x0, .inr (11, [.ref pg, .ref rd, .ref aq, .ref py, .ref pl, .ref ch, .ref ro, .int (nI pn), .int td])), (py, .inl (cs 3, 8, .inr (.inr (.inr (.inr fpy)))))] ++ (pyL cs rs)) s.heap := hP
  have hl := lv_entry ([.ref x0, .int p1, .int p2, .int p3, .int p4, .int p5]) (n := 7) (Nat.le_of_ble_eq_true rfl)
  rw [show entryFrame m args 7 = F0 m 0 (lg_sl ([.ref x0, .int p1, .int p2, .int p3, .int p4, .int p5]) ++ List.replicate (7 - (lg_sl ([.ref x0, .int p1, .int p2, .int p3, .int p4, .int p5])).length) Slot.unset).toArray [] from by rw [hargs]; exact lg_entry_eq ..]
  generalize (lg_sl ([.ref x0, .int p1, .int p2, .int p3, .int p4, .int p5]) ++ List.replicate (7 - (lg_sl ([.ref x0, .int p1, .int p2, .int p3, .int p4, .int p5])).length) Slot.unset).toArray = ls at hl ⊢
  have hl : lv_has ls 7 [(0, .ref x0), (1, .int p1), (2, .int p2), (3, .int p3), (4, .int p4), (5, .int p5)] := hl
  refine W_genQ (fun Q hQ => ?_)
  refine lv_iload_n hx hb dX11_pay_0 rfl (lv_at hl 1 rfl) ?_
  refine lv_iconst (v := 0) hx hb dX11_pay_1 (by decide) ?_
  refine lv_iconst (v := 4) hx hb dX11_pay_2 (by decide) ?_
  refine vp_callSi (W.runS (As := [.int p1, .int 0, .int 4]) (rest := []) ⟨hx, hb, hml, hown, hg⟩ (c_isWithin l p1 0 4) (va_cwS 3 hg (gw_S kw_535 kw_536 kw_12 kw_534) rfl rfl rfl (by decide +kernel) ⟨(Nat.le_of_ble_eq_true rfl), (Nat.le_of_ble_eq_true rfl)⟩) pr_0 rfl rfl hl.1 rfl (lv_room (Nat.le_of_ble_eq_true rfl)) dX11_pay_3 ⟨(Nat.le_of_ble_eq_true rfl), (Nat.le_of_ble_eq_true rfl)⟩) (fun r_3 h_3 => ?_)
  rcases (show r_3 = 0 ∨ r_3 = 1 by rw [h_3]; exact iw_01) with rfl | rfl
  · refine lv_if_eq (tgt := 22) hx hb dX11_pay_6 (by decide) (fun c_6 => ?_) (fun c_6 => absurd c_6 (by decide))
    refine lv_bipush (v := (-102)) hx hb dX11_pay_22 (by decide) ?_
    refine W_sQ hQ ?_
    refine W.widen (k := 2) (n := 7) (Nat.le_of_ble_eq_true rfl) (Nat.le_of_ble_eq_true rfl) ?_
    have hP9 := hP.part (cx := [(x0, .inr (11, [.ref pg, .ref rd, .ref aq, .ref py, .ref pl, .ref ch, .ref ro, .int (nI pn), .int td])), (py, .inl (cs 3, 8, .inr (.inr (.inr (.inr fpy)))))]) [0, 1] rfl
    have hD9 := hD.part (cx := [(x0, .inr (11, [.ref pg, .ref rd, .ref aq, .ref py, .ref pl, .ref ch, .ref ro, .int (nI pn), .int td])), (py, .inl (cs 3, 8, .inr (.inr (.inr (.inr fpy)))))]) [0, 1] (by decide) rfl
    exact W.iret (v := (-102)) hx hb hr (fun t ht hW => ⟨⟨(-102), (-102), rfl, rfl, ⟨pn, fpy, rs, by omega, by omega, hpi, (Or.inl ⟨fun q9 => ok_no h_3 q9.1, rfl, rfl⟩), Or.inl rfl, by rw [ht]; exact hP9, hD9⟩⟩, hS.F ht⟩) hS.2.2 dX11_pay_24
  · refine lv_if_eq (tgt := 22) hx hb dX11_pay_6 (by decide) (fun c_6 => absurd c_6 (by decide)) (fun c_6 => ?_)
    refine lv_iload_n hx hb dX11_pay_9 rfl (lv_at hl 1 rfl) ?_
    refine lv_iload_n hx hb dX11_pay_10 rfl (lv_at hl 2 rfl) ?_
    refine lv_iload_n hx hb dX11_pay_11 rfl (lv_at hl 3 rfl) ?_
    refine lv_iload hx hb dX11_pay_12 (lv_at hl 4 rfl) ?_
    refine lv_iload hx hb dX11_pay_14 (lv_at hl 5 rfl) ?_
    refine vp_callSi (W.runS (As := [.int p1, .int p2, .int p3, .int p4, .int p5]) (rest := []) ⟨hx, hb, hml, hown, hg⟩ (x_areNumbers l p1 p2 p3 p4 p5) (va_cwS 5 hg (gw_S kw_712 kw_713 kw_12 kw_711) rfl rfl rfl (by decide +kernel) ⟨(Nat.le_of_ble_eq_true rfl), (Nat.le_of_ble_eq_true rfl)⟩) pr_0 rfl rfl hl.1 rfl (lv_room (Nat.le_of_ble_eq_true rfl)) dX11_pay_16 ⟨(Nat.le_of_ble_eq_true rfl), (Nat.le_of_ble_eq_true rfl)⟩) (fun r_16 h_16 => ?_)
    rcases h_16 with ⟨rfl, h_16⟩ | ⟨rfl, h_16⟩
    · refine lv_if_ne (tgt := 25) hx hb dX11_pay_19 (by decide) (fun c_19 => absurd c_19 (by decide)) (fun c_19 => ?_)
      refine lv_bipush (v := (-102)) hx hb dX11_pay_22 (by decide) ?_
      refine W_sQ hQ ?_
      refine W.widen (k := 2) (n := 7) (Nat.le_of_ble_eq_true rfl) (Nat.le_of_ble_eq_true rfl) ?_
      have hP9 := hP.part (cx := [(x0, .inr (11, [.ref pg, .ref rd, .ref aq, .ref py, .ref pl, .ref ch, .ref ro, .int (nI pn), .int td])), (py, .inl (cs 3, 8, .inr (.inr (.inr (.inr fpy)))))]) [0, 1] rfl
      have hD9 := hD.part (cx := [(x0, .inr (11, [.ref pg, .ref rd, .ref aq, .ref py, .ref pl, .ref ch, .ref ro, .int (nI pn), .int td])), (py, .inl (cs 3, 8, .inr (.inr (.inr (.inr fpy)))))]) [0, 1] (by decide) rfl
      exact W.iret (v := (-102)) hx hb hr (fun t ht hW => ⟨⟨(-102), (-102), rfl, rfl, ⟨pn, fpy, rs, by omega, by omega, hpi, (Or.inl ⟨fun q9 => h_16 q9.2, rfl, rfl⟩), Or.inl rfl, by rw [ht]; exact hP9, hD9⟩⟩, hS.F ht⟩) hS.2.2 dX11_pay_24
    · refine lv_if_ne (tgt := 25) hx hb dX11_pay_19 (by decide) (fun c_19 => ?_) (fun c_19 => absurd c_19 (by decide))
      refine lv_aload_n hx hb dX11_pay_25 rfl (lv_at hl 0 rfl) ?_
      refine va_get (D := D) (ci := 11) (v := .int (nI pn)) (C := RX11) (T := TX11) (N := 9) hx hb hg gwX11 hown hK hP 0 rfl rfl 7 (by decide) (hg _ kw_593) (fun _ h9 => h9) rfl dX11_pay_26 ?_
      refine lv_bipush (v := 8) hx hb dX11_pay_29 (by decide) ?_
      refine lv_icmp_lt (tgt := 37) hx hb dX11_pay_31 (by decide) (fun c_31 => ?_) (fun c_31 => ?_)
      · have n_31 : pn < 8 := b_lt_t (by omega) (by omega) c_31
        rcases tw5 h_3.symm with rfl | rfl | rfl | rfl | rfl
        · refine lv_iload_n hx hb dX11_pay_37 rfl (lv_at hl 1 rfl) ?_
          have hPc := hP.sub (ws' := []) [] rfl
          have hDc := hD.sub (ws' := []) [] (by decide) rfl
          have hFc := va_free (wc := []) hD hS hA [] rfl
          refine va_callr (va_runS (As := [.int 0]) (rest := []) ⟨hx, hb, hml, hown, hg⟩ (x_madeOf_0 l D cs _) (va_cwS 1 hg (gw_S kw_715 kw_716 kw_12 kw_714) rfl rfl rfl (by decide +kernel) ⟨(Nat.le_of_ble_eq_true rfl), (Nat.le_of_ble_eq_true rfl)⟩) (pr_C hK hPc hDc hN) rfl rfl hl.1 rfl (lv_room (Nat.le_of_ble_eq_true rfl)) dX11_pay_38 ⟨(Nat.le_of_ble_eq_true rfl), (Nat.le_of_ble_eq_true rfl)⟩) hS (fun q _ h => hFc q h) hFc (fun u r_38 t H1 locs ht hvm h_38 hB hz1 hk1 hS => ?_)
          obtain ⟨nq2_38, fq2_38, hP1, hD1⟩ := hB
          rw [ht] at hP1
          obtain ⟨hP, hD⟩ := va_joinQ (X := [(x0, .inr (11, [.ref pg, .ref rd, .ref aq, .ref py, .ref pl, .ref ch, .ref ro, .int (nI pn), .int td])), (py, .inl (cs 3, 8, .inr (.inr (.inr (.inr fpy)))))]) (pl := (pyL cs rs)) (cx := []) (wr := [(x0, .inr (11, [.ref pg, .ref rd, .ref aq, .ref py, .ref pl, .ref ch, .ref ro, .int (nI pn), .int td])), (py, .inl (cs 3, 8, .inr (.inr (.inr (.inr fpy)))))]) (w1 := [(r_38, .inr (3, [.ref nq2_38, .null, .int 0])), (nq2_38, .inl (cs 0, 4, .inl fq2_38))]) hP hD [] [0, 1] rfl rfl (by decide) (by decide) hk1 hFc hP1 hD1
          generalize H1 = H at hP hS ⊢
          have hP : va_P D vwCl ([(x0, .inr (11, [.ref pg, .ref rd, .ref aq, .ref py, .ref pl, .ref ch, .ref ro, .int (nI pn), .int td])), (py, .inl (cs 3, 8, .inr (.inr (.inr (.inr fpy))))), (r_38, .inr (3, [.ref nq2_38, .null, .int 0])), (nq2_38, .inl (cs 0, 4, .inl fq2_38))] ++ (pyL cs rs)) H := hP
          have hD : va_D A ([(x0, .inr (11, [.ref pg, .ref rd, .ref aq, .ref py, .ref pl, .ref ch, .ref ro, .int (nI pn), .int td])), (py, .inl (cs 3, 8, .inr (.inr (.inr (.inr fpy))))), (r_38, .inr (3, [.ref nq2_38, .null, .int 0])), (nq2_38, .inl (cs 0, 4, .inl fq2_38))] ++ (pyL cs rs)) := hD
          refine W.cs (cells' := 2) (slots' := 7) rfl rfl ?_
          refine lv_astore (lv' := [(6, .ref r_38), (0, .ref x0), (1, .int 0), (2, .int p2), (3, .int p3), (4, .int p4), (5, .int p5)]) hx hb dX11_pay_41 hl (by decide) rfl (fun ls hl => ?_)
          refine lv_aload hx hb dX11_pay_43 (lv_at hl 0 rfl) ?_
          refine lv_iload_n hx hb dX11_pay_45 rfl (lv_at hl 3 rfl) ?_
          refine lv_iload_n hx hb dX11_pay_46 rfl (lv_at hl 4 rfl) ?_
          refine lv_iload hx hb dX11_pay_47 (lv_at hl 5 rfl) ?_
          refine lv_iload hx hb dX11_pay_49 (lv_at hl 6 rfl) ?_
          have hPc := hP.sub (ws' := [(r_38, .inr (3, [.ref nq2_38, .null, .int 0])), (nq2_38, .inl (cs 0, 4, .inl fq2_38))]) [2, 3] rfl
          have hDc := hD.sub (ws' := [(r_38, .inr (3, [.ref nq2_38, .null, .int 0])), (nq2_38, .inl (cs 0, 4, .inl fq2_38))]) [2, 3] (by decide) rfl
          have hFc := va_free (wc := [(r_38, .inr (3, [.ref nq2_38, .null, .int 0])), (nq2_38, .inl (cs 0, 4, .inl fq2_38))]) hD hS hA [2, 3] rfl
          refine va_callv (va_runV (As := [.int p2, .int p3, .int p4, .int p5]) (rest := []) ⟨hx, hb, hml, hown, hg⟩ (p_become_3 l D cs r_38 nq2_38 .null 0 fq2_38 p2 p3 p4 p5 _) (cwV 4 hg (gw_V kw_717 kw_263 kw_718 kw_151 kw_259) rfl rfl rfl (by decide +kernel) ⟨(Nat.le_of_ble_eq_true rfl), (Nat.le_of_ble_eq_true rfl)⟩) (pr_MV (q := (RX3, TX3, 3)) 3 0 hK hPc hDc rfl rfl) rfl rfl hl.1 rfl (lv_room (Nat.le_of_ble_eq_true rfl)) dX11_pay_51 ⟨(Nat.le_of_ble_eq_true rfl), (Nat.le_of_ble_eq_true rfl)⟩) hS (fun q _ h => hFc q h) hFc (fun u t H1 locs ht hvm h_51 hB hz1 hk1 hS => ?_)
          obtain ⟨fq2_51, hq2_51, hP1, hD1⟩ := hB
          rw [ht] at hP1
          obtain ⟨hP, hD⟩ := va_joinQ (X := [(x0, .inr (11, [.ref pg, .ref rd, .ref aq, .ref py, .ref pl, .ref ch, .ref ro, .int (nI pn), .int td])), (py, .inl (cs 3, 8, .inr (.inr (.inr (.inr fpy))))), (r_38, .inr (3, [.ref nq2_38, .null, .int 0])), (nq2_38, .inl (cs 0, 4, .inl fq2_38))]) (pl := (pyL cs rs)) (cx := [(r_38, .inr (3, [.ref nq2_38, .null, .int 0])), (nq2_38, .inl (cs 0, 4, .inl fq2_38))]) (wr := [(x0, .inr (11, [.ref pg, .ref rd, .ref aq, .ref py, .ref pl, .ref ch, .ref ro, .int (nI pn), .int td])), (py, .inl (cs 3, 8, .inr (.inr (.inr (.inr fpy)))))]) (w1 := [(r_38, .inr (3, [.ref nq2_38, .null, .int 0])), (nq2_38, .inl (cs 0, 4, .inl fq2_51))]) hP hD [2, 3] [0, 1] rfl rfl (by decide) (by decide) hk1 hFc hP1 hD1
          generalize H1 = H at hP hS ⊢
          have hP : va_P D vwCl ([(x0, .inr (11, [.ref pg, .ref rd, .ref aq, .ref py, .ref pl, .ref ch, .ref ro, .int (nI pn), .int td])), (py, .inl (cs 3, 8, .inr (.inr (.inr (.inr fpy))))), (r_38, .inr (3, [.ref nq2_38, .null, .int 0])), (nq2_38, .inl (cs 0, 4, .inl fq2_51))] ++ (pyL cs rs)) H := hP
          have hD : va_D A ([(x0, .inr (11, [.ref pg, .ref rd, .ref aq, .ref py, .ref pl, .ref ch, .ref ro, .int (nI pn), .int td])), (py, .inl (cs 3, 8, .inr (.inr (.inr (.inr fpy))))), (r_38, .inr (3, [.ref nq2_38, .null, .int 0])), (nq2_38, .inl (cs 0, 4, .inl fq2_51))] ++ (pyL cs rs)) := hD
          refine W.cs (cells' := 2) (slots' := 7) rfl rfl ?_
          refine lv_aload_n hx hb dX11_pay_54 rfl (lv_at hl 1 rfl) ?_
          refine va_get (D := D) (ci := 11) (v := .ref py) (C := RX11) (T := TX11) (N := 9) hx hb hg gwX11 hown hK hP 0 rfl rfl 3 (by decide) (hg _ kw_606) (fun _ h9 => h9) rfl dX11_pay_55 ?_
          refine lv_aload_n hx hb dX11_pay_58 rfl (lv_at hl 1 rfl) ?_
          refine va_get (D := D) (ci := 11) (v := .int (nI pn)) (C := RX11) (T := TX11) (N := 9) hx hb hg gwX11 hown hK hP 0 rfl rfl 7 (by decide) (hg _ kw_593) (fun _ h9 => h9) rfl dX11_pay_59 ?_
          refine lv_aload hx hb dX11_pay_62 (lv_at hl 0 rfl) ?_
          refine va_astq (r := (RX3, TX3, 3)) hx hb hK hP hD hS 1 3 2 3 rfl rfl rfl rfl (vp_in_nI (show pn < 8 by omega) (by decide)) dX11_pay_64 (fun H locs hP hD hS => ?_)
          obtain ⟨f_64, hf_64⟩ : ∃ f9, f9 = (va_up fpy (nI pn).toNatClampNeg (some r_38)) := ⟨_, rfl⟩
          rw [← hf_64] at hP hD
          have hP : va_P D vwCl ([(x0, .inr (11, [.ref pg, .ref rd, .ref aq, .ref py, .ref pl, .ref ch, .ref ro, .int (nI pn), .int td])), (py, .inl (cs 3, 8, .inr (.inr (.inr (.inr f_64))))), (r_38, .inr (3, [.ref nq2_38, .null, .int 0])), (nq2_38, .inl (cs 0, 4, .inl fq2_51))] ++ (pyL cs rs)) H := hP
          have hD : va_D A ([(x0, .inr (11, [.ref pg, .ref rd, .ref aq, .ref py, .ref pl, .ref ch, .ref ro, .int (nI pn), .int td])), (py, .inl (cs 3, 8, .inr (.inr (.inr (.inr f_64))))), (r_38, .inr (3, [.ref nq2_38, .null, .int 0])), (nq2_38, .inl (cs 0, 4, .inl fq2_51))] ++ (pyL cs rs)) := hD
          refine lv_aload_n hx hb dX11_pay_65 rfl (lv_at hl 1 rfl) ?_
          refine lv_dup hx hb dX11_pay_66 rfl ?_
          refine va_get (D := D) (ci := 11) (v := .int (nI pn)) (C := RX11) (T := TX11) (N := 9) hx hb hg gwX11 hown hK hP 0 rfl rfl 7 (by decide) (hg _ kw_593) (fun _ h9 => h9) rfl dX11_pay_67 ?_
          refine lv_iconst (v := 1) hx hb dX11_pay_70 (by decide) ?_
          refine lv_iadd hx hb dX11_pay_71 ?_
          refine lv_topi (fun z_71 e_71 => ?_)
          obtain rfl : z_71 = nI (pn + 1) := e_71.trans (nI_add _ _)
          refine va_put (D := D) (ci := 11) (v := .int (nI (pn + 1))) (ty := .int) (C := RX11) (T := TX11) (N := 9) hx hb hg gwX11 tyX11 tyX11_ok nmX11 hown hK hP hD hS 0 rfl rfl 7 (by decide) (hg _ kw_593) (fun _ h9 => h9) rfl (by decide +kernel) rfl rfl (Nat.le_of_ble_eq_true rfl) dX11_pay_72 (fun H locs hP hD hS => ?_)
          have hP : va_P D vwCl ([(x0, .inr (11, [.ref pg, .ref rd, .ref aq, .ref py, .ref pl, .ref ch, .ref ro, .int (nI (pn + 1)), .int td])), (py, .inl (cs 3, 8, .inr (.inr (.inr (.inr f_64))))), (r_38, .inr (3, [.ref nq2_38, .null, .int 0])), (nq2_38, .inl (cs 0, 4, .inl fq2_51))] ++ (pyL cs rs)) H := hP
          have hD : va_D A ([(x0, .inr (11, [.ref pg, .ref rd, .ref aq, .ref py, .ref pl, .ref ch, .ref ro, .int (nI (pn + 1)), .int td])), (py, .inl (cs 3, 8, .inr (.inr (.inr (.inr f_64))))), (r_38, .inr (3, [.ref nq2_38, .null, .int 0])), (nq2_38, .inl (cs 0, 4, .inl fq2_51))] ++ (pyL cs rs)) := hD
          refine lv_aload_n hx hb dX11_pay_75 rfl (lv_at hl 1 rfl) ?_
          refine va_get (D := D) (ci := 11) (v := .int (nI (pn + 1))) (C := RX11) (T := TX11) (N := 9) hx hb hg gwX11 hown hK hP 0 rfl rfl 7 (by decide) (hg _ kw_593) (fun _ h9 => h9) rfl dX11_pay_76 ?_
          refine lv_iconst (v := 1) hx hb dX11_pay_79 (by decide) ?_
          refine lv_isub hx hb dX11_pay_80 ?_
          refine lv_topi (fun z_80 e_80 => ?_)
          obtain rfl : z_80 = nI pn := e_80.trans (nI_pred pn)
          refine W_sQ hQ ?_
          refine W.widen (k := 2) (n := 7) (Nat.le_of_ble_eq_true rfl) (Nat.le_of_ble_eq_true rfl) ?_
          have hP9 := P_app (E := [(x0, .inr (11, [.ref pg, .ref rd, .ref aq, .ref py, .ref pl, .ref ch, .ref ro, .int (nI (pn + 1)), .int td])), (py, .inl (cs 3, 8, .inr (.inr (.inr (.inr f_64)))))]) (r_38, 3, nq2_38, fq2_51, none, 0) (hP.part (cx := [(x0, .inr (11, [.ref pg, .ref rd, .ref aq, .ref py, .ref pl, .ref ch, .ref ro, .int (nI (pn + 1)), .int td])), (py, .inl (cs 3, 8, .inr (.inr (.inr (.inr f_64))))), (r_38, .inr (3, [.ref nq2_38, .null, .int 0])), (nq2_38, .inl (cs 0, 4, .inl fq2_51))]) [0, 1, 2, 3] rfl)
          have hD9 := D_app (E := [(x0, .inr (11, [.ref pg, .ref rd, .ref aq, .ref py, .ref pl, .ref ch, .ref ro, .int (nI (pn + 1)), .int td])), (py, .inl (cs 3, 8, .inr (.inr (.inr (.inr f_64)))))]) (r_38, 3, nq2_38, fq2_51, none, 0) (hD.part (cx := [(x0, .inr (11, [.ref pg, .ref rd, .ref aq, .ref py, .ref pl, .ref ch, .ref ro, .int (nI (pn + 1)), .int td])), (py, .inl (cs 3, 8, .inr (.inr (.inr (.inr f_64))))), (r_38, .inr (3, [.ref nq2_38, .null, .int 0])), (nq2_38, .inl (cs 0, 4, .inl fq2_51))]) [0, 1, 2, 3] (by decide) rfl)
          have hq9 := hq2_51
          exact W.iret (v := (nI pn)) hx hb hr (fun t ht hW => ⟨⟨(nI pn), (nI pn), rfl, rfl, ⟨pn + 1, f_64, rs ++ [(r_38, 3, nq2_38, fq2_51, none, 0)], by omega, by rw [List.length_append]; show pn + 1 = rs.length + 1; omega, pyI_app hpi hpl (by omega) hf_64 (show isPy 3 from by unfold isPy; omega), Or.inr (Or.inr ⟨⟨h_3.symm, h_16⟩, by omega, rfl, rfl⟩), Or.inr ⟨_, rfl, show kdo 3 = 0 from by decide, hq9.1, hq9.2.1, hq9.2.2.1, hq9.2.2.2⟩, by rw [ht]; exact hP9, hD9⟩⟩, hS.F ht⟩) hS.2.2 dX11_pay_81
        · refine lv_iload_n hx hb dX11_pay_37 rfl (lv_at hl 1 rfl) ?_
          have hPc := hP.sub (ws' := []) [] rfl
          have hDc := hD.sub (ws' := []) [] (by decide) rfl
          have hFc := va_free (wc := []) hD hS hA [] rfl
          refine va_callr (va_runS (As := [.int 1]) (rest := []) ⟨hx, hb, hml, hown, hg⟩ (x_madeOf_1 l D cs _) (va_cwS 1 hg (gw_S kw_715 kw_716 kw_12 kw_714) rfl rfl rfl (by decide +kernel) ⟨(Nat.le_of_ble_eq_true rfl), (Nat.le_of_ble_eq_true rfl)⟩) (pr_C hK hPc hDc hN) rfl rfl hl.1 rfl (lv_room (Nat.le_of_ble_eq_true rfl)) dX11_pay_38 ⟨(Nat.le_of_ble_eq_true rfl), (Nat.le_of_ble_eq_true rfl)⟩) hS (fun q _ h => hFc q h) hFc (fun u r_38 t H1 locs ht hvm h_38 hB hz1 hk1 hS => ?_)
          obtain ⟨nq2_38, fq2_38, hP1, hD1⟩ := hB
          rw [ht] at hP1
          obtain ⟨hP, hD⟩ := va_joinQ (X := [(x0, .inr (11, [.ref pg, .ref rd, .ref aq, .ref py, .ref pl, .ref ch, .ref ro, .int (nI pn), .int td])), (py, .inl (cs 3, 8, .inr (.inr (.inr (.inr fpy)))))]) (pl := (pyL cs rs)) (cx := []) (wr := [(x0, .inr (11, [.ref pg, .ref rd, .ref aq, .ref py, .ref pl, .ref ch, .ref ro, .int (nI pn), .int td])), (py, .inl (cs 3, 8, .inr (.inr (.inr (.inr fpy)))))]) (w1 := [(r_38, .inr (9, [.ref nq2_38, .null, .int 0])), (nq2_38, .inl (cs 0, 4, .inl fq2_38))]) hP hD [] [0, 1] rfl rfl (by decide) (by decide) hk1 hFc hP1 hD1
          generalize H1 = H at hP hS ⊢
          have hP : va_P D vwCl ([(x0, .inr (11, [.ref pg, .ref rd, .ref aq, .ref py, .ref pl, .ref ch, .ref ro, .int (nI pn), .int td])), (py, .inl (cs 3, 8, .inr (.inr (.inr (.inr fpy))))), (r_38, .inr (9, [.ref nq2_38, .null, .int 0])), (nq2_38, .inl (cs 0, 4, .inl fq2_38))] ++ (pyL cs rs)) H := hP
          have hD : va_D A ([(x0, .inr (11, [.ref pg, .ref rd, .ref aq, .ref py, .ref pl, .ref ch, .ref ro, .int (nI pn), .int td])), (py, .inl (cs 3, 8, .inr (.inr (.inr (.inr fpy))))), (r_38, .inr (9, [.ref nq2_38, .null, .int 0])), (nq2_38, .inl (cs 0, 4, .inl fq2_38))] ++ (pyL cs rs)) := hD
          refine W.cs (cells' := 2) (slots' := 7) rfl rfl ?_
          refine lv_astore (lv' := [(6, .ref r_38), (0, .ref x0), (1, .int 1), (2, .int p2), (3, .int p3), (4, .int p4), (5, .int p5)]) hx hb dX11_pay_41 hl (by decide) rfl (fun ls hl => ?_)
          refine lv_aload hx hb dX11_pay_43 (lv_at hl 0 rfl) ?_
          refine lv_iload_n hx hb dX11_pay_45 rfl (lv_at hl 3 rfl) ?_
          refine lv_iload_n hx hb dX11_pay_46 rfl (lv_at hl 4 rfl) ?_
          refine lv_iload hx hb dX11_pay_47 (lv_at hl 5 rfl) ?_
          refine lv_iload hx hb dX11_pay_49 (lv_at hl 6 rfl) ?_
          have hPc := hP.sub (ws' := [(r_38, .inr (9, [.ref nq2_38, .null, .int 0])), (nq2_38, .inl (cs 0, 4, .inl fq2_38))]) [2, 3] rfl
          have hDc := hD.sub (ws' := [(r_38, .inr (9, [.ref nq2_38, .null, .int 0])), (nq2_38, .inl (cs 0, 4, .inl fq2_38))]) [2, 3] (by decide) rfl
          have hFc := va_free (wc := [(r_38, .inr (9, [.ref nq2_38, .null, .int 0])), (nq2_38, .inl (cs 0, 4, .inl fq2_38))]) hD hS hA [2, 3] rfl
          refine va_callv (va_runU (As := [.int p2, .int p3, .int p4, .int p5]) (rest := []) ⟨hx, hb, hml, hown, hg⟩ (p_become_9 l D cs r_38 nq2_38 .null 0 fq2_38 p2 p3 p4 p5 _) (va_cwU (owner := "NobodyChecks$Pay") (x := yX3_become) 4 hg (gw_U kw_717 kw_719 kw_720 kw_263 kw_151 kw_259) rfl rfl rfl rfl (by decide +kernel) ⟨(Nat.le_of_ble_eq_true rfl), (Nat.le_of_ble_eq_true rfl)⟩) (pr_MV (q := (RX9, TX9, 3)) 9 0 hK hPc hDc rfl rfl) rfl rfl hl.1 rfl (lv_room (Nat.le_of_ble_eq_true rfl)) dX11_pay_51 ⟨(Nat.le_of_ble_eq_true rfl), (Nat.le_of_ble_eq_true rfl)⟩) hS (fun q _ h => hFc q h) hFc (fun u t H1 locs ht hvm h_51 hB hz1 hk1 hS => ?_)
          obtain ⟨fq2_51, hq2_51, hP1, hD1⟩ := hB
          rw [ht] at hP1
          obtain ⟨hP, hD⟩ := va_joinQ (X := [(x0, .inr (11, [.ref pg, .ref rd, .ref aq, .ref py, .ref pl, .ref ch, .ref ro, .int (nI pn), .int td])), (py, .inl (cs 3, 8, .inr (.inr (.inr (.inr fpy))))), (r_38, .inr (9, [.ref nq2_38, .null, .int 0])), (nq2_38, .inl (cs 0, 4, .inl fq2_38))]) (pl := (pyL cs rs)) (cx := [(r_38, .inr (9, [.ref nq2_38, .null, .int 0])), (nq2_38, .inl (cs 0, 4, .inl fq2_38))]) (wr := [(x0, .inr (11, [.ref pg, .ref rd, .ref aq, .ref py, .ref pl, .ref ch, .ref ro, .int (nI pn), .int td])), (py, .inl (cs 3, 8, .inr (.inr (.inr (.inr fpy)))))]) (w1 := [(r_38, .inr (9, [.ref nq2_38, .null, .int 0])), (nq2_38, .inl (cs 0, 4, .inl fq2_51))]) hP hD [2, 3] [0, 1] rfl rfl (by decide) (by decide) hk1 hFc hP1 hD1
          generalize H1 = H at hP hS ⊢
          have hP : va_P D vwCl ([(x0, .inr (11, [.ref pg, .ref rd, .ref aq, .ref py, .ref pl, .ref ch, .ref ro, .int (nI pn), .int td])), (py, .inl (cs 3, 8, .inr (.inr (.inr (.inr fpy))))), (r_38, .inr (9, [.ref nq2_38, .null, .int 0])), (nq2_38, .inl (cs 0, 4, .inl fq2_51))] ++ (pyL cs rs)) H := hP
          have hD : va_D A ([(x0, .inr (11, [.ref pg, .ref rd, .ref aq, .ref py, .ref pl, .ref ch, .ref ro, .int (nI pn), .int td])), (py, .inl (cs 3, 8, .inr (.inr (.inr (.inr fpy))))), (r_38, .inr (9, [.ref nq2_38, .null, .int 0])), (nq2_38, .inl (cs 0, 4, .inl fq2_51))] ++ (pyL cs rs)) := hD
          refine W.cs (cells' := 2) (slots' := 7) rfl rfl ?_
          refine lv_aload_n hx hb dX11_pay_54 rfl (lv_at hl 1 rfl) ?_
          refine va_get (D := D) (ci := 11) (v := .ref py) (C := RX11) (T := TX11) (N := 9) hx hb hg gwX11 hown hK hP 0 rfl rfl 3 (by decide) (hg _ kw_606) (fun _ h9 => h9) rfl dX11_pay_55 ?_
          refine lv_aload_n hx hb dX11_pay_58 rfl (lv_at hl 1 rfl) ?_
          refine va_get (D := D) (ci := 11) (v := .int (nI pn)) (C := RX11) (T := TX11) (N := 9) hx hb hg gwX11 hown hK hP 0 rfl rfl 7 (by decide) (hg _ kw_593) (fun _ h9 => h9) rfl dX11_pay_59 ?_
          refine lv_aload hx hb dX11_pay_62 (lv_at hl 0 rfl) ?_
          refine va_astqO (E := RX3) (r := (RX9, TX9, 3)) hx hb hK hP hD hS 1 3 2 9 rfl rfl (hN.2.2.2.2 RX9 (by decide +kernel)) rfl rfl (vp_in_nI (show pn < 8 by omega) (by decide)) dX11_pay_64 (fun H locs hP hD hS => ?_)
          obtain ⟨f_64, hf_64⟩ : ∃ f9, f9 = (va_up fpy (nI pn).toNatClampNeg (some r_38)) := ⟨_, rfl⟩
          rw [← hf_64] at hP hD
          have hP : va_P D vwCl ([(x0, .inr (11, [.ref pg, .ref rd, .ref aq, .ref py, .ref pl, .ref ch, .ref ro, .int (nI pn), .int td])), (py, .inl (cs 3, 8, .inr (.inr (.inr (.inr f_64))))), (r_38, .inr (9, [.ref nq2_38, .null, .int 0])), (nq2_38, .inl (cs 0, 4, .inl fq2_51))] ++ (pyL cs rs)) H := hP
          have hD : va_D A ([(x0, .inr (11, [.ref pg, .ref rd, .ref aq, .ref py, .ref pl, .ref ch, .ref ro, .int (nI pn), .int td])), (py, .inl (cs 3, 8, .inr (.inr (.inr (.inr f_64))))), (r_38, .inr (9, [.ref nq2_38, .null, .int 0])), (nq2_38, .inl (cs 0, 4, .inl fq2_51))] ++ (pyL cs rs)) := hD
          refine lv_aload_n hx hb dX11_pay_65 rfl (lv_at hl 1 rfl) ?_
          refine lv_dup hx hb dX11_pay_66 rfl ?_
          refine va_get (D := D) (ci := 11) (v := .int (nI pn)) (C := RX11) (T := TX11) (N := 9) hx hb hg gwX11 hown hK hP 0 rfl rfl 7 (by decide) (hg _ kw_593) (fun _ h9 => h9) rfl dX11_pay_67 ?_
          refine lv_iconst (v := 1) hx hb dX11_pay_70 (by decide) ?_
          refine lv_iadd hx hb dX11_pay_71 ?_
          refine lv_topi (fun z_71 e_71 => ?_)
          obtain rfl : z_71 = nI (pn + 1) := e_71.trans (nI_add _ _)
          refine va_put (D := D) (ci := 11) (v := .int (nI (pn + 1))) (ty := .int) (C := RX11) (T := TX11) (N := 9) hx hb hg gwX11 tyX11 tyX11_ok nmX11 hown hK hP hD hS 0 rfl rfl 7 (by decide) (hg _ kw_593) (fun _ h9 => h9) rfl (by decide +kernel) rfl rfl (Nat.le_of_ble_eq_true rfl) dX11_pay_72 (fun H locs hP hD hS => ?_)
          have hP : va_P D vwCl ([(x0, .inr (11, [.ref pg, .ref rd, .ref aq, .ref py, .ref pl, .ref ch, .ref ro, .int (nI (pn + 1)), .int td])), (py, .inl (cs 3, 8, .inr (.inr (.inr (.inr f_64))))), (r_38, .inr (9, [.ref nq2_38, .null, .int 0])), (nq2_38, .inl (cs 0, 4, .inl fq2_51))] ++ (pyL cs rs)) H := hP
          have hD : va_D A ([(x0, .inr (11, [.ref pg, .ref rd, .ref aq, .ref py, .ref pl, .ref ch, .ref ro, .int (nI (pn + 1)), .int td])), (py, .inl (cs 3, 8, .inr (.inr (.inr (.inr f_64))))), (r_38, .inr (9, [.ref nq2_38, .null, .int 0])), (nq2_38, .inl (cs 0, 4, .inl fq2_51))] ++ (pyL cs rs)) := hD
          refine lv_aload_n hx hb dX11_pay_75 rfl (lv_at hl 1 rfl) ?_
          refine va_get (D := D) (ci := 11) (v := .int (nI (pn + 1))) (C := RX11) (T := TX11) (N := 9) hx hb hg gwX11 hown hK hP 0 rfl rfl 7 (by decide) (hg _ kw_593) (fun _ h9 => h9) rfl dX11_pay_76 ?_
          refine lv_iconst (v := 1) hx hb dX11_pay_79 (by decide) ?_
          refine lv_isub hx hb dX11_pay_80 ?_
          refine lv_topi (fun z_80 e_80 => ?_)
          obtain rfl : z_80 = nI pn := e_80.trans (nI_pred pn)
          refine W_sQ hQ ?_
          refine W.widen (k := 2) (n := 7) (Nat.le_of_ble_eq_true rfl) (Nat.le_of_ble_eq_true rfl) ?_
          have hP9 := P_app (E := [(x0, .inr (11, [.ref pg, .ref rd, .ref aq, .ref py, .ref pl, .ref ch, .ref ro, .int (nI (pn + 1)), .int td])), (py, .inl (cs 3, 8, .inr (.inr (.inr (.inr f_64)))))]) (r_38, 9, nq2_38, fq2_51, none, 0) (hP.part (cx := [(x0, .inr (11, [.ref pg, .ref rd, .ref aq, .ref py, .ref pl, .ref ch, .ref ro, .int (nI (pn + 1)), .int td])), (py, .inl (cs 3, 8, .inr (.inr (.inr (.inr f_64))))), (r_38, .inr (9, [.ref nq2_38, .null, .int 0])), (nq2_38, .inl (cs 0, 4, .inl fq2_51))]) [0, 1, 2, 3] rfl)
          have hD9 := D_app (E := [(x0, .inr (11, [.ref pg, .ref rd, .ref aq, .ref py, .ref pl, .ref ch, .ref ro, .int (nI (pn + 1)), .int td])), (py, .inl (cs 3, 8, .inr (.inr (.inr (.inr f_64)))))]) (r_38, 9, nq2_38, fq2_51, none, 0) (hD.part (cx := [(x0, .inr (11, [.ref pg, .ref rd, .ref aq, .ref py, .ref pl, .ref ch, .ref ro, .int (nI (pn + 1)), .int td])), (py, .inl (cs 3, 8, .inr (.inr (.inr (.inr f_64))))), (r_38, .inr (9, [.ref nq2_38, .null, .int 0])), (nq2_38, .inl (cs 0, 4, .inl fq2_51))]) [0, 1, 2, 3] (by decide) rfl)
          have hq9 := hq2_51
          exact W.iret (v := (nI pn)) hx hb hr (fun t ht hW => ⟨⟨(nI pn), (nI pn), rfl, rfl, ⟨pn + 1, f_64, rs ++ [(r_38, 9, nq2_38, fq2_51, none, 0)], by omega, by rw [List.length_append]; show pn + 1 = rs.length + 1; omega, pyI_app hpi hpl (by omega) hf_64 (show isPy 9 from by unfold isPy; omega), Or.inr (Or.inr ⟨⟨h_3.symm, h_16⟩, by omega, rfl, rfl⟩), Or.inr ⟨_, rfl, show kdo 9 = 1 from by decide, hq9.1, hq9.2.1, hq9.2.2.1, hq9.2.2.2⟩, by rw [ht]; exact hP9, hD9⟩⟩, hS.F ht⟩) hS.2.2 dX11_pay_81
        · refine lv_iload_n hx hb dX11_pay_37 rfl (lv_at hl 1 rfl) ?_
          have hPc := hP.sub (ws' := []) [] rfl
          have hDc := hD.sub (ws' := []) [] (by decide) rfl
          have hFc := va_free (wc := []) hD hS hA [] rfl
          refine va_callr (va_runS (As := [.int 2]) (rest := []) ⟨hx, hb, hml, hown, hg⟩ (x_madeOf_2 l D cs _) (va_cwS 1 hg (gw_S kw_715 kw_716 kw_12 kw_714) rfl rfl rfl (by decide +kernel) ⟨(Nat.le_of_ble_eq_true rfl), (Nat.le_of_ble_eq_true rfl)⟩) (pr_C hK hPc hDc hN) rfl rfl hl.1 rfl (lv_room (Nat.le_of_ble_eq_true rfl)) dX11_pay_38 ⟨(Nat.le_of_ble_eq_true rfl), (Nat.le_of_ble_eq_true rfl)⟩) hS (fun q _ h => hFc q h) hFc (fun u r_38 t H1 locs ht hvm h_38 hB hz1 hk1 hS => ?_)
          obtain ⟨nq2_38, fq2_38, hP1, hD1⟩ := hB
          rw [ht] at hP1
          obtain ⟨hP, hD⟩ := va_joinQ (X := [(x0, .inr (11, [.ref pg, .ref rd, .ref aq, .ref py, .ref pl, .ref ch, .ref ro, .int (nI pn), .int td])), (py, .inl (cs 3, 8, .inr (.inr (.inr (.inr fpy)))))]) (pl := (pyL cs rs)) (cx := []) (wr := [(x0, .inr (11, [.ref pg, .ref rd, .ref aq, .ref py, .ref pl, .ref ch, .ref ro, .int (nI pn), .int td])), (py, .inl (cs 3, 8, .inr (.inr (.inr (.inr fpy)))))]) (w1 := [(r_38, .inr (10, [.ref nq2_38, .null, .int 0])), (nq2_38, .inl (cs 0, 4, .inl fq2_38))]) hP hD [] [0, 1] rfl rfl (by decide) (by decide) hk1 hFc hP1 hD1
          generalize H1 = H at hP hS ⊢
          have hP : va_P D vwCl ([(x0, .inr (11, [.ref pg, .ref rd, .ref aq, .ref py, .ref pl, .ref ch, .ref ro, .int (nI pn), .int td])), (py, .inl (cs 3, 8, .inr (.inr (.inr (.inr fpy))))), (r_38, .inr (10, [.ref nq2_38, .null, .int 0])), (nq2_38, .inl (cs 0, 4, .inl fq2_38))] ++ (pyL cs rs)) H := hP
          have hD : va_D A ([(x0, .inr (11, [.ref pg, .ref rd, .ref aq, .ref py, .ref pl, .ref ch, .ref ro, .int (nI pn), .int td])), (py, .inl (cs 3, 8, .inr (.inr (.inr (.inr fpy))))), (r_38, .inr (10, [.ref nq2_38, .null, .int 0])), (nq2_38, .inl (cs 0, 4, .inl fq2_38))] ++ (pyL cs rs)) := hD
          refine W.cs (cells' := 2) (slots' := 7) rfl rfl ?_
          refine lv_astore (lv' := [(6, .ref r_38), (0, .ref x0), (1, .int 2), (2, .int p2), (3, .int p3), (4, .int p4), (5, .int p5)]) hx hb dX11_pay_41 hl (by decide) rfl (fun ls hl => ?_)
          refine lv_aload hx hb dX11_pay_43 (lv_at hl 0 rfl) ?_
          refine lv_iload_n hx hb dX11_pay_45 rfl (lv_at hl 3 rfl) ?_
          refine lv_iload_n hx hb dX11_pay_46 rfl (lv_at hl 4 rfl) ?_
          refine lv_iload hx hb dX11_pay_47 (lv_at hl 5 rfl) ?_
          refine lv_iload hx hb dX11_pay_49 (lv_at hl 6 rfl) ?_
          have hPc := hP.sub (ws' := [(r_38, .inr (10, [.ref nq2_38, .null, .int 0])), (nq2_38, .inl (cs 0, 4, .inl fq2_38))]) [2, 3] rfl
          have hDc := hD.sub (ws' := [(r_38, .inr (10, [.ref nq2_38, .null, .int 0])), (nq2_38, .inl (cs 0, 4, .inl fq2_38))]) [2, 3] (by decide) rfl
          have hFc := va_free (wc := [(r_38, .inr (10, [.ref nq2_38, .null, .int 0])), (nq2_38, .inl (cs 0, 4, .inl fq2_38))]) hD hS hA [2, 3] rfl
          refine va_callv (va_runU (As := [.int p2, .int p3, .int p4, .int p5]) (rest := []) ⟨hx, hb, hml, hown, hg⟩ (p_become_10 l D cs r_38 nq2_38 .null 0 fq2_38 p2 p3 p4 p5 _) (va_cwU (owner := "NobodyChecks$Pay") (x := yX3_become) 4 hg (gw_U kw_717 kw_719 kw_721 kw_263 kw_151 kw_259) rfl rfl rfl rfl (by decide +kernel) ⟨(Nat.le_of_ble_eq_true rfl), (Nat.le_of_ble_eq_true rfl)⟩) (pr_MV (q := (RX10, TX10, 3)) 10 0 hK hPc hDc rfl rfl) rfl rfl hl.1 rfl (lv_room (Nat.le_of_ble_eq_true rfl)) dX11_pay_51 ⟨(Nat.le_of_ble_eq_true rfl), (Nat.le_of_ble_eq_true rfl)⟩) hS (fun q _ h => hFc q h) hFc (fun u t H1 locs ht hvm h_51 hB hz1 hk1 hS => ?_)
          obtain ⟨fq2_51, hq2_51, hP1, hD1⟩ := hB
          rw [ht] at hP1
          obtain ⟨hP, hD⟩ := va_joinQ (X := [(x0, .inr (11, [.ref pg, .ref rd, .ref aq, .ref py, .ref pl, .ref ch, .ref ro, .int (nI pn), .int td])), (py, .inl (cs 3, 8, .inr (.inr (.inr (.inr fpy))))), (r_38, .inr (10, [.ref nq2_38, .null, .int 0])), (nq2_38, .inl (cs 0, 4, .inl fq2_38))]) (pl := (pyL cs rs)) (cx := [(r_38, .inr (10, [.ref nq2_38, .null, .int 0])), (nq2_38, .inl (cs 0, 4, .inl fq2_38))]) (wr := [(x0, .inr (11, [.ref pg, .ref rd, .ref aq, .ref py, .ref pl, .ref ch, .ref ro, .int (nI pn), .int td])), (py, .inl (cs 3, 8, .inr (.inr (.inr (.inr fpy)))))]) (w1 := [(r_38, .inr (10, [.ref nq2_38, .null, .int 0])), (nq2_38, .inl (cs 0, 4, .inl fq2_51))]) hP hD [2, 3] [0, 1] rfl rfl (by decide) (by decide) hk1 hFc hP1 hD1
          generalize H1 = H at hP hS ⊢
          have hP : va_P D vwCl ([(x0, .inr (11, [.ref pg, .ref rd, .ref aq, .ref py, .ref pl, .ref ch, .ref ro, .int (nI pn), .int td])), (py, .inl (cs 3, 8, .inr (.inr (.inr (.inr fpy))))), (r_38, .inr (10, [.ref nq2_38, .null, .int 0])), (nq2_38, .inl (cs 0, 4, .inl fq2_51))] ++ (pyL cs rs)) H := hP
          have hD : va_D A ([(x0, .inr (11, [.ref pg, .ref rd, .ref aq, .ref py, .ref pl, .ref ch, .ref ro, .int (nI pn), .int td])), (py, .inl (cs 3, 8, .inr (.inr (.inr (.inr fpy))))), (r_38, .inr (10, [.ref nq2_38, .null, .int 0])), (nq2_38, .inl (cs 0, 4, .inl fq2_51))] ++ (pyL cs rs)) := hD
          refine W.cs (cells' := 2) (slots' := 7) rfl rfl ?_
          refine lv_aload_n hx hb dX11_pay_54 rfl (lv_at hl 1 rfl) ?_
          refine va_get (D := D) (ci := 11) (v := .ref py) (C := RX11) (T := TX11) (N := 9) hx hb hg gwX11 hown hK hP 0 rfl rfl 3 (by decide) (hg _ kw_606) (fun _ h9 => h9) rfl dX11_pay_55 ?_
          refine lv_aload_n hx hb dX11_pay_58 rfl (lv_at hl 1 rfl) ?_
          refine va_get (D := D) (ci := 11) (v := .int (nI pn)) (C := RX11) (T := TX11) (N := 9) hx hb hg gwX11 hown hK hP 0 rfl rfl 7 (by decide) (hg _ kw_593) (fun _ h9 => h9) rfl dX11_pay_59 ?_
          refine lv_aload hx hb dX11_pay_62 (lv_at hl 0 rfl) ?_
          refine va_astqO (E := RX3) (r := (RX10, TX10, 3)) hx hb hK hP hD hS 1 3 2 10 rfl rfl (hN.2.2.2.2 RX10 (by decide +kernel)) rfl rfl (vp_in_nI (show pn < 8 by omega) (by decide)) dX11_pay_64 (fun H locs hP hD hS => ?_)
          obtain ⟨f_64, hf_64⟩ : ∃ f9, f9 = (va_up fpy (nI pn).toNatClampNeg (some r_38)) := ⟨_, rfl⟩
          rw [← hf_64] at hP hD
          have hP : va_P D vwCl ([(x0, .inr (11, [.ref pg, .ref rd, .ref aq, .ref py, .ref pl, .ref ch, .ref ro, .int (nI pn), .int td])), (py, .inl (cs 3, 8, .inr (.inr (.inr (.inr f_64))))), (r_38, .inr (10, [.ref nq2_38, .null, .int 0])), (nq2_38, .inl (cs 0, 4, .inl fq2_51))] ++ (pyL cs rs)) H := hP
          have hD : va_D A ([(x0, .inr (11, [.ref pg, .ref rd, .ref aq, .ref py, .ref pl, .ref ch, .ref ro, .int (nI pn), .int td])), (py, .inl (cs 3, 8, .inr (.inr (.inr (.inr f_64))))), (r_38, .inr (10, [.ref nq2_38, .null, .int 0])), (nq2_38, .inl (cs 0, 4, .inl fq2_51))] ++ (pyL cs rs)) := hD
          refine lv_aload_n hx hb dX11_pay_65 rfl (lv_at hl 1 rfl) ?_
          refine lv_dup hx hb dX11_pay_66 rfl ?_
          refine va_get (D := D) (ci := 11) (v := .int (nI pn)) (C := RX11) (T := TX11) (N := 9) hx hb hg gwX11 hown hK hP 0 rfl rfl 7 (by decide) (hg _ kw_593) (fun _ h9 => h9) rfl dX11_pay_67 ?_
          refine lv_iconst (v := 1) hx hb dX11_pay_70 (by decide) ?_
          refine lv_iadd hx hb dX11_pay_71 ?_
          refine lv_topi (fun z_71 e_71 => ?_)
          obtain rfl : z_71 = nI (pn + 1) := e_71.trans (nI_add _ _)
          refine va_put (D := D) (ci := 11) (v := .int (nI (pn + 1))) (ty := .int) (C := RX11) (T := TX11) (N := 9) hx hb hg gwX11 tyX11 tyX11_ok nmX11 hown hK hP hD hS 0 rfl rfl 7 (by decide) (hg _ kw_593) (fun _ h9 => h9) rfl (by decide +kernel) rfl rfl (Nat.le_of_ble_eq_true rfl) dX11_pay_72 (fun H locs hP hD hS => ?_)
          have hP : va_P D vwCl ([(x0, .inr (11, [.ref pg, .ref rd, .ref aq, .ref py, .ref pl, .ref ch, .ref ro, .int (nI (pn + 1)), .int td])), (py, .inl (cs 3, 8, .inr (.inr (.inr (.inr f_64))))), (r_38, .inr (10, [.ref nq2_38, .null, .int 0])), (nq2_38, .inl (cs 0, 4, .inl fq2_51))] ++ (pyL cs rs)) H := hP
          have hD : va_D A ([(x0, .inr (11, [.ref pg, .ref rd, .ref aq, .ref py, .ref pl, .ref ch, .ref ro, .int (nI (pn + 1)), .int td])), (py, .inl (cs 3, 8, .inr (.inr (.inr (.inr f_64))))), (r_38, .inr (10, [.ref nq2_38, .null, .int 0])), (nq2_38, .inl (cs 0, 4, .inl fq2_51))] ++ (pyL cs rs)) := hD
          refine lv_aload_n hx hb dX11_pay_75 rfl (lv_at hl 1 rfl) ?_
          refine va_get (D := D) (ci := 11) (v := .int (nI (pn + 1))) (C := RX11) (T := TX11) (N := 9) hx hb hg gwX11 hown hK hP 0 rfl rfl 7 (by decide) (hg _ kw_593) (fun _ h9 => h9) rfl dX11_pay_76 ?_
          refine lv_iconst (v := 1) hx hb dX11_pay_79 (by decide) ?_
          refine lv_isub hx hb dX11_pay_80 ?_
          refine lv_topi (fun z_80 e_80 => ?_)
          obtain rfl : z_80 = nI pn := e_80.trans (nI_pred pn)
          refine W_sQ hQ ?_
          refine W.widen (k := 2) (n := 7) (Nat.le_of_ble_eq_true rfl) (Nat.le_of_ble_eq_true rfl) ?_
          have hP9 := P_app (E := [(x0, .inr (11, [.ref pg, .ref rd, .ref aq, .ref py, .ref pl, .ref ch, .ref ro, .int (nI (pn + 1)), .int td])), (py, .inl (cs 3, 8, .inr (.inr (.inr (.inr f_64)))))]) (r_38, 10, nq2_38, fq2_51, none, 0) (hP.part (cx := [(x0, .inr (11, [.ref pg, .ref rd, .ref aq, .ref py, .ref pl, .ref ch, .ref ro, .int (nI (pn + 1)), .int td])), (py, .inl (cs 3, 8, .inr (.inr (.inr (.inr f_64))))), (r_38, .inr (10, [.ref nq2_38, .null, .int 0])), (nq2_38, .inl (cs 0, 4, .inl fq2_51))]) [0, 1, 2, 3] rfl)
          have hD9 := D_app (E := [(x0, .inr (11, [.ref pg, .ref rd, .ref aq, .ref py, .ref pl, .ref ch, .ref ro, .int (nI (pn + 1)), .int td])), (py, .inl (cs 3, 8, .inr (.inr (.inr (.inr f_64)))))]) (r_38, 10, nq2_38, fq2_51, none, 0) (hD.part (cx := [(x0, .inr (11, [.ref pg, .ref rd, .ref aq, .ref py, .ref pl, .ref ch, .ref ro, .int (nI (pn + 1)), .int td])), (py, .inl (cs 3, 8, .inr (.inr (.inr (.inr f_64))))), (r_38, .inr (10, [.ref nq2_38, .null, .int 0])), (nq2_38, .inl (cs 0, 4, .inl fq2_51))]) [0, 1, 2, 3] (by decide) rfl)
          have hq9 := hq2_51
          exact W.iret (v := (nI pn)) hx hb hr (fun t ht hW => ⟨⟨(nI pn), (nI pn), rfl, rfl, ⟨pn + 1, f_64, rs ++ [(r_38, 10, nq2_38, fq2_51, none, 0)], by omega, by rw [List.length_append]; show pn + 1 = rs.length + 1; omega, pyI_app hpi hpl (by omega) hf_64 (show isPy 10 from by unfold isPy; omega), Or.inr (Or.inr ⟨⟨h_3.symm, h_16⟩, by omega, rfl, rfl⟩), Or.inr ⟨_, rfl, show kdo 10 = 2 from by decide, hq9.1, hq9.2.1, hq9.2.2.1, hq9.2.2.2⟩, by rw [ht]; exact hP9, hD9⟩⟩, hS.F ht⟩) hS.2.2 dX11_pay_81
        · refine lv_iload_n hx hb dX11_pay_37 rfl (lv_at hl 1 rfl) ?_
          have hPc := hP.sub (ws' := []) [] rfl
          have hDc := hD.sub (ws' := []) [] (by decide) rfl
          have hFc := va_free (wc := []) hD hS hA [] rfl
          refine va_callr (va_runS (As := [.int 3]) (rest := []) ⟨hx, hb, hml, hown, hg⟩ (x_madeOf_3 l D cs _) (va_cwS 1 hg (gw_S kw_715 kw_716 kw_12 kw_714) rfl rfl rfl (by decide +kernel) ⟨(Nat.le_of_ble_eq_true rfl), (Nat.le_of_ble_eq_true rfl)⟩) (pr_C hK hPc hDc hN) rfl rfl hl.1 rfl (lv_room (Nat.le_of_ble_eq_true rfl)) dX11_pay_38 ⟨(Nat.le_of_ble_eq_true rfl), (Nat.le_of_ble_eq_true rfl)⟩) hS (fun q _ h => hFc q h) hFc (fun u r_38 t H1 locs ht hvm h_38 hB hz1 hk1 hS => ?_)
          obtain ⟨nq2_38, fq2_38, hP1, hD1⟩ := hB
          rw [ht] at hP1
          obtain ⟨hP, hD⟩ := va_joinQ (X := [(x0, .inr (11, [.ref pg, .ref rd, .ref aq, .ref py, .ref pl, .ref ch, .ref ro, .int (nI pn), .int td])), (py, .inl (cs 3, 8, .inr (.inr (.inr (.inr fpy)))))]) (pl := (pyL cs rs)) (cx := []) (wr := [(x0, .inr (11, [.ref pg, .ref rd, .ref aq, .ref py, .ref pl, .ref ch, .ref ro, .int (nI pn), .int td])), (py, .inl (cs 3, 8, .inr (.inr (.inr (.inr fpy)))))]) (w1 := [(r_38, .inr (6, [.ref nq2_38, .null, .int 0])), (nq2_38, .inl (cs 0, 4, .inl fq2_38))]) hP hD [] [0, 1] rfl rfl (by decide) (by decide) hk1 hFc hP1 hD1
          generalize H1 = H at hP hS ⊢
          have hP : va_P D vwCl ([(x0, .inr (11, [.ref pg, .ref rd, .ref aq, .ref py, .ref pl, .ref ch, .ref ro, .int (nI pn), .int td])), (py, .inl (cs 3, 8, .inr (.inr (.inr (.inr fpy))))), (r_38, .inr (6, [.ref nq2_38, .null, .int 0])), (nq2_38, .inl (cs 0, 4, .inl fq2_38))] ++ (pyL cs rs)) H := hP
          have hD : va_D A ([(x0, .inr (11, [.ref pg, .ref rd, .ref aq, .ref py, .ref pl, .ref ch, .ref ro, .int (nI pn), .int td])), (py, .inl (cs 3, 8, .inr (.inr (.inr (.inr fpy))))), (r_38, .inr (6, [.ref nq2_38, .null, .int 0])), (nq2_38, .inl (cs 0, 4, .inl fq2_38))] ++ (pyL cs rs)) := hD
          refine W.cs (cells' := 2) (slots' := 7) rfl rfl ?_
          refine lv_astore (lv' := [(6, .ref r_38), (0, .ref x0), (1, .int 3), (2, .int p2), (3, .int p3), (4, .int p4), (5, .int p5)]) hx hb dX11_pay_41 hl (by decide) rfl (fun ls hl => ?_)
          refine lv_aload hx hb dX11_pay_43 (lv_at hl 0 rfl) ?_
          refine lv_iload_n hx hb dX11_pay_45 rfl (lv_at hl 3 rfl) ?_
          refine lv_iload_n hx hb dX11_pay_46 rfl (lv_at hl 4 rfl) ?_
          refine lv_iload hx hb dX11_pay_47 (lv_at hl 5 rfl) ?_
          refine lv_iload hx hb dX11_pay_49 (lv_at hl 6 rfl) ?_
          have hPc := hP.sub (ws' := [(r_38, .inr (6, [.ref nq2_38, .null, .int 0])), (nq2_38, .inl (cs 0, 4, .inl fq2_38))]) [2, 3] rfl
          have hDc := hD.sub (ws' := [(r_38, .inr (6, [.ref nq2_38, .null, .int 0])), (nq2_38, .inl (cs 0, 4, .inl fq2_38))]) [2, 3] (by decide) rfl
          have hFc := va_free (wc := [(r_38, .inr (6, [.ref nq2_38, .null, .int 0])), (nq2_38, .inl (cs 0, 4, .inl fq2_38))]) hD hS hA [2, 3] rfl
          refine va_callv (va_runU (As := [.int p2, .int p3, .int p4, .int p5]) (rest := []) ⟨hx, hb, hml, hown, hg⟩ (p_become_6 l D cs r_38 nq2_38 .null 0 fq2_38 p2 p3 p4 p5 _) (va_cwU (owner := "NobodyChecks$Pay") (x := yX3_become) 4 hg (gw_U kw_717 kw_719 kw_722 kw_263 kw_151 kw_259) rfl rfl rfl rfl (by decide +kernel) ⟨(Nat.le_of_ble_eq_true rfl), (Nat.le_of_ble_eq_true rfl)⟩) (pr_MV (q := (RX6, TX6, 3)) 6 0 hK hPc hDc rfl rfl) rfl rfl hl.1 rfl (lv_room (Nat.le_of_ble_eq_true rfl)) dX11_pay_51 ⟨(Nat.le_of_ble_eq_true rfl), (Nat.le_of_ble_eq_true rfl)⟩) hS (fun q _ h => hFc q h) hFc (fun u t H1 locs ht hvm h_51 hB hz1 hk1 hS => ?_)
          obtain ⟨fq2_51, hq2_51, hP1, hD1⟩ := hB
          rw [ht] at hP1
          obtain ⟨hP, hD⟩ := va_joinQ (X := [(x0, .inr (11, [.ref pg, .ref rd, .ref aq, .ref py, .ref pl, .ref ch, .ref ro, .int (nI pn), .int td])), (py, .inl (cs 3, 8, .inr (.inr (.inr (.inr fpy))))), (r_38, .inr (6, [.ref nq2_38, .null, .int 0])), (nq2_38, .inl (cs 0, 4, .inl fq2_38))]) (pl := (pyL cs rs)) (cx := [(r_38, .inr (6, [.ref nq2_38, .null, .int 0])), (nq2_38, .inl (cs 0, 4, .inl fq2_38))]) (wr := [(x0, .inr (11, [.ref pg, .ref rd, .ref aq, .ref py, .ref pl, .ref ch, .ref ro, .int (nI pn), .int td])), (py, .inl (cs 3, 8, .inr (.inr (.inr (.inr fpy)))))]) (w1 := [(r_38, .inr (6, [.ref nq2_38, .null, .int 0])), (nq2_38, .inl (cs 0, 4, .inl fq2_51))]) hP hD [2, 3] [0, 1] rfl rfl (by decide) (by decide) hk1 hFc hP1 hD1
          generalize H1 = H at hP hS ⊢
          have hP : va_P D vwCl ([(x0, .inr (11, [.ref pg, .ref rd, .ref aq, .ref py, .ref pl, .ref ch, .ref ro, .int (nI pn), .int td])), (py, .inl (cs 3, 8, .inr (.inr (.inr (.inr fpy))))), (r_38, .inr (6, [.ref nq2_38, .null, .int 0])), (nq2_38, .inl (cs 0, 4, .inl fq2_51))] ++ (pyL cs rs)) H := hP
          have hD : va_D A ([(x0, .inr (11, [.ref pg, .ref rd, .ref aq, .ref py, .ref pl, .ref ch, .ref ro, .int (nI pn), .int td])), (py, .inl (cs 3, 8, .inr (.inr (.inr (.inr fpy))))), (r_38, .inr (6, [.ref nq2_38, .null, .int 0])), (nq2_38, .inl (cs 0, 4, .inl fq2_51))] ++ (pyL cs rs)) := hD
          refine W.cs (cells' := 2) (slots' := 7) rfl rfl ?_
          refine lv_aload_n hx hb dX11_pay_54 rfl (lv_at hl 1 rfl) ?_
          refine va_get (D := D) (ci := 11) (v := .ref py) (C := RX11) (T := TX11) (N := 9) hx hb hg gwX11 hown hK hP 0 rfl rfl 3 (by decide) (hg _ kw_606) (fun _ h9 => h9) rfl dX11_pay_55 ?_
          refine lv_aload_n hx hb dX11_pay_58 rfl (lv_at hl 1 rfl) ?_
          refine va_get (D := D) (ci := 11) (v := .int (nI pn)) (C := RX11) (T := TX11) (N := 9) hx hb hg gwX11 hown hK hP 0 rfl rfl 7 (by decide) (hg _ kw_593) (fun _ h9 => h9) rfl dX11_pay_59 ?_
          refine lv_aload hx hb dX11_pay_62 (lv_at hl 0 rfl) ?_
          refine va_astqO (E := RX3) (r := (RX6, TX6, 3)) hx hb hK hP hD hS 1 3 2 6 rfl rfl (hN.2.2.2.2 RX6 (by decide +kernel)) rfl rfl (vp_in_nI (show pn < 8 by omega) (by decide)) dX11_pay_64 (fun H locs hP hD hS => ?_)
          obtain ⟨f_64, hf_64⟩ : ∃ f9, f9 = (va_up fpy (nI pn).toNatClampNeg (some r_38)) := ⟨_, rfl⟩
          rw [← hf_64] at hP hD
          have hP : va_P D vwCl ([(x0, .inr (11, [.ref pg, .ref rd, .ref aq, .ref py, .ref pl, .ref ch, .ref ro, .int (nI pn), .int td])), (py, .inl (cs 3, 8, .inr (.inr (.inr (.inr f_64))))), (r_38, .inr (6, [.ref nq2_38, .null, .int 0])), (nq2_38, .inl (cs 0, 4, .inl fq2_51))] ++ (pyL cs rs)) H := hP
          have hD : va_D A ([(x0, .inr (11, [.ref pg, .ref rd, .ref aq, .ref py, .ref pl, .ref ch, .ref ro, .int (nI pn), .int td])), (py, .inl (cs 3, 8, .inr (.inr (.inr (.inr f_64))))), (r_38, .inr (6, [.ref nq2_38, .null, .int 0])), (nq2_38, .inl (cs 0, 4, .inl fq2_51))] ++ (pyL cs rs)) := hD
          refine lv_aload_n hx hb dX11_pay_65 rfl (lv_at hl 1 rfl) ?_
          refine lv_dup hx hb dX11_pay_66 rfl ?_
          refine va_get (D := D) (ci := 11) (v := .int (nI pn)) (C := RX11) (T := TX11) (N := 9) hx hb hg gwX11 hown hK hP 0 rfl rfl 7 (by decide) (hg _ kw_593) (fun _ h9 => h9) rfl dX11_pay_67 ?_
          refine lv_iconst (v := 1) hx hb dX11_pay_70 (by decide) ?_
          refine lv_iadd hx hb dX11_pay_71 ?_
          refine lv_topi (fun z_71 e_71 => ?_)
          obtain rfl : z_71 = nI (pn + 1) := e_71.trans (nI_add _ _)
          refine va_put (D := D) (ci := 11) (v := .int (nI (pn + 1))) (ty := .int) (C := RX11) (T := TX11) (N := 9) hx hb hg gwX11 tyX11 tyX11_ok nmX11 hown hK hP hD hS 0 rfl rfl 7 (by decide) (hg _ kw_593) (fun _ h9 => h9) rfl (by decide +kernel) rfl rfl (Nat.le_of_ble_eq_true rfl) dX11_pay_72 (fun H locs hP hD hS => ?_)
          have hP : va_P D vwCl ([(x0, .inr (11, [.ref pg, .ref rd, .ref aq, .ref py, .ref pl, .ref ch, .ref ro, .int (nI (pn + 1)), .int td])), (py, .inl (cs 3, 8, .inr (.inr (.inr (.inr f_64))))), (r_38, .inr (6, [.ref nq2_38, .null, .int 0])), (nq2_38, .inl (cs 0, 4, .inl fq2_51))] ++ (pyL cs rs)) H := hP
          have hD : va_D A ([(x0, .inr (11, [.ref pg, .ref rd, .ref aq, .ref py, .ref pl, .ref ch, .ref ro, .int (nI (pn + 1)), .int td])), (py, .inl (cs 3, 8, .inr (.inr (.inr (.inr f_64))))), (r_38, .inr (6, [.ref nq2_38, .null, .int 0])), (nq2_38, .inl (cs 0, 4, .inl fq2_51))] ++ (pyL cs rs)) := hD
          refine lv_aload_n hx hb dX11_pay_75 rfl (lv_at hl 1 rfl) ?_
          refine va_get (D := D) (ci := 11) (v := .int (nI (pn + 1))) (C := RX11) (T := TX11) (N := 9) hx hb hg gwX11 hown hK hP 0 rfl rfl 7 (by decide) (hg _ kw_593) (fun _ h9 => h9) rfl dX11_pay_76 ?_
          refine lv_iconst (v := 1) hx hb dX11_pay_79 (by decide) ?_
          refine lv_isub hx hb dX11_pay_80 ?_
          refine lv_topi (fun z_80 e_80 => ?_)
          obtain rfl : z_80 = nI pn := e_80.trans (nI_pred pn)
          refine W_sQ hQ ?_
          refine W.widen (k := 2) (n := 7) (Nat.le_of_ble_eq_true rfl) (Nat.le_of_ble_eq_true rfl) ?_
          have hP9 := P_app (E := [(x0, .inr (11, [.ref pg, .ref rd, .ref aq, .ref py, .ref pl, .ref ch, .ref ro, .int (nI (pn + 1)), .int td])), (py, .inl (cs 3, 8, .inr (.inr (.inr (.inr f_64)))))]) (r_38, 6, nq2_38, fq2_51, none, 0) (hP.part (cx := [(x0, .inr (11, [.ref pg, .ref rd, .ref aq, .ref py, .ref pl, .ref ch, .ref ro, .int (nI (pn + 1)), .int td])), (py, .inl (cs 3, 8, .inr (.inr (.inr (.inr f_64))))), (r_38, .inr (6, [.ref nq2_38, .null, .int 0])), (nq2_38, .inl (cs 0, 4, .inl fq2_51))]) [0, 1, 2, 3] rfl)
          have hD9 := D_app (E := [(x0, .inr (11, [.ref pg, .ref rd, .ref aq, .ref py, .ref pl, .ref ch, .ref ro, .int (nI (pn + 1)), .int td])), (py, .inl (cs 3, 8, .inr (.inr (.inr (.inr f_64)))))]) (r_38, 6, nq2_38, fq2_51, none, 0) (hD.part (cx := [(x0, .inr (11, [.ref pg, .ref rd, .ref aq, .ref py, .ref pl, .ref ch, .ref ro, .int (nI (pn + 1)), .int td])), (py, .inl (cs 3, 8, .inr (.inr (.inr (.inr f_64))))), (r_38, .inr (6, [.ref nq2_38, .null, .int 0])), (nq2_38, .inl (cs 0, 4, .inl fq2_51))]) [0, 1, 2, 3] (by decide) rfl)
          have hq9 := hq2_51
          exact W.iret (v := (nI pn)) hx hb hr (fun t ht hW => ⟨⟨(nI pn), (nI pn), rfl, rfl, ⟨pn + 1, f_64, rs ++ [(r_38, 6, nq2_38, fq2_51, none, 0)], by omega, by rw [List.length_append]; show pn + 1 = rs.length + 1; omega, pyI_app hpi hpl (by omega) hf_64 (show isPy 6 from by unfold isPy; omega), Or.inr (Or.inr ⟨⟨h_3.symm, h_16⟩, by omega, rfl, rfl⟩), Or.inr ⟨_, rfl, show kdo 6 = 3 from by decide, hq9.1, hq9.2.1, hq9.2.2.1, hq9.2.2.2⟩, by rw [ht]; exact hP9, hD9⟩⟩, hS.F ht⟩) hS.2.2 dX11_pay_81
        · refine lv_iload_n hx hb dX11_pay_37 rfl (lv_at hl 1 rfl) ?_
          have hPc := hP.sub (ws' := []) [] rfl
          have hDc := hD.sub (ws' := []) [] (by decide) rfl
          have hFc := va_free (wc := []) hD hS hA [] rfl
          refine va_callr (va_runS (As := [.int 4]) (rest := []) ⟨hx, hb, hml, hown, hg⟩ (x_madeOf_4 l D cs _) (va_cwS 1 hg (gw_S kw_715 kw_716 kw_12 kw_714) rfl rfl rfl (by decide +kernel) ⟨(Nat.le_of_ble_eq_true rfl), (Nat.le_of_ble_eq_true rfl)⟩) (pr_C hK hPc hDc hN) rfl rfl hl.1 rfl (lv_room (Nat.le_of_ble_eq_true rfl)) dX11_pay_38 ⟨(Nat.le_of_ble_eq_true rfl), (Nat.le_of_ble_eq_true rfl)⟩) hS (fun q _ h => hFc q h) hFc (fun u r_38 t H1 locs ht hvm h_38 hB hz1 hk1 hS => ?_)
          obtain ⟨nq2_38, fq2_38, hP1, hD1⟩ := hB
          rw [ht] at hP1
          obtain ⟨hP, hD⟩ := va_joinQ (X := [(x0, .inr (11, [.ref pg, .ref rd, .ref aq, .ref py, .ref pl, .ref ch, .ref ro, .int (nI pn), .int td])), (py, .inl (cs 3, 8, .inr (.inr (.inr (.inr fpy)))))]) (pl := (pyL cs rs)) (cx := []) (wr := [(x0, .inr (11, [.ref pg, .ref rd, .ref aq, .ref py, .ref pl, .ref ch, .ref ro, .int (nI pn), .int td])), (py, .inl (cs 3, 8, .inr (.inr (.inr (.inr fpy)))))]) (w1 := [(r_38, .inr (1, [.ref nq2_38, .null, .int 0])), (nq2_38, .inl (cs 0, 4, .inl fq2_38))]) hP hD [] [0, 1] rfl rfl (by decide) (by decide) hk1 hFc hP1 hD1
          generalize H1 = H at hP hS ⊢
          have hP : va_P D vwCl ([(x0, .inr (11, [.ref pg, .ref rd, .ref aq, .ref py, .ref pl, .ref ch, .ref ro, .int (nI pn), .int td])), (py, .inl (cs 3, 8, .inr (.inr (.inr (.inr fpy))))), (r_38, .inr (1, [.ref nq2_38, .null, .int 0])), (nq2_38, .inl (cs 0, 4, .inl fq2_38))] ++ (pyL cs rs)) H := hP
          have hD : va_D A ([(x0, .inr (11, [.ref pg, .ref rd, .ref aq, .ref py, .ref pl, .ref ch, .ref ro, .int (nI pn), .int td])), (py, .inl (cs 3, 8, .inr (.inr (.inr (.inr fpy))))), (r_38, .inr (1, [.ref nq2_38, .null, .int 0])), (nq2_38, .inl (cs 0, 4, .inl fq2_38))] ++ (pyL cs rs)) := hD
          refine W.cs (cells' := 2) (slots' := 7) rfl rfl ?_
          refine lv_astore (lv' := [(6, .ref r_38), (0, .ref x0), (1, .int 4), (2, .int p2), (3, .int p3), (4, .int p4), (5, .int p5)]) hx hb dX11_pay_41 hl (by decide) rfl (fun ls hl => ?_)
          refine lv_aload hx hb dX11_pay_43 (lv_at hl 0 rfl) ?_
          refine lv_iload_n hx hb dX11_pay_45 rfl (lv_at hl 3 rfl) ?_
          refine lv_iload_n hx hb dX11_pay_46 rfl (lv_at hl 4 rfl) ?_
          refine lv_iload hx hb dX11_pay_47 (lv_at hl 5 rfl) ?_
          refine lv_iload hx hb dX11_pay_49 (lv_at hl 6 rfl) ?_
          have hPc := hP.sub (ws' := [(r_38, .inr (1, [.ref nq2_38, .null, .int 0])), (nq2_38, .inl (cs 0, 4, .inl fq2_38))]) [2, 3] rfl
          have hDc := hD.sub (ws' := [(r_38, .inr (1, [.ref nq2_38, .null, .int 0])), (nq2_38, .inl (cs 0, 4, .inl fq2_38))]) [2, 3] (by decide) rfl
          have hFc := va_free (wc := [(r_38, .inr (1, [.ref nq2_38, .null, .int 0])), (nq2_38, .inl (cs 0, 4, .inl fq2_38))]) hD hS hA [2, 3] rfl
          refine va_callv (va_runU (As := [.int p2, .int p3, .int p4, .int p5]) (rest := []) ⟨hx, hb, hml, hown, hg⟩ (p_become_1 l D cs r_38 nq2_38 .null 0 fq2_38 p2 p3 p4 p5 _) (va_cwU (owner := "NobodyChecks$Pay") (x := yX3_become) 4 hg (gw_U kw_717 kw_719 kw_723 kw_263 kw_151 kw_259) rfl rfl rfl rfl (by decide +kernel) ⟨(Nat.le_of_ble_eq_true rfl), (Nat.le_of_ble_eq_true rfl)⟩) (pr_MV (q := (RX1, TX1, 3)) 1 0 hK hPc hDc rfl rfl) rfl rfl hl.1 rfl (lv_room (Nat.le_of_ble_eq_true rfl)) dX11_pay_51 ⟨(Nat.le_of_ble_eq_true rfl), (Nat.le_of_ble_eq_true rfl)⟩) hS (fun q _ h => hFc q h) hFc (fun u t H1 locs ht hvm h_51 hB hz1 hk1 hS => ?_)
          obtain ⟨fq2_51, hq2_51, hP1, hD1⟩ := hB
          rw [ht] at hP1
          obtain ⟨hP, hD⟩ := va_joinQ (X := [(x0, .inr (11, [.ref pg, .ref rd, .ref aq, .ref py, .ref pl, .ref ch, .ref ro, .int (nI pn), .int td])), (py, .inl (cs 3, 8, .inr (.inr (.inr (.inr fpy))))), (r_38, .inr (1, [.ref nq2_38, .null, .int 0])), (nq2_38, .inl (cs 0, 4, .inl fq2_38))]) (pl := (pyL cs rs)) (cx := [(r_38, .inr (1, [.ref nq2_38, .null, .int 0])), (nq2_38, .inl (cs 0, 4, .inl fq2_38))]) (wr := [(x0, .inr (11, [.ref pg, .ref rd, .ref aq, .ref py, .ref pl, .ref ch, .ref ro, .int (nI pn), .int td])), (py, .inl (cs 3, 8, .inr (.inr (.inr (.inr fpy)))))]) (w1 := [(r_38, .inr (1, [.ref nq2_38, .null, .int 0])), (nq2_38, .inl (cs 0, 4, .inl fq2_51))]) hP hD [2, 3] [0, 1] rfl rfl (by decide) (by decide) hk1 hFc hP1 hD1
          generalize H1 = H at hP hS ⊢
          have hP : va_P D vwCl ([(x0, .inr (11, [.ref pg, .ref rd, .ref aq, .ref py, .ref pl, .ref ch, .ref ro, .int (nI pn), .int td])), (py, .inl (cs 3, 8, .inr (.inr (.inr (.inr fpy))))), (r_38, .inr (1, [.ref nq2_38, .null, .int 0])), (nq2_38, .inl (cs 0, 4, .inl fq2_51))] ++ (pyL cs rs)) H := hP
          have hD : va_D A ([(x0, .inr (11, [.ref pg, .ref rd, .ref aq, .ref py, .ref pl, .ref ch, .ref ro, .int (nI pn), .int td])), (py, .inl (cs 3, 8, .inr (.inr (.inr (.inr fpy))))), (r_38, .inr (1, [.ref nq2_38, .null, .int 0])), (nq2_38, .inl (cs 0, 4, .inl fq2_51))] ++ (pyL cs rs)) := hD
          refine W.cs (cells' := 2) (slots' := 7) rfl rfl ?_
          refine lv_aload_n hx hb dX11_pay_54 rfl (lv_at hl 1 rfl) ?_
          refine va_get (D := D) (ci := 11) (v := .ref py) (C := RX11) (T := TX11) (N := 9) hx hb hg gwX11 hown hK hP 0 rfl rfl 3 (by decide) (hg _ kw_606) (fun _ h9 => h9) rfl dX11_pay_55 ?_
          refine lv_aload_n hx hb dX11_pay_58 rfl (lv_at hl 1 rfl) ?_
          refine va_get (D := D) (ci := 11) (v := .int (nI pn)) (C := RX11) (T := TX11) (N := 9) hx hb hg gwX11 hown hK hP 0 rfl rfl 7 (by decide) (hg _ kw_593) (fun _ h9 => h9) rfl dX11_pay_59 ?_
          refine lv_aload hx hb dX11_pay_62 (lv_at hl 0 rfl) ?_
          refine va_astqO (E := RX3) (r := (RX1, TX1, 3)) hx hb hK hP hD hS 1 3 2 1 rfl rfl (hN.2.2.2.2 RX1 (by decide +kernel)) rfl rfl (vp_in_nI (show pn < 8 by omega) (by decide)) dX11_pay_64 (fun H locs hP hD hS => ?_)
          obtain ⟨f_64, hf_64⟩ : ∃ f9, f9 = (va_up fpy (nI pn).toNatClampNeg (some r_38)) := ⟨_, rfl⟩
          rw [← hf_64] at hP hD
          have hP : va_P D vwCl ([(x0, .inr (11, [.ref pg, .ref rd, .ref aq, .ref py, .ref pl, .ref ch, .ref ro, .int (nI pn), .int td])), (py, .inl (cs 3, 8, .inr (.inr (.inr (.inr f_64))))), (r_38, .inr (1, [.ref nq2_38, .null, .int 0])), (nq2_38, .inl (cs 0, 4, .inl fq2_51))] ++ (pyL cs rs)) H := hP
          have hD : va_D A ([(x0, .inr (11, [.ref pg, .ref rd, .ref aq, .ref py, .ref pl, .ref ch, .ref ro, .int (nI pn), .int td])), (py, .inl (cs 3, 8, .inr (.inr (.inr (.inr f_64))))), (r_38, .inr (1, [.ref nq2_38, .null, .int 0])), (nq2_38, .inl (cs 0, 4, .inl fq2_51))] ++ (pyL cs rs)) := hD
          refine lv_aload_n hx hb dX11_pay_65 rfl (lv_at hl 1 rfl) ?_
          refine lv_dup hx hb dX11_pay_66 rfl ?_
          refine va_get (D := D) (ci := 11) (v := .int (nI pn)) (C := RX11) (T := TX11) (N := 9) hx hb hg gwX11 hown hK hP 0 rfl rfl 7 (by decide) (hg _ kw_593) (fun _ h9 => h9) rfl dX11_pay_67 ?_
          refine lv_iconst (v := 1) hx hb dX11_pay_70 (by decide) ?_
          refine lv_iadd hx hb dX11_pay_71 ?_
          refine lv_topi (fun z_71 e_71 => ?_)
          obtain rfl : z_71 = nI (pn + 1) := e_71.trans (nI_add _ _)
          refine va_put (D := D) (ci := 11) (v := .int (nI (pn + 1))) (ty := .int) (C := RX11) (T := TX11) (N := 9) hx hb hg gwX11 tyX11 tyX11_ok nmX11 hown hK hP hD hS 0 rfl rfl 7 (by decide) (hg _ kw_593) (fun _ h9 => h9) rfl (by decide +kernel) rfl rfl (Nat.le_of_ble_eq_true rfl) dX11_pay_72 (fun H locs hP hD hS => ?_)
          have hP : va_P D vwCl ([(x0, .inr (11, [.ref pg, .ref rd, .ref aq, .ref py, .ref pl, .ref ch, .ref ro, .int (nI (pn + 1)), .int td])), (py, .inl (cs 3, 8, .inr (.inr (.inr (.inr f_64))))), (r_38, .inr (1, [.ref nq2_38, .null, .int 0])), (nq2_38, .inl (cs 0, 4, .inl fq2_51))] ++ (pyL cs rs)) H := hP
          have hD : va_D A ([(x0, .inr (11, [.ref pg, .ref rd, .ref aq, .ref py, .ref pl, .ref ch, .ref ro, .int (nI (pn + 1)), .int td])), (py, .inl (cs 3, 8, .inr (.inr (.inr (.inr f_64))))), (r_38, .inr (1, [.ref nq2_38, .null, .int 0])), (nq2_38, .inl (cs 0, 4, .inl fq2_51))] ++ (pyL cs rs)) := hD
          refine lv_aload_n hx hb dX11_pay_75 rfl (lv_at hl 1 rfl) ?_
          refine va_get (D := D) (ci := 11) (v := .int (nI (pn + 1))) (C := RX11) (T := TX11) (N := 9) hx hb hg gwX11 hown hK hP 0 rfl rfl 7 (by decide) (hg _ kw_593) (fun _ h9 => h9) rfl dX11_pay_76 ?_
          refine lv_iconst (v := 1) hx hb dX11_pay_79 (by decide) ?_
          refine lv_isub hx hb dX11_pay_80 ?_
          refine lv_topi (fun z_80 e_80 => ?_)
          obtain rfl : z_80 = nI pn := e_80.trans (nI_pred pn)
          refine W_sQ hQ ?_
          refine W.widen (k := 2) (n := 7) (Nat.le_of_ble_eq_true rfl) (Nat.le_of_ble_eq_true rfl) ?_
          have hP9 := P_app (E := [(x0, .inr (11, [.ref pg, .ref rd, .ref aq, .ref py, .ref pl, .ref ch, .ref ro, .int (nI (pn + 1)), .int td])), (py, .inl (cs 3, 8, .inr (.inr (.inr (.inr f_64)))))]) (r_38, 1, nq2_38, fq2_51, none, 0) (hP.part (cx := [(x0, .inr (11, [.ref pg, .ref rd, .ref aq, .ref py, .ref pl, .ref ch, .ref ro, .int (nI (pn + 1)), .int td])), (py, .inl (cs 3, 8, .inr (.inr (.inr (.inr f_64))))), (r_38, .inr (1, [.ref nq2_38, .null, .int 0])), (nq2_38, .inl (cs 0, 4, .inl fq2_51))]) [0, 1, 2, 3] rfl)
          have hD9 := D_app (E := [(x0, .inr (11, [.ref pg, .ref rd, .ref aq, .ref py, .ref pl, .ref ch, .ref ro, .int (nI (pn + 1)), .int td])), (py, .inl (cs 3, 8, .inr (.inr (.inr (.inr f_64)))))]) (r_38, 1, nq2_38, fq2_51, none, 0) (hD.part (cx := [(x0, .inr (11, [.ref pg, .ref rd, .ref aq, .ref py, .ref pl, .ref ch, .ref ro, .int (nI (pn + 1)), .int td])), (py, .inl (cs 3, 8, .inr (.inr (.inr (.inr f_64))))), (r_38, .inr (1, [.ref nq2_38, .null, .int 0])), (nq2_38, .inl (cs 0, 4, .inl fq2_51))]) [0, 1, 2, 3] (by decide) rfl)
          have hq9 := hq2_51
          exact W.iret (v := (nI pn)) hx hb hr (fun t ht hW => ⟨⟨(nI pn), (nI pn), rfl, rfl, ⟨pn + 1, f_64, rs ++ [(r_38, 1, nq2_38, fq2_51, none, 0)], by omega, by rw [List.length_append]; show pn + 1 = rs.length + 1; omega, pyI_app hpi hpl (by omega) hf_64 (show isPy 1 from by unfold isPy; omega), Or.inr (Or.inr ⟨⟨h_3.symm, h_16⟩, by omega, rfl, rfl⟩), Or.inr ⟨_, rfl, show kdo 1 = 4 from by decide, hq9.1, hq9.2.1, hq9.2.2.1, hq9.2.2.2⟩, by rw [ht]; exact hP9, hD9⟩⟩, hS.F ht⟩) hS.2.2 dX11_pay_81
      · have n_31 : 8 ≤ pn := b_lt_f (by omega) (by omega) c_31
        refine lv_bipush (v := (-104)) hx hb dX11_pay_34 (by decide) ?_
        refine W_sQ hQ ?_
        refine W.widen (k := 2) (n := 7) (Nat.le_of_ble_eq_true rfl) (Nat.le_of_ble_eq_true rfl) ?_
        have hP9 := hP.part (cx := [(x0, .inr (11, [.ref pg, .ref rd, .ref aq, .ref py, .ref pl, .ref ch, .ref ro, .int (nI pn), .int td])), (py, .inl (cs 3, 8, .inr (.inr (.inr (.inr fpy)))))]) [0, 1] rfl
        have hD9 := hD.part (cx := [(x0, .inr (11, [.ref pg, .ref rd, .ref aq, .ref py, .ref pl, .ref ch, .ref ro, .int (nI pn), .int td])), (py, .inl (cs 3, 8, .inr (.inr (.inr (.inr fpy)))))]) [0, 1] (by decide) rfl
        exact W.iret (v := (-104)) hx hb hr (fun t ht hW => ⟨⟨(-104), (-104), rfl, rfl, ⟨pn, fpy, rs, by omega, by omega, hpi, (Or.inr (Or.inl ⟨⟨h_3.symm, h_16⟩, by omega, rfl, rfl⟩)), Or.inl rfl, by rw [ht]; exact hP9, hD9⟩⟩, hS.F ht⟩) hS.2.2 dX11_pay_36
