/-! the words of the tables that every method carries -/
def gw_tbl : List Cond := lw_tbl.filter goodWord
theorem gw_in {w : Cond} (h : w ∈ lw_tbl) (g : goodWord w = true) : w ∈ gw_tbl := List.mem_filter.mpr ⟨h, g⟩
theorem gw_lw {w : Cond} (h : w ∈ gw_tbl) : w ∈ lw_tbl := (List.mem_filter.mp h).1
theorem gw_all {ws : List Cond} (h : ∀ w ∈ ws, w ∈ lw_tbl) (g : ws.all goodWord = true) : ∀ w ∈ ws, w ∈ gw_tbl := fun w hw => gw_in (h w hw) (List.all_eq_true.mp g w hw)
theorem gw_good {ws : List Cond} (h : ∀ w ∈ ws, w ∈ gw_tbl) : GoodIn gw_tbl ws := fun w hw => ⟨h w hw, good_of_word (List.mem_filter.mp (h w hw)).2⟩
theorem gw_S {own : String} {idx : Nat} {y : MethodName} {cc : ByteArray} {n : Nat} {ret : Option FieldType} (h1 : Cond.methodLink own idx y ∈ gw_tbl) (h2 : Cond.static y ∈ gw_tbl) (h3 : Cond.initialized y.cls ∈ gw_tbl) (h4 : Cond.code y cc n ret ∈ gw_tbl) : GoodIn gw_tbl (va_wsS own idx y (Cond.code y cc n ret :: gw_tbl)) := gw_good (by
  intro w hw
  rcases List.mem_append.mp hw with h | h
  · simp only [List.mem_cons, List.not_mem_nil, or_false] at h
    rcases h with rfl | rfl | rfl <;> assumption
  · rcases List.mem_cons.mp h with rfl | h
    · exact h4
    · exact h)
theorem gw_V {own C : String} {idx : Nat} {y : MethodName} {cc : ByteArray} {n : Nat} {ret : Option FieldType} (h1 : Cond.methodLink own idx y ∈ gw_tbl) (h2 : Cond.instanceMethod y ∈ gw_tbl) (h5 : Cond.selects C y y ∈ gw_tbl) (h3 : Cond.initialized C ∈ gw_tbl) (h4 : Cond.code y cc n ret ∈ gw_tbl) : GoodIn gw_tbl (wsV own idx C y (Cond.code y cc n ret :: gw_tbl)) := gw_good (by
  intro w hw
  rcases List.mem_append.mp hw with h | h
  · simp only [List.mem_cons, List.not_mem_nil, or_false] at h
    rcases h with rfl | rfl | rfl | rfl <;> assumption
  · rcases List.mem_cons.mp h with rfl | h
    · exact h4
    · exact h)
theorem gw_U {own C owner : String} {idx : Nat} {x y : MethodName} {cc : ByteArray} {n : Nat} {ret : Option FieldType} (h1 : Cond.methodLink own idx x ∈ gw_tbl) (h6 : Cond.sameMethod x.cls owner x.name x.desc ∈ gw_tbl) (h5 : Cond.selects C x y ∈ gw_tbl) (h2 : Cond.instanceMethod y ∈ gw_tbl) (h3 : Cond.initialized y.cls ∈ gw_tbl) (h4 : Cond.code y cc n ret ∈ gw_tbl) : GoodIn gw_tbl (va_wsU own idx C owner x y (Cond.code y cc n ret :: gw_tbl)) := gw_good (by
  intro w hw
  rcases List.mem_append.mp hw with h | h
  · simp only [List.mem_cons, List.not_mem_nil, or_false] at h
    rcases h with rfl | rfl | rfl | rfl | rfl <;> assumption
  · rcases List.mem_cons.mp h with rfl | h
    · exact h4
    · exact h)
theorem gw_I {y : MethodName} {cc : ByteArray} {n : Nat} {ret : Option FieldType} (h4 : Cond.code y cc n ret ∈ gw_tbl) : GoodIn gw_tbl (Cond.code y cc n ret :: gw_tbl) := gw_good (fun w h => (List.mem_cons.mp h).elim (fun e => e ▸ h4) id)
theorem gw_O {own C owner : String} {idx : Nat} {x y : MethodName} {cc : ByteArray} {n : Nat} {ret : Option FieldType} (h1 : Cond.methodLink own idx x ∈ gw_tbl) (h6 : Cond.sameMethod x.cls owner x.name x.desc ∈ gw_tbl) (h7 : Cond.instanceMethod ⟨owner, x.name, x.desc⟩ ∈ gw_tbl) (h5 : Cond.selects C x y ∈ gw_tbl) (h2 : Cond.instanceMethod y ∈ gw_tbl) (h3 : Cond.initialized y.cls ∈ gw_tbl) (h4 : Cond.code y cc n ret ∈ gw_tbl) : GoodIn gw_tbl (va_wsO own idx C owner x y (Cond.code y cc n ret :: gw_tbl)) := gw_good (by
  intro w hw
  rcases List.mem_append.mp hw with h | h
  · simp only [List.mem_cons, List.not_mem_nil, or_false] at h
    rcases h with rfl | rfl | rfl | rfl | rfl | rfl <;> assumption
  · rcases List.mem_cons.mp h with rfl | h
    · exact h4
    · exact h)
theorem gw_SU {own : String} {idx : Nat} {y : MethodName} {cc : ByteArray} {n : Nat} {ret : Option FieldType} (h1 : Cond.methodLink own idx y ∈ gw_tbl) (h6 : Cond.sameMethod y.cls y.cls y.name y.desc ∈ gw_tbl) (h7 : Cond.superclass own y.cls ∈ gw_tbl) (h2 : Cond.instanceMethod y ∈ gw_tbl) (h3 : Cond.initialized y.cls ∈ gw_tbl) (h4 : Cond.code y cc n ret ∈ gw_tbl) : GoodIn gw_tbl (va_wsSU own idx y (Cond.code y cc n ret :: gw_tbl)) := gw_good (by
  intro w hw
  rcases List.mem_append.mp hw with h | h
  · simp only [List.mem_cons, List.not_mem_nil, or_false] at h
    rcases h with rfl | rfl | rfl | rfl | rfl <;> assumption
  · rcases List.mem_cons.mp h with rfl | h
    · exact h4
    · exact h)
/-! the classes of arrays: one list for all methods -/
abbrev GT (cs : Nat → ClassId) : List (ClassId × FieldType) := [(cs 0, .int), (cs 1, .long), (cs 2, .boolean), (cs 3, .object RX3), (cs 4, .array .int), (cs 5, .array .long)]
def pc_0 (av : List Value) : Array Value → State → Prop := va_Pc av (fun _ => True)
theorem pc_0_fb {av : List Value} : FrameBlind (pc_0 av) := fun _ _ _ _ q => ⟨q.1, trivial⟩
theorem pr_0 {s : State} {H : Heap} {As : List Value} : PreS s H (pc_0 As) As := ⟨pc_0_fb, fun _ _ _ => ⟨rfl, trivial⟩⟩
def pc_S (D : va_G) (cs : Nat → ClassId) (ws : va_W) (av : List Value) : Array Value → State → Prop := va_Pc av (fun U => va_P D vwCl ws U.heap ∧ va_K D vwCl (GT cs) U)
theorem pc_S_fb {D : va_G} {cs : Nat → ClassId} {ws : va_W} {av : List Value} : FrameBlind (pc_S D cs ws av) := fun a U g mk q => ⟨q.1, q.2.1, va_K.moved (u := U) (U := U.calling g mk a) (Vm.Alike.refl U.vm) q.2.2⟩
theorem pr_SS {s : State} {H : Heap} {D : va_G} {cs : Nat → ClassId} {ws : va_W} {As : List Value} (hK : va_K D vwCl (GT cs) s) (hP : va_P D vwCl ws H) : PreS s H (pc_S D cs ws As) As := ⟨pc_S_fb, fun U hU hW => ⟨rfl, by rw [hU]; exact hP, va_K.moved hW.alike hK⟩⟩
theorem pr_SV {s : State} {H : Heap} {D : va_G} {cs : Nat → ClassId} {ws : va_W} {As : List Value} {b : Addr} {fs : List Value} {q : vw_C} (ci q0 : Nat) (hK : va_K D vwCl (GT cs) s) (hP : va_P D vwCl ws H) (hc : vwCl[ci]? = some q) (he : ws[q0]? = some (b, .inr (ci, fs))) : PreV s H q.1 b (pc_S D cs ws (.ref b :: As)) As := ⟨pc_S_fb, va_recv hK hP hc he, fun U hU hW => ⟨rfl, by rw [hU]; exact hP, va_K.moved hW.alike hK⟩⟩
def pc_M (D : va_G) (cs : Nat → ClassId) (ws : va_W) (sz : Nat) (av : List Value) : Array Value → State → Prop := va_Pc av (fun U => U.heap.size = sz ∧ va_P D vwCl ws U.heap ∧ va_K D vwCl (GT cs) U ∧ va_D (fun _ => True) ws)
theorem pc_M_fb {D : va_G} {cs : Nat → ClassId} {ws : va_W} {sz : Nat} {av : List Value} : FrameBlind (pc_M D cs ws sz av) := fun a U g mk q => ⟨q.1, q.2.1, q.2.2.1, va_K.moved (u := U) (U := U.calling g mk a) (Vm.Alike.refl U.vm) q.2.2.2.1, q.2.2.2.2⟩
theorem pr_MS {s : State} {H : Heap} {D : va_G} {cs : Nat → ClassId} {ws : va_W} {As : List Value} {A : Nat → Prop} (hK : va_K D vwCl (GT cs) s) (hP : va_P D vwCl ws H) (hD : va_D A ws) : PreS s H (pc_M D cs ws H.size As) As := ⟨pc_M_fb, fun U hU hW => ⟨rfl, by rw [hU], by rw [hU]; exact hP, va_K.moved hW.alike hK, hD.weaken (fun _ _ _ _ => trivial)⟩⟩
theorem pr_MV {s : State} {H : Heap} {D : va_G} {cs : Nat → ClassId} {ws : va_W} {As : List Value} {A : Nat → Prop} {b : Addr} {fs : List Value} {q : vw_C} (ci q0 : Nat) (hK : va_K D vwCl (GT cs) s) (hP : va_P D vwCl ws H) (hD : va_D A ws) (hc : vwCl[ci]? = some q) (he : ws[q0]? = some (b, .inr (ci, fs))) : PreV s H q.1 b (pc_M D cs ws H.size (.ref b :: As)) As := ⟨pc_M_fb, va_recv hK hP hc he, fun U hU hW => ⟨rfl, by rw [hU], by rw [hU]; exact hP, va_K.moved hW.alike hK, hD.weaken (fun _ _ _ _ => trivial)⟩⟩
/-! the words that no list carries: private constructors of nest mates, classes of arrays of references -/
def va_AOA (ty : FieldType) (U : State) : Prop := (Cond.arrayOver (.array ty)).before #[] U = true
theorem va_AOA.use {ty : FieldType} {A : Array Value} {U : State} (h : va_AOA ty U) : (Cond.arrayOver (.array ty)).before A U = true := h
theorem va_AOA.of {ty : FieldType} {A : Array Value} {U : State} (h : (Cond.arrayOver (.array ty)).before A U = true) : va_AOA ty U := h
theorem va_AOA.moved {ty : FieldType} {u U : State} (hvm : u.vm.Alike U.vm) (h : va_AOA ty u) : va_AOA ty U := by
  have e : (Cond.arrayOver (.array ty)).before #[] (u.setVm U.vm) = true := (Cond.arrayOver_setVmC hvm (.array ty)).trans h
  exact e
def nw_qs : List (String × Nat × MethodName) := [(RX11, 9, yX2_init), (RX11, 18, yX7_init), (RX11, 25, yX5_init), (RX11, 54, yX8_init), (RX11, 336, yX9_init), (RX11, 339, yX10_init), (RX11, 342, yX6_init), (RX11, 345, yX1_init), (RX11, 346, yX3_init), (RX0, 13, yX9_init), (RX0, 20, yX10_init), (RX0, 27, yX1_init), (RX1, 3, yX9_init), (RX6, 3, yX10_init), (RX9, 3, yX3_init), (RX10, 3, yX3_init)]
def nw_cs : List String := [RX9, RX10, RX6, RX1]
def nw_C (U : State) : Prop := (∀ q ∈ nw_qs, va_Nw (.methodLinkNest q.1 q.2.1 q.2.2 RX11) U) ∧ va_AO RX3 U ∧ va_AOA .int U ∧ va_AOA .long U ∧ ∀ C ∈ nw_cs, va_Nw (.castable C RX3) U
theorem nw_C.same {u U : State} (h : u.vm = U.vm) (hZ : nw_C u) : nw_C U := ⟨fun q hq => va_Nw.same rfl h (hZ.1 q hq), va_AO.moved (by rw [h]; exact Vm.Alike.refl _) hZ.2.1, va_AOA.moved (by rw [h]; exact Vm.Alike.refl _) hZ.2.2.1, va_AOA.moved (by rw [h]; exact Vm.Alike.refl _) hZ.2.2.2.1, fun C hC => va_Nw.same rfl h (hZ.2.2.2.2 C hC)⟩
theorem nw_C.warm {s U : State} (hW : s.WarmedH U.vm) (hZ : nw_C s) : nw_C U := ⟨fun q hq => va_Nw.warmM hW (hZ.1 q hq), va_AO.moved hW.alike hZ.2.1, va_AOA.moved hW.alike hZ.2.2.1, va_AOA.moved hW.alike hZ.2.2.2.1, fun C hC => va_Nw.warmC hW (hZ.2.2.2.2 C hC)⟩
def pc_C (D : va_G) (cs : Nat → ClassId) (ws : va_W) (sz : Nat) (av : List Value) : Array Value → State → Prop := va_Pc av (fun U => U.heap.size = sz ∧ va_P D vwCl ws U.heap ∧ va_K D vwCl (GT cs) U ∧ va_D (fun _ => True) ws ∧ nw_C U)
theorem pc_C_fb {D : va_G} {cs : Nat → ClassId} {ws : va_W} {sz : Nat} {av : List Value} : FrameBlind (pc_C D cs ws sz av) := fun a U g mk q => ⟨q.1, q.2.1, q.2.2.1, va_K.moved (u := U) (U := U.calling g mk a) (Vm.Alike.refl U.vm) q.2.2.2.1, q.2.2.2.2.1, nw_C.same (u := U) rfl q.2.2.2.2.2⟩
theorem pr_C {s : State} {H : Heap} {D : va_G} {cs : Nat → ClassId} {ws : va_W} {As : List Value} {A : Nat → Prop} (hK : va_K D vwCl (GT cs) s) (hP : va_P D vwCl ws H) (hD : va_D A ws) (hN : nw_C s) : PreS s H (pc_C D cs ws H.size As) As := ⟨pc_C_fb, fun U hU hW => ⟨rfl, by rw [hU], by rw [hU]; exact hP, va_K.moved hW.alike hK, hD.weaken (fun _ _ _ _ => trivial), nw_C.warm hW hN⟩⟩
theorem pr_CV {s : State} {H : Heap} {D : va_G} {cs : Nat → ClassId} {ws : va_W} {As : List Value} {A : Nat → Prop} {b : Addr} {fs : List Value} {q : vw_C} (ci q0 : Nat) (hK : va_K D vwCl (GT cs) s) (hP : va_P D vwCl ws H) (hD : va_D A ws) (hN : nw_C s) (hc : vwCl[ci]? = some q) (he : ws[q0]? = some (b, .inr (ci, fs))) : PreV s H q.1 b (pc_C D cs ws H.size (.ref b :: As)) As := ⟨pc_C_fb, va_recv hK hP hc he, fun U hU hW => ⟨rfl, by rw [hU], by rw [hU]; exact hP, va_K.moved hW.alike hK, hD.weaken (fun _ _ _ _ => trivial), nw_C.warm hW hN⟩⟩
/-! numbers -/
theorem fa_lt (a b : Int32) : a < b ↔ a.toInt < b.toInt := Int32.lt_iff_toInt_lt
theorem fa_le (a b : Int32) : a ≤ b ↔ a.toInt ≤ b.toInt := Int32.le_iff_toInt_le
theorem fa_eq (a b : Int32) : a = b ↔ a.toInt = b.toInt := Int32.toInt_inj.symm
theorem fa_lt64 (a b : Int64) : a < b ↔ a.toInt < b.toInt := Int64.lt_iff_toInt_lt
theorem fa_le64 (a b : Int64) : a ≤ b ↔ a.toInt ≤ b.toInt := Int64.le_iff_toInt_le
theorem fa_eq64 (a b : Int64) : a = b ↔ a.toInt = b.toInt := Int64.toInt_inj.symm
theorem W_genQ {p : Program} {l : Launch} {e : Env} {R : Room} {s : State} {m : MethodId} {args : Array Value} {below : List Frame} {meth : Method} {c : Code} {H : Heap} {locs : List Loc} {cells slots : Nat} {Q : State → Prop} {g : JFrame} (k : ∀ Q' : State → Prop, Q' = Q → W p l e R s m args below meth c H locs cells slots Q' g) : W p l e R s m args below meth c H locs cells slots Q g := k Q rfl
theorem p_nil {D : va_G} {H : Heap} : va_P D vwCl [] H := fun k q h => by simp at h
theorem d_nil {A : Nat → Prop} : va_D A [] := ⟨fun i j p q h => by simp at h, fun k q h => by simp at h⟩
theorem b_lt_t {a b : Nat} (ha : a < 2 ^ 31) (hb : b < 2 ^ 31) (c : nI a < nI b) : a < b := (nI_ltI ha hb).mp c
theorem b_lt_f {a b : Nat} (ha : a < 2 ^ 31) (hb : b < 2 ^ 31) (c : ¬ nI a < nI b) : b ≤ a := Nat.le_of_not_lt (fun q => c ((nI_ltI ha hb).mpr q))
theorem b_le_t {a b : Nat} (ha : a < 2 ^ 31) (hb : b < 2 ^ 31) (c : nI a ≤ nI b) : a ≤ b := (nI_leI ha hb).mp c
theorem b_le_f {a b : Nat} (ha : a < 2 ^ 31) (hb : b < 2 ^ 31) (c : ¬ nI a ≤ nI b) : b < a := Nat.lt_of_not_le (fun q => c ((nI_leI ha hb).mpr q))
theorem b_eq_t {a b : Nat} (ha : a < 2 ^ 31) (hb : b < 2 ^ 31) (c : nI a = nI b) : a = b := (nI_eq ha hb).mp c
theorem b_eq_f {a b : Nat} (ha : a < 2 ^ 31) (hb : b < 2 ^ 31) (c : ¬ nI a = nI b) : ¬ a = b := fun q => c (by rw [q])
theorem lt_4 {k : Nat} (h : k < 4) : k = 0 ∨ k = 1 ∨ k = 2 ∨ k = 3 := by omega
theorem lt_5 {k : Nat} (h : k < 5) : k = 0 ∨ k = 1 ∨ k = 2 ∨ k = 3 ∨ k = 4 := by omega
theorem rat_4 {ws : va_W} {q0 k : Nat} {g : Nat → Nat × va_E} (h : k < 4) (e : ws[q0 + 0]? = some (g 0) ∧ ws[q0 + 1]? = some (g 1) ∧ ws[q0 + 2]? = some (g 2) ∧ ws[q0 + 3]? = some (g 3)) : ws[q0 + k]? = some (g k) := by
  obtain ⟨e0, e1, e2, e3⟩ := e
  rcases lt_4 h with rfl | rfl | rfl | rfl <;> assumption
theorem rat_5 {ws : va_W} {q0 k : Nat} {g : Nat → Nat × va_E} (h : k < 5) (e : ws[q0 + 0]? = some (g 0) ∧ ws[q0 + 1]? = some (g 1) ∧ ws[q0 + 2]? = some (g 2) ∧ ws[q0 + 3]? = some (g 3) ∧ ws[q0 + 4]? = some (g 4)) : ws[q0 + k]? = some (g k) := by
  obtain ⟨e0, e1, e2, e3, e4⟩ := e
  rcases lt_5 h with rfl | rfl | rfl | rfl | rfl <;> assumption
def rowsF (n : Nat) (r : Nat → Nat) : Nat → Option Nat := fun i => if i < n then some (r i) else none
def isPrim : FieldType → Bool
  | .int => true
  | .long => true
  | .boolean => true
  | _ => false
section NWA
variable {p : Program} {l : Launch} {e : Env} {R : Room} {s : State} {m : MethodId} {args : Array Value} {below : List Frame} {meth : Method} {c : Code} {H : Heap} {locs : List Loc} {cells slots : Nat} {Q : State → Prop}
variable {cc : ByteArray} {pc : Nat} {ls : Array Slot} {rest : List Value} {D : va_G} {cl : List vw_C} {A : Nat → Prop} {a : Nat} {tys : List (ClassId × FieldType)} {ws : va_W} {H0 : Heap}
theorem va_aldR {k : Nat} (hexec : p.tables.exec = Jvm.exec) (hb : c.code = cc) (hK : va_K D cl tys s) (hP : va_P D cl ws H) (q0 t0 : Nat) {cA : ClassId} {ty : FieldType} {n : Nat} {r : Nat → Nat} (ha : ws[q0]? = some (a, .inl (cA, n, .inr (.inr (.inr (.inr (rowsF n r))))))) (ht : tys[t0]? = some (cA, .array ty)) (hk : k < n) (hn : n < 2 ^ 31) (hdg : decode cc pc = .ok (.aaload, 1))
    (kk : W p l e R s m args below meth c H locs cells slots Q (F0 m (pc + 1) ls (.ref (r k) :: rest))) : W p l e R s m args below meth c H locs cells slots Q (F0 m pc ls (.int (nI k) :: .ref a :: rest)) := by
  have hin : vp_in (nI k) n := vp_in_nI hk hn
  have hlt : (nI k).toNatClampNeg < n := Nat.not_le.mp fun q => hin (Or.inr q)
  have e2 : va_rf (rowsF n r (nI k).toNatClampNeg) = .ref (r k) := by
    rw [nI_clamp (by omega)]
    unfold rowsF
    rw [if_pos hk]
    rfl
  exact W.aald (v := .ref (r k)) (ty := .array ty) hexec hb (hP q0 _ ha) ((hK.2 t0 _ ht).1 n (fun j => va_rf (rowsF n r j))) rfl (fun q => by cases q) (by show ¬ (nI k < 0 ∨ (arrV _ _ _).slots.size ≤ _); rw [arrV_size]; exact hin) (by show (arrV _ _ _).slots[_]? = _; rw [arrV_read _ _ hlt, e2]) rfl rfl hdg kk
theorem nw_a {atype : ArrayType} {ty : FieldType} {N' : Nat} {a0 : vp_A} (t0 : Nat) (hexec : p.tables.exec = Jvm.exec) (hb : c.code = cc) (harr : (Cond.arrayClass (newarray.typeOf atype)).before args s = true) (hty : newarray.typeOf atype = ty) (hK : va_K D cl tys s) {cI : ClassId} (ht : tys[t0]? = some (cI, ty)) (hpr : isPrim ty = true) (hP : va_P D cl ws H) (hD : va_D A ws) (hS : va_S A H0 H locs) (hA : ∀ q, H0.size ≤ q → A q)
    {n : Int32} (ha : ∀ cA : ClassId, vp_cell cA a0 = arrV cA N' (fun _ => defaultValue ty)) (hn : ¬ n < 0) (hN : n.toNatClampNeg = N') (hbytes : N' * componentBytes ty ≤ 536870912) (hcells : cells + 1 ≤ R.cells) (hslots : slots + N' ≤ R.slots) (hdg : decode cc pc = .ok (.newarray atype, 2))
    (kk : ∀ (q : Nat) (H1 : Heap), va_P D cl (ws ++ [(q, .inl (cI, a0))]) H1 → va_D A (ws ++ [(q, .inl (cI, a0))]) → va_S A H0 H1 locs → W p l e R s m args below meth c H1 locs (cells + 1) (slots + N') Q (F0 m (pc + 2) ls (.ref q :: rest))) : W p l e R s m args below meth c H locs cells slots Q (F0 m pc ls (.int n :: rest)) := by
  refine va_newa hexec hb harr hty hK hP hD hS hA ha hn hN hbytes hcells hslots hdg (fun q cA H1 hK1 hP1 hD1 hS1 => ?_)
  have e1 := (hK1.2 tys.length (cA, ty) (by simp)).2
  have e2 := (hK.2 t0 _ ht).2
  have e3 : cA = cI := by
    cases ty <;> simp only [isPrim, Bool.false_eq_true] at hpr <;> exact Option.some.inj (e1.symm.trans e2)
  subst e3
  exact kk q H1 hP1 hD1 hS1
theorem nw_q {cs : Nat → ClassId} {N' : Nat} (hexec : p.tables.exec = Jvm.exec) (hb : c.code = cc) {own : String} {index : Nat} (hown : s.vm.findClass own = some m.cls) (hclink : (Cond.classLink own index RX3).before args s = true) (hover : va_AO RX3 s) (hK : va_K D cl (GT cs) s) (hP : va_P D cl ws H) (hD : va_D A ws) (hS : va_S A H0 H locs) (hA : ∀ q, H0.size ≤ q → A q)
    {n : Int32} (hn : ¬ n < 0) (hN : n.toNatClampNeg = N') (hbytes : N' * 4 ≤ 536870912) (hcells : cells + 1 ≤ R.cells) (hslots : slots + N' ≤ R.slots) (hdg : decode cc pc = .ok (.anewarray index, 3))
    (kk : ∀ (q : Nat) (H1 : Heap), va_P D cl (ws ++ [(q, .inl (cs 3, N', .inr (.inr (.inr (.inr (fun _ => none))))))]) H1 → va_D A (ws ++ [(q, .inl (cs 3, N', .inr (.inr (.inr (.inr (fun _ => none))))))]) → va_S A H0 H1 locs → W p l e R s m args below meth c H1 locs (cells + 1) (slots + N') Q (F0 m (pc + 3) ls (.ref q :: rest))) : W p l e R s m args below meth c H locs cells slots Q (F0 m pc ls (.int n :: rest)) := by
  refine va_newq hexec hb hown hclink hover hK hP hD hS hA hn hN hbytes hcells hslots hdg (fun q cA H1 hK1 hP1 hD1 hS1 => ?_)
  obtain ⟨_, _, _, _, _, e1⟩ := (hK1.2 6 (cA, .object RX3) rfl).2
  obtain ⟨_, _, _, _, _, e2⟩ := (hK.2 3 (cs 3, .object RX3) rfl).2
  have e3 : cA = cs 3 := Option.some.inj (e1.symm.trans e2)
  subst e3
  exact kk q H1 hP1 hD1 hS1
end NWA
/-! pays: five classes, one shape -/
def isPy (ci : Nat) : Prop := ci = 1 ∨ ci = 3 ∨ ci = 6 ∨ ci = 9 ∨ ci = 10
theorem W_sQ {p : Program} {l : Launch} {e : Env} {R : Room} {s : State} {m : MethodId} {args : Array Value} {below : List Frame} {meth : Method} {c : Code} {H : Heap} {locs : List Loc} {cells slots : Nat} {Q Q2 : State → Prop} {g : JFrame} (h : Q = Q2) (k : W p l e R s m args below meth c H locs cells slots Q2 g) : W p l e R s m args below meth c H locs cells slots Q g := by
  rw [h]; exact k
