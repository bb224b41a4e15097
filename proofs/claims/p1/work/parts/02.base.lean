/-! the words of the tables that every method carries -/
def gw_tbl : List Cond := lw_tbl.filter goodWord
theorem gw_in {w : Cond} (h : w ∈ lw_tbl) (g : goodWord w = true) : w ∈ gw_tbl := List.mem_filter.mpr ⟨h, g⟩
theorem gw_lw {w : Cond} (h : w ∈ gw_tbl) : w ∈ lw_tbl := (List.mem_filter.mp h).1
theorem gw_all {ws : List Cond} (h : ∀ w ∈ ws, w ∈ lw_tbl) (g : ws.all goodWord = true) : ∀ w ∈ ws, w ∈ gw_tbl := fun w hw => gw_in (h w hw) (List.all_eq_true.mp g w hw)
theorem gw_good {ws : List Cond} (h : ∀ w ∈ ws, w ∈ gw_tbl) : GoodIn gw_tbl ws := fun w hw => ⟨h w hw, good_of_word (List.mem_filter.mp (h w hw)).2⟩
theorem gw_S {own : String} {idx : Nat} {y : MethodName} {cc : ByteArray} {n : Nat} {ret : Option FieldType} (h1 : Cond.methodLink own idx y ∈ gw_tbl) (h2 : Cond.static y ∈ gw_tbl) (h3 : Cond.initialized y.cls ∈ gw_tbl) (h4 : Cond.code y cc n ret ∈ gw_tbl) : GoodIn gw_tbl (va_wsS own idx y (Cond.code y cc n ret :: gw_tbl)) := gw_good (by
  intro w hw
  rcases List.mem_append.mp hw with h | h
  · simp only [List.mem_cons, List.not_mem_nil, or_false] at h
    rcases h with rfl | rfl | rfl <;> assumption
  · rcases List.mem_cons.mp h with rfl | h
    · exact h4
    · exact h)
theorem gw_V {own C : String} {idx : Nat} {y : MethodName} {cc : ByteArray} {n : Nat} {ret : Option FieldType} (h1 : Cond.methodLink own idx y ∈ gw_tbl) (h2 : Cond.instanceMethod y ∈ gw_tbl) (h5 : Cond.selects C y y ∈ gw_tbl) (h3 : Cond.initialized C ∈ gw_tbl) (h4 : Cond.code y cc n ret ∈ gw_tbl) : GoodIn gw_tbl (wsV own idx C y (Cond.code y cc n ret :: gw_tbl)) := gw_good (by
  intro w hw
  rcases List.mem_append.mp hw with h | h
  · simp only [List.mem_cons, List.not_mem_nil, or_false] at h
    rcases h with rfl | rfl | rfl | rfl <;> assumption
  · rcases List.mem_cons.mp h with rfl | h
    · exact h4
    · exact h)
theorem gw_U {own C owner : String} {idx : Nat} {x y : MethodName} {cc : ByteArray} {n : Nat} {ret : Option FieldType} (h1 : Cond.methodLink own idx x ∈ gw_tbl) (h6 : Cond.sameMethod x.cls owner x.name x.desc ∈ gw_tbl) (h5 : Cond.selects C x y ∈ gw_tbl) (h2 : Cond.instanceMethod y ∈ gw_tbl) (h3 : Cond.initialized y.cls ∈ gw_tbl) (h4 : Cond.code y cc n ret ∈ gw_tbl) : GoodIn gw_tbl (va_wsU own idx C owner x y (Cond.code y cc n ret :: gw_tbl)) := gw_good (by
  intro w hw
  rcases List.mem_append.mp hw with h | h
  · simp only [List.mem_cons, List.not_mem_nil, or_false] at h
    rcases h with rfl | rfl | rfl | rfl | rfl <;> assumption
  · rcases List.mem_cons.mp h with rfl | h
    · exact h4
    · exact h)
theorem gw_I {y : MethodName} {cc : ByteArray} {n : Nat} {ret : Option FieldType} (h4 : Cond.code y cc n ret ∈ gw_tbl) : GoodIn gw_tbl (Cond.code y cc n ret :: gw_tbl) := gw_good (fun w h => (List.mem_cons.mp h).elim (fun e => e ▸ h4) id)
/-! the starts of contracts -/
def pc_0 (av : List Value) : Array Value → State → Prop := va_Pc av (fun _ => True)
theorem pc_0_fb {av : List Value} : FrameBlind (pc_0 av) := fun _ _ _ _ q => ⟨q.1, trivial⟩
theorem pr_0 {s : State} {H : Heap} {As : List Value} : PreS s H (pc_0 As) As := ⟨pc_0_fb, fun _ _ _ => ⟨rfl, trivial⟩⟩
def pc_S (D : va_G) (tys : List (ClassId × FieldType)) (ws : va_W) (av : List Value) : Array Value → State → Prop := va_Pc av (fun U => va_P D vwCl ws U.heap ∧ va_K D vwCl tys U)
theorem pc_S_fb {D : va_G} {tys : List (ClassId × FieldType)} {ws : va_W} {av : List Value} : FrameBlind (pc_S D tys ws av) := fun a U g mk q => ⟨q.1, q.2.1, va_K.moved (u := U) (U := U.calling g mk a) (Vm.Alike.refl U.vm) q.2.2⟩
theorem pr_SS {s : State} {H : Heap} {D : va_G} {tys : List (ClassId × FieldType)} {ws : va_W} {As : List Value} (hK : va_K D vwCl tys s) (hP : va_P D vwCl ws H) : PreS s H (pc_S D tys ws As) As := ⟨pc_S_fb, fun U hU hW => ⟨rfl, by rw [hU]; exact hP, va_K.moved hW.alike hK⟩⟩
theorem pr_SV {s : State} {H : Heap} {D : va_G} {tys : List (ClassId × FieldType)} {ws : va_W} {As : List Value} {b : Addr} {fs : List Value} {q : vw_C} (ci q0 : Nat) (hK : va_K D vwCl tys s) (hP : va_P D vwCl ws H) (hc : vwCl[ci]? = some q) (he : ws[q0]? = some (b, .inr (ci, fs))) : PreV s H q.1 b (pc_S D tys ws (.ref b :: As)) As := ⟨pc_S_fb, va_recv hK hP hc he, fun U hU hW => ⟨rfl, by rw [hU]; exact hP, va_K.moved hW.alike hK⟩⟩
def pc_M (D : va_G) (tys : List (ClassId × FieldType)) (ws : va_W) (sz : Nat) (av : List Value) : Array Value → State → Prop := va_Pc av (fun U => U.heap.size = sz ∧ va_P D vwCl ws U.heap ∧ va_K D vwCl tys U ∧ va_D (fun _ => True) ws)
theorem pc_M_fb {D : va_G} {tys : List (ClassId × FieldType)} {ws : va_W} {sz : Nat} {av : List Value} : FrameBlind (pc_M D tys ws sz av) := fun a U g mk q => ⟨q.1, q.2.1, q.2.2.1, va_K.moved (u := U) (U := U.calling g mk a) (Vm.Alike.refl U.vm) q.2.2.2.1, q.2.2.2.2⟩
theorem pr_MS {s : State} {H : Heap} {D : va_G} {tys : List (ClassId × FieldType)} {ws : va_W} {As : List Value} {A : Nat → Prop} (hK : va_K D vwCl tys s) (hP : va_P D vwCl ws H) (hD : va_D A ws) : PreS s H (pc_M D tys ws H.size As) As := ⟨pc_M_fb, fun U hU hW => ⟨rfl, by rw [hU], by rw [hU]; exact hP, va_K.moved hW.alike hK, hD.weaken (fun _ _ _ _ => trivial)⟩⟩
theorem pr_MV {s : State} {H : Heap} {D : va_G} {tys : List (ClassId × FieldType)} {ws : va_W} {As : List Value} {A : Nat → Prop} {b : Addr} {fs : List Value} {q : vw_C} (ci q0 : Nat) (hK : va_K D vwCl tys s) (hP : va_P D vwCl ws H) (hD : va_D A ws) (hc : vwCl[ci]? = some q) (he : ws[q0]? = some (b, .inr (ci, fs))) : PreV s H q.1 b (pc_M D tys ws H.size (.ref b :: As)) As := ⟨pc_M_fb, va_recv hK hP hc he, fun U hU hW => ⟨rfl, by rw [hU], by rw [hU]; exact hP, va_K.moved hW.alike hK, hD.weaken (fun _ _ _ _ => trivial)⟩⟩
/-! the words that no list carries: private constructors of nest mates, classes of arrays of references -/
def va_AOA (ty : FieldType) (U : State) : Prop := (Cond.arrayOver (.array ty)).before #[] U = true
theorem va_AOA.use {ty : FieldType} {A : Array Value} {U : State} (h : va_AOA ty U) : (Cond.arrayOver (.array ty)).before A U = true := h
theorem va_AOA.of {ty : FieldType} {A : Array Value} {U : State} (h : (Cond.arrayOver (.array ty)).before A U = true) : va_AOA ty U := h
theorem va_AOA.moved {ty : FieldType} {u U : State} (hvm : u.vm.Alike U.vm) (h : va_AOA ty u) : va_AOA ty U := by
  have e : (Cond.arrayOver (.array ty)).before #[] (u.setVm U.vm) = true := (Cond.arrayOver_setVmC hvm (.array ty)).trans h
  exact e
def nw_qs : List (String × Nat × MethodName) := [(RX11, 9, yX2_init), (RX11, 18, yX7_init), (RX11, 25, yX5_init), (RX11, 54, yX8_init), (RX11, 336, yX9_init), (RX11, 339, yX10_init), (RX11, 342, yX6_init), (RX11, 345, yX1_init), (RX11, 346, yX3_init), (RX0, 13, yX9_init), (RX0, 20, yX10_init), (RX0, 27, yX1_init), (RX1, 3, yX9_init), (RX6, 3, yX10_init), (RX9, 3, yX3_init), (RX10, 3, yX3_init)]
def nw_cs : List String := [RX9, RX10, RX6, RX1]
def nw_C (U : State) : Prop := (∀ q ∈ nw_qs, va_Nw (.methodLinkNest q.1 q.2.1 q.2.2 RX11) U) ∧ va_AO RX3 U ∧ va_AOA .int U ∧ va_AOA .long U ∧ ∀ C ∈ nw_cs, va_Nw (.castable C RX3) U
theorem nw_C.same {u U : State} (h : u.vm = U.vm) (hZ : nw_C u) : nw_C U := ⟨fun q hq => va_Nw.same rfl h (hZ.1 q hq), va_AO.moved (by rw [h]; exact Vm.Alike.refl _) hZ.2.1, va_AOA.moved (by rw [h]; exact Vm.Alike.refl _) hZ.2.2.1, va_AOA.moved (by rw [h]; exact Vm.Alike.refl _) hZ.2.2.2.1, fun C hC => va_Nw.same rfl h (hZ.2.2.2.2 C hC)⟩
theorem nw_C.warm {s U : State} (hW : s.WarmedH U.vm) (hZ : nw_C s) : nw_C U := ⟨fun q hq => va_Nw.warmM hW (hZ.1 q hq), va_AO.moved hW.alike hZ.2.1, va_AOA.moved hW.alike hZ.2.2.1, va_AOA.moved hW.alike hZ.2.2.2.1, fun C hC => va_Nw.warmC hW (hZ.2.2.2.2 C hC)⟩
def pc_C (D : va_G) (tys : List (ClassId × FieldType)) (ws : va_W) (sz : Nat) (av : List Value) : Array Value → State → Prop := va_Pc av (fun U => U.heap.size = sz ∧ va_P D vwCl ws U.heap ∧ va_K D vwCl tys U ∧ va_D (fun _ => True) ws ∧ nw_C U)
theorem pc_C_fb {D : va_G} {tys : List (ClassId × FieldType)} {ws : va_W} {sz : Nat} {av : List Value} : FrameBlind (pc_C D tys ws sz av) := fun a U g mk q => ⟨q.1, q.2.1, q.2.2.1, va_K.moved (u := U) (U := U.calling g mk a) (Vm.Alike.refl U.vm) q.2.2.2.1, q.2.2.2.2.1, nw_C.same (u := U) rfl q.2.2.2.2.2⟩
theorem pr_C {s : State} {H : Heap} {D : va_G} {tys : List (ClassId × FieldType)} {ws : va_W} {As : List Value} {A : Nat → Prop} (hK : va_K D vwCl tys s) (hP : va_P D vwCl ws H) (hD : va_D A ws) (hN : nw_C s) : PreS s H (pc_C D tys ws H.size As) As := ⟨pc_C_fb, fun U hU hW => ⟨rfl, by rw [hU], by rw [hU]; exact hP, va_K.moved hW.alike hK, hD.weaken (fun _ _ _ _ => trivial), nw_C.warm hW hN⟩⟩
theorem pr_CV {s : State} {H : Heap} {D : va_G} {tys : List (ClassId × FieldType)} {ws : va_W} {As : List Value} {A : Nat → Prop} {b : Addr} {fs : List Value} {q : vw_C} (ci q0 : Nat) (hK : va_K D vwCl tys s) (hP : va_P D vwCl ws H) (hD : va_D A ws) (hN : nw_C s) (hc : vwCl[ci]? = some q) (he : ws[q0]? = some (b, .inr (ci, fs))) : PreV s H q.1 b (pc_C D tys ws H.size (.ref b :: As)) As := ⟨pc_C_fb, va_recv hK hP hc he, fun U hU hW => ⟨rfl, by rw [hU], by rw [hU]; exact hP, va_K.moved hW.alike hK, hD.weaken (fun _ _ _ _ => trivial), nw_C.warm hW hN⟩⟩
/-! numbers -/
theorem fa_lt (a b : Int32) : a < b ↔ a.toInt < b.toInt := Int32.lt_iff_toInt_lt
theorem fa_le (a b : Int32) : a ≤ b ↔ a.toInt ≤ b.toInt := Int32.le_iff_toInt_le
theorem fa_eq (a b : Int32) : a = b ↔ a.toInt = b.toInt := Int32.toInt_inj.symm
theorem fa_lt64 (a b : Int64) : a < b ↔ a.toInt < b.toInt := Int64.lt_iff_toInt_lt
theorem fa_le64 (a b : Int64) : a ≤ b ↔ a.toInt ≤ b.toInt := Int64.le_iff_toInt_le
theorem fa_eq64 (a b : Int64) : a = b ↔ a.toInt = b.toInt := Int64.toInt_inj.symm
theorem W_genQ {p : Program} {l : Launch} {e : Env} {R : Room} {s : State} {m : MethodId} {args : Array Value} {below : List Frame} {meth : Method} {c : Code} {H : Heap} {locs : List Loc} {cells slots : Nat} {Q : State → Prop} {g : JFrame} (k : ∀ Q' : State → Prop, Q' = Q → W p l e R s m args below meth c H locs cells slots Q' g) : W p l e R s m args below meth c H locs cells slots Q g := k Q rfl
theorem p_nil {D : va_G} {H : Heap} : va_P D vwCl [] H := fun k q h => by simp at h
theorem d_nil {A : Nat → Prop} : va_D A [] := ⟨fun i j p q h => by simp at h, fun k q h => by simp at h⟩
