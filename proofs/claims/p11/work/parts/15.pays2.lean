/-! a PAY as the class holds it: address, class, its numbers' address, its numbers, what was reckoned (or nothing yet), whether it was -/
abbrev PRec : Type := Nat × Nat × Nat × (Nat → Int32) × Option (Nat × (Nat → Int64)) × Int32
def pyA (cs : Nat → ClassId) : Option (Nat × (Nat → Int64)) → va_W
  | none => []
  | some q => [(q.1, .inl (cs 1, 1024, .inr (.inl q.2)))]
def pyV : Option (Nat × (Nat → Int64)) → Value
  | none => .null
  | some q => .ref q.1
def pyW (cs : Nat → ClassId) (r : PRec) : va_W := (r.1, .inr (r.2.1, [.ref r.2.2.1, pyV r.2.2.2.2.1, .int r.2.2.2.2.2])) :: (r.2.2.1, .inl (cs 0, 4, .inl r.2.2.2.1)) :: pyA cs r.2.2.2.2.1
def pyL (cs : Nat → ClassId) (rs : List PRec) : va_W := rs.flatMap (pyW cs)
def pyD (r : PRec) : Nat × Nat × Nat × (Nat → Int32) := (r.1, r.2.1, r.2.2.1, r.2.2.2.1)
def pyI (f : Nat → Option Nat) (rs : List PRec) : Prop := rs.length ≤ 8 ∧ ∀ (k : Nat) (r : PRec), rs[k]? = some r → f k = some r.1 ∧ isPy r.2.1
/-- the same PAYS, but for what was reckoned -/
def pyS (rs rs2 : List PRec) : Prop := rs2.map pyD = rs.map pyD
theorem pyS_rf {rs : List PRec} : pyS rs rs := rfl
theorem pyS_tr {a b d : List PRec} (h : pyS a b) (h2 : pyS b d) : pyS a d := h2.trans h
theorem pyS_len {a b : List PRec} (h : pyS a b) : b.length = a.length := by
  have := congrArg List.length h
  simpa using this
theorem pyS_at {a b : List PRec} (h : pyS a b) {k : Nat} {r : PRec} (hr : b[k]? = some r) : ∃ r0, a[k]? = some r0 ∧ pyD r = pyD r0 := by
  have e : (b.map pyD)[k]? = (a.map pyD)[k]? := by rw [h]
  rw [List.getElem?_map, List.getElem?_map, hr] at e
  cases q : a[k]? with
  | none => rw [q] at e; cases e
  | some r0 => rw [q] at e; exact ⟨r0, rfl, Option.some.inj e⟩
theorem pyS_I {f : Nat → Option Nat} {a b : List PRec} (h : pyS a b) (hi : pyI f a) : pyI f b := ⟨by rw [pyS_len h]; exact hi.1, fun k r hr => by
  obtain ⟨r0, h0, e⟩ := pyS_at h hr
  obtain ⟨h1, h2⟩ := hi.2 k r0 h0
  have e1 : r.1 = r0.1 := congrArg (fun q => q.1) e
  have e2 : r.2.1 = r0.2.1 := congrArg (fun q => q.2.1) e
  exact ⟨by rw [e1]; exact h1, by rw [e2]; exact h2⟩⟩
theorem py_cut {rs : List PRec} {k : Nat} {r : PRec} (h : rs[k]? = some r) : rs = rs.take k ++ r :: rs.drop (k + 1) := by
  obtain ⟨hk, e⟩ := List.getElem?_eq_some_iff.mp h
  rw [← e, List.getElem_cons_drop, List.take_append_drop]
theorem py_set {rs : List PRec} {k : Nat} {r r2 : PRec} (h : rs[k]? = some r) (e : pyD r2 = pyD r) : pyS rs (rs.take k ++ r2 :: rs.drop (k + 1)) := by
  unfold pyS
  conv => rhs; rw [py_cut h]
  rw [List.map_append, List.map_cons, List.map_append, List.map_cons, e]
/-! worlds by their members -/
theorem P_mem {D : va_G} {cl : List vw_C} {ws : va_W} {H : Heap} : va_P D cl ws H ↔ ∀ q ∈ ws, va_at D cl q H := ⟨fun h q hq => by
  obtain ⟨k, hk⟩ := List.getElem?_of_mem hq
  exact h k q hk, fun h k q hq => h q (List.mem_of_getElem? hq)⟩
theorem D_nd {A : Nat → Prop} {ws : va_W} : va_D A ws ↔ (ws.map Prod.fst).Nodup ∧ ∀ q ∈ ws, A q.1 := by
  constructor
  · intro h
    refine ⟨?_, fun q hq => ?_⟩
    · rw [List.nodup_iff_pairwise_ne, List.pairwise_iff_getElem]
      intro i j hi hj hij e
      rw [List.length_map] at hi hj
      rw [List.getElem_map, List.getElem_map] at e
      have := h.1 i j _ _ (List.getElem?_eq_getElem hi) (List.getElem?_eq_getElem hj) e
      omega
    · obtain ⟨k, hk⟩ := List.getElem?_of_mem hq
      exact h.2 k q hk
  · rintro ⟨h1, h2⟩
    refine ⟨fun i j p q hi hj e => ?_, fun k q hq => h2 q (List.mem_of_getElem? hq)⟩
    rw [List.nodup_iff_pairwise_ne, List.pairwise_iff_getElem] at h1
    obtain ⟨hi', ei⟩ := List.getElem?_eq_some_iff.mp hi
    obtain ⟨hj', ej⟩ := List.getElem?_eq_some_iff.mp hj
    rcases Nat.lt_trichotomy i j with q1 | q1 | q1
    · exact absurd (by rw [List.getElem_map, List.getElem_map, ei, ej]; exact e) (h1 i j (by rw [List.length_map]; exact hi') (by rw [List.length_map]; exact hj') q1)
    · exact q1
    · exact absurd (by rw [List.getElem_map, List.getElem_map, ei, ej]; exact e.symm) (h1 j i (by rw [List.length_map]; exact hj') (by rw [List.length_map]; exact hi') q1)
theorem P_perm {D : va_G} {cl : List vw_C} {ws ws' : va_W} {H : Heap} (h : ws.Perm ws') (hP : va_P D cl ws H) : va_P D cl ws' H := P_mem.mpr (fun q hq => P_mem.mp hP q (h.mem_iff.mpr hq))
theorem D_perm {A : Nat → Prop} {ws ws' : va_W} (h : ws.Perm ws') (hD : va_D A ws) : va_D A ws' := by
  rw [D_nd] at hD ⊢
  exact ⟨(h.map Prod.fst).nodup_iff.mp hD.1, fun q hq => hD.2 q (h.mem_iff.mpr hq)⟩
theorem py_perm {cs : Nat → ClassId} {E : va_W} {rs : List PRec} {k : Nat} {r : PRec} : ((E ++ pyW cs r) ++ (pyL cs (rs.take k) ++ pyL cs (rs.drop (k + 1)))).Perm (E ++ pyL cs (rs.take k ++ r :: rs.drop (k + 1))) := by
  have e : pyL cs (rs.take k ++ r :: rs.drop (k + 1)) = pyL cs (rs.take k) ++ (pyW cs r ++ pyL cs (rs.drop (k + 1))) := by
    unfold pyL
    rw [List.flatMap_append, List.flatMap_cons]
  rw [e, List.append_assoc]
  exact List.Perm.append_left E (List.perm_append_comm_assoc _ _ _)
theorem P_open {D : va_G} {cs : Nat → ClassId} {E : va_W} {rs : List PRec} {k : Nat} {r : PRec} {H : Heap} (h : rs[k]? = some r) (hP : va_P D vwCl (E ++ pyL cs rs) H) : va_P D vwCl ((E ++ pyW cs r) ++ (pyL cs (rs.take k) ++ pyL cs (rs.drop (k + 1)))) H := P_perm py_perm.symm (by rw [← py_cut h]; exact hP)
theorem D_open {A : Nat → Prop} {cs : Nat → ClassId} {E : va_W} {rs : List PRec} {k : Nat} {r : PRec} (h : rs[k]? = some r) (hD : va_D A (E ++ pyL cs rs)) : va_D A ((E ++ pyW cs r) ++ (pyL cs (rs.take k) ++ pyL cs (rs.drop (k + 1)))) := D_perm py_perm.symm (by rw [← py_cut h]; exact hD)
theorem P_close {D : va_G} {cs : Nat → ClassId} {E : va_W} {rs : List PRec} {k : Nat} (r : PRec) {H : Heap} (hP : va_P D vwCl ((E ++ pyW cs r) ++ (pyL cs (rs.take k) ++ pyL cs (rs.drop (k + 1)))) H) : va_P D vwCl (E ++ pyL cs (rs.take k ++ r :: rs.drop (k + 1))) H := P_perm py_perm hP
theorem D_close {A : Nat → Prop} {cs : Nat → ClassId} {E : va_W} {rs : List PRec} {k : Nat} (r : PRec) (hD : va_D A ((E ++ pyW cs r) ++ (pyL cs (rs.take k) ++ pyL cs (rs.drop (k + 1))))) : va_D A (E ++ pyL cs (rs.take k ++ r :: rs.drop (k + 1))) := D_perm py_perm hD
theorem iw_in {k n : Nat} {z : Int32} (hn : n < 2 ^ 30) (hk : k < n) (e : z = nI n - 1) : iw (nI k) 0 z = 1 := by
  have e2 : z = nI (n - 1) := by rw [e]; exact pk_sub (a := n) (b := 1) (by omega)
  unfold iw
  rw [if_pos]
  rw [e2]
  exact ⟨nI_pos' (by omega), nI_le (by omega) (by omega)⟩
