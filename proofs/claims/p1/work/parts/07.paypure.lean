def ms4 (k : Int32) : Int32 := if k = 4 then 100 else 999
theorem ms4_y {k : Int32} (h : k = 4) : ms4 k = 100 := if_pos h
theorem ms4_n {k : Int32} (h : ¬ k = 4) : ms4 k = 999 := if_neg h
def okq (k q0 q1 q2 q3 : Int32) : Prop := iw q0 0 999 = 1 ∧ iw q1 0 (ms4 k) = 1 ∧ iw q2 0 999 = 1 ∧ iw q3 0 (ms4 k) = 1
theorem iw_01 {v a b : Int32} : iw v a b = 0 ∨ iw v a b = 1 := by
  unfold iw; split
  · exact Or.inr rfl
  · exact Or.inl rfl
theorem iw_y {v a b r : Int32} (h : r = iw v a b) (c : ¬ r = 0) : iw v a b = 1 := iw_01.resolve_left (fun q => c (h.trans q))
theorem iw_n {v a b r : Int32} {P : Prop} (h : r = iw v a b) (c : r = 0) (q : iw v a b = 1) : P := absurd (h.symm.trans c) (by rw [q]; decide)
def anf (k q0 q1 q2 q3 : Int32) : Int32 := if iw q0 0 999 = 1 ∧ iw q1 0 (ms4 k) = 1 ∧ iw q2 0 999 = 1 ∧ iw q3 0 (ms4 k) = 1 then 1 else 0
theorem an_1 {k q0 q1 q2 q3 : Int32} (h : okq k q0 q1 q2 q3) : (1 : Int32) = anf k q0 q1 q2 q3 := (if_pos h).symm
theorem an_0 {k q0 q1 q2 q3 : Int32} (h : ¬ okq k q0 q1 q2 q3) : (0 : Int32) = anf k q0 q1 q2 q3 := (if_neg h).symm
def spay (k q0 q1 q2 q3 : Int32) : Int32 := if iw k 0 4 = 1 ∧ anf k q0 q1 q2 q3 = 1 then 0 else -102
theorem sp_n1 {k q0 q1 q2 q3 r : Int32} (h : r = iw k 0 4) (c : r = 0) : (-102 : Int32) = spay k q0 q1 q2 q3 := (if_neg (fun q => iw_n h c q.1)).symm
theorem sp_n2 {k q0 q1 q2 q3 r : Int32} (h : r = anf k q0 q1 q2 q3) (c : r = 0) : (-102 : Int32) = spay k q0 q1 q2 q3 := (if_neg (fun q => absurd (h.symm.trans c) (by rw [q.2]; decide))).symm
theorem an_y {k q0 q1 q2 q3 r : Int32} (h : r = anf k q0 q1 q2 q3) (c : ¬ r = 0) : anf k q0 q1 q2 q3 = 1 := by
  by_cases o : okq k q0 q1 q2 q3
  · exact (an_1 o).symm
  · exact absurd (h.trans (an_0 o).symm) c
theorem sp_y {k q0 q1 q2 q3 : Int32} (h : iw k 0 4 = 1) (c : anf k q0 q1 q2 q3 = 1) : (0 : Int32) = spay k q0 q1 q2 q3 := (if_pos ⟨h, c⟩).symm
theorem kd4 {x : Int32} (h : iw x 0 4 = 1) : x = 0 ∨ x = 1 ∨ x = 2 ∨ x = 3 ∨ x = 4 := by
  have hh : 0 ≤ x ∧ x ≤ 4 := by
    unfold iw at h
    by_cases q : 0 ≤ x ∧ x ≤ 4
    · exact q
    · rw [if_neg q] at h; exact absurd h (by decide)
  have e0 : (0 : Int32).toInt = 0 := rfl
  have e1 : (1 : Int32).toInt = 1 := rfl
  have e2 : (2 : Int32).toInt = 2 := rfl
  have e3 : (3 : Int32).toInt = 3 := rfl
  have e4 : (4 : Int32).toInt = 4 := rfl
  simp only [fa_le, e0, e4] at hh
  simp only [fa_eq, e0, e1, e2, e3, e4]
  omega
