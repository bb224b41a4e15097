def iw (v a b : Int32) : Int32 := if a ≤ v ∧ v ≤ b then 1 else 0
theorem iw_a {v a b : Int32} (h : v < a) : (0 : Int32) = iw v a b := by
  unfold iw; rw [if_neg]; rintro ⟨h1, -⟩; rw [fa_lt] at h; rw [fa_le] at h1; omega
theorem iw_b {v a b : Int32} (h : b < v) : (0 : Int32) = iw v a b := by
  unfold iw; rw [if_neg]; rintro ⟨-, h1⟩; rw [fa_lt] at h; rw [fa_le] at h1; omega
theorem iw_1 {v a b : Int32} (h : ¬ v < a) (h2 : ¬ b < v) : (1 : Int32) = iw v a b := by
  unfold iw; rw [if_pos]; rw [fa_lt] at h h2; constructor <;> rw [fa_le] <;> omega
def il (v a b : Int64) : Int32 := if a ≤ v ∧ v ≤ b then 1 else 0
theorem cmp_lt {x y : Int64} : lg_cmp x y < 0 ↔ x < y := by
  unfold lg_cmp
  split
  · next h => constructor
              · intro q; exact absurd q (by decide)
              · intro q; rw [gt_iff_lt, fa_lt64] at h; rw [fa_lt64] at q; omega
  · next h => split
              · next h2 => subst h2; constructor
                           · intro q; exact absurd q (by decide)
                           · intro q; exact absurd q h
              · next h2 => constructor
                           · intro _; rw [gt_iff_lt, fa_lt64] at h; rw [fa_eq64] at h2; rw [fa_lt64]; omega
                           · intro _; decide
theorem cmp_gt {x y : Int64} : 0 < lg_cmp x y ↔ y < x := by
  unfold lg_cmp
  split
  · next h => exact ⟨fun _ => h, fun _ => by decide⟩
  · next h => split
              · exact ⟨fun q => absurd q (by decide), fun q => absurd q h⟩
              · exact ⟨fun q => absurd q (by decide), fun q => absurd q h⟩
theorem cmp_eq {x y : Int64} : lg_cmp x y = 0 ↔ x = y := by
  unfold lg_cmp
  split
  · next h => exact ⟨fun q => absurd q (by decide), fun q => by subst q; rw [gt_iff_lt, fa_lt64] at h; omega⟩
  · next h => split
              · next h2 => exact ⟨fun _ => h2, fun _ => rfl⟩
              · next h2 => exact ⟨fun q => absurd q (by decide), fun q => absurd q h2⟩
theorem il_a {v a b : Int64} {z : Int32} (e : z = lg_cmp v a) (h : z < 0) : (0 : Int32) = il v a b := by
  rw [e, cmp_lt] at h
  unfold il; rw [if_neg]; rintro ⟨h1, -⟩; rw [fa_lt64] at h; rw [fa_le64] at h1; omega
theorem il_b {v a b : Int64} {z : Int32} (e : z = lg_cmp v b) (h : 0 < z) : (0 : Int32) = il v a b := by
  rw [e, cmp_gt] at h
  unfold il; rw [if_neg]; rintro ⟨-, h1⟩; rw [fa_lt64] at h; rw [fa_le64] at h1; omega
theorem il_1 {v a b : Int64} {z y : Int32} (e : z = lg_cmp v a) (e2 : y = lg_cmp v b) (h : ¬ z < 0) (h2 : ¬ 0 < y) : (1 : Int32) = il v a b := by
  rw [e, cmp_lt] at h; rw [e2, cmp_gt] at h2
  unfold il; rw [if_pos]; rw [fa_lt64] at h h2; constructor <;> rw [fa_le64] <;> omega
theorem il_no {v a b : Int64} (h : ¬ a ≤ b) : il v a b = 0 := by
  unfold il; rw [if_neg]; rintro ⟨h1, h2⟩; rw [fa_le64] at h h1 h2; omega
theorem iw_no {v a b : Int32} (h : ¬ a ≤ b) : iw v a b = 0 := by
  unfold iw; rw [if_neg]; rintro ⟨h1, h2⟩; rw [fa_le] at h h1 h2; omega

def lim (P : Nat) : Nat := 4 ^ P
def sgn (P : Nat) : Nat := 2 ^ P
theorem lim_le {P : Nat} (h : P ≤ 4) : lim P ≤ 256 := by
  rcases (show P = 0 ∨ P = 1 ∨ P = 2 ∨ P = 3 ∨ P = 4 by omega) with rfl | rfl | rfl | rfl | rfl <;> decide
theorem lim_pos (P : Nat) : 0 < lim P := Nat.pow_pos (by decide)
theorem sgn_le {P : Nat} (h : P ≤ 4) : sgn P ≤ 16 := by
  rcases (show P = 0 ∨ P = 1 ∨ P = 2 ∨ P = 3 ∨ P = 4 by omega) with rfl | rfl | rfl | rfl | rfl <;> decide
theorem in_1 {v : Int32} {n : Nat} (hn : n < 2 ^ 31) (h : ¬ v < 0) (h2 : ¬ nI n ≤ v) : ∃ k : Nat, k < n ∧ v = nI k := by
  rcases pk_ix v hn with q | q | q
  · exact absurd q h
  · exact absurd q h2
  · exact q
theorem iw_01 {v a b : Int32} : iw v a b = 0 ∨ iw v a b = 1 := by
  unfold iw; split
  · exact Or.inr rfl
  · exact Or.inl rfl
theorem iw_ge {v a b : Int32} (h : iw v a b = 1) : a ≤ v ∧ v ≤ b := by
  unfold iw at h
  by_cases q : a ≤ v ∧ v ≤ b
  · exact q
  · rw [if_neg q] at h; exact absurd h (by decide)
theorem iw_s {v r : Int32} {n : Nat} (hn : n < 2 ^ 30) (h : r = iw v 0 (nI n)) : r = 0 ∨ (r = 1 ∧ ∃ k : Nat, k < n + 1 ∧ v = nI k) := by
  rcases iw_01 (v := v) (a := 0) (b := nI n) with q | q
  · exact Or.inl (h.trans q)
  · obtain ⟨h1, h2⟩ := iw_ge q
    refine Or.inr ⟨h.trans q, in_1 (by omega) (by rw [fa_lt]; rw [fa_le] at h1; omega) (fun c => ?_)⟩
    rw [fa_le, nI_toInt (by omega)] at c h2
    omega
theorem iw_m {v r z : Int32} {n : Nat} (hn : n < 2 ^ 30) (e : z = nI n - 1) (h : r = iw v 0 z) : r = 0 ∨ (r = 1 ∧ ∃ k : Nat, k < n ∧ v = nI k) := by
  rcases iw_01 (v := v) (a := 0) (b := z) with q | q
  · exact Or.inl (h.trans q)
  · obtain ⟨h1, h2⟩ := iw_ge q
    rcases Nat.eq_zero_or_pos n with rfl | hp
    · rw [e] at h2
      rw [fa_le] at h1 h2
      have e1 : (nI 0 - 1).toInt = -1 := by decide
      have e0 : (0 : Int32).toInt = 0 := rfl
      omega
    · have e2 : z = nI (n - 1) := by rw [e]; exact pk_sub (a := n) (b := 1) hp
      rw [e2] at h
      rcases iw_s (by omega) h with q2 | ⟨q2, k, hk, hv⟩
      · exact Or.inl q2
      · exact Or.inr ⟨q2, k, by omega, hv⟩
theorem il_01 {v a b : Int64} : il v a b = 0 ∨ il v a b = 1 := by
  unfold il; split
  · exact Or.inr rfl
  · exact Or.inl rfl
theorem sg_eq {P : Nat} (h : P ≤ 4) : (1 : Int32) <<< (nI P &&& 31) = nI (sgn P) := by
  rcases (show P = 0 ∨ P = 1 ∨ P = 2 ∨ P = 3 ∨ P = 4 by omega) with rfl | rfl | rfl | rfl | rfl <;> decide
theorem li_eq {P : Nat} (h : P ≤ 4) : (1 : Int32) <<< (nI (2 * P) &&& 31) = nI (lim P) := by
  rcases (show P = 0 ∨ P = 1 ∨ P = 2 ∨ P = 3 ∨ P = 4 by omega) with rfl | rfl | rfl | rfl | rfl <;> decide
def wwf (a p w : Int32) : Int32 := (a &&& ((3 <<< (p &&& 31)) ^^^ (-1))) ||| (w <<< (p &&& 31))
def wwc (a p w : Nat) : Bool := (wwf (nI a) (nI (2 * p)) (nI w) == nI (wwf (nI a) (nI (2 * p)) (nI w)).toNatClampNeg) && (List.range 5).all (fun P => !(decide (p < P) && decide (a < 4 ^ P)) || decide ((wwf (nI a) (nI (2 * p)) (nI w)).toNatClampNeg < 4 ^ P))
theorem ww_all : ∀ a, a < 256 → ∀ p, p < 4 → ∀ w, w < 4 → wwc a p w = true := by decide +kernel
theorem ww_ok {P a p w : Nat} (hP : P ≤ 4) (ha : a < lim P) (hp : p < P) (hw : w < 4) : ∃ k : Nat, wwf (nI a) (nI (2 * p)) (nI w) = nI k ∧ k < lim P := by
  have h := ww_all a (Nat.lt_of_lt_of_le ha (lim_le hP)) p (by omega) w hw
  unfold wwc at h
  rw [Bool.and_eq_true, beq_iff_eq, List.all_eq_true] at h
  refine ⟨_, h.1, ?_⟩
  have h2 := h.2 P (List.mem_range.mpr (by omega))
  show _ < 4 ^ P
  simpa [hp, show a < 4 ^ P from ha] using h2

theorem dX11_isWithin_0 : decode cX11_isWithin 0 = .ok (.iload_n 0, 1) := by decide +kernel
theorem dX11_isWithin_1 : decode cX11_isWithin 1 = .ok (.iload_n 1, 1) := by decide +kernel
theorem dX11_isWithin_2 : decode cX11_isWithin 2 = .ok (.if_icmp .lt 12, 3) := by decide +kernel
theorem dX11_isWithin_5 : decode cX11_isWithin 5 = .ok (.iload_n 0, 1) := by decide +kernel
theorem dX11_isWithin_6 : decode cX11_isWithin 6 = .ok (.iload_n 2, 1) := by decide +kernel
theorem dX11_isWithin_7 : decode cX11_isWithin 7 = .ok (.if_icmp .gt 7, 3) := by decide +kernel
theorem dX11_isWithin_10 : decode cX11_isWithin 10 = .ok (.iconst 1, 1) := by decide +kernel
theorem dX11_isWithin_11 : decode cX11_isWithin 11 = .ok (.goto 4, 3) := by decide +kernel
theorem dX11_isWithin_14 : decode cX11_isWithin 14 = .ok (.iconst 0, 1) := by decide +kernel
theorem dX11_isWithin_15 : decode cX11_isWithin 15 = .ok (.ireturn, 1) := by decide +kernel

set_option maxHeartbeats 4000000 in
set_option maxRecDepth 100000 in
theorem c_isWithin (l : Launch) (v : Int32) (a : Int32) (b : Int32) : Met l yX11_isWithin (Cond.code yX11_isWithin cX11_isWithin 3 (some .boolean) :: gw_tbl) ({ frames := 0, cells := 0, slots := 0, locals := 0 }) (pc_0 [.int v, .int a, .int b]) (vp_Si (fun r => r = iw v a b)) 0 0 (fun _ => False) := by
  refine Met.ofW (cc := cX11_isWithin) (maxL := 3) (ret := (some .boolean)) (by decide) rfl ?_
  intro p e s m args below meth c s₁ B hml hv
  obtain ⟨hargs, -⟩ := hv
  have hx := B.exec
  have hb := B.bytes
  have hr := B.returns
  have hts := atoms_spec (ws := Cond.code yX11_isWithin cX11_isWithin 3 (some .boolean) :: gw_tbl) B.pre
  have hg := fun (w : Cond) (h : w ∈ gw_tbl) => hts w (List.mem_cons_of_mem _ h)
  have hown : s.vm.findClass RX11 = some m.cls := findClass_of_methodNamed B.named
  have hlocks := B.notSynchronized
  have hl := lv_entry ([.int v, .int a, .int b]) (n := 3) (Nat.le_of_ble_eq_true rfl)
  rw [show entryFrame m args 3 = F0 m 0 (lg_sl ([.int v, .int a, .int b]) ++ List.replicate (3 - (lg_sl ([.int v, .int a, .int b])).length) Slot.unset).toArray [] from by rw [hargs]; exact lg_entry_eq ..]
  generalize (lg_sl ([.int v, .int a, .int b]) ++ List.replicate (3 - (lg_sl ([.int v, .int a, .int b])).length) Slot.unset).toArray = ls at hl ⊢
  have hl : lv_has ls 3 [(0, .int v), (1, .int a), (2, .int b)] := hl
  refine W_genQ (fun Q hQ => ?_)
  refine lv_iload_n hx hb dX11_isWithin_0 rfl (lv_at hl 0 rfl) ?_
  refine lv_iload_n hx hb dX11_isWithin_1 rfl (lv_at hl 1 rfl) ?_
  refine lv_icmp_lt (tgt := 14) hx hb dX11_isWithin_2 (by decide) (fun c_2 => ?_) (fun c_2 => ?_)
  · refine lv_iconst (v := 0) hx hb dX11_isWithin_14 (by decide) ?_
    refine W_sQ hQ ?_
    exact W.zret (v := 0) hx hb hr (by decide) (fun t ht hW => ⟨0, rfl, (iw_a c_2), ht⟩) (fun _ h => absurd h List.not_mem_nil) dX11_isWithin_15
  · refine lv_iload_n hx hb dX11_isWithin_5 rfl (lv_at hl 0 rfl) ?_
    refine lv_iload_n hx hb dX11_isWithin_6 rfl (lv_at hl 2 rfl) ?_
    refine lv_icmp_gt (tgt := 14) hx hb dX11_isWithin_7 (by decide) (fun c_7 => ?_) (fun c_7 => ?_)
    · refine lv_iconst (v := 0) hx hb dX11_isWithin_14 (by decide) ?_
      refine W_sQ hQ ?_
      exact W.zret (v := 0) hx hb hr (by decide) (fun t ht hW => ⟨0, rfl, (iw_b c_7), ht⟩) (fun _ h => absurd h List.not_mem_nil) dX11_isWithin_15
    · refine lv_iconst (v := 1) hx hb dX11_isWithin_10 (by decide) ?_
      refine lv_goto (tgt := 15) hx hb dX11_isWithin_11 (by decide) ?_
      refine W_sQ hQ ?_
      exact W.zret (v := 1) hx hb hr (by decide) (fun t ht hW => ⟨1, rfl, (iw_1 c_2 c_7), ht⟩) (fun _ h => absurd h List.not_mem_nil) dX11_isWithin_15

theorem dX12_in_0 : decode cX12_in 0 = .ok (.lload_n 0, 1) := by decide +kernel
theorem dX12_in_1 : decode cX12_in 1 = .ok (.lload_n 2, 1) := by decide +kernel
theorem dX12_in_2 : decode cX12_in 2 = .ok (.lcmp, 1) := by decide +kernel
theorem dX12_in_3 : decode cX12_in 3 = .ok (.ifCond .lt 14, 3) := by decide +kernel
theorem dX12_in_6 : decode cX12_in 6 = .ok (.lload_n 0, 1) := by decide +kernel
theorem dX12_in_7 : decode cX12_in 7 = .ok (.lload 4, 2) := by decide +kernel
theorem dX12_in_9 : decode cX12_in 9 = .ok (.lcmp, 1) := by decide +kernel
theorem dX12_in_10 : decode cX12_in 10 = .ok (.ifCond .gt 7, 3) := by decide +kernel
theorem dX12_in_13 : decode cX12_in 13 = .ok (.iconst 1, 1) := by decide +kernel
theorem dX12_in_14 : decode cX12_in 14 = .ok (.goto 4, 3) := by decide +kernel
theorem dX12_in_17 : decode cX12_in 17 = .ok (.iconst 0, 1) := by decide +kernel
theorem dX12_in_18 : decode cX12_in 18 = .ok (.ireturn, 1) := by decide +kernel

set_option maxHeartbeats 4000000 in
set_option maxRecDepth 100000 in
theorem c_in (l : Launch) (v : Int64) (a : Int64) (b : Int64) : Met l yX12_in (Cond.code yX12_in cX12_in 6 (some .boolean) :: gw_tbl) ({ frames := 0, cells := 0, slots := 0, locals := 0 }) (pc_0 [.long v, .long a, .long b]) (vp_Si (fun r => r = il v a b)) 0 0 (fun _ => False) := by
  refine Met.ofW (cc := cX12_in) (maxL := 6) (ret := (some .boolean)) (by decide) rfl ?_
  intro p e s m args below meth c s₁ B hml hv
  obtain ⟨hargs, -⟩ := hv
  have hx := B.exec
  have hb := B.bytes
  have hr := B.returns
  have hts := atoms_spec (ws := Cond.code yX12_in cX12_in 6 (some .boolean) :: gw_tbl) B.pre
  have hg := fun (w : Cond) (h : w ∈ gw_tbl) => hts w (List.mem_cons_of_mem _ h)
  have hown : s.vm.findClass RX12 = some m.cls := findClass_of_methodNamed B.named
  have hlocks := B.notSynchronized
  have hl := lv_entry ([.long v, .long a, .long b]) (n := 6) (Nat.le_of_ble_eq_true rfl)
  rw [show entryFrame m args 6 = F0 m 0 (lg_sl ([.long v, .long a, .long b]) ++ List.replicate (6 - (lg_sl ([.long v, .long a, .long b])).length) Slot.unset).toArray [] from by rw [hargs]; exact lg_entry_eq ..]
  generalize (lg_sl ([.long v, .long a, .long b]) ++ List.replicate (6 - (lg_sl ([.long v, .long a, .long b])).length) Slot.unset).toArray = ls at hl ⊢
  have hl : lv_has ls 6 [(0, .long v), (2, .long a), (4, .long b)] := hl
  refine W_genQ (fun Q hQ => ?_)
  refine lv_lload_n hx hb dX12_in_0 rfl (lv_at hl 0 rfl) ?_
  refine lv_lload_n hx hb dX12_in_1 rfl (lv_at hl 1 rfl) ?_
  refine W.lcmp hx hb dX12_in_2 ?_
  refine lv_topi (fun z_2 e_2 => ?_)
  refine lv_if_lt (tgt := 17) hx hb dX12_in_3 (by decide) (fun c_3 => ?_) (fun c_3 => ?_)
  · refine lv_iconst (v := 0) hx hb dX12_in_17 (by decide) ?_
    refine W_sQ hQ ?_
    exact W.zret (v := 0) hx hb hr (by decide) (fun t ht hW => ⟨0, rfl, (il_a e_2 c_3), ht⟩) (fun _ h => absurd h List.not_mem_nil) dX12_in_18
  · refine lv_lload_n hx hb dX12_in_6 rfl (lv_at hl 0 rfl) ?_
    refine lv_lload hx hb dX12_in_7 (lv_at hl 2 rfl) ?_
    refine W.lcmp hx hb dX12_in_9 ?_
    refine lv_topi (fun z_9 e_9 => ?_)
    refine lv_if_gt (tgt := 17) hx hb dX12_in_10 (by decide) (fun c_10 => ?_) (fun c_10 => ?_)
    · refine lv_iconst (v := 0) hx hb dX12_in_17 (by decide) ?_
      refine W_sQ hQ ?_
      exact W.zret (v := 0) hx hb hr (by decide) (fun t ht hW => ⟨0, rfl, (il_b e_9 c_10), ht⟩) (fun _ h => absurd h List.not_mem_nil) dX12_in_18
    · refine lv_iconst (v := 1) hx hb dX12_in_13 (by decide) ?_
      refine lv_goto (tgt := 18) hx hb dX12_in_14 (by decide) ?_
      refine W_sQ hQ ?_
      exact W.zret (v := 1) hx hb hr (by decide) (fun t ht hW => ⟨1, rfl, (il_1 e_2 e_9 c_3 c_10), ht⟩) (fun _ h => absurd h List.not_mem_nil) dX12_in_18

theorem il_iw {v a b : Int32} {A B : Int64} (ha : A = a.toInt64) (hb : B = b.toInt64) : il v.toInt64 A B = iw v a b := by
  subst ha; subst hb
  have e : ∀ x y : Int32, x.toInt64 ≤ y.toInt64 ↔ x ≤ y := fun x y => by
    rw [fa_le64, fa_le, Int32.toInt_toInt64, Int32.toInt_toInt64]
  unfold il iw
  simp only [e]
theorem in_s {v r : Int32} {z B : Int64} {n : Nat} (hn : n < 2 ^ 30) (e : z = v.toInt64) (hB : B = (nI n).toInt64) (h : r = il z 0 B) : r = 0 ∨ (r = 1 ∧ ∃ k : Nat, k < n + 1 ∧ v = nI k) := iw_s hn (h.trans (by rw [e]; exact il_iw (by decide) hB))
theorem in_m {v r y : Int32} {z B : Int64} {n : Nat} (hn : n < 2 ^ 30) (e : z = v.toInt64) (ey : y = nI n - 1) (hB : B = y.toInt64) (h : r = il z 0 B) : r = 0 ∨ (r = 1 ∧ ∃ k : Nat, k < n ∧ v = nI k) := iw_m hn ey (h.trans (by rw [e]; exact il_iw (by decide) hB))

theorem dX2_codeAt_0 : decode cX2_codeAt 0 = .ok (.lload_n 0, 1) := by decide +kernel
theorem dX2_codeAt_1 : decode cX2_codeAt 1 = .ok (.bipush 8, 2) := by decide +kernel
theorem dX2_codeAt_3 : decode cX2_codeAt 3 = .ok (.iload_n 2, 1) := by decide +kernel
theorem dX2_codeAt_4 : decode cX2_codeAt 4 = .ok (.imul, 1) := by decide +kernel
theorem dX2_codeAt_5 : decode cX2_codeAt 5 = .ok (.lushr, 1) := by decide +kernel
theorem dX2_codeAt_6 : decode cX2_codeAt 6 = .ok (.l2i, 1) := by decide +kernel
theorem dX2_codeAt_7 : decode cX2_codeAt 7 = .ok (.sipush 255, 3) := by decide +kernel
theorem dX2_codeAt_10 : decode cX2_codeAt 10 = .ok (.iand, 1) := by decide +kernel
theorem dX2_codeAt_11 : decode cX2_codeAt 11 = .ok (.ireturn, 1) := by decide +kernel

set_option maxHeartbeats 4000000 in
set_option maxRecDepth 100000 in
theorem c_codeAt (l : Launch) (v : Int64) (k : Int32) : Met l yX2_codeAt (Cond.code yX2_codeAt cX2_codeAt 3 (some .int) :: gw_tbl) ({ frames := 0, cells := 0, slots := 0, locals := 0 }) (pc_0 [.long v, .int k]) (vp_Si (fun r => True)) 0 0 (fun _ => False) := by
  refine Met.ofW (cc := cX2_codeAt) (maxL := 3) (ret := (some .int)) (by decide) rfl ?_
  intro p e s m args below meth c s₁ B hml hv
  obtain ⟨hargs, -⟩ := hv
  have hx := B.exec
  have hb := B.bytes
  have hr := B.returns
  have hts := atoms_spec (ws := Cond.code yX2_codeAt cX2_codeAt 3 (some .int) :: gw_tbl) B.pre
  have hg := fun (w : Cond) (h : w ∈ gw_tbl) => hts w (List.mem_cons_of_mem _ h)
  have hown : s.vm.findClass RX2 = some m.cls := findClass_of_methodNamed B.named
  have hlocks := B.notSynchronized
  have hl := lv_entry ([.long v, .int k]) (n := 3) (Nat.le_of_ble_eq_true rfl)
  rw [show entryFrame m args 3 = F0 m 0 (lg_sl ([.long v, .int k]) ++ List.replicate (3 - (lg_sl ([.long v, .int k])).length) Slot.unset).toArray [] from by rw [hargs]; exact lg_entry_eq ..]
  generalize (lg_sl ([.long v, .int k]) ++ List.replicate (3 - (lg_sl ([.long v, .int k])).length) Slot.unset).toArray = ls at hl ⊢
  have hl : lv_has ls 3 [(0, .long v), (2, .int k)] := hl
  refine W_genQ (fun Q hQ => ?_)
  refine lv_lload_n hx hb dX2_codeAt_0 rfl (lv_at hl 0 rfl) ?_
  refine lv_bipush (v := 8) hx hb dX2_codeAt_1 (by decide) ?_
  refine lv_iload_n hx hb dX2_codeAt_3 rfl (lv_at hl 1 rfl) ?_
  refine lv_imul hx hb dX2_codeAt_4 ?_
  refine lv_topi (fun z_4 e_4 => ?_)
  refine lv_lushr hx hb dX2_codeAt_5 rfl ?_
  refine lv_topl (fun z_5 e_5 => ?_)
  refine lv_l2i hx hb dX2_codeAt_6 rfl ?_
  refine lv_topi (fun z_6 e_6 => ?_)
  refine lv_sipush (v := 255) hx hb dX2_codeAt_7 (by decide) ?_
  refine lv_iand hx hb dX2_codeAt_10 ?_
  refine lv_topi (fun z_10 e_10 => ?_)
  refine W_sQ hQ ?_
  exact W.iret (v := z_10) hx hb hr (fun t ht hW => ⟨z_10, rfl, trivial, ht⟩) (fun _ h => absurd h List.not_mem_nil) dX2_codeAt_11

theorem dX11_mixed_0 : decode cX11_mixed 0 = .ok (.ldc2_w 328, 3) := by decide +kernel
theorem dX11_mixed_3 : decode cX11_mixed 3 = .ok (.lload_n 0, 1) := by decide +kernel
theorem dX11_mixed_4 : decode cX11_mixed 4 = .ok (.lmul, 1) := by decide +kernel
theorem dX11_mixed_5 : decode cX11_mixed 5 = .ok (.lload_n 2, 1) := by decide +kernel
theorem dX11_mixed_6 : decode cX11_mixed 6 = .ok (.ladd, 1) := by decide +kernel
theorem dX11_mixed_7 : decode cX11_mixed 7 = .ok (.lreturn, 1) := by decide +kernel
theorem kw_0 : (.constantLong RX11 328 (31) : Cond) ∈ gw_tbl := gw_in (by decide +kernel) (by decide +kernel)

set_option maxHeartbeats 4000000 in
set_option maxRecDepth 100000 in
theorem c_mixed (l : Launch) (v : Int64) (k : Int64) : Met l yX11_mixed (Cond.code yX11_mixed cX11_mixed 4 (some .long) :: gw_tbl) ({ frames := 0, cells := 0, slots := 0, locals := 0 }) (pc_0 [.long v, .long k]) (vp_Sl (fun r => True)) 0 0 (fun _ => False) := by
  refine Met.ofW (cc := cX11_mixed) (maxL := 4) (ret := (some .long)) (by decide) rfl ?_
  intro p e s m args below meth c s₁ B hml hv
  obtain ⟨hargs, -⟩ := hv
  have hx := B.exec
  have hb := B.bytes
  have hr := B.returns
  have hts := atoms_spec (ws := Cond.code yX11_mixed cX11_mixed 4 (some .long) :: gw_tbl) B.pre
  have hg := fun (w : Cond) (h : w ∈ gw_tbl) => hts w (List.mem_cons_of_mem _ h)
  have hown : s.vm.findClass RX11 = some m.cls := findClass_of_methodNamed B.named
  have hlocks := B.notSynchronized
  have hl := lv_entry ([.long v, .long k]) (n := 4) (Nat.le_of_ble_eq_true rfl)
  rw [show entryFrame m args 4 = F0 m 0 (lg_sl ([.long v, .long k]) ++ List.replicate (4 - (lg_sl ([.long v, .long k])).length) Slot.unset).toArray [] from by rw [hargs]; exact lg_entry_eq ..]
  generalize (lg_sl ([.long v, .long k]) ++ List.replicate (4 - (lg_sl ([.long v, .long k])).length) Slot.unset).toArray = ls at hl ⊢
  have hl : lv_has ls 4 [(0, .long v), (2, .long k)] := hl
  refine W_genQ (fun Q hQ => ?_)
  refine lv_ldc2 hx hb hown (hg _ kw_0) dX11_mixed_0 ?_
  refine lv_lload_n hx hb dX11_mixed_3 rfl (lv_at hl 0 rfl) ?_
  refine lv_lmul hx hb dX11_mixed_4 ?_
  refine lv_topl (fun z_4 e_4 => ?_)
  refine lv_lload_n hx hb dX11_mixed_5 rfl (lv_at hl 1 rfl) ?_
  refine lv_ladd hx hb dX11_mixed_6 ?_
  refine lv_topl (fun z_6 e_6 => ?_)
  refine W_sQ hQ ?_
  exact W.lret (v := z_6) hx hb hr (fun t ht hW => ⟨z_6, rfl, trivial, ht⟩) (fun _ h => absurd h List.not_mem_nil) dX11_mixed_7

theorem dJ6_bitCount_0f7a4_0 : decode cJ6_bitCount_0f7a4 0 = .ok (.iload_n 0, 1) := by decide +kernel
theorem dJ6_bitCount_0f7a4_1 : decode cJ6_bitCount_0f7a4 1 = .ok (.iload_n 0, 1) := by decide +kernel
theorem dJ6_bitCount_0f7a4_2 : decode cJ6_bitCount_0f7a4 2 = .ok (.iconst 1, 1) := by decide +kernel
theorem dJ6_bitCount_0f7a4_3 : decode cJ6_bitCount_0f7a4 3 = .ok (.iushr, 1) := by decide +kernel
theorem dJ6_bitCount_0f7a4_4 : decode cJ6_bitCount_0f7a4 4 = .ok (.ldc_w 265, 3) := by decide +kernel
theorem dJ6_bitCount_0f7a4_7 : decode cJ6_bitCount_0f7a4 7 = .ok (.iand, 1) := by decide +kernel
theorem dJ6_bitCount_0f7a4_8 : decode cJ6_bitCount_0f7a4 8 = .ok (.isub, 1) := by decide +kernel
theorem dJ6_bitCount_0f7a4_9 : decode cJ6_bitCount_0f7a4 9 = .ok (.istore_n 0, 1) := by decide +kernel
theorem dJ6_bitCount_0f7a4_10 : decode cJ6_bitCount_0f7a4 10 = .ok (.iload_n 0, 1) := by decide +kernel
theorem dJ6_bitCount_0f7a4_11 : decode cJ6_bitCount_0f7a4 11 = .ok (.ldc_w 266, 3) := by decide +kernel
theorem dJ6_bitCount_0f7a4_14 : decode cJ6_bitCount_0f7a4 14 = .ok (.iand, 1) := by decide +kernel
theorem dJ6_bitCount_0f7a4_15 : decode cJ6_bitCount_0f7a4 15 = .ok (.iload_n 0, 1) := by decide +kernel
theorem dJ6_bitCount_0f7a4_16 : decode cJ6_bitCount_0f7a4 16 = .ok (.iconst 2, 1) := by decide +kernel
theorem dJ6_bitCount_0f7a4_17 : decode cJ6_bitCount_0f7a4 17 = .ok (.iushr, 1) := by decide +kernel
theorem dJ6_bitCount_0f7a4_18 : decode cJ6_bitCount_0f7a4 18 = .ok (.ldc_w 266, 3) := by decide +kernel
theorem dJ6_bitCount_0f7a4_21 : decode cJ6_bitCount_0f7a4 21 = .ok (.iand, 1) := by decide +kernel
theorem dJ6_bitCount_0f7a4_22 : decode cJ6_bitCount_0f7a4 22 = .ok (.iadd, 1) := by decide +kernel
theorem dJ6_bitCount_0f7a4_23 : decode cJ6_bitCount_0f7a4 23 = .ok (.istore_n 0, 1) := by decide +kernel
theorem dJ6_bitCount_0f7a4_24 : decode cJ6_bitCount_0f7a4 24 = .ok (.iload_n 0, 1) := by decide +kernel
theorem dJ6_bitCount_0f7a4_25 : decode cJ6_bitCount_0f7a4 25 = .ok (.iload_n 0, 1) := by decide +kernel
theorem dJ6_bitCount_0f7a4_26 : decode cJ6_bitCount_0f7a4 26 = .ok (.iconst 4, 1) := by decide +kernel
theorem dJ6_bitCount_0f7a4_27 : decode cJ6_bitCount_0f7a4 27 = .ok (.iushr, 1) := by decide +kernel
theorem dJ6_bitCount_0f7a4_28 : decode cJ6_bitCount_0f7a4 28 = .ok (.iadd, 1) := by decide +kernel
theorem dJ6_bitCount_0f7a4_29 : decode cJ6_bitCount_0f7a4 29 = .ok (.ldc_w 267, 3) := by decide +kernel
theorem dJ6_bitCount_0f7a4_32 : decode cJ6_bitCount_0f7a4 32 = .ok (.iand, 1) := by decide +kernel
theorem dJ6_bitCount_0f7a4_33 : decode cJ6_bitCount_0f7a4 33 = .ok (.istore_n 0, 1) := by decide +kernel
theorem dJ6_bitCount_0f7a4_34 : decode cJ6_bitCount_0f7a4 34 = .ok (.iload_n 0, 1) := by decide +kernel
theorem dJ6_bitCount_0f7a4_35 : decode cJ6_bitCount_0f7a4 35 = .ok (.iload_n 0, 1) := by decide +kernel
theorem dJ6_bitCount_0f7a4_36 : decode cJ6_bitCount_0f7a4 36 = .ok (.bipush 8, 2) := by decide +kernel
theorem dJ6_bitCount_0f7a4_38 : decode cJ6_bitCount_0f7a4 38 = .ok (.iushr, 1) := by decide +kernel
theorem dJ6_bitCount_0f7a4_39 : decode cJ6_bitCount_0f7a4 39 = .ok (.iadd, 1) := by decide +kernel
theorem dJ6_bitCount_0f7a4_40 : decode cJ6_bitCount_0f7a4 40 = .ok (.istore_n 0, 1) := by decide +kernel
theorem dJ6_bitCount_0f7a4_41 : decode cJ6_bitCount_0f7a4 41 = .ok (.iload_n 0, 1) := by decide +kernel
theorem dJ6_bitCount_0f7a4_42 : decode cJ6_bitCount_0f7a4 42 = .ok (.iload_n 0, 1) := by decide +kernel
theorem dJ6_bitCount_0f7a4_43 : decode cJ6_bitCount_0f7a4 43 = .ok (.bipush 16, 2) := by decide +kernel
theorem dJ6_bitCount_0f7a4_45 : decode cJ6_bitCount_0f7a4 45 = .ok (.iushr, 1) := by decide +kernel
theorem dJ6_bitCount_0f7a4_46 : decode cJ6_bitCount_0f7a4 46 = .ok (.iadd, 1) := by decide +kernel
theorem dJ6_bitCount_0f7a4_47 : decode cJ6_bitCount_0f7a4 47 = .ok (.istore_n 0, 1) := by decide +kernel
theorem dJ6_bitCount_0f7a4_48 : decode cJ6_bitCount_0f7a4 48 = .ok (.iload_n 0, 1) := by decide +kernel
theorem dJ6_bitCount_0f7a4_49 : decode cJ6_bitCount_0f7a4 49 = .ok (.bipush 63, 2) := by decide +kernel
theorem dJ6_bitCount_0f7a4_51 : decode cJ6_bitCount_0f7a4 51 = .ok (.iand, 1) := by decide +kernel
theorem dJ6_bitCount_0f7a4_52 : decode cJ6_bitCount_0f7a4 52 = .ok (.ireturn, 1) := by decide +kernel
theorem kw_1 : (.constant RJ6 265 (1431655765) : Cond) ∈ gw_tbl := gw_in (by decide +kernel) (by decide +kernel)
theorem kw_2 : (.constant RJ6 266 (858993459) : Cond) ∈ gw_tbl := gw_in (by decide +kernel) (by decide +kernel)
theorem kw_3 : (.constant RJ6 267 (252645135) : Cond) ∈ gw_tbl := gw_in (by decide +kernel) (by decide +kernel)

set_option maxHeartbeats 4000000 in
set_option maxRecDepth 100000 in
theorem c_bitCount (l : Launch) (v : Int32) : Met l yJ6_bitCount_0f7a4 (Cond.code yJ6_bitCount_0f7a4 cJ6_bitCount_0f7a4 1 (some .int) :: gw_tbl) ({ frames := 0, cells := 0, slots := 0, locals := 0 }) (pc_0 [.int v]) (vp_Si (fun r => True)) 0 0 (fun _ => False) := by
  refine Met.ofW (cc := cJ6_bitCount_0f7a4) (maxL := 1) (ret := (some .int)) (by decide) rfl ?_
  intro p e s m args below meth c s₁ B hml hv
  obtain ⟨hargs, -⟩ := hv
  have hx := B.exec
  have hb := B.bytes
  have hr := B.returns
  have hts := atoms_spec (ws := Cond.code yJ6_bitCount_0f7a4 cJ6_bitCount_0f7a4 1 (some .int) :: gw_tbl) B.pre
  have hg := fun (w : Cond) (h : w ∈ gw_tbl) => hts w (List.mem_cons_of_mem _ h)
  have hown : s.vm.findClass RJ6 = some m.cls := findClass_of_methodNamed B.named
  have hlocks := B.notSynchronized
  have hl := lv_entry ([.int v]) (n := 1) (Nat.le_of_ble_eq_true rfl)
  rw [show entryFrame m args 1 = F0 m 0 (lg_sl ([.int v]) ++ List.replicate (1 - (lg_sl ([.int v])).length) Slot.unset).toArray [] from by rw [hargs]; exact lg_entry_eq ..]
  generalize (lg_sl ([.int v]) ++ List.replicate (1 - (lg_sl ([.int v])).length) Slot.unset).toArray = ls at hl ⊢
  have hl : lv_has ls 1 [(0, .int v)] := hl
  refine W_genQ (fun Q hQ => ?_)
  refine lv_iload_n hx hb dJ6_bitCount_0f7a4_0 rfl (lv_at hl 0 rfl) ?_
  refine lv_iload_n hx hb dJ6_bitCount_0f7a4_1 rfl (lv_at hl 0 rfl) ?_
  refine lv_iconst (v := 1) hx hb dJ6_bitCount_0f7a4_2 (by decide) ?_
  refine lv_iushr hx hb dJ6_bitCount_0f7a4_3 rfl ?_
  refine lv_topi (fun z_3 e_3 => ?_)
  refine lv_ldcw hx hb hown (hg _ kw_1) dJ6_bitCount_0f7a4_4 ?_
  refine lv_iand hx hb dJ6_bitCount_0f7a4_7 ?_
  refine lv_topi (fun z_7 e_7 => ?_)
  refine lv_isub hx hb dJ6_bitCount_0f7a4_8 ?_
  refine lv_topi (fun z_8 e_8 => ?_)
  refine lv_istore_n (lv' := [(0, .int z_8)]) hx hb dJ6_bitCount_0f7a4_9 rfl hl (by decide) rfl (fun ls hl => ?_)
  refine lv_iload_n hx hb dJ6_bitCount_0f7a4_10 rfl (lv_at hl 0 rfl) ?_
  refine lv_ldcw hx hb hown (hg _ kw_2) dJ6_bitCount_0f7a4_11 ?_
  refine lv_iand hx hb dJ6_bitCount_0f7a4_14 ?_
  refine lv_topi (fun z_14 e_14 => ?_)
  refine lv_iload_n hx hb dJ6_bitCount_0f7a4_15 rfl (lv_at hl 0 rfl) ?_
  refine lv_iconst (v := 2) hx hb dJ6_bitCount_0f7a4_16 (by decide) ?_
  refine lv_iushr hx hb dJ6_bitCount_0f7a4_17 rfl ?_
  refine lv_topi (fun z_17 e_17 => ?_)
  refine lv_ldcw hx hb hown (hg _ kw_2) dJ6_bitCount_0f7a4_18 ?_
  refine lv_iand hx hb dJ6_bitCount_0f7a4_21 ?_
  refine lv_topi (fun z_21 e_21 => ?_)
  refine lv_iadd hx hb dJ6_bitCount_0f7a4_22 ?_
  refine lv_topi (fun z_22 e_22 => ?_)
  refine lv_istore_n (lv' := [(0, .int z_22)]) hx hb dJ6_bitCount_0f7a4_23 rfl hl (by decide) rfl (fun ls hl => ?_)
  refine lv_iload_n hx hb dJ6_bitCount_0f7a4_24 rfl (lv_at hl 0 rfl) ?_
  refine lv_iload_n hx hb dJ6_bitCount_0f7a4_25 rfl (lv_at hl 0 rfl) ?_
  refine lv_iconst (v := 4) hx hb dJ6_bitCount_0f7a4_26 (by decide) ?_
  refine lv_iushr hx hb dJ6_bitCount_0f7a4_27 rfl ?_
  refine lv_topi (fun z_27 e_27 => ?_)
  refine lv_iadd hx hb dJ6_bitCount_0f7a4_28 ?_
  refine lv_topi (fun z_28 e_28 => ?_)
  refine lv_ldcw hx hb hown (hg _ kw_3) dJ6_bitCount_0f7a4_29 ?_
  refine lv_iand hx hb dJ6_bitCount_0f7a4_32 ?_
  refine lv_topi (fun z_32 e_32 => ?_)
  refine lv_istore_n (lv' := [(0, .int z_32)]) hx hb dJ6_bitCount_0f7a4_33 rfl hl (by decide) rfl (fun ls hl => ?_)
  refine lv_iload_n hx hb dJ6_bitCount_0f7a4_34 rfl (lv_at hl 0 rfl) ?_
  refine lv_iload_n hx hb dJ6_bitCount_0f7a4_35 rfl (lv_at hl 0 rfl) ?_
  refine lv_bipush (v := 8) hx hb dJ6_bitCount_0f7a4_36 (by decide) ?_
  refine lv_iushr hx hb dJ6_bitCount_0f7a4_38 rfl ?_
  refine lv_topi (fun z_38 e_38 => ?_)
  refine lv_iadd hx hb dJ6_bitCount_0f7a4_39 ?_
  refine lv_topi (fun z_39 e_39 => ?_)
  refine lv_istore_n (lv' := [(0, .int z_39)]) hx hb dJ6_bitCount_0f7a4_40 rfl hl (by decide) rfl (fun ls hl => ?_)
  refine lv_iload_n hx hb dJ6_bitCount_0f7a4_41 rfl (lv_at hl 0 rfl) ?_
  refine lv_iload_n hx hb dJ6_bitCount_0f7a4_42 rfl (lv_at hl 0 rfl) ?_
  refine lv_bipush (v := 16) hx hb dJ6_bitCount_0f7a4_43 (by decide) ?_
  refine lv_iushr hx hb dJ6_bitCount_0f7a4_45 rfl ?_
  refine lv_topi (fun z_45 e_45 => ?_)
  refine lv_iadd hx hb dJ6_bitCount_0f7a4_46 ?_
  refine lv_topi (fun z_46 e_46 => ?_)
  refine lv_istore_n (lv' := [(0, .int z_46)]) hx hb dJ6_bitCount_0f7a4_47 rfl hl (by decide) rfl (fun ls hl => ?_)
  refine lv_iload_n hx hb dJ6_bitCount_0f7a4_48 rfl (lv_at hl 0 rfl) ?_
  refine lv_bipush (v := 63) hx hb dJ6_bitCount_0f7a4_49 (by decide) ?_
  refine lv_iand hx hb dJ6_bitCount_0f7a4_51 ?_
  refine lv_topi (fun z_51 e_51 => ?_)
  refine W_sQ hQ ?_
  exact W.iret (v := z_51) hx hb hr (fun t ht hW => ⟨z_51, rfl, trivial, ht⟩) (fun _ h => absurd h List.not_mem_nil) dJ6_bitCount_0f7a4_52

theorem dX8_sideOf_0 : decode cX8_sideOf 0 = .ok (.iload_n 0, 1) := by decide +kernel
theorem dX8_sideOf_1 : decode cX8_sideOf 1 = .ok (.iload_n 1, 1) := by decide +kernel
theorem dX8_sideOf_2 : decode cX8_sideOf 2 = .ok (.if_icmp .ne 5, 3) := by decide +kernel
theorem dX8_sideOf_5 : decode cX8_sideOf 5 = .ok (.iconst (-1), 1) := by decide +kernel
theorem dX8_sideOf_6 : decode cX8_sideOf 6 = .ok (.ireturn, 1) := by decide +kernel
theorem dX8_sideOf_7 : decode cX8_sideOf 7 = .ok (.iload_n 0, 1) := by decide +kernel
theorem dX8_sideOf_8 : decode cX8_sideOf 8 = .ok (.iload_n 1, 1) := by decide +kernel
theorem dX8_sideOf_9 : decode cX8_sideOf 9 = .ok (.if_icmp .le 7, 3) := by decide +kernel
theorem dX8_sideOf_12 : decode cX8_sideOf 12 = .ok (.iconst 1, 1) := by decide +kernel
theorem dX8_sideOf_13 : decode cX8_sideOf 13 = .ok (.goto 4, 3) := by decide +kernel
theorem dX8_sideOf_16 : decode cX8_sideOf 16 = .ok (.iconst 0, 1) := by decide +kernel
theorem dX8_sideOf_17 : decode cX8_sideOf 17 = .ok (.ireturn, 1) := by decide +kernel

set_option maxHeartbeats 4000000 in
set_option maxRecDepth 100000 in
theorem c_sideOf (l : Launch) (v : Int32) (k : Int32) : Met l yX8_sideOf (Cond.code yX8_sideOf cX8_sideOf 2 (some .int) :: gw_tbl) ({ frames := 0, cells := 0, slots := 0, locals := 0 }) (pc_0 [.int v, .int k]) (vp_Si (fun r => True)) 0 0 (fun _ => False) := by
  refine Met.ofW (cc := cX8_sideOf) (maxL := 2) (ret := (some .int)) (by decide) rfl ?_
  intro p e s m args below meth c s₁ B hml hv
  obtain ⟨hargs, -⟩ := hv
  have hx := B.exec
  have hb := B.bytes
  have hr := B.returns
  have hts := atoms_spec (ws := Cond.code yX8_sideOf cX8_sideOf 2 (some .int) :: gw_tbl) B.pre
  have hg := fun (w : Cond) (h : w ∈ gw_tbl) => hts w (List.mem_cons_of_mem _ h)
  have hown : s.vm.findClass RX8 = some m.cls := findClass_of_methodNamed B.named
  have hlocks := B.notSynchronized
  have hl := lv_entry ([.int v, .int k]) (n := 2) (Nat.le_of_ble_eq_true rfl)
  rw [show entryFrame m args 2 = F0 m 0 (lg_sl ([.int v, .int k]) ++ List.replicate (2 - (lg_sl ([.int v, .int k])).length) Slot.unset).toArray [] from by rw [hargs]; exact lg_entry_eq ..]
  generalize (lg_sl ([.int v, .int k]) ++ List.replicate (2 - (lg_sl ([.int v, .int k])).length) Slot.unset).toArray = ls at hl ⊢
  have hl : lv_has ls 2 [(0, .int v), (1, .int k)] := hl
  refine W_genQ (fun Q hQ => ?_)
  refine lv_iload_n hx hb dX8_sideOf_0 rfl (lv_at hl 0 rfl) ?_
  refine lv_iload_n hx hb dX8_sideOf_1 rfl (lv_at hl 1 rfl) ?_
  refine lv_icmp_ne (tgt := 7) hx hb dX8_sideOf_2 (by decide) (fun c_2 => ?_) (fun c_2 => ?_)
  · refine lv_iload_n hx hb dX8_sideOf_7 rfl (lv_at hl 0 rfl) ?_
    refine lv_iload_n hx hb dX8_sideOf_8 rfl (lv_at hl 1 rfl) ?_
    refine lv_icmp_le (tgt := 16) hx hb dX8_sideOf_9 (by decide) (fun c_9 => ?_) (fun c_9 => ?_)
    · refine lv_iconst (v := 0) hx hb dX8_sideOf_16 (by decide) ?_
      refine W_sQ hQ ?_
      exact W.iret (v := 0) hx hb hr (fun t ht hW => ⟨0, rfl, trivial, ht⟩) (fun _ h => absurd h List.not_mem_nil) dX8_sideOf_17
    · refine lv_iconst (v := 1) hx hb dX8_sideOf_12 (by decide) ?_
      refine lv_goto (tgt := 17) hx hb dX8_sideOf_13 (by decide) ?_
      refine W_sQ hQ ?_
      exact W.iret (v := 1) hx hb hr (fun t ht hW => ⟨1, rfl, trivial, ht⟩) (fun _ h => absurd h List.not_mem_nil) dX8_sideOf_17
  · refine lv_iconst (v := (-1)) hx hb dX8_sideOf_5 (by decide) ?_
    refine W_sQ hQ ?_
    exact W.iret (v := (-1)) hx hb hr (fun t ht hW => ⟨(-1), rfl, trivial, ht⟩) (fun _ h => absurd h List.not_mem_nil) dX8_sideOf_6

theorem dX4_placeOf_0 : decode cX4_placeOf 0 = .ok (.iload_n 0, 1) := by decide +kernel
theorem dX4_placeOf_1 : decode cX4_placeOf 1 = .ok (.iconst 4, 1) := by decide +kernel
theorem dX4_placeOf_2 : decode cX4_placeOf 2 = .ok (.imul, 1) := by decide +kernel
theorem dX4_placeOf_3 : decode cX4_placeOf 3 = .ok (.iload_n 1, 1) := by decide +kernel
theorem dX4_placeOf_4 : decode cX4_placeOf 4 = .ok (.iadd, 1) := by decide +kernel
theorem dX4_placeOf_5 : decode cX4_placeOf 5 = .ok (.ireturn, 1) := by decide +kernel

set_option maxHeartbeats 4000000 in
set_option maxRecDepth 100000 in
theorem c_placeOf (l : Launch) (a : Nat) (b : Nat) : Met l yX4_placeOf (Cond.code yX4_placeOf cX4_placeOf 2 (some .int) :: gw_tbl) ({ frames := 0, cells := 0, slots := 0, locals := 0 }) (pc_0 [.int (nI a), .int (nI b)]) (vp_Si (fun r => r = nI (a * 4 + b))) 0 0 (fun _ => False) := by
  refine Met.ofW (cc := cX4_placeOf) (maxL := 2) (ret := (some .int)) (by decide) rfl ?_
  intro p e s m args below meth c s₁ B hml hv
  obtain ⟨hargs, -⟩ := hv
  have hx := B.exec
  have hb := B.bytes
  have hr := B.returns
  have hts := atoms_spec (ws := Cond.code yX4_placeOf cX4_placeOf 2 (some .int) :: gw_tbl) B.pre
  have hg := fun (w : Cond) (h : w ∈ gw_tbl) => hts w (List.mem_cons_of_mem _ h)
  have hown : s.vm.findClass RX4 = some m.cls := findClass_of_methodNamed B.named
  have hlocks := B.notSynchronized
  have hl := lv_entry ([.int (nI a), .int (nI b)]) (n := 2) (Nat.le_of_ble_eq_true rfl)
  rw [show entryFrame m args 2 = F0 m 0 (lg_sl ([.int (nI a), .int (nI b)]) ++ List.replicate (2 - (lg_sl ([.int (nI a), .int (nI b)])).length) Slot.unset).toArray [] from by rw [hargs]; exact lg_entry_eq ..]
  generalize (lg_sl ([.int (nI a), .int (nI b)]) ++ List.replicate (2 - (lg_sl ([.int (nI a), .int (nI b)])).length) Slot.unset).toArray = ls at hl ⊢
  have hl : lv_has ls 2 [(0, .int (nI a)), (1, .int (nI b))] := hl
  refine W_genQ (fun Q hQ => ?_)
  refine lv_iload_n hx hb dX4_placeOf_0 rfl (lv_at hl 0 rfl) ?_
  refine lv_iconst (v := 4) hx hb dX4_placeOf_1 (by decide) ?_
  refine lv_imul hx hb dX4_placeOf_2 ?_
  refine lv_topi (fun z_2 e_2 => ?_)
  obtain rfl : z_2 = nI (a * 4) := e_2.trans (pk_mul _ _)
  refine lv_iload_n hx hb dX4_placeOf_3 rfl (lv_at hl 1 rfl) ?_
  refine lv_iadd hx hb dX4_placeOf_4 ?_
  refine lv_topi (fun z_4 e_4 => ?_)
  obtain rfl : z_4 = nI (a * 4 + b) := e_4.trans (nI_add _ _)
  refine W_sQ hQ ?_
  exact W.iret (v := (nI (a * 4 + b))) hx hb hr (fun t ht hW => ⟨(nI (a * 4 + b)), rfl, rfl, ht⟩) (fun _ h => absurd h List.not_mem_nil) dX4_placeOf_5

theorem dX4_withWay_0 : decode cX4_withWay 0 = .ok (.iload_n 0, 1) := by decide +kernel
theorem dX4_withWay_1 : decode cX4_withWay 1 = .ok (.iconst 3, 1) := by decide +kernel
theorem dX4_withWay_2 : decode cX4_withWay 2 = .ok (.iconst 2, 1) := by decide +kernel
theorem dX4_withWay_3 : decode cX4_withWay 3 = .ok (.iload_n 1, 1) := by decide +kernel
theorem dX4_withWay_4 : decode cX4_withWay 4 = .ok (.imul, 1) := by decide +kernel
theorem dX4_withWay_5 : decode cX4_withWay 5 = .ok (.ishl, 1) := by decide +kernel
theorem dX4_withWay_6 : decode cX4_withWay 6 = .ok (.iconst (-1), 1) := by decide +kernel
theorem dX4_withWay_7 : decode cX4_withWay 7 = .ok (.ixor, 1) := by decide +kernel
theorem dX4_withWay_8 : decode cX4_withWay 8 = .ok (.iand, 1) := by decide +kernel
theorem dX4_withWay_9 : decode cX4_withWay 9 = .ok (.iload_n 2, 1) := by decide +kernel
theorem dX4_withWay_10 : decode cX4_withWay 10 = .ok (.iconst 2, 1) := by decide +kernel
theorem dX4_withWay_11 : decode cX4_withWay 11 = .ok (.iload_n 1, 1) := by decide +kernel
theorem dX4_withWay_12 : decode cX4_withWay 12 = .ok (.imul, 1) := by decide +kernel
theorem dX4_withWay_13 : decode cX4_withWay 13 = .ok (.ishl, 1) := by decide +kernel
theorem dX4_withWay_14 : decode cX4_withWay 14 = .ok (.ior, 1) := by decide +kernel
theorem dX4_withWay_15 : decode cX4_withWay 15 = .ok (.ireturn, 1) := by decide +kernel

set_option maxHeartbeats 4000000 in
set_option maxRecDepth 100000 in
theorem c_withWay (l : Launch) (a : Nat) (pe : Nat) (wy : Nat) (P : Nat) (hP4 : P ≤ 4) (ha : a < lim P) (hpe : pe < P) (hwy : wy < 4) : Met l yX4_withWay (Cond.code yX4_withWay cX4_withWay 3 (some .int) :: gw_tbl) ({ frames := 0, cells := 0, slots := 0, locals := 0 }) (pc_0 [.int (nI a), .int (nI pe), .int (nI wy)]) (vp_Si (fun r => ∃ k : Nat, r = nI k ∧ k < lim P)) 0 0 (fun _ => False) := by
  refine Met.ofW (cc := cX4_withWay) (maxL := 3) (ret := (some .int)) (by decide) rfl ?_
  intro p e s m args below meth c s₁ B hml hv
  obtain ⟨hargs, -⟩ := hv
  have hx := B.exec
  have hb := B.bytes
  have hr := B.returns
  have hts := atoms_spec (ws := Cond.code yX4_withWay cX4_withWay 3 (some .int) :: gw_tbl) B.pre
  have hg := fun (w : Cond) (h : w ∈ gw_tbl) => hts w (List.mem_cons_of_mem _ h)
  have hown : s.vm.findClass RX4 = some m.cls := findClass_of_methodNamed B.named
  have hlocks := B.notSynchronized
  have hl := lv_entry ([.int (nI a), .int (nI pe), .int (nI wy)]) (n := 3) (Nat.le_of_ble_eq_true rfl)
  rw [show entryFrame m args 3 = F0 m 0 (lg_sl ([.int (nI a), .int (nI pe), .int (nI wy)]) ++ List.replicate (3 - (lg_sl ([.int (nI a), .int (nI pe), .int (nI wy)])).length) Slot.unset).toArray [] from by rw [hargs]; exact lg_entry_eq ..]
  generalize (lg_sl ([.int (nI a), .int (nI pe), .int (nI wy)]) ++ List.replicate (3 - (lg_sl ([.int (nI a), .int (nI pe), .int (nI wy)])).length) Slot.unset).toArray = ls at hl ⊢
  have hl : lv_has ls 3 [(0, .int (nI a)), (1, .int (nI pe)), (2, .int (nI wy))] := hl
  refine W_genQ (fun Q hQ => ?_)
  have hlm := lim_le hP4
  have hlq := lim_pos P
  have hsg := sgn_le hP4
  refine lv_iload_n hx hb dX4_withWay_0 rfl (lv_at hl 0 rfl) ?_
  refine lv_iconst (v := 3) hx hb dX4_withWay_1 (by decide) ?_
  refine lv_iconst (v := 2) hx hb dX4_withWay_2 (by decide) ?_
  refine lv_iload_n hx hb dX4_withWay_3 rfl (lv_at hl 1 rfl) ?_
  refine lv_imul hx hb dX4_withWay_4 ?_
  refine lv_topi (fun z_4 e_4 => ?_)
  obtain rfl : z_4 = nI (2 * pe) := e_4.trans (pk_mul _ _)
  refine lv_ishl hx hb dX4_withWay_5 ?_
  refine lv_topi (fun z_5 e_5 => ?_)
  refine lv_iconst (v := (-1)) hx hb dX4_withWay_6 (by decide) ?_
  refine lv_ixor hx hb dX4_withWay_7 ?_
  refine lv_topi (fun z_7 e_7 => ?_)
  refine lv_iand hx hb dX4_withWay_8 ?_
  refine lv_topi (fun z_8 e_8 => ?_)
  refine lv_iload_n hx hb dX4_withWay_9 rfl (lv_at hl 2 rfl) ?_
  refine lv_iconst (v := 2) hx hb dX4_withWay_10 (by decide) ?_
  refine lv_iload_n hx hb dX4_withWay_11 rfl (lv_at hl 1 rfl) ?_
  refine lv_imul hx hb dX4_withWay_12 ?_
  refine lv_topi (fun z_12 e_12 => ?_)
  obtain rfl : z_12 = nI (2 * pe) := e_12.trans (pk_mul _ _)
  refine lv_ishl hx hb dX4_withWay_13 ?_
  refine lv_topi (fun z_13 e_13 => ?_)
  refine lv_ior hx hb dX4_withWay_14 ?_
  refine lv_topi (fun z_14 e_14 => ?_)
  obtain ⟨k9, e9, hk9⟩ := ww_ok hP4 ha hpe hwy
  refine W_sQ hQ ?_
  exact W.iret (v := z_14) hx hb hr (fun t ht hW => ⟨z_14, rfl, ⟨k9, by rw [← e9, e_14, e_13, e_8, e_7, e_5]; rfl, hk9⟩, ht⟩) (fun _ h => absurd h List.not_mem_nil) dX4_withWay_15

theorem dX12_with_0 : decode cX12_with 0 = .ok (.iload_n 0, 1) := by decide +kernel
theorem dX12_with_1 : decode cX12_with 1 = .ok (.iconst 3, 1) := by decide +kernel
theorem dX12_with_2 : decode cX12_with 2 = .ok (.iconst 2, 1) := by decide +kernel
theorem dX12_with_3 : decode cX12_with 3 = .ok (.iload_n 1, 1) := by decide +kernel
theorem dX12_with_4 : decode cX12_with 4 = .ok (.imul, 1) := by decide +kernel
theorem dX12_with_5 : decode cX12_with 5 = .ok (.ishl, 1) := by decide +kernel
theorem dX12_with_6 : decode cX12_with 6 = .ok (.iconst (-1), 1) := by decide +kernel
theorem dX12_with_7 : decode cX12_with 7 = .ok (.ixor, 1) := by decide +kernel
theorem dX12_with_8 : decode cX12_with 8 = .ok (.iand, 1) := by decide +kernel
theorem dX12_with_9 : decode cX12_with 9 = .ok (.iload_n 2, 1) := by decide +kernel
theorem dX12_with_10 : decode cX12_with 10 = .ok (.iconst 2, 1) := by decide +kernel
theorem dX12_with_11 : decode cX12_with 11 = .ok (.iload_n 1, 1) := by decide +kernel
theorem dX12_with_12 : decode cX12_with 12 = .ok (.imul, 1) := by decide +kernel
theorem dX12_with_13 : decode cX12_with 13 = .ok (.ishl, 1) := by decide +kernel
theorem dX12_with_14 : decode cX12_with 14 = .ok (.ior, 1) := by decide +kernel
theorem dX12_with_15 : decode cX12_with 15 = .ok (.ireturn, 1) := by decide +kernel

set_option maxHeartbeats 4000000 in
set_option maxRecDepth 100000 in
theorem c_with (l : Launch) (a : Nat) (pe : Nat) (wy : Nat) (P : Nat) (hP4 : P ≤ 4) (ha : a < lim P) (hpe : pe < P) (hwy : wy < 4) : Met l yX12_with (Cond.code yX12_with cX12_with 3 (some .int) :: gw_tbl) ({ frames := 0, cells := 0, slots := 0, locals := 0 }) (pc_0 [.int (nI a), .int (nI pe), .int (nI wy)]) (vp_Si (fun r => ∃ k : Nat, r = nI k ∧ k < lim P)) 0 0 (fun _ => False) := by
  refine Met.ofW (cc := cX12_with) (maxL := 3) (ret := (some .int)) (by decide) rfl ?_
  intro p e s m args below meth c s₁ B hml hv
  obtain ⟨hargs, -⟩ := hv
  have hx := B.exec
  have hb := B.bytes
  have hr := B.returns
  have hts := atoms_spec (ws := Cond.code yX12_with cX12_with 3 (some .int) :: gw_tbl) B.pre
  have hg := fun (w : Cond) (h : w ∈ gw_tbl) => hts w (List.mem_cons_of_mem _ h)
  have hown : s.vm.findClass RX12 = some m.cls := findClass_of_methodNamed B.named
  have hlocks := B.notSynchronized
  have hl := lv_entry ([.int (nI a), .int (nI pe), .int (nI wy)]) (n := 3) (Nat.le_of_ble_eq_true rfl)
  rw [show entryFrame m args 3 = F0 m 0 (lg_sl ([.int (nI a), .int (nI pe), .int (nI wy)]) ++ List.replicate (3 - (lg_sl ([.int (nI a), .int (nI pe), .int (nI wy)])).length) Slot.unset).toArray [] from by rw [hargs]; exact lg_entry_eq ..]
  generalize (lg_sl ([.int (nI a), .int (nI pe), .int (nI wy)]) ++ List.replicate (3 - (lg_sl ([.int (nI a), .int (nI pe), .int (nI wy)])).length) Slot.unset).toArray = ls at hl ⊢
  have hl : lv_has ls 3 [(0, .int (nI a)), (1, .int (nI pe)), (2, .int (nI wy))] := hl
  refine W_genQ (fun Q hQ => ?_)
  have hlm := lim_le hP4
  have hlq := lim_pos P
  have hsg := sgn_le hP4
  refine lv_iload_n hx hb dX12_with_0 rfl (lv_at hl 0 rfl) ?_
  refine lv_iconst (v := 3) hx hb dX12_with_1 (by decide) ?_
  refine lv_iconst (v := 2) hx hb dX12_with_2 (by decide) ?_
  refine lv_iload_n hx hb dX12_with_3 rfl (lv_at hl 1 rfl) ?_
  refine lv_imul hx hb dX12_with_4 ?_
  refine lv_topi (fun z_4 e_4 => ?_)
  obtain rfl : z_4 = nI (2 * pe) := e_4.trans (pk_mul _ _)
  refine lv_ishl hx hb dX12_with_5 ?_
  refine lv_topi (fun z_5 e_5 => ?_)
  refine lv_iconst (v := (-1)) hx hb dX12_with_6 (by decide) ?_
  refine lv_ixor hx hb dX12_with_7 ?_
  refine lv_topi (fun z_7 e_7 => ?_)
  refine lv_iand hx hb dX12_with_8 ?_
  refine lv_topi (fun z_8 e_8 => ?_)
  refine lv_iload_n hx hb dX12_with_9 rfl (lv_at hl 2 rfl) ?_
  refine lv_iconst (v := 2) hx hb dX12_with_10 (by decide) ?_
  refine lv_iload_n hx hb dX12_with_11 rfl (lv_at hl 1 rfl) ?_
  refine lv_imul hx hb dX12_with_12 ?_
  refine lv_topi (fun z_12 e_12 => ?_)
  obtain rfl : z_12 = nI (2 * pe) := e_12.trans (pk_mul _ _)
  refine lv_ishl hx hb dX12_with_13 ?_
  refine lv_topi (fun z_13 e_13 => ?_)
  refine lv_ior hx hb dX12_with_14 ?_
  refine lv_topi (fun z_14 e_14 => ?_)
  obtain ⟨k9, e9, hk9⟩ := ww_ok hP4 ha hpe hwy
  refine W_sQ hQ ?_
  exact W.iret (v := z_14) hx hb hr (fun t ht hW => ⟨z_14, rfl, ⟨k9, by rw [← e9, e_14, e_13, e_8, e_7, e_5]; rfl, hk9⟩, ht⟩) (fun _ h => absurd h List.not_mem_nil) dX12_with_15

theorem dX8_answersLimit_0 : decode cX8_answersLimit 0 = .ok (.iconst 1, 1) := by decide +kernel
theorem dX8_answersLimit_1 : decode cX8_answersLimit 1 = .ok (.istore_n 1, 1) := by decide +kernel
theorem dX8_answersLimit_2 : decode cX8_answersLimit 2 = .ok (.iconst 0, 1) := by decide +kernel
theorem dX8_answersLimit_3 : decode cX8_answersLimit 3 = .ok (.istore_n 2, 1) := by decide +kernel
theorem dX8_answersLimit_4 : decode cX8_answersLimit 4 = .ok (.iload_n 2, 1) := by decide +kernel
theorem dX8_answersLimit_5 : decode cX8_answersLimit 5 = .ok (.iload_n 0, 1) := by decide +kernel
theorem dX8_answersLimit_6 : decode cX8_answersLimit 6 = .ok (.if_icmp .ge 13, 3) := by decide +kernel
theorem dX8_answersLimit_9 : decode cX8_answersLimit 9 = .ok (.iload_n 1, 1) := by decide +kernel
theorem dX8_answersLimit_10 : decode cX8_answersLimit 10 = .ok (.iconst 3, 1) := by decide +kernel
theorem dX8_answersLimit_11 : decode cX8_answersLimit 11 = .ok (.imul, 1) := by decide +kernel
theorem dX8_answersLimit_12 : decode cX8_answersLimit 12 = .ok (.istore_n 1, 1) := by decide +kernel
theorem dX8_answersLimit_13 : decode cX8_answersLimit 13 = .ok (.iinc 2 1, 3) := by decide +kernel
theorem dX8_answersLimit_16 : decode cX8_answersLimit 16 = .ok (.goto (-12), 3) := by decide +kernel
theorem dX8_answersLimit_19 : decode cX8_answersLimit 19 = .ok (.iload_n 1, 1) := by decide +kernel
theorem dX8_answersLimit_20 : decode cX8_answersLimit 20 = .ok (.ireturn, 1) := by decide +kernel

set_option maxHeartbeats 4000000 in
set_option maxRecDepth 100000 in
theorem c_answersLimit (l : Launch) (P : Nat) (hP4 : P ≤ 4) : Met l yX8_answersLimit (Cond.code yX8_answersLimit cX8_answersLimit 3 (some .int) :: gw_tbl) ({ frames := 0, cells := 0, slots := 0, locals := 0 }) (pc_0 [.int (nI P)]) (vp_Si (fun r => True)) 0 0 (fun _ => False) := by
  refine Met.ofW (cc := cX8_answersLimit) (maxL := 3) (ret := (some .int)) (by decide) rfl ?_
  intro p e s m args below meth c s₁ B hml hv
  obtain ⟨hargs, -⟩ := hv
  have hx := B.exec
  have hb := B.bytes
  have hr := B.returns
  have hts := atoms_spec (ws := Cond.code yX8_answersLimit cX8_answersLimit 3 (some .int) :: gw_tbl) B.pre
  have hg := fun (w : Cond) (h : w ∈ gw_tbl) => hts w (List.mem_cons_of_mem _ h)
  have hown : s.vm.findClass RX8 = some m.cls := findClass_of_methodNamed B.named
  have hlocks := B.notSynchronized
  have hl := lv_entry ([.int (nI P)]) (n := 3) (Nat.le_of_ble_eq_true rfl)
  rw [show entryFrame m args 3 = F0 m 0 (lg_sl ([.int (nI P)]) ++ List.replicate (3 - (lg_sl ([.int (nI P)])).length) Slot.unset).toArray [] from by rw [hargs]; exact lg_entry_eq ..]
  generalize (lg_sl ([.int (nI P)]) ++ List.replicate (3 - (lg_sl ([.int (nI P)])).length) Slot.unset).toArray = ls at hl ⊢
  have hl : lv_has ls 3 [(0, .int (nI P))] := hl
  refine W_genQ (fun Q hQ => ?_)
  have hlm := lim_le hP4
  have hlq := lim_pos P
  have hsg := sgn_le hP4
  refine lv_iconst (v := 1) hx hb dX8_answersLimit_0 (by decide) ?_
  refine lv_istore_n (lv' := [(1, .int 1), (0, .int (nI P))]) hx hb dX8_answersLimit_1 rfl hl (by decide) rfl (fun ls hl => ?_)
  refine lv_iconst (v := 0) hx hb dX8_answersLimit_2 (by decide) ?_
  refine lv_istore_n (lv' := [(2, .int 0), (1, .int 1), (0, .int (nI P))]) hx hb dX8_answersLimit_3 rfl hl (by decide) rfl (fun ls hl => ?_)
  have LOOP4 : ∀ (n4 : Nat) (u1_4 : Int32) (k : Nat), k ≤ P → P - k < n4 → ∀ (ls : Array Slot), lv_has ls 3 [(0, .int (nI P)), (1, .int u1_4), (2, .int (nI k))] → W p l e ({ frames := 0, cells := 0, slots := 0, locals := 0 } : Room) s m args below meth c s.heap [] 0 0 Q (F0 m 4 ls []) := by
    intro n4
    induction n4 with
    | zero =>
      intro u1_4 k hk hn4 ls hl
      exact absurd hn4 (Nat.not_lt_zero _)
    | succ n4 ih4 =>
      intro u1_4 k hk hn4 ls hl
      refine lv_iload_n hx hb dX8_answersLimit_4 rfl (lv_at hl 2 rfl) ?_
      refine lv_iload_n hx hb dX8_answersLimit_5 rfl (lv_at hl 0 rfl) ?_
      refine lv_icmp_ge (tgt := 19) hx hb dX8_answersLimit_6 (by decide) (fun c_6 => ?_) (fun c_6 => ?_)
      · have n_6 : P ≤ k := b_le_t (by omega) (by omega) c_6
        refine lv_iload_n hx hb dX8_answersLimit_19 rfl (lv_at hl 1 rfl) ?_
        refine W_sQ hQ ?_
        exact W.iret (v := u1_4) hx hb hr (fun t ht hW => ⟨u1_4, rfl, trivial, ht⟩) (fun _ h => absurd h List.not_mem_nil) dX8_answersLimit_20
      · have n_6 : k < P := b_le_f (by omega) (by omega) c_6
        refine lv_iload_n hx hb dX8_answersLimit_9 rfl (lv_at hl 1 rfl) ?_
        refine lv_iconst (v := 3) hx hb dX8_answersLimit_10 (by decide) ?_
        refine lv_imul hx hb dX8_answersLimit_11 ?_
        refine lv_topi (fun z_11 e_11 => ?_)
        refine lv_istore_n (lv' := [(1, .int z_11), (0, .int (nI P)), (2, .int (nI k))]) hx hb dX8_answersLimit_12 rfl hl (by decide) rfl (fun ls hl => ?_)
        refine lv_iinc (v := (nI (k + 1))) (lv' := [(2, .int (nI (k + 1))), (1, .int z_11), (0, .int (nI P))]) hx hb dX8_answersLimit_13 hl (k := 2) rfl (nI_add k 1) (by decide) rfl (fun ls hl => ?_)
        refine lv_goto (tgt := 4) hx hb dX8_answersLimit_16 (by decide) ?_
        exact ih4 z_11 (k + 1) (by omega) (by omega) ls (lv_sub hl [2, 1, 0] rfl)
  exact LOOP4 (P - 0 + 1) 1 0 (by omega) (Nat.lt_succ_self _) ls (lv_sub hl [2, 1, 0] rfl)

theorem dX8_guessesLimit_0 : decode cX8_guessesLimit 0 = .ok (.lconst 1, 1) := by decide +kernel
theorem dX8_guessesLimit_1 : decode cX8_guessesLimit 1 = .ok (.lstore_n 1, 1) := by decide +kernel
theorem dX8_guessesLimit_2 : decode cX8_guessesLimit 2 = .ok (.iconst 0, 1) := by decide +kernel
theorem dX8_guessesLimit_3 : decode cX8_guessesLimit 3 = .ok (.istore_n 3, 1) := by decide +kernel
theorem dX8_guessesLimit_4 : decode cX8_guessesLimit 4 = .ok (.iload_n 3, 1) := by decide +kernel
theorem dX8_guessesLimit_5 : decode cX8_guessesLimit 5 = .ok (.iload_n 0, 1) := by decide +kernel
theorem dX8_guessesLimit_6 : decode cX8_guessesLimit 6 = .ok (.if_icmp .ge 15, 3) := by decide +kernel
theorem dX8_guessesLimit_9 : decode cX8_guessesLimit 9 = .ok (.lload_n 1, 1) := by decide +kernel
theorem dX8_guessesLimit_10 : decode cX8_guessesLimit 10 = .ok (.ldc2_w 19, 3) := by decide +kernel
theorem dX8_guessesLimit_13 : decode cX8_guessesLimit 13 = .ok (.lmul, 1) := by decide +kernel
theorem dX8_guessesLimit_14 : decode cX8_guessesLimit 14 = .ok (.lstore_n 1, 1) := by decide +kernel
theorem dX8_guessesLimit_15 : decode cX8_guessesLimit 15 = .ok (.iinc 3 1, 3) := by decide +kernel
theorem dX8_guessesLimit_18 : decode cX8_guessesLimit 18 = .ok (.goto (-14), 3) := by decide +kernel
theorem dX8_guessesLimit_21 : decode cX8_guessesLimit 21 = .ok (.lload_n 1, 1) := by decide +kernel
theorem dX8_guessesLimit_22 : decode cX8_guessesLimit 22 = .ok (.lreturn, 1) := by decide +kernel
theorem kw_4 : (.constantLong RX8 19 (101) : Cond) ∈ gw_tbl := gw_in (by decide +kernel) (by decide +kernel)

set_option maxHeartbeats 4000000 in
set_option maxRecDepth 100000 in
theorem c_guessesLimit (l : Launch) (P : Nat) (hP4 : P ≤ 4) : Met l yX8_guessesLimit (Cond.code yX8_guessesLimit cX8_guessesLimit 4 (some .long) :: gw_tbl) ({ frames := 0, cells := 0, slots := 0, locals := 0 }) (pc_0 [.int (nI P)]) (vp_Sl (fun r => True)) 0 0 (fun _ => False) := by
  refine Met.ofW (cc := cX8_guessesLimit) (maxL := 4) (ret := (some .long)) (by decide) rfl ?_
  intro p e s m args below meth c s₁ B hml hv
  obtain ⟨hargs, -⟩ := hv
  have hx := B.exec
  have hb := B.bytes
  have hr := B.returns
  have hts := atoms_spec (ws := Cond.code yX8_guessesLimit cX8_guessesLimit 4 (some .long) :: gw_tbl) B.pre
  have hg := fun (w : Cond) (h : w ∈ gw_tbl) => hts w (List.mem_cons_of_mem _ h)
  have hown : s.vm.findClass RX8 = some m.cls := findClass_of_methodNamed B.named
  have hlocks := B.notSynchronized
  have hl := lv_entry ([.int (nI P)]) (n := 4) (Nat.le_of_ble_eq_true rfl)
  rw [show entryFrame m args 4 = F0 m 0 (lg_sl ([.int (nI P)]) ++ List.replicate (4 - (lg_sl ([.int (nI P)])).length) Slot.unset).toArray [] from by rw [hargs]; exact lg_entry_eq ..]
  generalize (lg_sl ([.int (nI P)]) ++ List.replicate (4 - (lg_sl ([.int (nI P)])).length) Slot.unset).toArray = ls at hl ⊢
  have hl : lv_has ls 4 [(0, .int (nI P))] := hl
  refine W_genQ (fun Q hQ => ?_)
  have hlm := lim_le hP4
  have hlq := lim_pos P
  have hsg := sgn_le hP4
  refine lv_lconst (v := 1) hx hb dX8_guessesLimit_0 (by decide) ?_
  refine lv_lstore_n (lv' := [(1, .long 1), (0, .int (nI P))]) hx hb dX8_guessesLimit_1 rfl hl (by decide) rfl (fun ls hl => ?_)
  refine lv_iconst (v := 0) hx hb dX8_guessesLimit_2 (by decide) ?_
  refine lv_istore_n (lv' := [(3, .int 0), (1, .long 1), (0, .int (nI P))]) hx hb dX8_guessesLimit_3 rfl hl (by decide) rfl (fun ls hl => ?_)
  have LOOP4 : ∀ (n4 : Nat) (u1_4 : Int64) (k : Nat), k ≤ P → P - k < n4 → ∀ (ls : Array Slot), lv_has ls 4 [(0, .int (nI P)), (1, .long u1_4), (3, .int (nI k))] → W p l e ({ frames := 0, cells := 0, slots := 0, locals := 0 } : Room) s m args below meth c s.heap [] 0 0 Q (F0 m 4 ls []) := by
    intro n4
    induction n4 with
    | zero =>
      intro u1_4 k hk hn4 ls hl
      exact absurd hn4 (Nat.not_lt_zero _)
    | succ n4 ih4 =>
      intro u1_4 k hk hn4 ls hl
      refine lv_iload_n hx hb dX8_guessesLimit_4 rfl (lv_at hl 2 rfl) ?_
      refine lv_iload_n hx hb dX8_guessesLimit_5 rfl (lv_at hl 0 rfl) ?_
      refine lv_icmp_ge (tgt := 21) hx hb dX8_guessesLimit_6 (by decide) (fun c_6 => ?_) (fun c_6 => ?_)
      · have n_6 : P ≤ k := b_le_t (by omega) (by omega) c_6
        refine lv_lload_n hx hb dX8_guessesLimit_21 rfl (lv_at hl 1 rfl) ?_
        refine W_sQ hQ ?_
        exact W.lret (v := u1_4) hx hb hr (fun t ht hW => ⟨u1_4, rfl, trivial, ht⟩) (fun _ h => absurd h List.not_mem_nil) dX8_guessesLimit_22
      · have n_6 : k < P := b_le_f (by omega) (by omega) c_6
        refine lv_lload_n hx hb dX8_guessesLimit_9 rfl (lv_at hl 1 rfl) ?_
        refine lv_ldc2 hx hb hown (hg _ kw_4) dX8_guessesLimit_10 ?_
        refine lv_lmul hx hb dX8_guessesLimit_13 ?_
        refine lv_topl (fun z_13 e_13 => ?_)
        refine lv_lstore_n (lv' := [(1, .long z_13), (0, .int (nI P)), (3, .int (nI k))]) hx hb dX8_guessesLimit_14 rfl hl (by decide) rfl (fun ls hl => ?_)
        refine lv_iinc (v := (nI (k + 1))) (lv' := [(3, .int (nI (k + 1))), (1, .long z_13), (0, .int (nI P))]) hx hb dX8_guessesLimit_15 hl (k := 2) rfl (nI_add k 1) (by decide) rfl (fun ls hl => ?_)
        refine lv_goto (tgt := 4) hx hb dX8_guessesLimit_18 (by decide) ?_
        exact ih4 z_13 (k + 1) (by omega) (by omega) ls (lv_sub hl [2, 1, 0] rfl)
  exact LOOP4 (P - 0 + 1) 1 0 (by omega) (Nat.lt_succ_self _) ls (lv_sub hl [2, 1, 0] rfl)

theorem dX11_greatestMeasure_0 : decode cX11_greatestMeasure 0 = .ok (.lload_n 0, 1) := by decide +kernel
theorem dX11_greatestMeasure_1 : decode cX11_greatestMeasure 1 = .ok (.lstore 4, 2) := by decide +kernel
theorem dX11_greatestMeasure_3 : decode cX11_greatestMeasure 3 = .ok (.lload_n 2, 1) := by decide +kernel
theorem dX11_greatestMeasure_4 : decode cX11_greatestMeasure 4 = .ok (.lstore 6, 2) := by decide +kernel
theorem dX11_greatestMeasure_6 : decode cX11_greatestMeasure 6 = .ok (.iconst 0, 1) := by decide +kernel
theorem dX11_greatestMeasure_7 : decode cX11_greatestMeasure 7 = .ok (.istore 8, 2) := by decide +kernel
theorem dX11_greatestMeasure_9 : decode cX11_greatestMeasure 9 = .ok (.iload 8, 2) := by decide +kernel
theorem dX11_greatestMeasure_11 : decode cX11_greatestMeasure 11 = .ok (.sipush 1000, 3) := by decide +kernel
theorem dX11_greatestMeasure_14 : decode cX11_greatestMeasure 14 = .ok (.if_icmp .ge 31, 3) := by decide +kernel
theorem dX11_greatestMeasure_17 : decode cX11_greatestMeasure 17 = .ok (.lload 6, 2) := by decide +kernel
theorem dX11_greatestMeasure_19 : decode cX11_greatestMeasure 19 = .ok (.lconst 0, 1) := by decide +kernel
theorem dX11_greatestMeasure_20 : decode cX11_greatestMeasure 20 = .ok (.lcmp, 1) := by decide +kernel
theorem dX11_greatestMeasure_21 : decode cX11_greatestMeasure 21 = .ok (.ifCond .le 24, 3) := by decide +kernel
theorem dX11_greatestMeasure_24 : decode cX11_greatestMeasure 24 = .ok (.lload 4, 2) := by decide +kernel
theorem dX11_greatestMeasure_26 : decode cX11_greatestMeasure 26 = .ok (.lload 6, 2) := by decide +kernel
theorem dX11_greatestMeasure_28 : decode cX11_greatestMeasure 28 = .ok (.lrem, 1) := by decide +kernel
theorem dX11_greatestMeasure_29 : decode cX11_greatestMeasure 29 = .ok (.lstore 9, 2) := by decide +kernel
theorem dX11_greatestMeasure_31 : decode cX11_greatestMeasure 31 = .ok (.lload 6, 2) := by decide +kernel
theorem dX11_greatestMeasure_33 : decode cX11_greatestMeasure 33 = .ok (.lstore 4, 2) := by decide +kernel
theorem dX11_greatestMeasure_35 : decode cX11_greatestMeasure 35 = .ok (.lload 9, 2) := by decide +kernel
theorem dX11_greatestMeasure_37 : decode cX11_greatestMeasure 37 = .ok (.lstore 6, 2) := by decide +kernel
theorem dX11_greatestMeasure_39 : decode cX11_greatestMeasure 39 = .ok (.iinc 8 1, 3) := by decide +kernel
theorem dX11_greatestMeasure_42 : decode cX11_greatestMeasure 42 = .ok (.goto (-33), 3) := by decide +kernel
theorem dX11_greatestMeasure_45 : decode cX11_greatestMeasure 45 = .ok (.lload 4, 2) := by decide +kernel
theorem dX11_greatestMeasure_47 : decode cX11_greatestMeasure 47 = .ok (.lreturn, 1) := by decide +kernel

set_option maxHeartbeats 4000000 in
set_option maxRecDepth 100000 in
theorem c_greatestMeasure (l : Launch) (v : Int64) (u : Int64) : Met l yX11_greatestMeasure (Cond.code yX11_greatestMeasure cX11_greatestMeasure 11 (some .long) :: gw_tbl) ({ frames := 0, cells := 0, slots := 0, locals := 0 }) (pc_0 [.long v, .long u]) (vp_Sl (fun r => True)) 0 0 (fun _ => False) := by
  refine Met.ofW (cc := cX11_greatestMeasure) (maxL := 11) (ret := (some .long)) (by decide) rfl ?_
  intro p e s m args below meth c s₁ B hml hv
  obtain ⟨hargs, -⟩ := hv
  have hx := B.exec
  have hb := B.bytes
  have hr := B.returns
  have hts := atoms_spec (ws := Cond.code yX11_greatestMeasure cX11_greatestMeasure 11 (some .long) :: gw_tbl) B.pre
  have hg := fun (w : Cond) (h : w ∈ gw_tbl) => hts w (List.mem_cons_of_mem _ h)
  have hown : s.vm.findClass RX11 = some m.cls := findClass_of_methodNamed B.named
  have hlocks := B.notSynchronized
  have hl := lv_entry ([.long v, .long u]) (n := 11) (Nat.le_of_ble_eq_true rfl)
  rw [show entryFrame m args 11 = F0 m 0 (lg_sl ([.long v, .long u]) ++ List.replicate (11 - (lg_sl ([.long v, .long u])).length) Slot.unset).toArray [] from by rw [hargs]; exact lg_entry_eq ..]
  generalize (lg_sl ([.long v, .long u]) ++ List.replicate (11 - (lg_sl ([.long v, .long u])).length) Slot.unset).toArray = ls at hl ⊢
  have hl : lv_has ls 11 [(0, .long v), (2, .long u)] := hl
  refine W_genQ (fun Q hQ => ?_)
  refine lv_lload_n hx hb dX11_greatestMeasure_0 rfl (lv_at hl 0 rfl) ?_
  refine lv_lstore (lv' := [(4, .long v), (0, .long v), (2, .long u)]) hx hb dX11_greatestMeasure_1 hl (by decide) rfl (fun ls hl => ?_)
  refine lv_lload_n hx hb dX11_greatestMeasure_3 rfl (lv_at hl 2 rfl) ?_
  refine lv_lstore (lv' := [(6, .long u), (4, .long v), (0, .long v), (2, .long u)]) hx hb dX11_greatestMeasure_4 hl (by decide) rfl (fun ls hl => ?_)
  refine lv_iconst (v := 0) hx hb dX11_greatestMeasure_6 (by decide) ?_
  refine lv_istore (lv' := [(8, .int 0), (6, .long u), (4, .long v), (0, .long v), (2, .long u)]) hx hb dX11_greatestMeasure_7 hl (by decide) rfl (fun ls hl => ?_)
  have LOOP9 : ∀ (n9 : Nat) (u4_9 : Int64) (u6_9 : Int64) (k : Nat), k ≤ 1000 → 1000 - k < n9 → ∀ (ls : Array Slot), lv_has ls 11 [(0, .long v), (2, .long u), (4, .long u4_9), (6, .long u6_9), (8, .int (nI k))] → W p l e ({ frames := 0, cells := 0, slots := 0, locals := 0 } : Room) s m args below meth c s.heap [] 0 0 Q (F0 m 9 ls []) := by
    intro n9
    induction n9 with
    | zero =>
      intro u4_9 u6_9 k hk hn9 ls hl
      exact absurd hn9 (Nat.not_lt_zero _)
    | succ n9 ih9 =>
      intro u4_9 u6_9 k hk hn9 ls hl
      refine lv_iload hx hb dX11_greatestMeasure_9 (lv_at hl 4 rfl) ?_
      refine lv_sipush (v := 1000) hx hb dX11_greatestMeasure_11 (by decide) ?_
      refine lv_icmp_ge (tgt := 45) hx hb dX11_greatestMeasure_14 (by decide) (fun c_14 => ?_) (fun c_14 => ?_)
      · have n_14 : 1000 ≤ k := b_le_t (by omega) (by omega) c_14
        refine lv_lload hx hb dX11_greatestMeasure_45 (lv_at hl 2 rfl) ?_
        refine W_sQ hQ ?_
        exact W.lret (v := u4_9) hx hb hr (fun t ht hW => ⟨u4_9, rfl, trivial, ht⟩) (fun _ h => absurd h List.not_mem_nil) dX11_greatestMeasure_47
      · have n_14 : k < 1000 := b_le_f (by omega) (by omega) c_14
        refine lv_lload hx hb dX11_greatestMeasure_17 (lv_at hl 3 rfl) ?_
        refine lv_lconst (v := 0) hx hb dX11_greatestMeasure_19 (by decide) ?_
        refine W.lcmp hx hb dX11_greatestMeasure_20 ?_
        refine lv_topi (fun z_20 e_20 => ?_)
        refine lv_if_le (tgt := 45) hx hb dX11_greatestMeasure_21 (by decide) (fun c_21 => ?_) (fun c_21 => ?_)
        · refine lv_lload hx hb dX11_greatestMeasure_45 (lv_at hl 2 rfl) ?_
          refine W_sQ hQ ?_
          exact W.lret (v := u4_9) hx hb hr (fun t ht hW => ⟨u4_9, rfl, trivial, ht⟩) (fun _ h => absurd h List.not_mem_nil) dX11_greatestMeasure_47
        · refine lv_lload hx hb dX11_greatestMeasure_24 (lv_at hl 2 rfl) ?_
          refine lv_lload hx hb dX11_greatestMeasure_26 (lv_at hl 3 rfl) ?_
          refine lv_lrem hx hb dX11_greatestMeasure_28 (fun q9 => c_21 (by rw [e_20, q9]; exact (show ¬ 0 < lg_cmp 0 0 from by decide) |> fun h9 => (by rw [fa_le]; rw [fa_lt] at h9; omega))) ?_
          refine lv_topl (fun z_28 e_28 => ?_)
          refine lv_lstore (lv' := [(9, .long z_28), (0, .long v), (2, .long u), (4, .long u4_9), (6, .long u6_9), (8, .int (nI k))]) hx hb dX11_greatestMeasure_29 hl (by decide) rfl (fun ls hl => ?_)
          refine lv_lload hx hb dX11_greatestMeasure_31 (lv_at hl 4 rfl) ?_
          refine lv_lstore (lv' := [(4, .long u6_9), (9, .long z_28), (0, .long v), (2, .long u), (6, .long u6_9), (8, .int (nI k))]) hx hb dX11_greatestMeasure_33 hl (by decide) rfl (fun ls hl => ?_)
          refine lv_lload hx hb dX11_greatestMeasure_35 (lv_at hl 1 rfl) ?_
          refine lv_lstore (lv' := [(6, .long z_28), (4, .long u6_9), (9, .long z_28), (0, .long v), (2, .long u), (8, .int (nI k))]) hx hb dX11_greatestMeasure_37 hl (by decide) rfl (fun ls hl => ?_)
          refine lv_iinc (v := (nI (k + 1))) (lv' := [(8, .int (nI (k + 1))), (6, .long z_28), (4, .long u6_9), (9, .long z_28), (0, .long v), (2, .long u)]) hx hb dX11_greatestMeasure_39 hl (k := 5) rfl (nI_add k 1) (by decide) rfl (fun ls hl => ?_)
          refine lv_goto (tgt := 9) hx hb dX11_greatestMeasure_42 (by decide) ?_
          exact ih9 u6_9 z_28 (k + 1) (by omega) (by omega) ls (lv_sub hl [4, 5, 2, 1, 0] rfl)
  exact LOOP9 (1000 - 0 + 1) v u 0 (by omega) (Nat.lt_succ_self _) ls (lv_sub hl [3, 4, 2, 1, 0] rfl)

theorem dX11_inLowestTerms_0 : decode cX11_inLowestTerms 0 = .ok (.lload_n 0, 1) := by decide +kernel
theorem dX11_inLowestTerms_1 : decode cX11_inLowestTerms 1 = .ok (.invokestatic 347, 3) := by decide +kernel
theorem dX11_inLowestTerms_4 : decode cX11_inLowestTerms 4 = .ok (.lload_n 2, 1) := by decide +kernel
theorem dX11_inLowestTerms_5 : decode cX11_inLowestTerms 5 = .ok (.invokestatic 352, 3) := by decide +kernel
theorem dX11_inLowestTerms_8 : decode cX11_inLowestTerms 8 = .ok (.lstore 5, 2) := by decide +kernel
theorem dX11_inLowestTerms_10 : decode cX11_inLowestTerms 10 = .ok (.iload 4, 2) := by decide +kernel
theorem dX11_inLowestTerms_12 : decode cX11_inLowestTerms 12 = .ok (.ifCond .ne 7, 3) := by decide +kernel
theorem dX11_inLowestTerms_15 : decode cX11_inLowestTerms 15 = .ok (.lload_n 0, 1) := by decide +kernel
theorem dX11_inLowestTerms_16 : decode cX11_inLowestTerms 16 = .ok (.goto 4, 3) := by decide +kernel
theorem dX11_inLowestTerms_19 : decode cX11_inLowestTerms 19 = .ok (.lload_n 2, 1) := by decide +kernel
theorem dX11_inLowestTerms_20 : decode cX11_inLowestTerms 20 = .ok (.lstore 7, 2) := by decide +kernel
theorem dX11_inLowestTerms_22 : decode cX11_inLowestTerms 22 = .ok (.lload 5, 2) := by decide +kernel
theorem dX11_inLowestTerms_24 : decode cX11_inLowestTerms 24 = .ok (.lconst 1, 1) := by decide +kernel
theorem dX11_inLowestTerms_25 : decode cX11_inLowestTerms 25 = .ok (.lcmp, 1) := by decide +kernel
theorem dX11_inLowestTerms_26 : decode cX11_inLowestTerms 26 = .ok (.ifCond .le 11, 3) := by decide +kernel
theorem dX11_inLowestTerms_29 : decode cX11_inLowestTerms 29 = .ok (.lload 7, 2) := by decide +kernel
theorem dX11_inLowestTerms_31 : decode cX11_inLowestTerms 31 = .ok (.lload 5, 2) := by decide +kernel
theorem dX11_inLowestTerms_33 : decode cX11_inLowestTerms 33 = .ok (.ldiv, 1) := by decide +kernel
theorem dX11_inLowestTerms_34 : decode cX11_inLowestTerms 34 = .ok (.goto 5, 3) := by decide +kernel
theorem dX11_inLowestTerms_37 : decode cX11_inLowestTerms 37 = .ok (.lload 7, 2) := by decide +kernel
theorem dX11_inLowestTerms_39 : decode cX11_inLowestTerms 39 = .ok (.lreturn, 1) := by decide +kernel
theorem kw_5 : (.methodLink RX11 347 Lib.MathLoose.abs_long.x : Cond) ∈ gw_tbl := gw_in (by decide +kernel) (by decide +kernel)
theorem kw_6 : (.static Lib.MathLoose.abs_long.x : Cond) ∈ gw_tbl := gw_in (by decide +kernel) (by decide +kernel)
theorem kw_7 : (.initialized "java/lang/Math" : Cond) ∈ gw_tbl := gw_in (by decide +kernel) (by decide +kernel)
theorem kw_8 : (.code Lib.MathLoose.abs_long.x Lib.MathLoose.abs_long.code 2 (some .long) : Cond) ∈ gw_tbl := gw_in (by decide +kernel) (by decide +kernel)
theorem kw_9 : (.code yX11_greatestMeasure cX11_greatestMeasure 11 (some .long) : Cond) ∈ gw_tbl := gw_in (by decide +kernel) (by decide +kernel)
theorem kw_10 : (.methodLink RX11 352 yX11_greatestMeasure : Cond) ∈ gw_tbl := gw_in (by decide +kernel) (by decide +kernel)
theorem kw_11 : (.static yX11_greatestMeasure : Cond) ∈ gw_tbl := gw_in (by decide +kernel) (by decide +kernel)
theorem kw_12 : (.initialized RX11 : Cond) ∈ gw_tbl := gw_in (by decide +kernel) (by decide +kernel)

set_option maxHeartbeats 4000000 in
set_option maxRecDepth 100000 in
theorem c_inLowestTerms (l : Launch) (v : Int64) (u : Int64) (k : Int32) : Met l yX11_inLowestTerms (Cond.code yX11_inLowestTerms cX11_inLowestTerms 9 (some .long) :: gw_tbl) ({ frames := 1, cells := 0, slots := 0, locals := 30 }) (pc_0 [.long v, .long u, .int k]) (vp_Sl (fun r => True)) 0 0 (fun _ => False) := by
  refine Met.ofW (cc := cX11_inLowestTerms) (maxL := 9) (ret := (some .long)) (by decide) rfl ?_
  intro p e s m args below meth c s₁ B hml hv
  obtain ⟨hargs, -⟩ := hv
  have hx := B.exec
  have hb := B.bytes
  have hr := B.returns
  have hts := atoms_spec (ws := Cond.code yX11_inLowestTerms cX11_inLowestTerms 9 (some .long) :: gw_tbl) B.pre
  have hg := fun (w : Cond) (h : w ∈ gw_tbl) => hts w (List.mem_cons_of_mem _ h)
  have hown : s.vm.findClass RX11 = some m.cls := findClass_of_methodNamed B.named
  have hlocks := B.notSynchronized
  have hl := lv_entry ([.long v, .long u, .int k]) (n := 9) (Nat.le_of_ble_eq_true rfl)
  rw [show entryFrame m args 9 = F0 m 0 (lg_sl ([.long v, .long u, .int k]) ++ List.replicate (9 - (lg_sl ([.long v, .long u, .int k])).length) Slot.unset).toArray [] from by rw [hargs]; exact lg_entry_eq ..]
  generalize (lg_sl ([.long v, .long u, .int k]) ++ List.replicate (9 - (lg_sl ([.long v, .long u, .int k])).length) Slot.unset).toArray = ls at hl ⊢
  have hl : lv_has ls 9 [(0, .long v), (2, .long u), (4, .int k)] := hl
  refine W_genQ (fun Q hQ => ?_)
  refine lv_lload_n hx hb dX11_inLowestTerms_0 rfl (lv_at hl 0 rfl) ?_
  refine va_mabs_long hx hb (hml.trans hl.1.symm) hown (hg _ kw_5) (hg _ kw_6) (hg _ kw_7) (hg _ kw_8) (Nat.le_of_ble_eq_true rfl) (Nat.le_of_ble_eq_true rfl) (Nat.le_of_ble_eq_true rfl) (Nat.le_of_ble_eq_true rfl) dX11_inLowestTerms_1 ?_
  refine lv_topl (fun z_1 e_1 => ?_)
  refine lv_lload_n hx hb dX11_inLowestTerms_4 rfl (lv_at hl 1 rfl) ?_
  refine vp_callSl (W.runS (As := [.long z_1, .long u]) (rest := []) ⟨hx, hb, hml, hown, hg⟩ (c_greatestMeasure l z_1 u) (va_cwS 2 hg (gw_S kw_10 kw_11 kw_12 kw_9) rfl rfl rfl (by decide +kernel) ⟨(Nat.le_of_ble_eq_true rfl), (Nat.le_of_ble_eq_true rfl)⟩) pr_0 rfl rfl hl.1 rfl (lv_room (Nat.le_of_ble_eq_true rfl)) dX11_inLowestTerms_5 ⟨(Nat.le_of_ble_eq_true rfl), (Nat.le_of_ble_eq_true rfl)⟩) (fun r_5 h_5 => ?_)
  clear h_5
  refine lv_lstore (lv' := [(5, .long r_5), (0, .long v), (2, .long u), (4, .int k)]) hx hb dX11_inLowestTerms_8 hl (by decide) rfl (fun ls hl => ?_)
  refine lv_iload hx hb dX11_inLowestTerms_10 (lv_at hl 3 rfl) ?_
  refine lv_if_ne (tgt := 19) hx hb dX11_inLowestTerms_12 (by decide) (fun c_12 => ?_) (fun c_12 => ?_)
  · refine lv_lload_n hx hb dX11_inLowestTerms_19 rfl (lv_at hl 2 rfl) ?_
    refine lv_lstore (lv' := [(7, .long u), (5, .long r_5), (0, .long v), (2, .long u), (4, .int k)]) hx hb dX11_inLowestTerms_20 hl (by decide) rfl (fun ls hl => ?_)
    refine lv_lload hx hb dX11_inLowestTerms_22 (lv_at hl 1 rfl) ?_
    refine lv_lconst (v := 1) hx hb dX11_inLowestTerms_24 (by decide) ?_
    refine W.lcmp hx hb dX11_inLowestTerms_25 ?_
    refine lv_topi (fun z_25 e_25 => ?_)
    refine lv_if_le (tgt := 37) hx hb dX11_inLowestTerms_26 (by decide) (fun c_26 => ?_) (fun c_26 => ?_)
    · refine lv_lload hx hb dX11_inLowestTerms_37 (lv_at hl 0 rfl) ?_
      refine W_sQ hQ ?_
      exact W.lret (v := u) hx hb hr (fun t ht hW => ⟨u, rfl, trivial, ht⟩) (fun _ h => absurd h List.not_mem_nil) dX11_inLowestTerms_39
    · refine lv_lload hx hb dX11_inLowestTerms_29 (lv_at hl 0 rfl) ?_
      refine lv_lload hx hb dX11_inLowestTerms_31 (lv_at hl 1 rfl) ?_
      refine lv_ldiv hx hb dX11_inLowestTerms_33 (fun q9 => c_26 (by rw [e_25, q9]; decide)) ?_
      refine lv_topl (fun z_33 e_33 => ?_)
      refine lv_goto (tgt := 39) hx hb dX11_inLowestTerms_34 (by decide) ?_
      refine W_sQ hQ ?_
      exact W.lret (v := z_33) hx hb hr (fun t ht hW => ⟨z_33, rfl, trivial, ht⟩) (fun _ h => absurd h List.not_mem_nil) dX11_inLowestTerms_39
  · refine lv_lload_n hx hb dX11_inLowestTerms_15 rfl (lv_at hl 1 rfl) ?_
    refine lv_goto (tgt := 20) hx hb dX11_inLowestTerms_16 (by decide) ?_
    refine lv_lstore (lv' := [(7, .long v), (5, .long r_5), (0, .long v), (2, .long u), (4, .int k)]) hx hb dX11_inLowestTerms_20 hl (by decide) rfl (fun ls hl => ?_)
    refine lv_lload hx hb dX11_inLowestTerms_22 (lv_at hl 1 rfl) ?_
    refine lv_lconst (v := 1) hx hb dX11_inLowestTerms_24 (by decide) ?_
    refine W.lcmp hx hb dX11_inLowestTerms_25 ?_
    refine lv_topi (fun z_25 e_25 => ?_)
    refine lv_if_le (tgt := 37) hx hb dX11_inLowestTerms_26 (by decide) (fun c_26 => ?_) (fun c_26 => ?_)
    · refine lv_lload hx hb dX11_inLowestTerms_37 (lv_at hl 0 rfl) ?_
      refine W_sQ hQ ?_
      exact W.lret (v := v) hx hb hr (fun t ht hW => ⟨v, rfl, trivial, ht⟩) (fun _ h => absurd h List.not_mem_nil) dX11_inLowestTerms_39
    · refine lv_lload hx hb dX11_inLowestTerms_29 (lv_at hl 0 rfl) ?_
      refine lv_lload hx hb dX11_inLowestTerms_31 (lv_at hl 1 rfl) ?_
      refine lv_ldiv hx hb dX11_inLowestTerms_33 (fun q9 => c_26 (by rw [e_25, q9]; decide)) ?_
      refine lv_topl (fun z_33 e_33 => ?_)
      refine lv_goto (tgt := 39) hx hb dX11_inLowestTerms_34 (by decide) ?_
      refine W_sQ hQ ?_
      exact W.lret (v := z_33) hx hb hr (fun t ht hW => ⟨z_33, rfl, trivial, ht⟩) (fun _ h => absurd h List.not_mem_nil) dX11_inLowestTerms_39

def sz64 (x : Int64) : Nat := x.toInt.natAbs
theorem sz_rem {x y : Int64} (h : ¬ x = 0) : sz64 (y - y / x * x) < sz64 x := by
  have hx : ¬ x.toInt = 0 := fun q => h ((fa_eq64 _ _).mpr q)
  have e : (y - y / x * x).toInt = y.toInt.tmod x.toInt := by
    have h1 : (y - y / x * x).toInt = (y.toInt - y.toInt.tdiv x.toInt * x.toInt).bmod (2 ^ 64) := by
      rw [Int64.toInt_sub, Int64.toInt_mul, Int64.toInt_div]
      simp
    have h2 : y.toInt - y.toInt.tdiv x.toInt * x.toInt = y.toInt.tmod x.toInt := by
      have := Int.tmod_add_tdiv_mul y.toInt x.toInt
      omega
    rw [h1, h2]
    have h3 : (y.toInt.tmod x.toInt).natAbs < x.toInt.natAbs := by
      rw [Int.natAbs_tmod]
      exact Nat.mod_lt _ (by omega)
    have h4 := Int64.le_toInt x
    have h5 := Int64.toInt_lt x
    exact Int.bmod_eq_of_le (by omega) (by omega)
  unfold sz64
  rw [e, Int.natAbs_tmod]
  exact Nat.mod_lt _ (by omega)

theorem nI_nm {k : Nat} (h : k < 2 ^ 31) : ¬ nI k = -1 := fun c => by
  have e := congrArg Int32.toInt c
  rw [nI_toInt h] at e
  have e2 : (-1 : Int32).toInt = -1 := rfl
  omega
def kdo (ci : Nat) : Int32 := if ci = 3 then 0 else if ci = 9 then 1 else if ci = 10 then 2 else if ci = 6 then 3 else 4
