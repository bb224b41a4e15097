def iw (v a b : Int32) : Int32 := if a ≤ v ∧ v ≤ b then 1 else 0
theorem iw_a {v a b : Int32} (h : v < a) : (0 : Int32) = iw v a b := by
  unfold iw; rw [if_neg]; rintro ⟨h1, -⟩; rw [fa_lt] at h; rw [fa_le] at h1; omega
theorem iw_b {v a b : Int32} (h : b < v) : (0 : Int32) = iw v a b := by
  unfold iw; rw [if_neg]; rintro ⟨-, h1⟩; rw [fa_lt] at h; rw [fa_le] at h1; omega
theorem iw_1 {v a b : Int32} (h : ¬ v < a) (h2 : ¬ b < v) : (1 : Int32) = iw v a b := by
  unfold iw; rw [if_pos]; rw [fa_lt] at h h2; constructor <;> rw [fa_le] <;> omega
def il (v a b : Int64) : Int32 := if a ≤ v ∧ v ≤ b then 1 else 0
theorem cmp_lt {x y : Int64} : lg_cmp x y < 0 ↔ x < y := by
  unfold lg_cmp
  split
  · next h => constructor
              · intro q; exact absurd q (by decide)
              · intro q; rw [gt_iff_lt, fa_lt64] at h; rw [fa_lt64] at q; omega
  · next h => split
              · next h2 => subst h2; constructor
                           · intro q; exact absurd q (by decide)
                           · intro q; exact absurd q h
              · next h2 => constructor
                           · intro _; rw [gt_iff_lt, fa_lt64] at h; rw [fa_eq64] at h2; rw [fa_lt64]; omega
                           · intro _; decide
theorem cmp_gt {x y : Int64} : 0 < lg_cmp x y ↔ y < x := by
  unfold lg_cmp
  split
  · next h => exact ⟨fun _ => h, fun _ => by decide⟩
  · next h => split
              · exact ⟨fun q => absurd q (by decide), fun q => absurd q h⟩
              · exact ⟨fun q => absurd q (by decide), fun q => absurd q h⟩
theorem cmp_eq {x y : Int64} : lg_cmp x y = 0 ↔ x = y := by
  unfold lg_cmp
  split
  · next h => exact ⟨fun q => absurd q (by decide), fun q => by subst q; rw [gt_iff_lt, fa_lt64] at h; omega⟩
  · next h => split
              · next h2 => exact ⟨fun _ => h2, fun _ => rfl⟩
              · next h2 => exact ⟨fun q => absurd q (by decide), fun q => absurd q h2⟩
theorem il_a {v a b : Int64} {z : Int32} (e : z = lg_cmp v a) (h : z < 0) : (0 : Int32) = il v a b := by
  rw [e, cmp_lt] at h
  unfold il; rw [if_neg]; rintro ⟨h1, -⟩; rw [fa_lt64] at h; rw [fa_le64] at h1; omega
theorem il_b {v a b : Int64} {z : Int32} (e : z = lg_cmp v b) (h : 0 < z) : (0 : Int32) = il v a b := by
  rw [e, cmp_gt] at h
  unfold il; rw [if_neg]; rintro ⟨-, h1⟩; rw [fa_lt64] at h; rw [fa_le64] at h1; omega
theorem il_1 {v a b : Int64} {z y : Int32} (e : z = lg_cmp v a) (e2 : y = lg_cmp v b) (h : ¬ z < 0) (h2 : ¬ 0 < y) : (1 : Int32) = il v a b := by
  rw [e, cmp_lt] at h; rw [e2, cmp_gt] at h2
  unfold il; rw [if_pos]; rw [fa_lt64] at h h2; constructor <;> rw [fa_le64] <;> omega
theorem il_no {v a b : Int64} (h : ¬ a ≤ b) : il v a b = 0 := by
  unfold il; rw [if_neg]; rintro ⟨h1, h2⟩; rw [fa_le64] at h h1 h2; omega
theorem iw_no {v a b : Int32} (h : ¬ a ≤ b) : iw v a b = 0 := by
  unfold iw; rw [if_neg]; rintro ⟨h1, h2⟩; rw [fa_le] at h h1 h2; omega
theorem p_nil {D : va_G} {H : Heap} : va_P D vwCl [] H := fun k q h => by simp at h
theorem d_nil {A : Nat → Prop} : va_D A [] := ⟨fun i j p q h => by simp at h, fun k q h => by simp at h⟩

set_option maxHeartbeats 4000000 in
set_option maxRecDepth 100000 in
theorem c_isWithin (l : Launch) (v : Int32) (a : Int32) (b : Int32) : Met l yX11_isWithin (Cond.code yX11_isWithin cX11_isWithin 3 (some .boolean) :: gw_tbl) ({ frames := 0, cells := 0, slots := 0, locals := 0 }) (pc_0 [.int v, .int a, .int b]) (vp_Si (fun r => r = iw v a b)) 0 0 (fun _ => False) := by
  refine Met.ofW (cc := cX11_isWithin) (maxL := 3) (ret := (some .boolean)) (by decide) rfl ?_
  intro p e s m args below meth c s₁ B hml hv
  obtain ⟨rfl, -⟩ := hv
  have hx := B.exec
  have hb := B.bytes
  have hr := B.returns
  have hts := atoms_spec (ws := Cond.code yX11_isWithin cX11_isWithin 3 (some .boolean) :: gw_tbl) B.pre
  have hg := fun (w : Cond) (h : w ∈ gw_tbl) => hts w (List.mem_cons_of_mem _ h)
  have hown : s.vm.findClass RX11 = some m.cls := findClass_of_methodNamed B.named
  have hlocks := B.notSynchronized
  have hl := lv_entry ([.int v, .int a, .int b]) (n := 3) (Nat.le_of_ble_eq_true rfl)
  rw [lg_entry_eq]
  generalize (lg_sl ([.int v, .int a, .int b]) ++ List.replicate (3 - (lg_sl ([.int v, .int a, .int b])).length) Slot.unset).toArray = ls at hl ⊢
  have hl : lv_has ls 3 [(0, .int v), (1, .int a), (2, .int b)] := hl
  refine lv_iload_n hx hb dX11_isWithin_0 rfl (lv_at hl 0 rfl) ?_
  refine lv_iload_n hx hb dX11_isWithin_1 rfl (lv_at hl 1 rfl) ?_
  refine lv_icmp_lt (tgt := 14) hx hb dX11_isWithin_2 (by decide) (fun c_2 => ?_) (fun c_2 => ?_)
  · refine lv_iconst (v := 0) hx hb dX11_isWithin_14 (by decide) ?_
    exact W.zret (v := 0) hx hb hr (by decide) (fun t ht hW => ⟨0, rfl, (iw_a c_2), ht⟩) (fun _ h => absurd h List.not_mem_nil) dX11_isWithin_15
  · refine lv_iload_n hx hb dX11_isWithin_5 rfl (lv_at hl 0 rfl) ?_
    refine lv_iload_n hx hb dX11_isWithin_6 rfl (lv_at hl 2 rfl) ?_
    refine lv_icmp_gt (tgt := 14) hx hb dX11_isWithin_7 (by decide) (fun c_7 => ?_) (fun c_7 => ?_)
    · refine lv_iconst (v := 0) hx hb dX11_isWithin_14 (by decide) ?_
      exact W.zret (v := 0) hx hb hr (by decide) (fun t ht hW => ⟨0, rfl, (iw_b c_7), ht⟩) (fun _ h => absurd h List.not_mem_nil) dX11_isWithin_15
    · refine lv_iconst (v := 1) hx hb dX11_isWithin_10 (by decide) ?_
      refine lv_goto (tgt := 15) hx hb dX11_isWithin_11 (by decide) ?_
      exact W.zret (v := 1) hx hb hr (by decide) (fun t ht hW => ⟨1, rfl, (iw_1 c_2 c_7), ht⟩) (fun _ h => absurd h List.not_mem_nil) dX11_isWithin_15

set_option maxHeartbeats 4000000 in
set_option maxRecDepth 100000 in
theorem c_in (l : Launch) (v : Int64) (a : Int64) (b : Int64) : Met l yX12_in (Cond.code yX12_in cX12_in 6 (some .boolean) :: gw_tbl) ({ frames := 0, cells := 0, slots := 0, locals := 0 }) (pc_0 [.long v, .long a, .long b]) (vp_Si (fun r => r = il v a b)) 0 0 (fun _ => False) := by
  refine Met.ofW (cc := cX12_in) (maxL := 6) (ret := (some .boolean)) (by decide) rfl ?_
  intro p e s m args below meth c s₁ B hml hv
  obtain ⟨rfl, -⟩ := hv
  have hx := B.exec
  have hb := B.bytes
  have hr := B.returns
  have hts := atoms_spec (ws := Cond.code yX12_in cX12_in 6 (some .boolean) :: gw_tbl) B.pre
  have hg := fun (w : Cond) (h : w ∈ gw_tbl) => hts w (List.mem_cons_of_mem _ h)
  have hown : s.vm.findClass RX12 = some m.cls := findClass_of_methodNamed B.named
  have hlocks := B.notSynchronized
  have hl := lv_entry ([.long v, .long a, .long b]) (n := 6) (Nat.le_of_ble_eq_true rfl)
  rw [lg_entry_eq]
  generalize (lg_sl ([.long v, .long a, .long b]) ++ List.replicate (6 - (lg_sl ([.long v, .long a, .long b])).length) Slot.unset).toArray = ls at hl ⊢
  have hl : lv_has ls 6 [(0, .long v), (2, .long a), (4, .long b)] := hl
  refine lv_lload_n hx hb dX12_in_0 rfl (lv_at hl 0 rfl) ?_
  refine lv_lload_n hx hb dX12_in_1 rfl (lv_at hl 1 rfl) ?_
  refine W.lcmp hx hb dX12_in_2 ?_
  refine lv_topi (fun z_2 e_2 => ?_)
  refine lv_if_lt (tgt := 17) hx hb dX12_in_3 (by decide) (fun c_3 => ?_) (fun c_3 => ?_)
  · refine lv_iconst (v := 0) hx hb dX12_in_17 (by decide) ?_
    exact W.zret (v := 0) hx hb hr (by decide) (fun t ht hW => ⟨0, rfl, (il_a e_2 c_3), ht⟩) (fun _ h => absurd h List.not_mem_nil) dX12_in_18
  · refine lv_lload_n hx hb dX12_in_6 rfl (lv_at hl 0 rfl) ?_
    refine lv_lload hx hb dX12_in_7 (lv_at hl 2 rfl) ?_
    refine W.lcmp hx hb dX12_in_9 ?_
    refine lv_topi (fun z_9 e_9 => ?_)
    refine lv_if_gt (tgt := 17) hx hb dX12_in_10 (by decide) (fun c_10 => ?_) (fun c_10 => ?_)
    · refine lv_iconst (v := 0) hx hb dX12_in_17 (by decide) ?_
      exact W.zret (v := 0) hx hb hr (by decide) (fun t ht hW => ⟨0, rfl, (il_b e_9 c_10), ht⟩) (fun _ h => absurd h List.not_mem_nil) dX12_in_18
    · refine lv_iconst (v := 1) hx hb dX12_in_13 (by decide) ?_
      refine lv_goto (tgt := 18) hx hb dX12_in_14 (by decide) ?_
      exact W.zret (v := 1) hx hb hr (by decide) (fun t ht hW => ⟨1, rfl, (il_1 e_2 e_9 c_3 c_10), ht⟩) (fun _ h => absurd h List.not_mem_nil) dX12_in_18

set_option maxHeartbeats 4000000 in
set_option maxRecDepth 100000 in
theorem c_codeAt (l : Launch) (w : Int64) (k : Int32) : Met l yX2_codeAt (Cond.code yX2_codeAt cX2_codeAt 3 (some .int) :: gw_tbl) ({ frames := 0, cells := 0, slots := 0, locals := 0 }) (pc_0 [.long w, .int k]) (vp_Si (fun r => True)) 0 0 (fun _ => False) := by
  refine Met.ofW (cc := cX2_codeAt) (maxL := 3) (ret := (some .int)) (by decide) rfl ?_
  intro p e s m args below meth c s₁ B hml hv
  obtain ⟨rfl, -⟩ := hv
  have hx := B.exec
  have hb := B.bytes
  have hr := B.returns
  have hts := atoms_spec (ws := Cond.code yX2_codeAt cX2_codeAt 3 (some .int) :: gw_tbl) B.pre
  have hg := fun (w : Cond) (h : w ∈ gw_tbl) => hts w (List.mem_cons_of_mem _ h)
  have hown : s.vm.findClass RX2 = some m.cls := findClass_of_methodNamed B.named
  have hlocks := B.notSynchronized
  have hl := lv_entry ([.long w, .int k]) (n := 3) (Nat.le_of_ble_eq_true rfl)
  rw [lg_entry_eq]
  generalize (lg_sl ([.long w, .int k]) ++ List.replicate (3 - (lg_sl ([.long w, .int k])).length) Slot.unset).toArray = ls at hl ⊢
  have hl : lv_has ls 3 [(0, .long w), (2, .int k)] := hl
  refine lv_lload_n hx hb dX2_codeAt_0 rfl (lv_at hl 0 rfl) ?_
  refine lv_bipush (v := 8) hx hb dX2_codeAt_1 (by decide) ?_
  refine lv_iload_n hx hb dX2_codeAt_3 rfl (lv_at hl 1 rfl) ?_
  refine lv_imul hx hb dX2_codeAt_4 ?_
  refine lv_topi (fun z_4 e_4 => ?_)
  refine lv_lushr hx hb dX2_codeAt_5 rfl ?_
  refine lv_topl (fun z_5 e_5 => ?_)
  refine lv_l2i hx hb dX2_codeAt_6 rfl ?_
  refine lv_topi (fun z_6 e_6 => ?_)
  refine lv_sipush (v := 255) hx hb dX2_codeAt_7 (by decide) ?_
  refine lv_iand hx hb dX2_codeAt_10 ?_
  refine lv_topi (fun z_10 e_10 => ?_)
  exact W.iret (v := z_10) hx hb hr (fun t ht hW => ⟨z_10, rfl, trivial, ht⟩) (fun _ h => absurd h List.not_mem_nil) dX2_codeAt_11
