def iw (v a b : Int32) : Int32 := if a ≤ v ∧ v ≤ b then 1 else 0
theorem iw_a {v a b : Int32} (h : v < a) : (0 : Int32) = iw v a b := by
  unfold iw; rw [if_neg]; rintro ⟨h1, -⟩; rw [fa_lt] at h; rw [fa_le] at h1; omega
theorem iw_b {v a b : Int32} (h : b < v) : (0 : Int32) = iw v a b := by
  unfold iw; rw [if_neg]; rintro ⟨-, h1⟩; rw [fa_lt] at h; rw [fa_le] at h1; omega
theorem iw_1 {v a b : Int32} (h : ¬ v < a) (h2 : ¬ b < v) : (1 : Int32) = iw v a b := by
  unfold iw; rw [if_pos]; rw [fa_lt] at h h2; constructor <;> rw [fa_le] <;> omega
def il (v a b : Int64) : Int32 := if a ≤ v ∧ v ≤ b then 1 else 0
theorem cmp_lt {x y : Int64} : lg_cmp x y < 0 ↔ x < y := by
  unfold lg_cmp
  split
  · next h => constructor
              · intro q; exact absurd q (by decide)
              · intro q; rw [gt_iff_lt, fa_lt64] at h; rw [fa_lt64] at q; omega
  · next h => split
              · next h2 => subst h2; constructor
                           · intro q; exact absurd q (by decide)
                           · intro q; exact absurd q h
              · next h2 => constructor
                           · intro _; rw [gt_iff_lt, fa_lt64] at h; rw [fa_eq64] at h2; rw [fa_lt64]; omega
                           · intro _; decide
theorem cmp_gt {x y : Int64} : 0 < lg_cmp x y ↔ y < x := by
  unfold lg_cmp
  split
  · next h => exact ⟨fun _ => h, fun _ => by decide⟩
  · next h => split
              · exact ⟨fun q => absurd q (by decide), fun q => absurd q h⟩
              · exact ⟨fun q => absurd q (by decide), fun q => absurd q h⟩
theorem cmp_eq {x y : Int64} : lg_cmp x y = 0 ↔ x = y := by
  unfold lg_cmp
  split
  · next h => exact ⟨fun q => absurd q (by decide), fun q => by subst q; rw [gt_iff_lt, fa_lt64] at h; omega⟩
  · next h => split
              · next h2 => exact ⟨fun _ => h2, fun _ => rfl⟩
              · next h2 => exact ⟨fun q => absurd q (by decide), fun q => absurd q h2⟩
theorem il_a {v a b : Int64} {z : Int32} (e : z = lg_cmp v a) (h : z < 0) : (0 : Int32) = il v a b := by
  rw [e, cmp_lt] at h
  unfold il; rw [if_neg]; rintro ⟨h1, -⟩; rw [fa_lt64] at h; rw [fa_le64] at h1; omega
theorem il_b {v a b : Int64} {z : Int32} (e : z = lg_cmp v b) (h : 0 < z) : (0 : Int32) = il v a b := by
  rw [e, cmp_gt] at h
  unfold il; rw [if_neg]; rintro ⟨-, h1⟩; rw [fa_lt64] at h; rw [fa_le64] at h1; omega
theorem il_1 {v a b : Int64} {z y : Int32} (e : z = lg_cmp v a) (e2 : y = lg_cmp v b) (h : ¬ z < 0) (h2 : ¬ 0 < y) : (1 : Int32) = il v a b := by
  rw [e, cmp_lt] at h; rw [e2, cmp_gt] at h2
  unfold il; rw [if_pos]; rw [fa_lt64] at h h2; constructor <;> rw [fa_le64] <;> omega
theorem il_no {v a b : Int64} (h : ¬ a ≤ b) : il v a b = 0 := by
  unfold il; rw [if_neg]; rintro ⟨h1, h2⟩; rw [fa_le64] at h h1 h2; omega
theorem iw_no {v a b : Int32} (h : ¬ a ≤ b) : iw v a b = 0 := by
  unfold iw; rw [if_neg]; rintro ⟨h1, h2⟩; rw [fa_le] at h h1 h2; omega

theorem dX11_isWithin_0 : decode cX11_isWithin 0 = .ok (.iload_n 0, 1) := by decide +kernel
theorem dX11_isWithin_1 : decode cX11_isWithin 1 = .ok (.iload_n 1, 1) := by decide +kernel
theorem dX11_isWithin_2 : decode cX11_isWithin 2 = .ok (.if_icmp .lt 12, 3) := by decide +kernel
theorem dX11_isWithin_5 : decode cX11_isWithin 5 = .ok (.iload_n 0, 1) := by decide +kernel
theorem dX11_isWithin_6 : decode cX11_isWithin 6 = .ok (.iload_n 2, 1) := by decide +kernel
theorem dX11_isWithin_7 : decode cX11_isWithin 7 = .ok (.if_icmp .gt 7, 3) := by decide +kernel
theorem dX11_isWithin_10 : decode cX11_isWithin 10 = .ok (.iconst 1, 1) := by decide +kernel
theorem dX11_isWithin_11 : decode cX11_isWithin 11 = .ok (.goto 4, 3) := by decide +kernel
theorem dX11_isWithin_14 : decode cX11_isWithin 14 = .ok (.iconst 0, 1) := by decide +kernel
theorem dX11_isWithin_15 : decode cX11_isWithin 15 = .ok (.ireturn, 1) := by decide +kernel

set_option maxHeartbeats 4000000 in
set_option maxRecDepth 100000 in
theorem c_isWithin (l : Launch) (v : Int32) (a : Int32) (b : Int32) : Met l yX11_isWithin (Cond.code yX11_isWithin cX11_isWithin 3 (some .boolean) :: gw_tbl) ({ frames := 0, cells := 0, slots := 0, locals := 0 }) (pc_0 [.int v, .int a, .int b]) (vp_Si (fun r => r = iw v a b)) 0 0 (fun _ => False) := by
  refine Met.ofW (cc := cX11_isWithin) (maxL := 3) (ret := (some .boolean)) (by decide) rfl ?_
  intro p e s m args below meth c s₁ B hml hv
  obtain ⟨hargs, -⟩ := hv
  have hx := B.exec
  have hb := B.bytes
  have hr := B.returns
  have hts := atoms_spec (ws := Cond.code yX11_isWithin cX11_isWithin 3 (some .boolean) :: gw_tbl) B.pre
  have hg := fun (w : Cond) (h : w ∈ gw_tbl) => hts w (List.mem_cons_of_mem _ h)
  have hown : s.vm.findClass RX11 = some m.cls := findClass_of_methodNamed B.named
  have hlocks := B.notSynchronized
  have hl := lv_entry ([.int v, .int a, .int b]) (n := 3) (Nat.le_of_ble_eq_true rfl)
  rw [show entryFrame m args 3 = F0 m 0 (lg_sl ([.int v, .int a, .int b]) ++ List.replicate (3 - (lg_sl ([.int v, .int a, .int b])).length) Slot.unset).toArray [] from by rw [hargs]; exact lg_entry_eq ..]
  generalize (lg_sl ([.int v, .int a, .int b]) ++ List.replicate (3 - (lg_sl ([.int v, .int a, .int b])).length) Slot.unset).toArray = ls at hl ⊢
  have hl : lv_has ls 3 [(0, .int v), (1, .int a), (2, .int b)] := hl
  refine W_genQ (fun Q hQ => ?_)
  refine lv_iload_n hx hb dX11_isWithin_0 rfl (lv_at hl 0 rfl) ?_
  refine lv_iload_n hx hb dX11_isWithin_1 rfl (lv_at hl 1 rfl) ?_
  refine lv_icmp_lt (tgt := 14) hx hb dX11_isWithin_2 (by decide) (fun c_2 => ?_) (fun c_2 => ?_)
  · refine lv_iconst (v := 0) hx hb dX11_isWithin_14 (by decide) ?_
    subst hQ
    exact W.zret (v := 0) hx hb hr (by decide) (fun t ht hW => ⟨0, rfl, (iw_a c_2), ht⟩) (fun _ h => absurd h List.not_mem_nil) dX11_isWithin_15
  · refine lv_iload_n hx hb dX11_isWithin_5 rfl (lv_at hl 0 rfl) ?_
    refine lv_iload_n hx hb dX11_isWithin_6 rfl (lv_at hl 2 rfl) ?_
    refine lv_icmp_gt (tgt := 14) hx hb dX11_isWithin_7 (by decide) (fun c_7 => ?_) (fun c_7 => ?_)
    · refine lv_iconst (v := 0) hx hb dX11_isWithin_14 (by decide) ?_
      subst hQ
      exact W.zret (v := 0) hx hb hr (by decide) (fun t ht hW => ⟨0, rfl, (iw_b c_7), ht⟩) (fun _ h => absurd h List.not_mem_nil) dX11_isWithin_15
    · refine lv_iconst (v := 1) hx hb dX11_isWithin_10 (by decide) ?_
      refine lv_goto (tgt := 15) hx hb dX11_isWithin_11 (by decide) ?_
      subst hQ
      exact W.zret (v := 1) hx hb hr (by decide) (fun t ht hW => ⟨1, rfl, (iw_1 c_2 c_7), ht⟩) (fun _ h => absurd h List.not_mem_nil) dX11_isWithin_15

theorem dX12_in_0 : decode cX12_in 0 = .ok (.lload_n 0, 1) := by decide +kernel
theorem dX12_in_1 : decode cX12_in 1 = .ok (.lload_n 2, 1) := by decide +kernel
theorem dX12_in_2 : decode cX12_in 2 = .ok (.lcmp, 1) := by decide +kernel
theorem dX12_in_3 : decode cX12_in 3 = .ok (.ifCond .lt 14, 3) := by decide +kernel
theorem dX12_in_6 : decode cX12_in 6 = .ok (.lload_n 0, 1) := by decide +kernel
theorem dX12_in_7 : decode cX12_in 7 = .ok (.lload 4, 2) := by decide +kernel
theorem dX12_in_9 : decode cX12_in 9 = .ok (.lcmp, 1) := by decide +kernel
theorem dX12_in_10 : decode cX12_in 10 = .ok (.ifCond .gt 7, 3) := by decide +kernel
theorem dX12_in_13 : decode cX12_in 13 = .ok (.iconst 1, 1) := by decide +kernel
theorem dX12_in_14 : decode cX12_in 14 = .ok (.goto 4, 3) := by decide +kernel
theorem dX12_in_17 : decode cX12_in 17 = .ok (.iconst 0, 1) := by decide +kernel
theorem dX12_in_18 : decode cX12_in 18 = .ok (.ireturn, 1) := by decide +kernel

set_option maxHeartbeats 4000000 in
set_option maxRecDepth 100000 in
theorem c_in (l : Launch) (v : Int64) (a : Int64) (b : Int64) : Met l yX12_in (Cond.code yX12_in cX12_in 6 (some .boolean) :: gw_tbl) ({ frames := 0, cells := 0, slots := 0, locals := 0 }) (pc_0 [.long v, .long a, .long b]) (vp_Si (fun r => r = il v a b)) 0 0 (fun _ => False) := by
  refine Met.ofW (cc := cX12_in) (maxL := 6) (ret := (some .boolean)) (by decide) rfl ?_
  intro p e s m args below meth c s₁ B hml hv
  obtain ⟨hargs, -⟩ := hv
  have hx := B.exec
  have hb := B.bytes
  have hr := B.returns
  have hts := atoms_spec (ws := Cond.code yX12_in cX12_in 6 (some .boolean) :: gw_tbl) B.pre
  have hg := fun (w : Cond) (h : w ∈ gw_tbl) => hts w (List.mem_cons_of_mem _ h)
  have hown : s.vm.findClass RX12 = some m.cls := findClass_of_methodNamed B.named
  have hlocks := B.notSynchronized
  have hl := lv_entry ([.long v, .long a, .long b]) (n := 6) (Nat.le_of_ble_eq_true rfl)
  rw [show entryFrame m args 6 = F0 m 0 (lg_sl ([.long v, .long a, .long b]) ++ List.replicate (6 - (lg_sl ([.long v, .long a, .long b])).length) Slot.unset).toArray [] from by rw [hargs]; exact lg_entry_eq ..]
  generalize (lg_sl ([.long v, .long a, .long b]) ++ List.replicate (6 - (lg_sl ([.long v, .long a, .long b])).length) Slot.unset).toArray = ls at hl ⊢
  have hl : lv_has ls 6 [(0, .long v), (2, .long a), (4, .long b)] := hl
  refine W_genQ (fun Q hQ => ?_)
  refine lv_lload_n hx hb dX12_in_0 rfl (lv_at hl 0 rfl) ?_
  refine lv_lload_n hx hb dX12_in_1 rfl (lv_at hl 1 rfl) ?_
  refine W.lcmp hx hb dX12_in_2 ?_
  refine lv_topi (fun z_2 e_2 => ?_)
  refine lv_if_lt (tgt := 17) hx hb dX12_in_3 (by decide) (fun c_3 => ?_) (fun c_3 => ?_)
  · refine lv_iconst (v := 0) hx hb dX12_in_17 (by decide) ?_
    subst hQ
    exact W.zret (v := 0) hx hb hr (by decide) (fun t ht hW => ⟨0, rfl, (il_a e_2 c_3), ht⟩) (fun _ h => absurd h List.not_mem_nil) dX12_in_18
  · refine lv_lload_n hx hb dX12_in_6 rfl (lv_at hl 0 rfl) ?_
    refine lv_lload hx hb dX12_in_7 (lv_at hl 2 rfl) ?_
    refine W.lcmp hx hb dX12_in_9 ?_
    refine lv_topi (fun z_9 e_9 => ?_)
    refine lv_if_gt (tgt := 17) hx hb dX12_in_10 (by decide) (fun c_10 => ?_) (fun c_10 => ?_)
    · refine lv_iconst (v := 0) hx hb dX12_in_17 (by decide) ?_
      subst hQ
      exact W.zret (v := 0) hx hb hr (by decide) (fun t ht hW => ⟨0, rfl, (il_b e_9 c_10), ht⟩) (fun _ h => absurd h List.not_mem_nil) dX12_in_18
    · refine lv_iconst (v := 1) hx hb dX12_in_13 (by decide) ?_
      refine lv_goto (tgt := 18) hx hb dX12_in_14 (by decide) ?_
      subst hQ
      exact W.zret (v := 1) hx hb hr (by decide) (fun t ht hW => ⟨1, rfl, (il_1 e_2 e_9 c_3 c_10), ht⟩) (fun _ h => absurd h List.not_mem_nil) dX12_in_18

/-! ===== lN n to 2^64: shifts, and, or, masks, one bit ===== -/
theorem wb_tb (n : Nat) : (lN n).toBitVec = BitVec.ofNat 64 n := rfl
theorem wb_inj {a b : Int64} (h : a.toBitVec = b.toBitVec) : a = b := Int64.toBitVec_inj.mp h
theorem wb_tn {n : Nat} (h : n < 2 ^ 64) : (lN n).toBitVec.toNat = n := by rw [wb_tb, BitVec.toNat_ofNat, Nat.mod_eq_of_lt h]
theorem wb_of (x : Int64) : ∃ n, n < 2 ^ 64 ∧ x = lN n := ⟨x.toBitVec.toNat, x.toBitVec.isLt, wb_inj (by rw [wb_tb]; simp)⟩
theorem wb_of32 (x : Int32) : ∃ n, n < 2 ^ 32 ∧ x = nI n := ⟨x.toBitVec.toNat, x.toBitVec.isLt, Int32.toBitVec_inj.mp (by show _ = BitVec.ofNat 32 _; simp)⟩
theorem wb_c : ∀ k, k < 64 → ((nI k).toInt64 &&& 63) = lN k := by decide +kernel
theorem wb_cu : ∀ k, k < 64 → ((nI k).toInt64.toUInt64 &&& Int64.toUInt64 63) = UInt64.ofNat k := by decide +kernel
theorem wb_sm : ∀ k, k < 64 → (BitVec.ofNat 64 k).smod 64 = BitVec.ofNat 64 k := by decide +kernel
theorem wb_pw {a b : Nat} (h : a ≤ b) : 2 ^ b = 2 ^ a * 2 ^ (b - a) := by rw [← Nat.pow_add]; congr 1; omega
theorem wb_lt2 {a b : Nat} (h : a < b) : 2 ^ a < 2 ^ b := Nat.pow_lt_pow_right (by decide) h
theorem wb_mod (n : Nat) : lN n = lN (n % 2 ^ 64) := wb_inj (by rw [wb_tb, wb_tb]; apply BitVec.eq_of_toNat_eq; rw [BitVec.toNat_ofNat, BitVec.toNat_ofNat, Nat.mod_mod])
theorem wb_shr {n k : Nat} (hn : n < 2 ^ 64) (hk : k < 64) : ((lN n).toUInt64 >>> ((nI k).toInt64.toUInt64 &&& Int64.toUInt64 63)).toInt64 = lN (n / 2 ^ k) := by
  rw [wb_cu k hk]
  apply wb_inj
  apply BitVec.eq_of_toNat_eq
  show ((lN n).toUInt64 >>> UInt64.ofNat k).toNat = (BitVec.ofNat 64 _).toNat
  have h1 : (UInt64.ofNat k).toNat = k := by
    show (BitVec.ofNat 64 k).toNat = k
    rw [BitVec.toNat_ofNat, Nat.mod_eq_of_lt (by omega)]
  have h2 : (lN n).toUInt64.toNat = n := wb_tn hn
  rw [UInt64.toNat_shiftRight, h1, h2, Nat.mod_eq_of_lt hk, Nat.shiftRight_eq_div_pow, BitVec.toNat_ofNat, Nat.mod_eq_of_lt (Nat.lt_of_le_of_lt (Nat.div_le_self _ _) hn)]
theorem wb_shl (n : Nat) {k : Nat} (hk : k < 64) : lN n <<< ((nI k).toInt64 &&& 63) = lN (n * 2 ^ k) := by
  rw [wb_c k hk]
  apply wb_inj
  rw [Int64.toBitVec_shiftLeft, wb_tb, wb_tb, wb_tb, wb_sm k hk]
  apply BitVec.eq_of_toNat_eq
  rw [BitVec.shiftLeft_eq', BitVec.toNat_shiftLeft, BitVec.toNat_ofNat, BitVec.toNat_ofNat, BitVec.toNat_ofNat, Nat.mod_eq_of_lt (show k < 2 ^ 64 by omega), Nat.shiftLeft_eq, Nat.mul_mod, Nat.mod_mod, ← Nat.mul_mod]
theorem wb_and {a b : Nat} (ha : a < 2 ^ 64) (hb : b < 2 ^ 64) : lN a &&& lN b = lN (a &&& b) := by
  apply wb_inj
  rw [Int64.toBitVec_and, wb_tb, wb_tb, wb_tb]
  apply BitVec.eq_of_toNat_eq
  rw [BitVec.toNat_and, BitVec.toNat_ofNat, BitVec.toNat_ofNat, BitVec.toNat_ofNat, Nat.mod_eq_of_lt ha, Nat.mod_eq_of_lt hb, Nat.mod_eq_of_lt (Nat.and_lt_two_pow _ hb)]
theorem wb_or {a b : Nat} (ha : a < 2 ^ 64) (hb : b < 2 ^ 64) : lN a ||| lN b = lN (a ||| b) := by
  apply wb_inj
  rw [Int64.toBitVec_or, wb_tb, wb_tb, wb_tb]
  apply BitVec.eq_of_toNat_eq
  rw [BitVec.toNat_or, BitVec.toNat_ofNat, BitVec.toNat_ofNat, BitVec.toNat_ofNat, Nat.mod_eq_of_lt ha, Nat.mod_eq_of_lt hb, Nat.mod_eq_of_lt (Nat.or_lt_two_pow ha hb)]
theorem wb_mask {n k : Nat} (hn : n < 2 ^ 64) (hk : k < 64) : lN n &&& lN (2 ^ k - 1) = lN (n % 2 ^ k) := by
  rw [wb_and hn (by have := wb_lt2 hk; omega), Nat.and_two_pow_sub_one_eq_mod]
theorem wb_a1 {n : Nat} (hn : n < 2 ^ 64) : lN n &&& 1 = lN (n % 2) := wb_mask (k := 1) hn (by decide)
theorem wb_bit {n k : Nat} (hn : n < 2 ^ 64) (hk : k < 64) : ((lN n).toUInt64 >>> ((nI k).toInt64.toUInt64 &&& Int64.toUInt64 63)).toInt64 &&& 1 = lN (n / 2 ^ k % 2) := by
  rw [wb_shr hn hk, wb_a1 (Nat.lt_of_le_of_lt (Nat.div_le_self _ _) hn)]
theorem wb_xor {q k : Nat} (hk : k < 63) (h : 2 ^ k ≤ q) (h2 : q < 2 ^ (k + 1)) : lN q ^^^ lN (2 ^ k) = lN (q - 2 ^ k) := by
  obtain ⟨r, rfl⟩ : ∃ r, q = 2 ^ k + r := ⟨q - 2 ^ k, by omega⟩
  have hr : r < 2 ^ k := by rw [Nat.pow_succ] at h2; omega
  have hx : (2 ^ k + r) ^^^ 2 ^ k = r := by
    apply Nat.eq_of_testBit_eq
    intro i
    rw [Nat.testBit_xor, Nat.testBit_two_pow]
    rcases Nat.lt_trichotomy i k with h | h | h
    · rw [Nat.testBit_two_pow_add_gt h]
      simp [show ¬ k = i by omega]
    · subst h
      rw [Nat.testBit_two_pow_add_eq]
      simp
    · have a1 : 2 ^ (k + 1) ≤ 2 ^ i := Nat.pow_le_pow_right (by decide) h
      rw [Nat.testBit_lt_two_pow (show 2 ^ k + r < 2 ^ i by omega), Nat.testBit_lt_two_pow (show r < 2 ^ i by omega)]
      simp [show ¬ k = i by omega]
  have b1 := wb_lt2 (show k + 1 < 64 by omega)
  have b2 := wb_lt2 (show k < 64 by omega)
  apply wb_inj
  rw [Int64.toBitVec_xor, wb_tb, wb_tb, wb_tb]
  apply BitVec.eq_of_toNat_eq
  rw [BitVec.toNat_xor, BitVec.toNat_ofNat, BitVec.toNat_ofNat, BitVec.toNat_ofNat, Nat.mod_eq_of_lt (by omega : 2 ^ k + r < 2 ^ 64), Nat.mod_eq_of_lt b2, hx, Nat.add_sub_cancel_left, Nat.mod_eq_of_lt (by omega)]

theorem neg0 {v : Int32} {P : Prop} (h : ¬ v < 0) (h2 : ¬ 0 ≤ v) : P := by
  rw [fa_lt] at h; rw [fa_le] at h2; omega
def cntf (x : Int32) : Int32 := if x.toInt < 0 ∨ 5 < x.toInt then -102 else 0
theorem tw_5 {x : Int32} (h : ¬ (x.toInt < 0 ∨ 5 < x.toInt)) : x = 0 ∨ x = 1 ∨ x = 2 ∨ x = 3 ∨ x = 4 ∨ x = 5 := by
  have e0 : (0 : Int32).toInt = 0 := rfl
  have e1 : (1 : Int32).toInt = 1 := rfl
  have e2 : (2 : Int32).toInt = 2 := rfl
  have e3 : (3 : Int32).toInt = 3 := rfl
  have e4 : (4 : Int32).toInt = 4 := rfl
  have e5 : (5 : Int32).toInt = 5 := rfl
  simp only [fa_eq, e0, e1, e2, e3, e4, e5]
  omega
theorem and255 (m : Nat) : nI m &&& 255 = nI (m % 256) := by
  have h := pk_and (nI m) (m := 255) 8 rfl
  rw [h]
  congr 1
  have e : (nI m).toBitVec.toNat = m % 2 ^ 32 := by
    show (BitVec.ofNat 32 m).toNat = _
    exact BitVec.toNat_ofNat ..
  rw [e]
  omega
def by8 (n k : Nat) : Int32 := nI (n / 2 ^ (8 * k) % 256)
theorem ca_eq {n k : Nat} (hn : n < 2 ^ 64) (hk : k < 8) {z4 z6 z10 : Int32} {z5 : Int64} (e4 : z4 = 8 * nI k) (e5 : z5 = ((lN n).toUInt64 >>> (z4.toInt64.toUInt64 &&& Int64.toUInt64 63)).toInt64) (e6 : z6 = z5.toInt32) (e10 : z10 = z6 &&& 255) : z10 = by8 n k := by
  have h8 : (8 : Int32) * nI k = nI (8 * k) := pk_mul 8 k
  rw [e10, e6, e5, e4, h8, wb_shr hn (by omega), lN_i, and255]
  rfl
theorem ma_eq {n k : Nat} (hn : n < 2 ^ 64) {z : Int64} {y : Int32} (e : z = lN (n / 2 ^ (8 * k)) &&& 255) (e2 : y = z.toInt32) : y = by8 n k := by
  have hlt : n / 2 ^ (8 * k) < 2 ^ 64 := Nat.lt_of_le_of_lt (Nat.div_le_self _ _) hn
  have h := wb_mask (n := n / 2 ^ (8 * k)) (k := 8) hlt (by decide)
  have h2 : (255 : Int64) = lN (2 ^ 8 - 1) := rfl
  rw [e2, e, h2, h, lN_i]
  rfl
theorem ms_eq {n k : Nat} (hn : n < 2 ^ 64) {z : Int64} (e : z = ((lN (n / 2 ^ (8 * k))).toUInt64 >>> ((8 : Int32).toInt64.toUInt64 &&& Int64.toUInt64 63)).toInt64) : z = lN (n / 2 ^ (8 * (k + 1))) := by
  have hlt : n / 2 ^ (8 * k) < 2 ^ 64 := Nat.lt_of_le_of_lt (Nat.div_le_self _ _) hn
  have h := wb_shr (n := n / 2 ^ (8 * k)) (k := 8) hlt (by decide)
  have h2 : (8 : Int32) = nI 8 := rfl
  rw [e, h2, h, Nat.div_div_eq_div_mul, ← Nat.pow_add]
  rfl
theorem by8_j (n k : Nat) : ∃ j : Nat, j < 256 ∧ by8 n k = nI j := ⟨_, Nat.mod_lt _ (by decide), rfl⟩
theorem by8_pos (n k : Nat) : 0 < by8 n k ↔ ¬ by8 n k = 0 := by
  obtain ⟨j, hj, e⟩ := by8_j n k
  rw [e, show (0 : Int32) = nI 0 from rfl, nI_ltI (by omega) (by omega), nI_eq (by omega) (by omega)]
  omega
def tb_go (n : Nat) : Nat → Nat → Int32 → Int32 → Int32
  | 0, _, t, _ => t
  | f + 1, k, t, en => if 126 < by8 n k ∨ (¬ en = 0 ∧ ¬ by8 n k = 0) then -1 else if by8 n k = 0 then tb_go n f (k + 1) t 1 else tb_go n f (k + 1) (t + 1) en
def sp_told (n : Nat) : Int32 := tb_go n 8 0 0 0
theorem tb_x {n k : Nat} {t en : Int32} (hk : k < 8) : tb_go n (8 - k) k t en = if 126 < by8 n k ∨ (¬ en = 0 ∧ ¬ by8 n k = 0) then -1 else if by8 n k = 0 then tb_go n (8 - (k + 1)) (k + 1) t 1 else tb_go n (8 - (k + 1)) (k + 1) (t + 1) en := by
  obtain ⟨f, hf⟩ : ∃ f, 8 - k = f + 1 := ⟨8 - k - 1, by omega⟩
  rw [hf, show 8 - (k + 1) = f by omega]
  rfl
theorem tb_e {n k : Nat} {t en : Int32} (hk : ¬ k < 8) : tb_go n (8 - k) k t en = t := by
  rw [show 8 - k = 0 by omega]
  rfl
def ml_go (n : Nat) : Nat → Nat → Int32 → Int32 → Int32 × Int32
  | 0, _, g, m => (g, m)
  | f + 1, k, g, m => ml_go n f (k + 1) (if ¬ g = 0 ∧ by8 n k ≤ 126 ∧ (by8 n k = 0 ∨ m = nI k) then 1 else 0) (m + if 0 < by8 n k then 1 else 0)
theorem ml_x {n k : Nat} {g m : Int32} (hk : k < 8) : ml_go n (8 - k) k g m = ml_go n (8 - (k + 1)) (k + 1) (if ¬ g = 0 ∧ by8 n k ≤ 126 ∧ (by8 n k = 0 ∨ m = nI k) then 1 else 0) (m + if 0 < by8 n k then 1 else 0) := by
  obtain ⟨f, hf⟩ : ∃ f, 8 - k = f + 1 := ⟨8 - k - 1, by omega⟩
  rw [hf, show 8 - (k + 1) = f by omega]
  rfl
theorem ml_e {n k : Nat} {g m : Int32} (hk : ¬ k < 8) : ml_go n (8 - k) k g m = (g, m) := by
  rw [show 8 - k = 0 by omega]
  rfl
theorem ml_zero (n : Nat) : ∀ (f k : Nat) (m : Int32), (ml_go n f k 0 m).1 = 0
  | 0, _, _ => rfl
  | f + 1, k, m => by
    show (ml_go n f (k + 1) (if ¬ (0 : Int32) = 0 ∧ by8 n k ≤ 126 ∧ (by8 n k = 0 ∨ m = nI k) then 1 else 0) _).1 = 0
    rw [if_neg (fun h => h.1 rfl)]
    exact ml_zero n f (k + 1) _
theorem ml_tb (n : Nat) : ∀ (f k mm : Nat), mm ≤ k → k + f ≤ 8 → tb_go n f k (nI mm) (if mm = k then 0 else 1) = (if (ml_go n f k 1 (nI mm)).1 = 0 then -1 else (ml_go n f k 1 (nI mm)).2) ∧ ((ml_go n f k 1 (nI mm)).1 = 0 ∨ ∃ t : Nat, t ≤ k + f ∧ (ml_go n f k 1 (nI mm)).2 = nI t)
  | 0, k, mm, h, _ => ⟨(if_neg (show ¬ (ml_go n 0 k 1 (nI mm)).1 = 0 from (by decide : ¬ (1 : Int32) = 0))).symm, Or.inr ⟨mm, by omega, rfl⟩⟩
  | f + 1, k, mm, h, h8 => by
    have hm : nI mm = nI k ↔ mm = k := nI_eq (by omega) (by omega)
    have hx : tb_go n (f + 1) k (nI mm) (if mm = k then 0 else 1) = if 126 < by8 n k ∨ (¬ (if mm = k then (0 : Int32) else 1) = 0 ∧ ¬ by8 n k = 0) then -1 else if by8 n k = 0 then tb_go n f (k + 1) (nI mm) 1 else tb_go n f (k + 1) (nI mm + 1) (if mm = k then 0 else 1) := rfl
    have hy : ml_go n (f + 1) k 1 (nI mm) = ml_go n f (k + 1) (if ¬ (1 : Int32) = 0 ∧ by8 n k ≤ 126 ∧ (by8 n k = 0 ∨ nI mm = nI k) then 1 else 0) (nI mm + if 0 < by8 n k then 1 else 0) := rfl
    rw [hx, hy]
    clear hx hy
    have h1 : ¬ (1 : Int32) = 0 := by decide
    have hle : by8 n k ≤ 126 ↔ ¬ 126 < by8 n k := by rw [fa_le, fa_lt]; omega
    have hen : (¬ (if mm = k then (0 : Int32) else 1) = 0) ↔ ¬ mm = k := by
      by_cases q : mm = k
      · rw [if_pos q]; exact ⟨fun c => absurd rfl c, fun c => absurd q c⟩
      · rw [if_neg q]; exact ⟨fun _ => q, fun _ => h1⟩
    by_cases hb : 126 < by8 n k
    · have hg : (if ¬ (1 : Int32) = 0 ∧ by8 n k ≤ 126 ∧ (by8 n k = 0 ∨ nI mm = nI k) then (1 : Int32) else 0) = 0 := if_neg (fun c => (hle.mp c.2.1) hb)
      have hl : (if 126 < by8 n k ∨ (¬ (if mm = k then (0 : Int32) else 1) = 0 ∧ ¬ by8 n k = 0) then (-1 : Int32) else if by8 n k = 0 then tb_go n f (k + 1) (nI mm) 1 else tb_go n f (k + 1) (nI mm + 1) (if mm = k then 0 else 1)) = -1 := if_pos (Or.inl hb)
      rw [hg, hl]
      exact ⟨(if_pos (ml_zero n f _ _)).symm, Or.inl (ml_zero n f _ _)⟩
    · by_cases h0 : by8 n k = 0
      · have hg : (if ¬ (1 : Int32) = 0 ∧ by8 n k ≤ 126 ∧ (by8 n k = 0 ∨ nI mm = nI k) then (1 : Int32) else 0) = 1 := if_pos ⟨h1, hle.mpr hb, Or.inl h0⟩
        have hp : (nI mm + if 0 < by8 n k then (1 : Int32) else 0) = nI mm := by
          rw [if_neg (fun c => ((by8_pos n k).mp c) h0), show (0 : Int32) = nI 0 from rfl, nI_add]; rfl
        have hl : (if 126 < by8 n k ∨ (¬ (if mm = k then (0 : Int32) else 1) = 0 ∧ ¬ by8 n k = 0) then (-1 : Int32) else if by8 n k = 0 then tb_go n f (k + 1) (nI mm) 1 else tb_go n f (k + 1) (nI mm + 1) (if mm = k then 0 else 1)) = tb_go n f (k + 1) (nI mm) 1 := (if_neg (fun c => c.elim hb (fun c => c.2 h0))).trans (if_pos h0)
        rw [hg, hp, hl]
        have ih := ml_tb n f (k + 1) mm (by omega) (by omega)
        rw [if_neg (show ¬ mm = k + 1 by omega)] at ih
        exact ⟨ih.1, ih.2.imp id (fun ⟨t, a, b⟩ => ⟨t, by omega, b⟩)⟩
      · by_cases hq : mm = k
        · have hg : (if ¬ (1 : Int32) = 0 ∧ by8 n k ≤ 126 ∧ (by8 n k = 0 ∨ nI mm = nI k) then (1 : Int32) else 0) = 1 := if_pos ⟨h1, hle.mpr hb, Or.inr (hm.mpr hq)⟩
          have hp : (nI mm + if 0 < by8 n k then (1 : Int32) else 0) = nI (mm + 1) := by
            rw [if_pos ((by8_pos n k).mpr h0), nI_1]
          have hl : (if 126 < by8 n k ∨ (¬ (if mm = k then (0 : Int32) else 1) = 0 ∧ ¬ by8 n k = 0) then (-1 : Int32) else if by8 n k = 0 then tb_go n f (k + 1) (nI mm) 1 else tb_go n f (k + 1) (nI mm + 1) (if mm = k then 0 else 1)) = tb_go n f (k + 1) (nI (mm + 1)) 0 := by
            refine (if_neg (fun c => c.elim hb (fun c => (hen.mp c.1) hq))).trans ((if_neg h0).trans ?_)
            rw [if_pos hq, nI_1]
          rw [hg, hp, hl]
          have ih := ml_tb n f (k + 1) (mm + 1) (by omega) (by omega)
          rw [if_pos (show mm + 1 = k + 1 by omega)] at ih
          exact ⟨ih.1, ih.2.imp id (fun ⟨t, a, b⟩ => ⟨t, by omega, b⟩)⟩
        · have hg : (if ¬ (1 : Int32) = 0 ∧ by8 n k ≤ 126 ∧ (by8 n k = 0 ∨ nI mm = nI k) then (1 : Int32) else 0) = 0 := if_neg (fun c => c.2.2.elim h0 (fun c => hq (hm.mp c)))
          have hl : (if 126 < by8 n k ∨ (¬ (if mm = k then (0 : Int32) else 1) = 0 ∧ ¬ by8 n k = 0) then (-1 : Int32) else if by8 n k = 0 then tb_go n f (k + 1) (nI mm) 1 else tb_go n f (k + 1) (nI mm + 1) (if mm = k then 0 else 1)) = -1 := if_pos (Or.inr ⟨hen.mpr hq, h0⟩)
          rw [hg, hl]
          exact ⟨(if_pos (ml_zero n f _ _)).symm, Or.inl (ml_zero n f _ _)⟩
def sp_let (n : Nat) : Int32 := if sp_told n = -1 then -102 else sp_told n
theorem sp_ml (n : Nat) : sp_told n = (if (ml_go n 8 0 1 0).1 = 0 then -1 else (ml_go n 8 0 1 0).2) := (ml_tb n 8 0 0 (by omega) (by omega)).1
theorem ml_rng (n : Nat) : (ml_go n 8 0 1 0).1 = 0 ∨ ∃ t : Nat, t ≤ 8 ∧ (ml_go n 8 0 1 0).2 = nI t := (ml_tb n 8 0 0 (by omega) (by omega)).2
theorem nI_m1 {t : Nat} (h : t ≤ 8) : ¬ nI t = -1 := by
  intro c
  have e := congrArg Int32.toInt c
  rw [nI_toInt (by omega)] at e
  have e2 : (-1 : Int32).toInt = -1 := rfl
  omega
theorem sp_rng {n : Nat} (h : ¬ sp_told n = -1) : ∃ t : Nat, t ≤ 8 ∧ sp_told n = nI t ∧ nI t = sp_let n := by
  rw [sp_ml] at h
  by_cases c : (ml_go n 8 0 1 0).1 = 0
  · rw [if_pos c] at h; exact absurd rfl h
  · obtain ⟨t, ht, e⟩ := (ml_rng n).resolve_left c
    have e1 : sp_told n = nI t := by rw [sp_ml, if_neg c, e]
    exact ⟨t, ht, e1, by unfold sp_let; rw [e1, if_neg (nI_m1 ht)]⟩
theorem ml_bad {n : Nat} (c : (ml_go n 8 0 1 0).1 = 0) : (-102 : Int32) = sp_let n := by
  unfold sp_let; rw [sp_ml, if_pos c, if_pos rfl]
theorem ml_fine {n : Nat} (c : ¬ (ml_go n 8 0 1 0).1 = 0) : ∃ t : Nat, t ≤ 8 ∧ (ml_go n 8 0 1 0).2 = nI t ∧ nI t = sp_let n := by
  obtain ⟨t, ht, e⟩ := (ml_rng n).resolve_left c
  exact ⟨t, ht, e, by unfold sp_let; rw [sp_ml, if_neg c, e, if_neg (nI_m1 ht)]⟩
theorem sp_bad {n : Nat} {r : Int32} (e : r = sp_told n) (c : r = -1) : (-102 : Int32) = sp_let n := by
  unfold sp_let; rw [← e, if_pos c]
theorem le90 {t : Nat} (h : t ≤ 8) {z : Int32} (e : z = 0 + nI t) : z ≤ 90 := by
  rw [e, show (0 : Int32) = nI 0 from rfl, nI_add, show (90 : Int32) = nI 90 from rfl, nI_leI (by omega) (by omega)]
  omega
