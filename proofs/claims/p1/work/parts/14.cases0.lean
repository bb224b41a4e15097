theorem kw_272 : (.constantLong RL 13 (4294967295) : Cond) ∈ gw_tbl := gw_in (by decide +kernel) (by decide +kernel)
theorem kw_273 : (.code yX11_letters cX11_letters 4 (some .int) : Cond) ∈ gw_tbl := gw_in (by decide +kernel) (by decide +kernel)
theorem kw_274 : (.methodLink RL 15 yX11_letters : Cond) ∈ gw_tbl := gw_in (by decide +kernel) (by decide +kernel)
theorem kw_275 : (.instanceMethod yX11_letters : Cond) ∈ gw_tbl := gw_in (by decide +kernel) (by decide +kernel)
theorem kw_276 : (.selects RX11 yX11_letters yX11_letters : Cond) ∈ gw_tbl := gw_in (by decide +kernel) (by decide +kernel)
theorem kw_277 : (.code yX12_letters cX12_letters 9 (some .int) : Cond) ∈ gw_tbl := gw_in (by decide +kernel) (by decide +kernel)
theorem kw_278 : (.methodLink RL 19 yX12_letters : Cond) ∈ gw_tbl := gw_in (by decide +kernel) (by decide +kernel)
theorem kw_279 : (.instanceMethod yX12_letters : Cond) ∈ gw_tbl := gw_in (by decide +kernel) (by decide +kernel)
theorem kw_280 : (.selects RX12 yX12_letters yX12_letters : Cond) ∈ gw_tbl := gw_in (by decide +kernel) (by decide +kernel)

set_option maxHeartbeats 4000000 in
set_option maxRecDepth 100000 in
theorem law_case_0 {p : Program} {e : Env} {s : State} {m : MethodId} {below : List Frame} {meth : Method} {c : Code} (l : Launch) {b : Nat} {xs : Nat → Int32} (C0 : lw_At p s m meth c b 6 xs) (hN : nw_C s) {D : va_G} (x0 : Nat) (pg : Nat) (rd : Nat) (aq : Nat) (py : Nat) (pl : Nat) (ch : Nat) (ro : Nat) (cd : Nat) (rw : Nat) (rc : Nat) (a1 : Nat) (a2 : Nat) (a3 : Nat) (a4 : Nat) (r1 : Nat) (r2 : Nat) (cI : ClassId) (cP : ClassId) (m0 : Nat) (mp : Nat) (mw : Nat) (mh : Nat) (mo : Nat) (m5 : Nat) (m6 : Nat) (m7 : Nat) (mk : Nat) (mn : Nat) (mq : Nat) (m8 : Nat) (m9 : Nat) (ma : Nat) (mb : Nat) (md : Nat) (cM : ClassId) (cK : ClassId) (cN : ClassId) {H : Heap} {locs : List Loc} (hK : va_K D vwCl [(cI, .int), (cP, .object RX3), (cM, .int), (cK, .int), (cN, .int)] s) (hP : va_P D vwCl [(x0, .inr (11, [.ref pg, .ref rd, .ref aq, .ref py, .ref pl, .ref ch, .ref ro, .int 0, .int 0])), (pg, .inr (2, [.ref cd, .int 0])), (cd, .inl (cI, 90, .inl (fun _ => 0))), (rd, .inr (7, [.ref rw, .ref rc, .int 0, .int 0, .int 0, .int 0, .int 0])), (aq, .inr (5, [.ref a1, .ref a2, .ref a3, .ref a4, .int 0, .int 0, .long 0])), (py, .inl (cP, 8, .inr (.inr (.inr (.inr (fun _ => none)))))), (ro, .inr (8, [.ref r1, .ref r2, .int 0])), (m0, .inr (12, [.ref mp, .int 0, .int 0, .int 0, .ref mw, .ref mh, .ref mo, .int 0, .int 0, .int 0, .int 0, .int 0, .int 0, .ref m5, .ref m6, .ref m7, .long 0, .int 0, .ref mk, .ref mn, .int 0, .ref mq, .ref m8, .ref m9, .int 0, .int 0, .int 0, .int 0, .ref ma, .int 0, .ref mb, .ref md, .long 0])), (mp, .inl (cM, 90, .inl (fun _ => 0))), (mk, .inl (cK, 8, .inl (fun _ => 0))), (mn, .inl (cN, 32, .inl (fun _ => 0)))] H) (hD : va_D (AA s) [(x0, .inr (11, [.ref pg, .ref rd, .ref aq, .ref py, .ref pl, .ref ch, .ref ro, .int 0, .int 0])), (pg, .inr (2, [.ref cd, .int 0])), (cd, .inl (cI, 90, .inl (fun _ => 0))), (rd, .inr (7, [.ref rw, .ref rc, .int 0, .int 0, .int 0, .int 0, .int 0])), (aq, .inr (5, [.ref a1, .ref a2, .ref a3, .ref a4, .int 0, .int 0, .long 0])), (py, .inl (cP, 8, .inr (.inr (.inr (.inr (fun _ => none)))))), (ro, .inr (8, [.ref r1, .ref r2, .int 0])), (m0, .inr (12, [.ref mp, .int 0, .int 0, .int 0, .ref mw, .ref mh, .ref mo, .int 0, .int 0, .int 0, .int 0, .int 0, .int 0, .ref m5, .ref m6, .ref m7, .long 0, .int 0, .ref mk, .ref mn, .int 0, .ref mq, .ref m8, .ref m9, .int 0, .int 0, .int 0, .int 0, .ref ma, .int 0, .ref mb, .ref md, .long 0])), (mp, .inl (cM, 90, .inl (fun _ => 0))), (mk, .inl (cK, 8, .inl (fun _ => 0))), (mn, .inl (cN, 32, .inl (fun _ => 0)))]) (hS : va_S (AA s) s.heap H locs) {ls : Array Slot} (hl : lv_has ls 4 [(3, .int 0), (2, .ref m0), (1, .ref x0), (0, .ref b)]) : W p l e room_1 s m #[Value.ref b] below meth c H locs 62 2530 (lw_Z below #[Value.ref b] s) (F0 m 156 ls []) := by
  obtain ⟨hx, hb, hr, hml, hown, hts, hX, hbl, hlocks, hgv⟩ := id C0
  have hg := fun (w : Cond) (h : w ∈ gw_tbl) => hts w (gw_lw h)
  have hown : s.vm.findClass RL = some m.cls := hown
  have hbA : ¬ AA s b := Nat.not_le.mpr hbl
  have hA : ∀ q : Nat, s.heap.size ≤ q → AA s q := fun _ h => h
  refine lv_aload_n hx hb dL_law_156 rfl (lv_at hl 2 rfl) ?_
  refine lv_aload_n hx hb dL_law_157 rfl (lv_at hl 3 rfl) ?_
  refine lv_iload_n hx hb dL_law_158 rfl (lv_at hl 0 rfl) ?_
  refine lv_iconst (v := 1) hx hb dL_law_159 (by decide) ?_
  refine lv_iadd hx hb dL_law_160 ?_
  refine lv_topi (fun z_160 e_160 => ?_)
  obtain rfl : z_160 = (1 : Int32) := e_160.trans (by decide)
  refine va_sld hx hb hX hbl hbA hS (show ¬ ((1 : Int32) < 0 ∨ 6 ≤ (1 : Int32).toNatClampNeg) by decide) dL_law_161 ?_
  refine W.eq (g2 := F0 m 162 ls (.int (xs 1) :: .ref x0 :: [])) rfl ?_
  refine lv_i2l hx hb dL_law_162 rfl ?_
  refine lv_topl (fun z_162 e_162 => ?_)
  refine lv_bipush (v := 32) hx hb dL_law_163 (by decide) ?_
  refine lv_lshl hx hb dL_law_165 rfl ?_
  refine lv_topl (fun z_165 e_165 => ?_)
  refine lv_aload_n hx hb dL_law_166 rfl (lv_at hl 3 rfl) ?_
  refine lv_iload_n hx hb dL_law_167 rfl (lv_at hl 0 rfl) ?_
  refine lv_iconst (v := 2) hx hb dL_law_168 (by decide) ?_
  refine lv_iadd hx hb dL_law_169 ?_
  refine lv_topi (fun z_169 e_169 => ?_)
  obtain rfl : z_169 = (2 : Int32) := e_169.trans (by decide)
  refine va_sld hx hb hX hbl hbA hS (show ¬ ((2 : Int32) < 0 ∨ 6 ≤ (2 : Int32).toNatClampNeg) by decide) dL_law_170 ?_
  refine W.eq (g2 := F0 m 171 ls (.int (xs 2) :: .long z_165 :: .ref x0 :: [])) rfl ?_
  refine lv_i2l hx hb dL_law_171 rfl ?_
  refine lv_topl (fun z_171 e_171 => ?_)
  refine lv_ldc2 hx hb hown (hg _ kw_272) dL_law_172 ?_
  refine lv_land hx hb dL_law_175 ?_
  refine lv_topl (fun z_175 e_175 => ?_)
  refine lv_lor hx hb dL_law_176 ?_
  refine lv_topl (fun z_176 e_176 => ?_)
  obtain ⟨n0, hn0, rfl⟩ := wb_of z_176
  have hPc := hP.sub (ws' := [(x0, .inr (11, [.ref pg, .ref rd, .ref aq, .ref py, .ref pl, .ref ch, .ref ro, .int 0, .int 0])), (pg, .inr (2, [.ref cd, .int 0])), (cd, .inl (cI, 90, .inl (fun _ => 0)))]) [0, 1, 2] rfl
  have hKc := hK.sub (tys' := [(cI, .int)]) [0] rfl
  have hDc := hD.sub (ws' := [(x0, .inr (11, [.ref pg, .ref rd, .ref aq, .ref py, .ref pl, .ref ch, .ref ro, .int 0, .int 0])), (pg, .inr (2, [.ref cd, .int 0])), (cd, .inl (cI, 90, .inl (fun _ => 0)))]) [0, 1, 2] (by decide) rfl
  have hFc := va_free (wc := [(x0, .inr (11, [.ref pg, .ref rd, .ref aq, .ref py, .ref pl, .ref ch, .ref ro, .int 0, .int 0])), (pg, .inr (2, [.ref cd, .int 0])), (cd, .inl (cI, 90, .inl (fun _ => 0)))]) hD hS hA [0, 1, 2] rfl
  refine va_calli (va_runV (As := [.long (lN n0)]) (rest := []) ⟨hx, hb, hml, hown, hg⟩ (x_letters l D x0 pg rd aq py pl ch ro cd cI (fun _ => 0) n0 hn0 _) (cwV 1 hg (gw_V kw_274 kw_275 kw_276 kw_6 kw_273) rfl rfl rfl (by decide +kernel) ⟨Nat.le_of_ble_eq_true rfl, Nat.le_of_ble_eq_true rfl⟩) (pr_MV (q := (RX11, TX11, 9)) 11 0 hKc hPc hDc rfl rfl) rfl rfl hl.1 rfl (lv_room (Nat.le_of_ble_eq_true rfl)) dL_law_177 ⟨Nat.le_of_ble_eq_true rfl, Nat.le_of_ble_eq_true rfl⟩) hS (fun q _ h => hFc q h) hFc (fun r_177 u t H1 locs ht hvm h_177 hB hz1 hk1 hS => ?_)
  have hP1 := p_nil (D := D) (H := H1)
  have hK1 := hK.sub (tys' := []) [] rfl
  obtain ⟨hP, hD⟩ := va_join (wr := [(rd, .inr (7, [.ref rw, .ref rc, .int 0, .int 0, .int 0, .int 0, .int 0])), (aq, .inr (5, [.ref a1, .ref a2, .ref a3, .ref a4, .int 0, .int 0, .long 0])), (py, .inl (cP, 8, .inr (.inr (.inr (.inr (fun _ => none)))))), (ro, .inr (8, [.ref r1, .ref r2, .int 0])), (m0, .inr (12, [.ref mp, .int 0, .int 0, .int 0, .ref mw, .ref mh, .ref mo, .int 0, .int 0, .int 0, .int 0, .int 0, .int 0, .ref m5, .ref m6, .ref m7, .long 0, .int 0, .ref mk, .ref mn, .int 0, .ref mq, .ref m8, .ref m9, .int 0, .int 0, .int 0, .int 0, .ref ma, .int 0, .ref mb, .ref md, .long 0])), (mp, .inl (cM, 90, .inl (fun _ => 0))), (mk, .inl (cK, 8, .inl (fun _ => 0))), (mn, .inl (cN, 32, .inl (fun _ => 0)))]) (w1 := []) hP hD [0, 1, 2] [3, 4, 5, 6, 7, 8, 9, 10] rfl rfl (by decide) (by decide) hk1 hFc hP1 d_nil
  have hK := hK.app hK1
  generalize H1 = H at hP hS ⊢
  have hP : va_P D vwCl [(rd, .inr (7, [.ref rw, .ref rc, .int 0, .int 0, .int 0, .int 0, .int 0])), (aq, .inr (5, [.ref a1, .ref a2, .ref a3, .ref a4, .int 0, .int 0, .long 0])), (py, .inl (cP, 8, .inr (.inr (.inr (.inr (fun _ => none)))))), (ro, .inr (8, [.ref r1, .ref r2, .int 0])), (m0, .inr (12, [.ref mp, .int 0, .int 0, .int 0, .ref mw, .ref mh, .ref mo, .int 0, .int 0, .int 0, .int 0, .int 0, .int 0, .ref m5, .ref m6, .ref m7, .long 0, .int 0, .ref mk, .ref mn, .int 0, .ref mq, .ref m8, .ref m9, .int 0, .int 0, .int 0, .int 0, .ref ma, .int 0, .ref mb, .ref md, .long 0])), (mp, .inl (cM, 90, .inl (fun _ => 0))), (mk, .inl (cK, 8, .inl (fun _ => 0))), (mn, .inl (cN, 32, .inl (fun _ => 0)))] H := hP
  have hD : va_D (AA s) [(rd, .inr (7, [.ref rw, .ref rc, .int 0, .int 0, .int 0, .int 0, .int 0])), (aq, .inr (5, [.ref a1, .ref a2, .ref a3, .ref a4, .int 0, .int 0, .long 0])), (py, .inl (cP, 8, .inr (.inr (.inr (.inr (fun _ => none)))))), (ro, .inr (8, [.ref r1, .ref r2, .int 0])), (m0, .inr (12, [.ref mp, .int 0, .int 0, .int 0, .ref mw, .ref mh, .ref mo, .int 0, .int 0, .int 0, .int 0, .int 0, .int 0, .ref m5, .ref m6, .ref m7, .long 0, .int 0, .ref mk, .ref mn, .int 0, .ref mq, .ref m8, .ref m9, .int 0, .int 0, .int 0, .int 0, .ref ma, .int 0, .ref mb, .ref md, .long 0])), (mp, .inl (cM, 90, .inl (fun _ => 0))), (mk, .inl (cK, 8, .inl (fun _ => 0))), (mn, .inl (cN, 32, .inl (fun _ => 0)))] := hD
  have hK : va_K D vwCl [(cI, .int), (cP, .object RX3), (cM, .int), (cK, .int), (cN, .int)] s := hK
  refine W.cs (cells' := 62) (slots' := 2530) rfl rfl ?_
  try dsimp only at h_177
  refine lv_aload_n hx hb dL_law_180 rfl (lv_at hl 1 rfl) ?_
  refine lv_aload_n hx hb dL_law_181 rfl (lv_at hl 3 rfl) ?_
  refine lv_iload_n hx hb dL_law_182 rfl (lv_at hl 0 rfl) ?_
  refine lv_iconst (v := 1) hx hb dL_law_183 (by decide) ?_
  refine lv_iadd hx hb dL_law_184 ?_
  refine lv_topi (fun z_184 e_184 => ?_)
  obtain rfl : z_184 = (1 : Int32) := e_184.trans (by decide)
  refine va_sld hx hb hX hbl hbA hS (show ¬ ((1 : Int32) < 0 ∨ 6 ≤ (1 : Int32).toNatClampNeg) by decide) dL_law_185 ?_
  refine W.eq (g2 := F0 m 186 ls (.int (xs 1) :: .ref m0 :: .int r_177 :: [])) rfl ?_
  refine lv_i2l hx hb dL_law_186 rfl ?_
  refine lv_topl (fun z_186 e_186 => ?_)
  refine lv_bipush (v := 32) hx hb dL_law_187 (by decide) ?_
  refine lv_lshl hx hb dL_law_189 rfl ?_
  refine lv_topl (fun z_189 e_189 => ?_)
  refine lv_aload_n hx hb dL_law_190 rfl (lv_at hl 3 rfl) ?_
  refine lv_iload_n hx hb dL_law_191 rfl (lv_at hl 0 rfl) ?_
  refine lv_iconst (v := 2) hx hb dL_law_192 (by decide) ?_
  refine lv_iadd hx hb dL_law_193 ?_
  refine lv_topi (fun z_193 e_193 => ?_)
  obtain rfl : z_193 = (2 : Int32) := e_193.trans (by decide)
  refine va_sld hx hb hX hbl hbA hS (show ¬ ((2 : Int32) < 0 ∨ 6 ≤ (2 : Int32).toNatClampNeg) by decide) dL_law_194 ?_
  refine W.eq (g2 := F0 m 195 ls (.int (xs 2) :: .long z_189 :: .ref m0 :: .int r_177 :: [])) rfl ?_
  refine lv_i2l hx hb dL_law_195 rfl ?_
  refine lv_topl (fun z_195 e_195 => ?_)
  refine lv_ldc2 hx hb hown (hg _ kw_272) dL_law_196 ?_
  refine lv_land hx hb dL_law_199 ?_
  refine lv_topl (fun z_199 e_199 => ?_)
  refine lv_lor hx hb dL_law_200 ?_
  refine lv_topl (fun z_200 e_200 => ?_)
  obtain rfl : z_200 = lN n0 := by rw [e_200, e_199, e_195, e_189, e_186, e_176, e_175, e_171, e_165, e_162]
  have hPc := hP.sub (ws' := [(m0, .inr (12, [.ref mp, .int 0, .int 0, .int 0, .ref mw, .ref mh, .ref mo, .int 0, .int 0, .int 0, .int 0, .int 0, .int 0, .ref m5, .ref m6, .ref m7, .long 0, .int 0, .ref mk, .ref mn, .int 0, .ref mq, .ref m8, .ref m9, .int 0, .int 0, .int 0, .int 0, .ref ma, .int 0, .ref mb, .ref md, .long 0])), (mp, .inl (cM, 90, .inl (fun _ => 0)))]) [4, 5] rfl
  have hKc := hK.sub (tys' := [(cM, .int)]) [2] rfl
  have hDc := hD.sub (ws' := [(m0, .inr (12, [.ref mp, .int 0, .int 0, .int 0, .ref mw, .ref mh, .ref mo, .int 0, .int 0, .int 0, .int 0, .int 0, .int 0, .ref m5, .ref m6, .ref m7, .long 0, .int 0, .ref mk, .ref mn, .int 0, .ref mq, .ref m8, .ref m9, .int 0, .int 0, .int 0, .int 0, .ref ma, .int 0, .ref mb, .ref md, .long 0])), (mp, .inl (cM, 90, .inl (fun _ => 0)))]) [4, 5] (by decide) rfl
  have hFc := va_free (wc := [(m0, .inr (12, [.ref mp, .int 0, .int 0, .int 0, .ref mw, .ref mh, .ref mo, .int 0, .int 0, .int 0, .int 0, .int 0, .int 0, .ref m5, .ref m6, .ref m7, .long 0, .int 0, .ref mk, .ref mn, .int 0, .ref mq, .ref m8, .ref m9, .int 0, .int 0, .int 0, .int 0, .ref ma, .int 0, .ref mb, .ref md, .long 0])), (mp, .inl (cM, 90, .inl (fun _ => 0)))]) hD hS hA [4, 5] rfl
  refine va_calli (va_runV (As := [.long (lN n0)]) (rest := [.int r_177]) ⟨hx, hb, hml, hown, hg⟩ (m_letters l D m0 mp mw mh mo m5 m6 m7 mk mn mq m8 m9 ma mb md cM (fun _ => 0) n0 hn0 _) (cwV 1 hg (gw_V kw_278 kw_279 kw_280 kw_210 kw_277) rfl rfl rfl (by decide +kernel) ⟨Nat.le_of_ble_eq_true rfl, Nat.le_of_ble_eq_true rfl⟩) (pr_MV (q := (RX12, TX12, 33)) 12 0 hKc hPc hDc rfl rfl) rfl rfl hl.1 rfl (lv_room (Nat.le_of_ble_eq_true rfl)) dL_law_201 ⟨Nat.le_of_ble_eq_true rfl, Nat.le_of_ble_eq_true rfl⟩) hS (fun q _ h => hFc q h) hFc (fun r_201 u t H1 locs ht hvm h_201 hB hz1 hk1 hS => ?_)
  have hP1 := p_nil (D := D) (H := H1)
  have hK1 := hK.sub (tys' := []) [] rfl
  obtain ⟨hP, hD⟩ := va_join (wr := [(rd, .inr (7, [.ref rw, .ref rc, .int 0, .int 0, .int 0, .int 0, .int 0])), (aq, .inr (5, [.ref a1, .ref a2, .ref a3, .ref a4, .int 0, .int 0, .long 0])), (py, .inl (cP, 8, .inr (.inr (.inr (.inr (fun _ => none)))))), (ro, .inr (8, [.ref r1, .ref r2, .int 0])), (mk, .inl (cK, 8, .inl (fun _ => 0))), (mn, .inl (cN, 32, .inl (fun _ => 0)))]) (w1 := []) hP hD [4, 5] [0, 1, 2, 3, 6, 7] rfl rfl (by decide) (by decide) hk1 hFc hP1 d_nil
  have hK := hK.app hK1
  generalize H1 = H at hP hS ⊢
  have hP : va_P D vwCl [(rd, .inr (7, [.ref rw, .ref rc, .int 0, .int 0, .int 0, .int 0, .int 0])), (aq, .inr (5, [.ref a1, .ref a2, .ref a3, .ref a4, .int 0, .int 0, .long 0])), (py, .inl (cP, 8, .inr (.inr (.inr (.inr (fun _ => none)))))), (ro, .inr (8, [.ref r1, .ref r2, .int 0])), (mk, .inl (cK, 8, .inl (fun _ => 0))), (mn, .inl (cN, 32, .inl (fun _ => 0)))] H := hP
  have hD : va_D (AA s) [(rd, .inr (7, [.ref rw, .ref rc, .int 0, .int 0, .int 0, .int 0, .int 0])), (aq, .inr (5, [.ref a1, .ref a2, .ref a3, .ref a4, .int 0, .int 0, .long 0])), (py, .inl (cP, 8, .inr (.inr (.inr (.inr (fun _ => none)))))), (ro, .inr (8, [.ref r1, .ref r2, .int 0])), (mk, .inl (cK, 8, .inl (fun _ => 0))), (mn, .inl (cN, 32, .inl (fun _ => 0)))] := hD
  have hK : va_K D vwCl [(cI, .int), (cP, .object RX3), (cM, .int), (cK, .int), (cN, .int)] s := hK
  refine W.cs (cells' := 62) (slots' := 2530) rfl rfl ?_
  try dsimp only at h_201
  refine lv_icmp_eq (tgt := 1101) hx hb dL_law_204 (by decide) (fun c_204 => ?_) (fun c_204 => absurd (h_177.trans h_201.symm) c_204)
  exact law_end l C0 hS (lv_sub hl [0, 1, 2, 3] rfl) (Nat.le_of_ble_eq_true rfl) (Nat.le_of_ble_eq_true rfl)

theorem kw_281 : (.code yX11_blank cX11_blank 2 (some .int) : Cond) ∈ gw_tbl := gw_in (by decide +kernel) (by decide +kernel)
theorem kw_282 : (.methodLink RL 20 yX11_blank : Cond) ∈ gw_tbl := gw_in (by decide +kernel) (by decide +kernel)
theorem kw_283 : (.instanceMethod yX11_blank : Cond) ∈ gw_tbl := gw_in (by decide +kernel) (by decide +kernel)
theorem kw_284 : (.selects RX11 yX11_blank yX11_blank : Cond) ∈ gw_tbl := gw_in (by decide +kernel) (by decide +kernel)
theorem kw_285 : (.code yX12_blank cX12_blank 2 (some .int) : Cond) ∈ gw_tbl := gw_in (by decide +kernel) (by decide +kernel)
theorem kw_286 : (.methodLink RL 24 yX12_blank : Cond) ∈ gw_tbl := gw_in (by decide +kernel) (by decide +kernel)
theorem kw_287 : (.instanceMethod yX12_blank : Cond) ∈ gw_tbl := gw_in (by decide +kernel) (by decide +kernel)
theorem kw_288 : (.selects RX12 yX12_blank yX12_blank : Cond) ∈ gw_tbl := gw_in (by decide +kernel) (by decide +kernel)

set_option maxHeartbeats 4000000 in
set_option maxRecDepth 100000 in
theorem law_case_1 {p : Program} {e : Env} {s : State} {m : MethodId} {below : List Frame} {meth : Method} {c : Code} (l : Launch) {b : Nat} {xs : Nat → Int32} (C0 : lw_At p s m meth c b 6 xs) (hN : nw_C s) {D : va_G} (x0 : Nat) (pg : Nat) (rd : Nat) (aq : Nat) (py : Nat) (pl : Nat) (ch : Nat) (ro : Nat) (cd : Nat) (rw : Nat) (rc : Nat) (a1 : Nat) (a2 : Nat) (a3 : Nat) (a4 : Nat) (r1 : Nat) (r2 : Nat) (cI : ClassId) (cP : ClassId) (m0 : Nat) (mp : Nat) (mw : Nat) (mh : Nat) (mo : Nat) (m5 : Nat) (m6 : Nat) (m7 : Nat) (mk : Nat) (mn : Nat) (mq : Nat) (m8 : Nat) (m9 : Nat) (ma : Nat) (mb : Nat) (md : Nat) (cM : ClassId) (cK : ClassId) (cN : ClassId) {H : Heap} {locs : List Loc} (hK : va_K D vwCl [(cI, .int), (cP, .object RX3), (cM, .int), (cK, .int), (cN, .int)] s) (hP : va_P D vwCl [(x0, .inr (11, [.ref pg, .ref rd, .ref aq, .ref py, .ref pl, .ref ch, .ref ro, .int 0, .int 0])), (pg, .inr (2, [.ref cd, .int 0])), (cd, .inl (cI, 90, .inl (fun _ => 0))), (rd, .inr (7, [.ref rw, .ref rc, .int 0, .int 0, .int 0, .int 0, .int 0])), (aq, .inr (5, [.ref a1, .ref a2, .ref a3, .ref a4, .int 0, .int 0, .long 0])), (py, .inl (cP, 8, .inr (.inr (.inr (.inr (fun _ => none)))))), (ro, .inr (8, [.ref r1, .ref r2, .int 0])), (m0, .inr (12, [.ref mp, .int 0, .int 0, .int 0, .ref mw, .ref mh, .ref mo, .int 0, .int 0, .int 0, .int 0, .int 0, .int 0, .ref m5, .ref m6, .ref m7, .long 0, .int 0, .ref mk, .ref mn, .int 0, .ref mq, .ref m8, .ref m9, .int 0, .int 0, .int 0, .int 0, .ref ma, .int 0, .ref mb, .ref md, .long 0])), (mp, .inl (cM, 90, .inl (fun _ => 0))), (mk, .inl (cK, 8, .inl (fun _ => 0))), (mn, .inl (cN, 32, .inl (fun _ => 0)))] H) (hD : va_D (AA s) [(x0, .inr (11, [.ref pg, .ref rd, .ref aq, .ref py, .ref pl, .ref ch, .ref ro, .int 0, .int 0])), (pg, .inr (2, [.ref cd, .int 0])), (cd, .inl (cI, 90, .inl (fun _ => 0))), (rd, .inr (7, [.ref rw, .ref rc, .int 0, .int 0, .int 0, .int 0, .int 0])), (aq, .inr (5, [.ref a1, .ref a2, .ref a3, .ref a4, .int 0, .int 0, .long 0])), (py, .inl (cP, 8, .inr (.inr (.inr (.inr (fun _ => none)))))), (ro, .inr (8, [.ref r1, .ref r2, .int 0])), (m0, .inr (12, [.ref mp, .int 0, .int 0, .int 0, .ref mw, .ref mh, .ref mo, .int 0, .int 0, .int 0, .int 0, .int 0, .int 0, .ref m5, .ref m6, .ref m7, .long 0, .int 0, .ref mk, .ref mn, .int 0, .ref mq, .ref m8, .ref m9, .int 0, .int 0, .int 0, .int 0, .ref ma, .int 0, .ref mb, .ref md, .long 0])), (mp, .inl (cM, 90, .inl (fun _ => 0))), (mk, .inl (cK, 8, .inl (fun _ => 0))), (mn, .inl (cN, 32, .inl (fun _ => 0)))]) (hS : va_S (AA s) s.heap H locs) {ls : Array Slot} (hl : lv_has ls 4 [(3, .int 0), (2, .ref m0), (1, .ref x0), (0, .ref b)]) : W p l e room_1 s m #[Value.ref b] below meth c H locs 62 2530 (lw_Z below #[Value.ref b] s) (F0 m 209 ls []) := by
  obtain ⟨hx, hb, hr, hml, hown, hts, hX, hbl, hlocks, hgv⟩ := id C0
  have hg := fun (w : Cond) (h : w ∈ gw_tbl) => hts w (gw_lw h)
  have hown : s.vm.findClass RL = some m.cls := hown
  have hbA : ¬ AA s b := Nat.not_le.mpr hbl
  have hA : ∀ q : Nat, s.heap.size ≤ q → AA s q := fun _ h => h
  refine lv_aload_n hx hb dL_law_209 rfl (lv_at hl 2 rfl) ?_
  have hPc := hP.sub (ws' := [(x0, .inr (11, [.ref pg, .ref rd, .ref aq, .ref py, .ref pl, .ref ch, .ref ro, .int 0, .int 0])), (pg, .inr (2, [.ref cd, .int 0]))]) [0, 1] rfl
  have hKc := hK.sub (tys' := []) [] rfl
  have hDc := hD.sub (ws' := [(x0, .inr (11, [.ref pg, .ref rd, .ref aq, .ref py, .ref pl, .ref ch, .ref ro, .int 0, .int 0])), (pg, .inr (2, [.ref cd, .int 0]))]) [0, 1] (by decide) rfl
  have hFc := va_free (wc := [(x0, .inr (11, [.ref pg, .ref rd, .ref aq, .ref py, .ref pl, .ref ch, .ref ro, .int 0, .int 0])), (pg, .inr (2, [.ref cd, .int 0]))]) hD hS hA [0, 1] rfl
  refine va_calli (va_runV (As := []) (rest := []) ⟨hx, hb, hml, hown, hg⟩ (x_blank l D x0 pg rd aq py pl ch ro cd _) (cwV 0 hg (gw_V kw_282 kw_283 kw_284 kw_6 kw_281) rfl rfl rfl (by decide +kernel) ⟨Nat.le_of_ble_eq_true rfl, Nat.le_of_ble_eq_true rfl⟩) (pr_MV (q := (RX11, TX11, 9)) 11 0 hKc hPc hDc rfl rfl) rfl rfl hl.1 rfl (lv_room (Nat.le_of_ble_eq_true rfl)) dL_law_210 ⟨Nat.le_of_ble_eq_true rfl, Nat.le_of_ble_eq_true rfl⟩) hS (fun q _ h => hFc q h) hFc (fun r_210 u t H1 locs ht hvm h_210 hB hz1 hk1 hS => ?_)
  have hP1 := p_nil (D := D) (H := H1)
  have hK1 := hK.sub (tys' := []) [] rfl
  obtain ⟨hP, hD⟩ := va_join (wr := [(cd, .inl (cI, 90, .inl (fun _ => 0))), (rd, .inr (7, [.ref rw, .ref rc, .int 0, .int 0, .int 0, .int 0, .int 0])), (aq, .inr (5, [.ref a1, .ref a2, .ref a3, .ref a4, .int 0, .int 0, .long 0])), (py, .inl (cP, 8, .inr (.inr (.inr (.inr (fun _ => none)))))), (ro, .inr (8, [.ref r1, .ref r2, .int 0])), (m0, .inr (12, [.ref mp, .int 0, .int 0, .int 0, .ref mw, .ref mh, .ref mo, .int 0, .int 0, .int 0, .int 0, .int 0, .int 0, .ref m5, .ref m6, .ref m7, .long 0, .int 0, .ref mk, .ref mn, .int 0, .ref mq, .ref m8, .ref m9, .int 0, .int 0, .int 0, .int 0, .ref ma, .int 0, .ref mb, .ref md, .long 0])), (mp, .inl (cM, 90, .inl (fun _ => 0))), (mk, .inl (cK, 8, .inl (fun _ => 0))), (mn, .inl (cN, 32, .inl (fun _ => 0)))]) (w1 := []) hP hD [0, 1] [2, 3, 4, 5, 6, 7, 8, 9, 10] rfl rfl (by decide) (by decide) hk1 hFc hP1 d_nil
  have hK := hK.app hK1
  generalize H1 = H at hP hS ⊢
  have hP : va_P D vwCl [(cd, .inl (cI, 90, .inl (fun _ => 0))), (rd, .inr (7, [.ref rw, .ref rc, .int 0, .int 0, .int 0, .int 0, .int 0])), (aq, .inr (5, [.ref a1, .ref a2, .ref a3, .ref a4, .int 0, .int 0, .long 0])), (py, .inl (cP, 8, .inr (.inr (.inr (.inr (fun _ => none)))))), (ro, .inr (8, [.ref r1, .ref r2, .int 0])), (m0, .inr (12, [.ref mp, .int 0, .int 0, .int 0, .ref mw, .ref mh, .ref mo, .int 0, .int 0, .int 0, .int 0, .int 0, .int 0, .ref m5, .ref m6, .ref m7, .long 0, .int 0, .ref mk, .ref mn, .int 0, .ref mq, .ref m8, .ref m9, .int 0, .int 0, .int 0, .int 0, .ref ma, .int 0, .ref mb, .ref md, .long 0])), (mp, .inl (cM, 90, .inl (fun _ => 0))), (mk, .inl (cK, 8, .inl (fun _ => 0))), (mn, .inl (cN, 32, .inl (fun _ => 0)))] H := hP
  have hD : va_D (AA s) [(cd, .inl (cI, 90, .inl (fun _ => 0))), (rd, .inr (7, [.ref rw, .ref rc, .int 0, .int 0, .int 0, .int 0, .int 0])), (aq, .inr (5, [.ref a1, .ref a2, .ref a3, .ref a4, .int 0, .int 0, .long 0])), (py, .inl (cP, 8, .inr (.inr (.inr (.inr (fun _ => none)))))), (ro, .inr (8, [.ref r1, .ref r2, .int 0])), (m0, .inr (12, [.ref mp, .int 0, .int 0, .int 0, .ref mw, .ref mh, .ref mo, .int 0, .int 0, .int 0, .int 0, .int 0, .int 0, .ref m5, .ref m6, .ref m7, .long 0, .int 0, .ref mk, .ref mn, .int 0, .ref mq, .ref m8, .ref m9, .int 0, .int 0, .int 0, .int 0, .ref ma, .int 0, .ref mb, .ref md, .long 0])), (mp, .inl (cM, 90, .inl (fun _ => 0))), (mk, .inl (cK, 8, .inl (fun _ => 0))), (mn, .inl (cN, 32, .inl (fun _ => 0)))] := hD
  have hK : va_K D vwCl [(cI, .int), (cP, .object RX3), (cM, .int), (cK, .int), (cN, .int)] s := hK
  refine W.cs (cells' := 62) (slots' := 2530) rfl rfl ?_
  obtain rfl : r_210 = (0 : Int32) := h_210
  refine lv_aload_n hx hb dL_law_213 rfl (lv_at hl 1 rfl) ?_
  have hPc := hP.sub (ws' := [(m0, .inr (12, [.ref mp, .int 0, .int 0, .int 0, .ref mw, .ref mh, .ref mo, .int 0, .int 0, .int 0, .int 0, .int 0, .int 0, .ref m5, .ref m6, .ref m7, .long 0, .int 0, .ref mk, .ref mn, .int 0, .ref mq, .ref m8, .ref m9, .int 0, .int 0, .int 0, .int 0, .ref ma, .int 0, .ref mb, .ref md, .long 0]))]) [5] rfl
  have hKc := hK.sub (tys' := []) [] rfl
  have hDc := hD.sub (ws' := [(m0, .inr (12, [.ref mp, .int 0, .int 0, .int 0, .ref mw, .ref mh, .ref mo, .int 0, .int 0, .int 0, .int 0, .int 0, .int 0, .ref m5, .ref m6, .ref m7, .long 0, .int 0, .ref mk, .ref mn, .int 0, .ref mq, .ref m8, .ref m9, .int 0, .int 0, .int 0, .int 0, .ref ma, .int 0, .ref mb, .ref md, .long 0]))]) [5] (by decide) rfl
  have hFc := va_free (wc := [(m0, .inr (12, [.ref mp, .int 0, .int 0, .int 0, .ref mw, .ref mh, .ref mo, .int 0, .int 0, .int 0, .int 0, .int 0, .int 0, .ref m5, .ref m6, .ref m7, .long 0, .int 0, .ref mk, .ref mn, .int 0, .ref mq, .ref m8, .ref m9, .int 0, .int 0, .int 0, .int 0, .ref ma, .int 0, .ref mb, .ref md, .long 0]))]) hD hS hA [5] rfl
  refine va_calli (va_runV (As := []) (rest := [.int 0]) ⟨hx, hb, hml, hown, hg⟩ (m_blank l D m0 mp mw mh mo m5 m6 m7 mk mn mq m8 m9 ma mb md _) (cwV 0 hg (gw_V kw_286 kw_287 kw_288 kw_210 kw_285) rfl rfl rfl (by decide +kernel) ⟨Nat.le_of_ble_eq_true rfl, Nat.le_of_ble_eq_true rfl⟩) (pr_MV (q := (RX12, TX12, 33)) 12 0 hKc hPc hDc rfl rfl) rfl rfl hl.1 rfl (lv_room (Nat.le_of_ble_eq_true rfl)) dL_law_214 ⟨Nat.le_of_ble_eq_true rfl, Nat.le_of_ble_eq_true rfl⟩) hS (fun q _ h => hFc q h) hFc (fun r_214 u t H1 locs ht hvm h_214 hB hz1 hk1 hS => ?_)
  have hP1 := p_nil (D := D) (H := H1)
  have hK1 := hK.sub (tys' := []) [] rfl
  obtain ⟨hP, hD⟩ := va_join (wr := [(cd, .inl (cI, 90, .inl (fun _ => 0))), (rd, .inr (7, [.ref rw, .ref rc, .int 0, .int 0, .int 0, .int 0, .int 0])), (aq, .inr (5, [.ref a1, .ref a2, .ref a3, .ref a4, .int 0, .int 0, .long 0])), (py, .inl (cP, 8, .inr (.inr (.inr (.inr (fun _ => none)))))), (ro, .inr (8, [.ref r1, .ref r2, .int 0])), (mp, .inl (cM, 90, .inl (fun _ => 0))), (mk, .inl (cK, 8, .inl (fun _ => 0))), (mn, .inl (cN, 32, .inl (fun _ => 0)))]) (w1 := []) hP hD [5] [0, 1, 2, 3, 4, 6, 7, 8] rfl rfl (by decide) (by decide) hk1 hFc hP1 d_nil
  have hK := hK.app hK1
  generalize H1 = H at hP hS ⊢
  have hP : va_P D vwCl [(cd, .inl (cI, 90, .inl (fun _ => 0))), (rd, .inr (7, [.ref rw, .ref rc, .int 0, .int 0, .int 0, .int 0, .int 0])), (aq, .inr (5, [.ref a1, .ref a2, .ref a3, .ref a4, .int 0, .int 0, .long 0])), (py, .inl (cP, 8, .inr (.inr (.inr (.inr (fun _ => none)))))), (ro, .inr (8, [.ref r1, .ref r2, .int 0])), (mp, .inl (cM, 90, .inl (fun _ => 0))), (mk, .inl (cK, 8, .inl (fun _ => 0))), (mn, .inl (cN, 32, .inl (fun _ => 0)))] H := hP
  have hD : va_D (AA s) [(cd, .inl (cI, 90, .inl (fun _ => 0))), (rd, .inr (7, [.ref rw, .ref rc, .int 0, .int 0, .int 0, .int 0, .int 0])), (aq, .inr (5, [.ref a1, .ref a2, .ref a3, .ref a4, .int 0, .int 0, .long 0])), (py, .inl (cP, 8, .inr (.inr (.inr (.inr (fun _ => none)))))), (ro, .inr (8, [.ref r1, .ref r2, .int 0])), (mp, .inl (cM, 90, .inl (fun _ => 0))), (mk, .inl (cK, 8, .inl (fun _ => 0))), (mn, .inl (cN, 32, .inl (fun _ => 0)))] := hD
  have hK : va_K D vwCl [(cI, .int), (cP, .object RX3), (cM, .int), (cK, .int), (cN, .int)] s := hK
  refine W.cs (cells' := 62) (slots' := 2530) rfl rfl ?_
  obtain rfl : r_214 = (0 : Int32) := h_214
  refine lv_icmp_eq (tgt := 1101) hx hb dL_law_217 (by decide) (fun c_217 => ?_) (fun c_217 => absurd c_217 (by decide))
  exact law_end l C0 hS (lv_sub hl [0, 1, 2, 3] rfl) (Nat.le_of_ble_eq_true rfl) (Nat.le_of_ble_eq_true rfl)

theorem kw_289 : (.code yX11_fault cX11_fault 1 (some .int) : Cond) ∈ gw_tbl := gw_in (by decide +kernel) (by decide +kernel)
theorem kw_290 : (.methodLink RL 25 yX11_fault : Cond) ∈ gw_tbl := gw_in (by decide +kernel) (by decide +kernel)
theorem kw_291 : (.instanceMethod yX11_fault : Cond) ∈ gw_tbl := gw_in (by decide +kernel) (by decide +kernel)
theorem kw_292 : (.selects RX11 yX11_fault yX11_fault : Cond) ∈ gw_tbl := gw_in (by decide +kernel) (by decide +kernel)
theorem kw_293 : (.code yX12_fault cX12_fault 1 (some .int) : Cond) ∈ gw_tbl := gw_in (by decide +kernel) (by decide +kernel)
theorem kw_294 : (.methodLink RL 28 yX12_fault : Cond) ∈ gw_tbl := gw_in (by decide +kernel) (by decide +kernel)
theorem kw_295 : (.instanceMethod yX12_fault : Cond) ∈ gw_tbl := gw_in (by decide +kernel) (by decide +kernel)
theorem kw_296 : (.selects RX12 yX12_fault yX12_fault : Cond) ∈ gw_tbl := gw_in (by decide +kernel) (by decide +kernel)

set_option maxHeartbeats 4000000 in
set_option maxRecDepth 100000 in
theorem law_case_2 {p : Program} {e : Env} {s : State} {m : MethodId} {below : List Frame} {meth : Method} {c : Code} (l : Launch) {b : Nat} {xs : Nat → Int32} (C0 : lw_At p s m meth c b 6 xs) (hN : nw_C s) {D : va_G} (x0 : Nat) (pg : Nat) (rd : Nat) (aq : Nat) (py : Nat) (pl : Nat) (ch : Nat) (ro : Nat) (cd : Nat) (rw : Nat) (rc : Nat) (a1 : Nat) (a2 : Nat) (a3 : Nat) (a4 : Nat) (r1 : Nat) (r2 : Nat) (cI : ClassId) (cP : ClassId) (m0 : Nat) (mp : Nat) (mw : Nat) (mh : Nat) (mo : Nat) (m5 : Nat) (m6 : Nat) (m7 : Nat) (mk : Nat) (mn : Nat) (mq : Nat) (m8 : Nat) (m9 : Nat) (ma : Nat) (mb : Nat) (md : Nat) (cM : ClassId) (cK : ClassId) (cN : ClassId) {H : Heap} {locs : List Loc} (hK : va_K D vwCl [(cI, .int), (cP, .object RX3), (cM, .int), (cK, .int), (cN, .int)] s) (hP : va_P D vwCl [(x0, .inr (11, [.ref pg, .ref rd, .ref aq, .ref py, .ref pl, .ref ch, .ref ro, .int 0, .int 0])), (pg, .inr (2, [.ref cd, .int 0])), (cd, .inl (cI, 90, .inl (fun _ => 0))), (rd, .inr (7, [.ref rw, .ref rc, .int 0, .int 0, .int 0, .int 0, .int 0])), (aq, .inr (5, [.ref a1, .ref a2, .ref a3, .ref a4, .int 0, .int 0, .long 0])), (py, .inl (cP, 8, .inr (.inr (.inr (.inr (fun _ => none)))))), (ro, .inr (8, [.ref r1, .ref r2, .int 0])), (m0, .inr (12, [.ref mp, .int 0, .int 0, .int 0, .ref mw, .ref mh, .ref mo, .int 0, .int 0, .int 0, .int 0, .int 0, .int 0, .ref m5, .ref m6, .ref m7, .long 0, .int 0, .ref mk, .ref mn, .int 0, .ref mq, .ref m8, .ref m9, .int 0, .int 0, .int 0, .int 0, .ref ma, .int 0, .ref mb, .ref md, .long 0])), (mp, .inl (cM, 90, .inl (fun _ => 0))), (mk, .inl (cK, 8, .inl (fun _ => 0))), (mn, .inl (cN, 32, .inl (fun _ => 0)))] H) (hD : va_D (AA s) [(x0, .inr (11, [.ref pg, .ref rd, .ref aq, .ref py, .ref pl, .ref ch, .ref ro, .int 0, .int 0])), (pg, .inr (2, [.ref cd, .int 0])), (cd, .inl (cI, 90, .inl (fun _ => 0))), (rd, .inr (7, [.ref rw, .ref rc, .int 0, .int 0, .int 0, .int 0, .int 0])), (aq, .inr (5, [.ref a1, .ref a2, .ref a3, .ref a4, .int 0, .int 0, .long 0])), (py, .inl (cP, 8, .inr (.inr (.inr (.inr (fun _ => none)))))), (ro, .inr (8, [.ref r1, .ref r2, .int 0])), (m0, .inr (12, [.ref mp, .int 0, .int 0, .int 0, .ref mw, .ref mh, .ref mo, .int 0, .int 0, .int 0, .int 0, .int 0, .int 0, .ref m5, .ref m6, .ref m7, .long 0, .int 0, .ref mk, .ref mn, .int 0, .ref mq, .ref m8, .ref m9, .int 0, .int 0, .int 0, .int 0, .ref ma, .int 0, .ref mb, .ref md, .long 0])), (mp, .inl (cM, 90, .inl (fun _ => 0))), (mk, .inl (cK, 8, .inl (fun _ => 0))), (mn, .inl (cN, 32, .inl (fun _ => 0)))]) (hS : va_S (AA s) s.heap H locs) {ls : Array Slot} (hl : lv_has ls 4 [(3, .int 0), (2, .ref m0), (1, .ref x0), (0, .ref b)]) : W p l e room_1 s m #[Value.ref b] below meth c H locs 62 2530 (lw_Z below #[Value.ref b] s) (F0 m 222 ls []) := by
  obtain ⟨hx, hb, hr, hml, hown, hts, hX, hbl, hlocks, hgv⟩ := id C0
  have hg := fun (w : Cond) (h : w ∈ gw_tbl) => hts w (gw_lw h)
  have hown : s.vm.findClass RL = some m.cls := hown
  have hbA : ¬ AA s b := Nat.not_le.mpr hbl
  have hA : ∀ q : Nat, s.heap.size ≤ q → AA s q := fun _ h => h
  refine lv_aload_n hx hb dL_law_222 rfl (lv_at hl 2 rfl) ?_
  have hPc := hP.sub (ws' := [(x0, .inr (11, [.ref pg, .ref rd, .ref aq, .ref py, .ref pl, .ref ch, .ref ro, .int 0, .int 0])), (rd, .inr (7, [.ref rw, .ref rc, .int 0, .int 0, .int 0, .int 0, .int 0])), (pg, .inr (2, [.ref cd, .int 0]))]) [0, 3, 1] rfl
  have hKc := hK.sub (tys' := []) [] rfl
  have hDc := hD.sub (ws' := [(x0, .inr (11, [.ref pg, .ref rd, .ref aq, .ref py, .ref pl, .ref ch, .ref ro, .int 0, .int 0])), (rd, .inr (7, [.ref rw, .ref rc, .int 0, .int 0, .int 0, .int 0, .int 0])), (pg, .inr (2, [.ref cd, .int 0]))]) [0, 3, 1] (by decide) rfl
  have hFc := va_free (wc := [(x0, .inr (11, [.ref pg, .ref rd, .ref aq, .ref py, .ref pl, .ref ch, .ref ro, .int 0, .int 0])), (rd, .inr (7, [.ref rw, .ref rc, .int 0, .int 0, .int 0, .int 0, .int 0])), (pg, .inr (2, [.ref cd, .int 0]))]) hD hS hA [0, 3, 1] rfl
  refine va_calli (va_runV (As := []) (rest := []) ⟨hx, hb, hml, hown, hg⟩ (x_fault l D x0 pg rd aq py pl ch ro rw rc cd _) (cwV 0 hg (gw_V kw_290 kw_291 kw_292 kw_6 kw_289) rfl rfl rfl (by decide +kernel) ⟨Nat.le_of_ble_eq_true rfl, Nat.le_of_ble_eq_true rfl⟩) (pr_MV (q := (RX11, TX11, 9)) 11 0 hKc hPc hDc rfl rfl) rfl rfl hl.1 rfl (lv_room (Nat.le_of_ble_eq_true rfl)) dL_law_223 ⟨Nat.le_of_ble_eq_true rfl, Nat.le_of_ble_eq_true rfl⟩) hS (fun q _ h => hFc q h) hFc (fun r_223 u t H1 locs ht hvm h_223 hB hz1 hk1 hS => ?_)
  have hP1 := p_nil (D := D) (H := H1)
  have hK1 := hK.sub (tys' := []) [] rfl
  obtain ⟨hP, hD⟩ := va_join (wr := [(cd, .inl (cI, 90, .inl (fun _ => 0))), (aq, .inr (5, [.ref a1, .ref a2, .ref a3, .ref a4, .int 0, .int 0, .long 0])), (py, .inl (cP, 8, .inr (.inr (.inr (.inr (fun _ => none)))))), (ro, .inr (8, [.ref r1, .ref r2, .int 0])), (m0, .inr (12, [.ref mp, .int 0, .int 0, .int 0, .ref mw, .ref mh, .ref mo, .int 0, .int 0, .int 0, .int 0, .int 0, .int 0, .ref m5, .ref m6, .ref m7, .long 0, .int 0, .ref mk, .ref mn, .int 0, .ref mq, .ref m8, .ref m9, .int 0, .int 0, .int 0, .int 0, .ref ma, .int 0, .ref mb, .ref md, .long 0])), (mp, .inl (cM, 90, .inl (fun _ => 0))), (mk, .inl (cK, 8, .inl (fun _ => 0))), (mn, .inl (cN, 32, .inl (fun _ => 0)))]) (w1 := []) hP hD [0, 3, 1] [2, 4, 5, 6, 7, 8, 9, 10] rfl rfl (by decide) (by decide) hk1 hFc hP1 d_nil
  have hK := hK.app hK1
  generalize H1 = H at hP hS ⊢
  have hP : va_P D vwCl [(cd, .inl (cI, 90, .inl (fun _ => 0))), (aq, .inr (5, [.ref a1, .ref a2, .ref a3, .ref a4, .int 0, .int 0, .long 0])), (py, .inl (cP, 8, .inr (.inr (.inr (.inr (fun _ => none)))))), (ro, .inr (8, [.ref r1, .ref r2, .int 0])), (m0, .inr (12, [.ref mp, .int 0, .int 0, .int 0, .ref mw, .ref mh, .ref mo, .int 0, .int 0, .int 0, .int 0, .int 0, .int 0, .ref m5, .ref m6, .ref m7, .long 0, .int 0, .ref mk, .ref mn, .int 0, .ref mq, .ref m8, .ref m9, .int 0, .int 0, .int 0, .int 0, .ref ma, .int 0, .ref mb, .ref md, .long 0])), (mp, .inl (cM, 90, .inl (fun _ => 0))), (mk, .inl (cK, 8, .inl (fun _ => 0))), (mn, .inl (cN, 32, .inl (fun _ => 0)))] H := hP
  have hD : va_D (AA s) [(cd, .inl (cI, 90, .inl (fun _ => 0))), (aq, .inr (5, [.ref a1, .ref a2, .ref a3, .ref a4, .int 0, .int 0, .long 0])), (py, .inl (cP, 8, .inr (.inr (.inr (.inr (fun _ => none)))))), (ro, .inr (8, [.ref r1, .ref r2, .int 0])), (m0, .inr (12, [.ref mp, .int 0, .int 0, .int 0, .ref mw, .ref mh, .ref mo, .int 0, .int 0, .int 0, .int 0, .int 0, .int 0, .ref m5, .ref m6, .ref m7, .long 0, .int 0, .ref mk, .ref mn, .int 0, .ref mq, .ref m8, .ref m9, .int 0, .int 0, .int 0, .int 0, .ref ma, .int 0, .ref mb, .ref md, .long 0])), (mp, .inl (cM, 90, .inl (fun _ => 0))), (mk, .inl (cK, 8, .inl (fun _ => 0))), (mn, .inl (cN, 32, .inl (fun _ => 0)))] := hD
  have hK : va_K D vwCl [(cI, .int), (cP, .object RX3), (cM, .int), (cK, .int), (cN, .int)] s := hK
  refine W.cs (cells' := 62) (slots' := 2530) rfl rfl ?_
  obtain rfl : r_223 = (0 : Int32) := h_223
  refine lv_aload_n hx hb dL_law_226 rfl (lv_at hl 1 rfl) ?_
  have hPc := hP.sub (ws' := [(m0, .inr (12, [.ref mp, .int 0, .int 0, .int 0, .ref mw, .ref mh, .ref mo, .int 0, .int 0, .int 0, .int 0, .int 0, .int 0, .ref m5, .ref m6, .ref m7, .long 0, .int 0, .ref mk, .ref mn, .int 0, .ref mq, .ref m8, .ref m9, .int 0, .int 0, .int 0, .int 0, .ref ma, .int 0, .ref mb, .ref md, .long 0]))]) [4] rfl
  have hKc := hK.sub (tys' := []) [] rfl
  have hDc := hD.sub (ws' := [(m0, .inr (12, [.ref mp, .int 0, .int 0, .int 0, .ref mw, .ref mh, .ref mo, .int 0, .int 0, .int 0, .int 0, .int 0, .int 0, .ref m5, .ref m6, .ref m7, .long 0, .int 0, .ref mk, .ref mn, .int 0, .ref mq, .ref m8, .ref m9, .int 0, .int 0, .int 0, .int 0, .ref ma, .int 0, .ref mb, .ref md, .long 0]))]) [4] (by decide) rfl
  have hFc := va_free (wc := [(m0, .inr (12, [.ref mp, .int 0, .int 0, .int 0, .ref mw, .ref mh, .ref mo, .int 0, .int 0, .int 0, .int 0, .int 0, .int 0, .ref m5, .ref m6, .ref m7, .long 0, .int 0, .ref mk, .ref mn, .int 0, .ref mq, .ref m8, .ref m9, .int 0, .int 0, .int 0, .int 0, .ref ma, .int 0, .ref mb, .ref md, .long 0]))]) hD hS hA [4] rfl
  refine va_calli (va_runV (As := []) (rest := [.int 0]) ⟨hx, hb, hml, hown, hg⟩ (m_fault l D m0 mp mw mh mo m5 m6 m7 mk mn mq m8 m9 ma mb md _) (cwV 0 hg (gw_V kw_294 kw_295 kw_296 kw_210 kw_293) rfl rfl rfl (by decide +kernel) ⟨Nat.le_of_ble_eq_true rfl, Nat.le_of_ble_eq_true rfl⟩) (pr_MV (q := (RX12, TX12, 33)) 12 0 hKc hPc hDc rfl rfl) rfl rfl hl.1 rfl (lv_room (Nat.le_of_ble_eq_true rfl)) dL_law_227 ⟨Nat.le_of_ble_eq_true rfl, Nat.le_of_ble_eq_true rfl⟩) hS (fun q _ h => hFc q h) hFc (fun r_227 u t H1 locs ht hvm h_227 hB hz1 hk1 hS => ?_)
  have hP1 := p_nil (D := D) (H := H1)
  have hK1 := hK.sub (tys' := []) [] rfl
  obtain ⟨hP, hD⟩ := va_join (wr := [(cd, .inl (cI, 90, .inl (fun _ => 0))), (aq, .inr (5, [.ref a1, .ref a2, .ref a3, .ref a4, .int 0, .int 0, .long 0])), (py, .inl (cP, 8, .inr (.inr (.inr (.inr (fun _ => none)))))), (ro, .inr (8, [.ref r1, .ref r2, .int 0])), (mp, .inl (cM, 90, .inl (fun _ => 0))), (mk, .inl (cK, 8, .inl (fun _ => 0))), (mn, .inl (cN, 32, .inl (fun _ => 0)))]) (w1 := []) hP hD [4] [0, 1, 2, 3, 5, 6, 7] rfl rfl (by decide) (by decide) hk1 hFc hP1 d_nil
  have hK := hK.app hK1
  generalize H1 = H at hP hS ⊢
  have hP : va_P D vwCl [(cd, .inl (cI, 90, .inl (fun _ => 0))), (aq, .inr (5, [.ref a1, .ref a2, .ref a3, .ref a4, .int 0, .int 0, .long 0])), (py, .inl (cP, 8, .inr (.inr (.inr (.inr (fun _ => none)))))), (ro, .inr (8, [.ref r1, .ref r2, .int 0])), (mp, .inl (cM, 90, .inl (fun _ => 0))), (mk, .inl (cK, 8, .inl (fun _ => 0))), (mn, .inl (cN, 32, .inl (fun _ => 0)))] H := hP
  have hD : va_D (AA s) [(cd, .inl (cI, 90, .inl (fun _ => 0))), (aq, .inr (5, [.ref a1, .ref a2, .ref a3, .ref a4, .int 0, .int 0, .long 0])), (py, .inl (cP, 8, .inr (.inr (.inr (.inr (fun _ => none)))))), (ro, .inr (8, [.ref r1, .ref r2, .int 0])), (mp, .inl (cM, 90, .inl (fun _ => 0))), (mk, .inl (cK, 8, .inl (fun _ => 0))), (mn, .inl (cN, 32, .inl (fun _ => 0)))] := hD
  have hK : va_K D vwCl [(cI, .int), (cP, .object RX3), (cM, .int), (cK, .int), (cN, .int)] s := hK
  refine W.cs (cells' := 62) (slots' := 2530) rfl rfl ?_
  obtain rfl : r_227 = (0 : Int32) := h_227
  refine lv_icmp_eq (tgt := 1101) hx hb dL_law_230 (by decide) (fun c_230 => ?_) (fun c_230 => absurd c_230 (by decide))
  exact law_end l C0 hS (lv_sub hl [0, 1, 2, 3] rfl) (Nat.le_of_ble_eq_true rfl) (Nat.le_of_ble_eq_true rfl)

theorem kw_297 : (.code yX11_question cX11_question 2 (some .int) : Cond) ∈ gw_tbl := gw_in (by decide +kernel) (by decide +kernel)
theorem kw_298 : (.methodLink RL 29 yX11_question : Cond) ∈ gw_tbl := gw_in (by decide +kernel) (by decide +kernel)
theorem kw_299 : (.instanceMethod yX11_question : Cond) ∈ gw_tbl := gw_in (by decide +kernel) (by decide +kernel)
theorem kw_300 : (.selects RX11 yX11_question yX11_question : Cond) ∈ gw_tbl := gw_in (by decide +kernel) (by decide +kernel)
theorem kw_301 : (.code yX12_question cX12_question 3 (some .int) : Cond) ∈ gw_tbl := gw_in (by decide +kernel) (by decide +kernel)
theorem kw_302 : (.methodLink RL 32 yX12_question : Cond) ∈ gw_tbl := gw_in (by decide +kernel) (by decide +kernel)
theorem kw_303 : (.instanceMethod yX12_question : Cond) ∈ gw_tbl := gw_in (by decide +kernel) (by decide +kernel)
theorem kw_304 : (.selects RX12 yX12_question yX12_question : Cond) ∈ gw_tbl := gw_in (by decide +kernel) (by decide +kernel)

set_option maxHeartbeats 4000000 in
set_option maxRecDepth 100000 in
theorem law_case_3 {p : Program} {e : Env} {s : State} {m : MethodId} {below : List Frame} {meth : Method} {c : Code} (l : Launch) {b : Nat} {xs : Nat → Int32} (C0 : lw_At p s m meth c b 6 xs) (hN : nw_C s) {D : va_G} (x0 : Nat) (pg : Nat) (rd : Nat) (aq : Nat) (py : Nat) (pl : Nat) (ch : Nat) (ro : Nat) (cd : Nat) (rw : Nat) (rc : Nat) (a1 : Nat) (a2 : Nat) (a3 : Nat) (a4 : Nat) (r1 : Nat) (r2 : Nat) (cI : ClassId) (cP : ClassId) (m0 : Nat) (mp : Nat) (mw : Nat) (mh : Nat) (mo : Nat) (m5 : Nat) (m6 : Nat) (m7 : Nat) (mk : Nat) (mn : Nat) (mq : Nat) (m8 : Nat) (m9 : Nat) (ma : Nat) (mb : Nat) (md : Nat) (cM : ClassId) (cK : ClassId) (cN : ClassId) {H : Heap} {locs : List Loc} (hK : va_K D vwCl [(cI, .int), (cP, .object RX3), (cM, .int), (cK, .int), (cN, .int)] s) (hP : va_P D vwCl [(x0, .inr (11, [.ref pg, .ref rd, .ref aq, .ref py, .ref pl, .ref ch, .ref ro, .int 0, .int 0])), (pg, .inr (2, [.ref cd, .int 0])), (cd, .inl (cI, 90, .inl (fun _ => 0))), (rd, .inr (7, [.ref rw, .ref rc, .int 0, .int 0, .int 0, .int 0, .int 0])), (aq, .inr (5, [.ref a1, .ref a2, .ref a3, .ref a4, .int 0, .int 0, .long 0])), (py, .inl (cP, 8, .inr (.inr (.inr (.inr (fun _ => none)))))), (ro, .inr (8, [.ref r1, .ref r2, .int 0])), (m0, .inr (12, [.ref mp, .int 0, .int 0, .int 0, .ref mw, .ref mh, .ref mo, .int 0, .int 0, .int 0, .int 0, .int 0, .int 0, .ref m5, .ref m6, .ref m7, .long 0, .int 0, .ref mk, .ref mn, .int 0, .ref mq, .ref m8, .ref m9, .int 0, .int 0, .int 0, .int 0, .ref ma, .int 0, .ref mb, .ref md, .long 0])), (mp, .inl (cM, 90, .inl (fun _ => 0))), (mk, .inl (cK, 8, .inl (fun _ => 0))), (mn, .inl (cN, 32, .inl (fun _ => 0)))] H) (hD : va_D (AA s) [(x0, .inr (11, [.ref pg, .ref rd, .ref aq, .ref py, .ref pl, .ref ch, .ref ro, .int 0, .int 0])), (pg, .inr (2, [.ref cd, .int 0])), (cd, .inl (cI, 90, .inl (fun _ => 0))), (rd, .inr (7, [.ref rw, .ref rc, .int 0, .int 0, .int 0, .int 0, .int 0])), (aq, .inr (5, [.ref a1, .ref a2, .ref a3, .ref a4, .int 0, .int 0, .long 0])), (py, .inl (cP, 8, .inr (.inr (.inr (.inr (fun _ => none)))))), (ro, .inr (8, [.ref r1, .ref r2, .int 0])), (m0, .inr (12, [.ref mp, .int 0, .int 0, .int 0, .ref mw, .ref mh, .ref mo, .int 0, .int 0, .int 0, .int 0, .int 0, .int 0, .ref m5, .ref m6, .ref m7, .long 0, .int 0, .ref mk, .ref mn, .int 0, .ref mq, .ref m8, .ref m9, .int 0, .int 0, .int 0, .int 0, .ref ma, .int 0, .ref mb, .ref md, .long 0])), (mp, .inl (cM, 90, .inl (fun _ => 0))), (mk, .inl (cK, 8, .inl (fun _ => 0))), (mn, .inl (cN, 32, .inl (fun _ => 0)))]) (hS : va_S (AA s) s.heap H locs) {ls : Array Slot} (hl : lv_has ls 4 [(3, .int 0), (2, .ref m0), (1, .ref x0), (0, .ref b)]) : W p l e room_1 s m #[Value.ref b] below meth c H locs 62 2530 (lw_Z below #[Value.ref b] s) (F0 m 235 ls []) := by
  obtain ⟨hx, hb, hr, hml, hown, hts, hX, hbl, hlocks, hgv⟩ := id C0
  have hg := fun (w : Cond) (h : w ∈ gw_tbl) => hts w (gw_lw h)
  have hown : s.vm.findClass RL = some m.cls := hown
  have hbA : ¬ AA s b := Nat.not_le.mpr hbl
  have hA : ∀ q : Nat, s.heap.size ≤ q → AA s q := fun _ h => h
  refine lv_aload_n hx hb dL_law_235 rfl (lv_at hl 2 rfl) ?_
  have hPc := hP.sub (ws' := [(x0, .inr (11, [.ref pg, .ref rd, .ref aq, .ref py, .ref pl, .ref ch, .ref ro, .int 0, .int 0])), (rd, .inr (7, [.ref rw, .ref rc, .int 0, .int 0, .int 0, .int 0, .int 0])), (pg, .inr (2, [.ref cd, .int 0]))]) [0, 3, 1] rfl
  have hKc := hK.sub (tys' := []) [] rfl
  have hDc := hD.sub (ws' := [(x0, .inr (11, [.ref pg, .ref rd, .ref aq, .ref py, .ref pl, .ref ch, .ref ro, .int 0, .int 0])), (rd, .inr (7, [.ref rw, .ref rc, .int 0, .int 0, .int 0, .int 0, .int 0])), (pg, .inr (2, [.ref cd, .int 0]))]) [0, 3, 1] (by decide) rfl
  have hFc := va_free (wc := [(x0, .inr (11, [.ref pg, .ref rd, .ref aq, .ref py, .ref pl, .ref ch, .ref ro, .int 0, .int 0])), (rd, .inr (7, [.ref rw, .ref rc, .int 0, .int 0, .int 0, .int 0, .int 0])), (pg, .inr (2, [.ref cd, .int 0]))]) hD hS hA [0, 3, 1] rfl
  refine va_calli (va_runV (As := []) (rest := []) ⟨hx, hb, hml, hown, hg⟩ (x_question l D x0 pg rd aq py pl ch ro rw rc cd _) (cwV 0 hg (gw_V kw_298 kw_299 kw_300 kw_6 kw_297) rfl rfl rfl (by decide +kernel) ⟨Nat.le_of_ble_eq_true rfl, Nat.le_of_ble_eq_true rfl⟩) (pr_MV (q := (RX11, TX11, 9)) 11 0 hKc hPc hDc rfl rfl) rfl rfl hl.1 rfl (lv_room (Nat.le_of_ble_eq_true rfl)) dL_law_236 ⟨Nat.le_of_ble_eq_true rfl, Nat.le_of_ble_eq_true rfl⟩) hS (fun q _ h => hFc q h) hFc (fun r_236 u t H1 locs ht hvm h_236 hB hz1 hk1 hS => ?_)
  have hP1 := p_nil (D := D) (H := H1)
  have hK1 := hK.sub (tys' := []) [] rfl
  obtain ⟨hP, hD⟩ := va_join (wr := [(cd, .inl (cI, 90, .inl (fun _ => 0))), (aq, .inr (5, [.ref a1, .ref a2, .ref a3, .ref a4, .int 0, .int 0, .long 0])), (py, .inl (cP, 8, .inr (.inr (.inr (.inr (fun _ => none)))))), (ro, .inr (8, [.ref r1, .ref r2, .int 0])), (m0, .inr (12, [.ref mp, .int 0, .int 0, .int 0, .ref mw, .ref mh, .ref mo, .int 0, .int 0, .int 0, .int 0, .int 0, .int 0, .ref m5, .ref m6, .ref m7, .long 0, .int 0, .ref mk, .ref mn, .int 0, .ref mq, .ref m8, .ref m9, .int 0, .int 0, .int 0, .int 0, .ref ma, .int 0, .ref mb, .ref md, .long 0])), (mp, .inl (cM, 90, .inl (fun _ => 0))), (mk, .inl (cK, 8, .inl (fun _ => 0))), (mn, .inl (cN, 32, .inl (fun _ => 0)))]) (w1 := []) hP hD [0, 3, 1] [2, 4, 5, 6, 7, 8, 9, 10] rfl rfl (by decide) (by decide) hk1 hFc hP1 d_nil
  have hK := hK.app hK1
  generalize H1 = H at hP hS ⊢
  have hP : va_P D vwCl [(cd, .inl (cI, 90, .inl (fun _ => 0))), (aq, .inr (5, [.ref a1, .ref a2, .ref a3, .ref a4, .int 0, .int 0, .long 0])), (py, .inl (cP, 8, .inr (.inr (.inr (.inr (fun _ => none)))))), (ro, .inr (8, [.ref r1, .ref r2, .int 0])), (m0, .inr (12, [.ref mp, .int 0, .int 0, .int 0, .ref mw, .ref mh, .ref mo, .int 0, .int 0, .int 0, .int 0, .int 0, .int 0, .ref m5, .ref m6, .ref m7, .long 0, .int 0, .ref mk, .ref mn, .int 0, .ref mq, .ref m8, .ref m9, .int 0, .int 0, .int 0, .int 0, .ref ma, .int 0, .ref mb, .ref md, .long 0])), (mp, .inl (cM, 90, .inl (fun _ => 0))), (mk, .inl (cK, 8, .inl (fun _ => 0))), (mn, .inl (cN, 32, .inl (fun _ => 0)))] H := hP
  have hD : va_D (AA s) [(cd, .inl (cI, 90, .inl (fun _ => 0))), (aq, .inr (5, [.ref a1, .ref a2, .ref a3, .ref a4, .int 0, .int 0, .long 0])), (py, .inl (cP, 8, .inr (.inr (.inr (.inr (fun _ => none)))))), (ro, .inr (8, [.ref r1, .ref r2, .int 0])), (m0, .inr (12, [.ref mp, .int 0, .int 0, .int 0, .ref mw, .ref mh, .ref mo, .int 0, .int 0, .int 0, .int 0, .int 0, .int 0, .ref m5, .ref m6, .ref m7, .long 0, .int 0, .ref mk, .ref mn, .int 0, .ref mq, .ref m8, .ref m9, .int 0, .int 0, .int 0, .int 0, .ref ma, .int 0, .ref mb, .ref md, .long 0])), (mp, .inl (cM, 90, .inl (fun _ => 0))), (mk, .inl (cK, 8, .inl (fun _ => 0))), (mn, .inl (cN, 32, .inl (fun _ => 0)))] := hD
  have hK : va_K D vwCl [(cI, .int), (cP, .object RX3), (cM, .int), (cK, .int), (cN, .int)] s := hK
  refine W.cs (cells' := 62) (slots' := 2530) rfl rfl ?_
  obtain rfl : r_236 = ((-103) : Int32) := h_236
  refine lv_aload_n hx hb dL_law_239 rfl (lv_at hl 1 rfl) ?_
  have hPc := hP.sub (ws' := [(m0, .inr (12, [.ref mp, .int 0, .int 0, .int 0, .ref mw, .ref mh, .ref mo, .int 0, .int 0, .int 0, .int 0, .int 0, .int 0, .ref m5, .ref m6, .ref m7, .long 0, .int 0, .ref mk, .ref mn, .int 0, .ref mq, .ref m8, .ref m9, .int 0, .int 0, .int 0, .int 0, .ref ma, .int 0, .ref mb, .ref md, .long 0]))]) [4] rfl
  have hKc := hK.sub (tys' := []) [] rfl
  have hDc := hD.sub (ws' := [(m0, .inr (12, [.ref mp, .int 0, .int 0, .int 0, .ref mw, .ref mh, .ref mo, .int 0, .int 0, .int 0, .int 0, .int 0, .int 0, .ref m5, .ref m6, .ref m7, .long 0, .int 0, .ref mk, .ref mn, .int 0, .ref mq, .ref m8, .ref m9, .int 0, .int 0, .int 0, .int 0, .ref ma, .int 0, .ref mb, .ref md, .long 0]))]) [4] (by decide) rfl
  have hFc := va_free (wc := [(m0, .inr (12, [.ref mp, .int 0, .int 0, .int 0, .ref mw, .ref mh, .ref mo, .int 0, .int 0, .int 0, .int 0, .int 0, .int 0, .ref m5, .ref m6, .ref m7, .long 0, .int 0, .ref mk, .ref mn, .int 0, .ref mq, .ref m8, .ref m9, .int 0, .int 0, .int 0, .int 0, .ref ma, .int 0, .ref mb, .ref md, .long 0]))]) hD hS hA [4] rfl
  refine va_calli (va_runV (As := []) (rest := [.int (-103)]) ⟨hx, hb, hml, hown, hg⟩ (m_question l D m0 mp mw mh mo m5 m6 m7 mk mn mq m8 m9 ma mb md _) (cwV 0 hg (gw_V kw_302 kw_303 kw_304 kw_210 kw_301) rfl rfl rfl (by decide +kernel) ⟨Nat.le_of_ble_eq_true rfl, Nat.le_of_ble_eq_true rfl⟩) (pr_MV (q := (RX12, TX12, 33)) 12 0 hKc hPc hDc rfl rfl) rfl rfl hl.1 rfl (lv_room (Nat.le_of_ble_eq_true rfl)) dL_law_240 ⟨Nat.le_of_ble_eq_true rfl, Nat.le_of_ble_eq_true rfl⟩) hS (fun q _ h => hFc q h) hFc (fun r_240 u t H1 locs ht hvm h_240 hB hz1 hk1 hS => ?_)
  have hP1 := p_nil (D := D) (H := H1)
  have hK1 := hK.sub (tys' := []) [] rfl
  obtain ⟨hP, hD⟩ := va_join (wr := [(cd, .inl (cI, 90, .inl (fun _ => 0))), (aq, .inr (5, [.ref a1, .ref a2, .ref a3, .ref a4, .int 0, .int 0, .long 0])), (py, .inl (cP, 8, .inr (.inr (.inr (.inr (fun _ => none)))))), (ro, .inr (8, [.ref r1, .ref r2, .int 0])), (mp, .inl (cM, 90, .inl (fun _ => 0))), (mk, .inl (cK, 8, .inl (fun _ => 0))), (mn, .inl (cN, 32, .inl (fun _ => 0)))]) (w1 := []) hP hD [4] [0, 1, 2, 3, 5, 6, 7] rfl rfl (by decide) (by decide) hk1 hFc hP1 d_nil
  have hK := hK.app hK1
  generalize H1 = H at hP hS ⊢
  have hP : va_P D vwCl [(cd, .inl (cI, 90, .inl (fun _ => 0))), (aq, .inr (5, [.ref a1, .ref a2, .ref a3, .ref a4, .int 0, .int 0, .long 0])), (py, .inl (cP, 8, .inr (.inr (.inr (.inr (fun _ => none)))))), (ro, .inr (8, [.ref r1, .ref r2, .int 0])), (mp, .inl (cM, 90, .inl (fun _ => 0))), (mk, .inl (cK, 8, .inl (fun _ => 0))), (mn, .inl (cN, 32, .inl (fun _ => 0)))] H := hP
  have hD : va_D (AA s) [(cd, .inl (cI, 90, .inl (fun _ => 0))), (aq, .inr (5, [.ref a1, .ref a2, .ref a3, .ref a4, .int 0, .int 0, .long 0])), (py, .inl (cP, 8, .inr (.inr (.inr (.inr (fun _ => none)))))), (ro, .inr (8, [.ref r1, .ref r2, .int 0])), (mp, .inl (cM, 90, .inl (fun _ => 0))), (mk, .inl (cK, 8, .inl (fun _ => 0))), (mn, .inl (cN, 32, .inl (fun _ => 0)))] := hD
  have hK : va_K D vwCl [(cI, .int), (cP, .object RX3), (cM, .int), (cK, .int), (cN, .int)] s := hK
  refine W.cs (cells' := 62) (slots' := 2530) rfl rfl ?_
  obtain rfl : r_240 = ((-103) : Int32) := h_240
  refine lv_icmp_eq (tgt := 1101) hx hb dL_law_243 (by decide) (fun c_243 => ?_) (fun c_243 => absurd c_243 (by decide))
  exact law_end l C0 hS (lv_sub hl [0, 1, 2, 3] rfl) (Nat.le_of_ble_eq_true rfl) (Nat.le_of_ble_eq_true rfl)

theorem kw_305 : (.code yX11_chance cX11_chance 3 (some .int) : Cond) ∈ gw_tbl := gw_in (by decide +kernel) (by decide +kernel)
theorem kw_306 : (.methodLink RL 33 yX11_chance : Cond) ∈ gw_tbl := gw_in (by decide +kernel) (by decide +kernel)
theorem kw_307 : (.instanceMethod yX11_chance : Cond) ∈ gw_tbl := gw_in (by decide +kernel) (by decide +kernel)
theorem kw_308 : (.selects RX11 yX11_chance yX11_chance : Cond) ∈ gw_tbl := gw_in (by decide +kernel) (by decide +kernel)
theorem kw_309 : (.code yX12_chance cX12_chance 3 (some .int) : Cond) ∈ gw_tbl := gw_in (by decide +kernel) (by decide +kernel)
theorem kw_310 : (.methodLink RL 37 yX12_chance : Cond) ∈ gw_tbl := gw_in (by decide +kernel) (by decide +kernel)
theorem kw_311 : (.instanceMethod yX12_chance : Cond) ∈ gw_tbl := gw_in (by decide +kernel) (by decide +kernel)
theorem kw_312 : (.selects RX12 yX12_chance yX12_chance : Cond) ∈ gw_tbl := gw_in (by decide +kernel) (by decide +kernel)

set_option maxHeartbeats 4000000 in
set_option maxRecDepth 100000 in
theorem law_case_4 {p : Program} {e : Env} {s : State} {m : MethodId} {below : List Frame} {meth : Method} {c : Code} (l : Launch) {b : Nat} {xs : Nat → Int32} (C0 : lw_At p s m meth c b 6 xs) (hN : nw_C s) {D : va_G} (x0 : Nat) (pg : Nat) (rd : Nat) (aq : Nat) (py : Nat) (pl : Nat) (ch : Nat) (ro : Nat) (cd : Nat) (rw : Nat) (rc : Nat) (a1 : Nat) (a2 : Nat) (a3 : Nat) (a4 : Nat) (r1 : Nat) (r2 : Nat) (cI : ClassId) (cP : ClassId) (m0 : Nat) (mp : Nat) (mw : Nat) (mh : Nat) (mo : Nat) (m5 : Nat) (m6 : Nat) (m7 : Nat) (mk : Nat) (mn : Nat) (mq : Nat) (m8 : Nat) (m9 : Nat) (ma : Nat) (mb : Nat) (md : Nat) (cM : ClassId) (cK : ClassId) (cN : ClassId) {H : Heap} {locs : List Loc} (hK : va_K D vwCl [(cI, .int), (cP, .object RX3), (cM, .int), (cK, .int), (cN, .int)] s) (hP : va_P D vwCl [(x0, .inr (11, [.ref pg, .ref rd, .ref aq, .ref py, .ref pl, .ref ch, .ref ro, .int 0, .int 0])), (pg, .inr (2, [.ref cd, .int 0])), (cd, .inl (cI, 90, .inl (fun _ => 0))), (rd, .inr (7, [.ref rw, .ref rc, .int 0, .int 0, .int 0, .int 0, .int 0])), (aq, .inr (5, [.ref a1, .ref a2, .ref a3, .ref a4, .int 0, .int 0, .long 0])), (py, .inl (cP, 8, .inr (.inr (.inr (.inr (fun _ => none)))))), (ro, .inr (8, [.ref r1, .ref r2, .int 0])), (m0, .inr (12, [.ref mp, .int 0, .int 0, .int 0, .ref mw, .ref mh, .ref mo, .int 0, .int 0, .int 0, .int 0, .int 0, .int 0, .ref m5, .ref m6, .ref m7, .long 0, .int 0, .ref mk, .ref mn, .int 0, .ref mq, .ref m8, .ref m9, .int 0, .int 0, .int 0, .int 0, .ref ma, .int 0, .ref mb, .ref md, .long 0])), (mp, .inl (cM, 90, .inl (fun _ => 0))), (mk, .inl (cK, 8, .inl (fun _ => 0))), (mn, .inl (cN, 32, .inl (fun _ => 0)))] H) (hD : va_D (AA s) [(x0, .inr (11, [.ref pg, .ref rd, .ref aq, .ref py, .ref pl, .ref ch, .ref ro, .int 0, .int 0])), (pg, .inr (2, [.ref cd, .int 0])), (cd, .inl (cI, 90, .inl (fun _ => 0))), (rd, .inr (7, [.ref rw, .ref rc, .int 0, .int 0, .int 0, .int 0, .int 0])), (aq, .inr (5, [.ref a1, .ref a2, .ref a3, .ref a4, .int 0, .int 0, .long 0])), (py, .inl (cP, 8, .inr (.inr (.inr (.inr (fun _ => none)))))), (ro, .inr (8, [.ref r1, .ref r2, .int 0])), (m0, .inr (12, [.ref mp, .int 0, .int 0, .int 0, .ref mw, .ref mh, .ref mo, .int 0, .int 0, .int 0, .int 0, .int 0, .int 0, .ref m5, .ref m6, .ref m7, .long 0, .int 0, .ref mk, .ref mn, .int 0, .ref mq, .ref m8, .ref m9, .int 0, .int 0, .int 0, .int 0, .ref ma, .int 0, .ref mb, .ref md, .long 0])), (mp, .inl (cM, 90, .inl (fun _ => 0))), (mk, .inl (cK, 8, .inl (fun _ => 0))), (mn, .inl (cN, 32, .inl (fun _ => 0)))]) (hS : va_S (AA s) s.heap H locs) {ls : Array Slot} (hl : lv_has ls 4 [(3, .int 0), (2, .ref m0), (1, .ref x0), (0, .ref b)]) : W p l e room_1 s m #[Value.ref b] below meth c H locs 62 2530 (lw_Z below #[Value.ref b] s) (F0 m 248 ls []) := by
  obtain ⟨hx, hb, hr, hml, hown, hts, hX, hbl, hlocks, hgv⟩ := id C0
  have hg := fun (w : Cond) (h : w ∈ gw_tbl) => hts w (gw_lw h)
  have hown : s.vm.findClass RL = some m.cls := hown
  have hbA : ¬ AA s b := Nat.not_le.mpr hbl
  have hA : ∀ q : Nat, s.heap.size ≤ q → AA s q := fun _ h => h
  refine lv_aload_n hx hb dL_law_248 rfl (lv_at hl 2 rfl) ?_
  refine lv_aload_n hx hb dL_law_249 rfl (lv_at hl 3 rfl) ?_
  refine lv_iload_n hx hb dL_law_250 rfl (lv_at hl 0 rfl) ?_
  refine lv_iconst (v := 1) hx hb dL_law_251 (by decide) ?_
  refine lv_iadd hx hb dL_law_252 ?_
  refine lv_topi (fun z_252 e_252 => ?_)
  obtain rfl : z_252 = (1 : Int32) := e_252.trans (by decide)
  refine va_sld hx hb hX hbl hbA hS (show ¬ ((1 : Int32) < 0 ∨ 6 ≤ (1 : Int32).toNatClampNeg) by decide) dL_law_253 ?_
  refine W.eq (g2 := F0 m 254 ls (.int (xs 1) :: .ref x0 :: [])) rfl ?_
  refine lv_aload_n hx hb dL_law_254 rfl (lv_at hl 3 rfl) ?_
  refine lv_iload_n hx hb dL_law_255 rfl (lv_at hl 0 rfl) ?_
  refine lv_iconst (v := 2) hx hb dL_law_256 (by decide) ?_
  refine lv_iadd hx hb dL_law_257 ?_
  refine lv_topi (fun z_257 e_257 => ?_)
  obtain rfl : z_257 = (2 : Int32) := e_257.trans (by decide)
  refine va_sld hx hb hX hbl hbA hS (show ¬ ((2 : Int32) < 0 ∨ 6 ≤ (2 : Int32).toNatClampNeg) by decide) dL_law_258 ?_
  refine W.eq (g2 := F0 m 259 ls (.int (xs 2) :: .int (xs 1) :: .ref x0 :: [])) rfl ?_
  have hPc := hP.sub (ws' := [(x0, .inr (11, [.ref pg, .ref rd, .ref aq, .ref py, .ref pl, .ref ch, .ref ro, .int 0, .int 0])), (aq, .inr (5, [.ref a1, .ref a2, .ref a3, .ref a4, .int 0, .int 0, .long 0]))]) [0, 4] rfl
  have hKc := hK.sub (tys' := []) [] rfl
  refine vp_callSi (W.runV (As := [.int (xs 1), .int (xs 2)]) (rest := []) ⟨hx, hb, hml, hown, hg⟩ (x_chance l D x0 pg rd aq py pl ch ro a1 a2 a3 a4 (xs 1) (xs 2)) (cwV 2 hg (gw_V kw_306 kw_307 kw_308 kw_6 kw_305) rfl rfl rfl (by decide +kernel) ⟨Nat.le_of_ble_eq_true rfl, Nat.le_of_ble_eq_true rfl⟩) (pr_SV (q := (RX11, TX11, 9)) 11 0 hKc hPc rfl rfl) rfl rfl hl.1 rfl (lv_room (Nat.le_of_ble_eq_true rfl)) dL_law_259 ⟨Nat.le_of_ble_eq_true rfl, Nat.le_of_ble_eq_true rfl⟩) (fun r_259 h_259 => ?_)
  obtain rfl : r_259 = ((-101) : Int32) := h_259
  refine lv_aload_n hx hb dL_law_262 rfl (lv_at hl 1 rfl) ?_
  refine lv_aload_n hx hb dL_law_263 rfl (lv_at hl 3 rfl) ?_
  refine lv_iload_n hx hb dL_law_264 rfl (lv_at hl 0 rfl) ?_
  refine lv_iconst (v := 1) hx hb dL_law_265 (by decide) ?_
  refine lv_iadd hx hb dL_law_266 ?_
  refine lv_topi (fun z_266 e_266 => ?_)
  obtain rfl : z_266 = (1 : Int32) := e_266.trans (by decide)
  refine va_sld hx hb hX hbl hbA hS (show ¬ ((1 : Int32) < 0 ∨ 6 ≤ (1 : Int32).toNatClampNeg) by decide) dL_law_267 ?_
  refine W.eq (g2 := F0 m 268 ls (.int (xs 1) :: .ref m0 :: .int (-101) :: [])) rfl ?_
  refine lv_aload_n hx hb dL_law_268 rfl (lv_at hl 3 rfl) ?_
  refine lv_iload_n hx hb dL_law_269 rfl (lv_at hl 0 rfl) ?_
  refine lv_iconst (v := 2) hx hb dL_law_270 (by decide) ?_
  refine lv_iadd hx hb dL_law_271 ?_
  refine lv_topi (fun z_271 e_271 => ?_)
  obtain rfl : z_271 = (2 : Int32) := e_271.trans (by decide)
  refine va_sld hx hb hX hbl hbA hS (show ¬ ((2 : Int32) < 0 ∨ 6 ≤ (2 : Int32).toNatClampNeg) by decide) dL_law_272 ?_
  refine W.eq (g2 := F0 m 273 ls (.int (xs 2) :: .int (xs 1) :: .ref m0 :: .int (-101) :: [])) rfl ?_
  have hPc := hP.sub (ws' := [(m0, .inr (12, [.ref mp, .int 0, .int 0, .int 0, .ref mw, .ref mh, .ref mo, .int 0, .int 0, .int 0, .int 0, .int 0, .int 0, .ref m5, .ref m6, .ref m7, .long 0, .int 0, .ref mk, .ref mn, .int 0, .ref mq, .ref m8, .ref m9, .int 0, .int 0, .int 0, .int 0, .ref ma, .int 0, .ref mb, .ref md, .long 0]))]) [7] rfl
  have hKc := hK.sub (tys' := []) [] rfl
  refine vp_callSi (W.runV (As := [.int (xs 1), .int (xs 2)]) (rest := [.int (-101)]) ⟨hx, hb, hml, hown, hg⟩ (m_chance l D m0 mp mw mh mo m5 m6 m7 mk mn mq m8 m9 ma mb md (xs 1) (xs 2)) (cwV 2 hg (gw_V kw_310 kw_311 kw_312 kw_210 kw_309) rfl rfl rfl (by decide +kernel) ⟨Nat.le_of_ble_eq_true rfl, Nat.le_of_ble_eq_true rfl⟩) (pr_SV (q := (RX12, TX12, 33)) 12 0 hKc hPc rfl rfl) rfl rfl hl.1 rfl (lv_room (Nat.le_of_ble_eq_true rfl)) dL_law_273 ⟨Nat.le_of_ble_eq_true rfl, Nat.le_of_ble_eq_true rfl⟩) (fun r_273 h_273 => ?_)
  obtain rfl : r_273 = ((-101) : Int32) := h_273
  refine lv_icmp_eq (tgt := 1101) hx hb dL_law_276 (by decide) (fun c_276 => ?_) (fun c_276 => absurd c_276 (by decide))
  exact law_end l C0 hS (lv_sub hl [0, 1, 2, 3] rfl) (Nat.le_of_ble_eq_true rfl) (Nat.le_of_ble_eq_true rfl)

theorem kw_313 : (.code yX11_cost cX11_cost 4 (some .int) : Cond) ∈ gw_tbl := gw_in (by decide +kernel) (by decide +kernel)
theorem kw_314 : (.methodLink RL 38 yX11_cost : Cond) ∈ gw_tbl := gw_in (by decide +kernel) (by decide +kernel)
theorem kw_315 : (.instanceMethod yX11_cost : Cond) ∈ gw_tbl := gw_in (by decide +kernel) (by decide +kernel)
theorem kw_316 : (.selects RX11 yX11_cost yX11_cost : Cond) ∈ gw_tbl := gw_in (by decide +kernel) (by decide +kernel)
theorem kw_317 : (.code yX12_cost cX12_cost 4 (some .int) : Cond) ∈ gw_tbl := gw_in (by decide +kernel) (by decide +kernel)
theorem kw_318 : (.methodLink RL 41 yX12_cost : Cond) ∈ gw_tbl := gw_in (by decide +kernel) (by decide +kernel)
theorem kw_319 : (.instanceMethod yX12_cost : Cond) ∈ gw_tbl := gw_in (by decide +kernel) (by decide +kernel)
theorem kw_320 : (.selects RX12 yX12_cost yX12_cost : Cond) ∈ gw_tbl := gw_in (by decide +kernel) (by decide +kernel)

set_option maxHeartbeats 4000000 in
set_option maxRecDepth 100000 in
theorem law_case_5 {p : Program} {e : Env} {s : State} {m : MethodId} {below : List Frame} {meth : Method} {c : Code} (l : Launch) {b : Nat} {xs : Nat → Int32} (C0 : lw_At p s m meth c b 6 xs) (hN : nw_C s) {D : va_G} (x0 : Nat) (pg : Nat) (rd : Nat) (aq : Nat) (py : Nat) (pl : Nat) (ch : Nat) (ro : Nat) (cd : Nat) (rw : Nat) (rc : Nat) (a1 : Nat) (a2 : Nat) (a3 : Nat) (a4 : Nat) (r1 : Nat) (r2 : Nat) (cI : ClassId) (cP : ClassId) (m0 : Nat) (mp : Nat) (mw : Nat) (mh : Nat) (mo : Nat) (m5 : Nat) (m6 : Nat) (m7 : Nat) (mk : Nat) (mn : Nat) (mq : Nat) (m8 : Nat) (m9 : Nat) (ma : Nat) (mb : Nat) (md : Nat) (cM : ClassId) (cK : ClassId) (cN : ClassId) {H : Heap} {locs : List Loc} (hK : va_K D vwCl [(cI, .int), (cP, .object RX3), (cM, .int), (cK, .int), (cN, .int)] s) (hP : va_P D vwCl [(x0, .inr (11, [.ref pg, .ref rd, .ref aq, .ref py, .ref pl, .ref ch, .ref ro, .int 0, .int 0])), (pg, .inr (2, [.ref cd, .int 0])), (cd, .inl (cI, 90, .inl (fun _ => 0))), (rd, .inr (7, [.ref rw, .ref rc, .int 0, .int 0, .int 0, .int 0, .int 0])), (aq, .inr (5, [.ref a1, .ref a2, .ref a3, .ref a4, .int 0, .int 0, .long 0])), (py, .inl (cP, 8, .inr (.inr (.inr (.inr (fun _ => none)))))), (ro, .inr (8, [.ref r1, .ref r2, .int 0])), (m0, .inr (12, [.ref mp, .int 0, .int 0, .int 0, .ref mw, .ref mh, .ref mo, .int 0, .int 0, .int 0, .int 0, .int 0, .int 0, .ref m5, .ref m6, .ref m7, .long 0, .int 0, .ref mk, .ref mn, .int 0, .ref mq, .ref m8, .ref m9, .int 0, .int 0, .int 0, .int 0, .ref ma, .int 0, .ref mb, .ref md, .long 0])), (mp, .inl (cM, 90, .inl (fun _ => 0))), (mk, .inl (cK, 8, .inl (fun _ => 0))), (mn, .inl (cN, 32, .inl (fun _ => 0)))] H) (hD : va_D (AA s) [(x0, .inr (11, [.ref pg, .ref rd, .ref aq, .ref py, .ref pl, .ref ch, .ref ro, .int 0, .int 0])), (pg, .inr (2, [.ref cd, .int 0])), (cd, .inl (cI, 90, .inl (fun _ => 0))), (rd, .inr (7, [.ref rw, .ref rc, .int 0, .int 0, .int 0, .int 0, .int 0])), (aq, .inr (5, [.ref a1, .ref a2, .ref a3, .ref a4, .int 0, .int 0, .long 0])), (py, .inl (cP, 8, .inr (.inr (.inr (.inr (fun _ => none)))))), (ro, .inr (8, [.ref r1, .ref r2, .int 0])), (m0, .inr (12, [.ref mp, .int 0, .int 0, .int 0, .ref mw, .ref mh, .ref mo, .int 0, .int 0, .int 0, .int 0, .int 0, .int 0, .ref m5, .ref m6, .ref m7, .long 0, .int 0, .ref mk, .ref mn, .int 0, .ref mq, .ref m8, .ref m9, .int 0, .int 0, .int 0, .int 0, .ref ma, .int 0, .ref mb, .ref md, .long 0])), (mp, .inl (cM, 90, .inl (fun _ => 0))), (mk, .inl (cK, 8, .inl (fun _ => 0))), (mn, .inl (cN, 32, .inl (fun _ => 0)))]) (hS : va_S (AA s) s.heap H locs) {ls : Array Slot} (hl : lv_has ls 4 [(3, .int 0), (2, .ref m0), (1, .ref x0), (0, .ref b)]) : W p l e room_1 s m #[Value.ref b] below meth c H locs 62 2530 (lw_Z below #[Value.ref b] s) (F0 m 281 ls []) := by
  obtain ⟨hx, hb, hr, hml, hown, hts, hX, hbl, hlocks, hgv⟩ := id C0
  have hg := fun (w : Cond) (h : w ∈ gw_tbl) => hts w (gw_lw h)
  have hown : s.vm.findClass RL = some m.cls := hown
  have hbA : ¬ AA s b := Nat.not_le.mpr hbl
  have hA : ∀ q : Nat, s.heap.size ≤ q → AA s q := fun _ h => h
  refine lv_aload_n hx hb dL_law_281 rfl (lv_at hl 2 rfl) ?_
  refine lv_aload_n hx hb dL_law_282 rfl (lv_at hl 3 rfl) ?_
  refine lv_iload_n hx hb dL_law_283 rfl (lv_at hl 0 rfl) ?_
  refine lv_iconst (v := 1) hx hb dL_law_284 (by decide) ?_
  refine lv_iadd hx hb dL_law_285 ?_
  refine lv_topi (fun z_285 e_285 => ?_)
  obtain rfl : z_285 = (1 : Int32) := e_285.trans (by decide)
  refine va_sld hx hb hX hbl hbA hS (show ¬ ((1 : Int32) < 0 ∨ 6 ≤ (1 : Int32).toNatClampNeg) by decide) dL_law_286 ?_
  refine W.eq (g2 := F0 m 287 ls (.int (xs 1) :: .ref x0 :: [])) rfl ?_
  refine lv_aload_n hx hb dL_law_287 rfl (lv_at hl 3 rfl) ?_
  refine lv_iload_n hx hb dL_law_288 rfl (lv_at hl 0 rfl) ?_
  refine lv_iconst (v := 2) hx hb dL_law_289 (by decide) ?_
  refine lv_iadd hx hb dL_law_290 ?_
  refine lv_topi (fun z_290 e_290 => ?_)
  obtain rfl : z_290 = (2 : Int32) := e_290.trans (by decide)
  refine va_sld hx hb hX hbl hbA hS (show ¬ ((2 : Int32) < 0 ∨ 6 ≤ (2 : Int32).toNatClampNeg) by decide) dL_law_291 ?_
  refine W.eq (g2 := F0 m 292 ls (.int (xs 2) :: .int (xs 1) :: .ref x0 :: [])) rfl ?_
  have hPc := hP.sub (ws' := [(x0, .inr (11, [.ref pg, .ref rd, .ref aq, .ref py, .ref pl, .ref ch, .ref ro, .int 0, .int 0])), (aq, .inr (5, [.ref a1, .ref a2, .ref a3, .ref a4, .int 0, .int 0, .long 0]))]) [0, 4] rfl
  have hKc := hK.sub (tys' := []) [] rfl
  refine vp_callSi (W.runV (As := [.int (xs 1), .int (xs 2)]) (rest := []) ⟨hx, hb, hml, hown, hg⟩ (x_cost l D x0 pg rd aq py pl ch ro a1 a2 a3 a4 (xs 1) (xs 2)) (cwV 2 hg (gw_V kw_314 kw_315 kw_316 kw_6 kw_313) rfl rfl rfl (by decide +kernel) ⟨Nat.le_of_ble_eq_true rfl, Nat.le_of_ble_eq_true rfl⟩) (pr_SV (q := (RX11, TX11, 9)) 11 0 hKc hPc rfl rfl) rfl rfl hl.1 rfl (lv_room (Nat.le_of_ble_eq_true rfl)) dL_law_292 ⟨Nat.le_of_ble_eq_true rfl, Nat.le_of_ble_eq_true rfl⟩) (fun r_292 h_292 => ?_)
  obtain rfl : r_292 = ((-101) : Int32) := h_292
  refine lv_aload_n hx hb dL_law_295 rfl (lv_at hl 1 rfl) ?_
  refine lv_aload_n hx hb dL_law_296 rfl (lv_at hl 3 rfl) ?_
  refine lv_iload_n hx hb dL_law_297 rfl (lv_at hl 0 rfl) ?_
  refine lv_iconst (v := 1) hx hb dL_law_298 (by decide) ?_
  refine lv_iadd hx hb dL_law_299 ?_
  refine lv_topi (fun z_299 e_299 => ?_)
  obtain rfl : z_299 = (1 : Int32) := e_299.trans (by decide)
  refine va_sld hx hb hX hbl hbA hS (show ¬ ((1 : Int32) < 0 ∨ 6 ≤ (1 : Int32).toNatClampNeg) by decide) dL_law_300 ?_
  refine W.eq (g2 := F0 m 301 ls (.int (xs 1) :: .ref m0 :: .int (-101) :: [])) rfl ?_
  refine lv_aload_n hx hb dL_law_301 rfl (lv_at hl 3 rfl) ?_
  refine lv_iload_n hx hb dL_law_302 rfl (lv_at hl 0 rfl) ?_
  refine lv_iconst (v := 2) hx hb dL_law_303 (by decide) ?_
  refine lv_iadd hx hb dL_law_304 ?_
  refine lv_topi (fun z_304 e_304 => ?_)
  obtain rfl : z_304 = (2 : Int32) := e_304.trans (by decide)
  refine va_sld hx hb hX hbl hbA hS (show ¬ ((2 : Int32) < 0 ∨ 6 ≤ (2 : Int32).toNatClampNeg) by decide) dL_law_305 ?_
  refine W.eq (g2 := F0 m 306 ls (.int (xs 2) :: .int (xs 1) :: .ref m0 :: .int (-101) :: [])) rfl ?_
  have hPc := hP.sub (ws' := [(m0, .inr (12, [.ref mp, .int 0, .int 0, .int 0, .ref mw, .ref mh, .ref mo, .int 0, .int 0, .int 0, .int 0, .int 0, .int 0, .ref m5, .ref m6, .ref m7, .long 0, .int 0, .ref mk, .ref mn, .int 0, .ref mq, .ref m8, .ref m9, .int 0, .int 0, .int 0, .int 0, .ref ma, .int 0, .ref mb, .ref md, .long 0]))]) [7] rfl
  have hKc := hK.sub (tys' := []) [] rfl
  refine vp_callSi (W.runV (As := [.int (xs 1), .int (xs 2)]) (rest := [.int (-101)]) ⟨hx, hb, hml, hown, hg⟩ (m_cost l D m0 mp mw mh mo m5 m6 m7 mk mn mq m8 m9 ma mb md (xs 1) (xs 2)) (cwV 2 hg (gw_V kw_318 kw_319 kw_320 kw_210 kw_317) rfl rfl rfl (by decide +kernel) ⟨Nat.le_of_ble_eq_true rfl, Nat.le_of_ble_eq_true rfl⟩) (pr_SV (q := (RX12, TX12, 33)) 12 0 hKc hPc rfl rfl) rfl rfl hl.1 rfl (lv_room (Nat.le_of_ble_eq_true rfl)) dL_law_306 ⟨Nat.le_of_ble_eq_true rfl, Nat.le_of_ble_eq_true rfl⟩) (fun r_306 h_306 => ?_)
  obtain rfl : r_306 = ((-101) : Int32) := h_306
  refine lv_icmp_eq (tgt := 1101) hx hb dL_law_309 (by decide) (fun c_309 => ?_) (fun c_309 => absurd c_309 (by decide))
  exact law_end l C0 hS (lv_sub hl [0, 1, 2, 3] rfl) (Nat.le_of_ble_eq_true rfl) (Nat.le_of_ble_eq_true rfl)

theorem kw_321 : (.code yX11_thinks cX11_thinks 7 (some .long) : Cond) ∈ gw_tbl := gw_in (by decide +kernel) (by decide +kernel)
theorem kw_322 : (.methodLink RL 42 yX11_thinks : Cond) ∈ gw_tbl := gw_in (by decide +kernel) (by decide +kernel)
theorem kw_323 : (.instanceMethod yX11_thinks : Cond) ∈ gw_tbl := gw_in (by decide +kernel) (by decide +kernel)
theorem kw_324 : (.selects RX11 yX11_thinks yX11_thinks : Cond) ∈ gw_tbl := gw_in (by decide +kernel) (by decide +kernel)
theorem kw_325 : (.code yX12_thinks cX12_thinks 10 (some .long) : Cond) ∈ gw_tbl := gw_in (by decide +kernel) (by decide +kernel)
theorem kw_326 : (.methodLink RL 46 yX12_thinks : Cond) ∈ gw_tbl := gw_in (by decide +kernel) (by decide +kernel)
theorem kw_327 : (.instanceMethod yX12_thinks : Cond) ∈ gw_tbl := gw_in (by decide +kernel) (by decide +kernel)
theorem kw_328 : (.selects RX12 yX12_thinks yX12_thinks : Cond) ∈ gw_tbl := gw_in (by decide +kernel) (by decide +kernel)

set_option maxHeartbeats 4000000 in
set_option maxRecDepth 100000 in
theorem law_case_6 {p : Program} {e : Env} {s : State} {m : MethodId} {below : List Frame} {meth : Method} {c : Code} (l : Launch) {b : Nat} {xs : Nat → Int32} (C0 : lw_At p s m meth c b 6 xs) (hN : nw_C s) {D : va_G} (x0 : Nat) (pg : Nat) (rd : Nat) (aq : Nat) (py : Nat) (pl : Nat) (ch : Nat) (ro : Nat) (cd : Nat) (rw : Nat) (rc : Nat) (a1 : Nat) (a2 : Nat) (a3 : Nat) (a4 : Nat) (r1 : Nat) (r2 : Nat) (cI : ClassId) (cP : ClassId) (m0 : Nat) (mp : Nat) (mw : Nat) (mh : Nat) (mo : Nat) (m5 : Nat) (m6 : Nat) (m7 : Nat) (mk : Nat) (mn : Nat) (mq : Nat) (m8 : Nat) (m9 : Nat) (ma : Nat) (mb : Nat) (md : Nat) (cM : ClassId) (cK : ClassId) (cN : ClassId) {H : Heap} {locs : List Loc} (hK : va_K D vwCl [(cI, .int), (cP, .object RX3), (cM, .int), (cK, .int), (cN, .int)] s) (hP : va_P D vwCl [(x0, .inr (11, [.ref pg, .ref rd, .ref aq, .ref py, .ref pl, .ref ch, .ref ro, .int 0, .int 0])), (pg, .inr (2, [.ref cd, .int 0])), (cd, .inl (cI, 90, .inl (fun _ => 0))), (rd, .inr (7, [.ref rw, .ref rc, .int 0, .int 0, .int 0, .int 0, .int 0])), (aq, .inr (5, [.ref a1, .ref a2, .ref a3, .ref a4, .int 0, .int 0, .long 0])), (py, .inl (cP, 8, .inr (.inr (.inr (.inr (fun _ => none)))))), (ro, .inr (8, [.ref r1, .ref r2, .int 0])), (m0, .inr (12, [.ref mp, .int 0, .int 0, .int 0, .ref mw, .ref mh, .ref mo, .int 0, .int 0, .int 0, .int 0, .int 0, .int 0, .ref m5, .ref m6, .ref m7, .long 0, .int 0, .ref mk, .ref mn, .int 0, .ref mq, .ref m8, .ref m9, .int 0, .int 0, .int 0, .int 0, .ref ma, .int 0, .ref mb, .ref md, .long 0])), (mp, .inl (cM, 90, .inl (fun _ => 0))), (mk, .inl (cK, 8, .inl (fun _ => 0))), (mn, .inl (cN, 32, .inl (fun _ => 0)))] H) (hD : va_D (AA s) [(x0, .inr (11, [.ref pg, .ref rd, .ref aq, .ref py, .ref pl, .ref ch, .ref ro, .int 0, .int 0])), (pg, .inr (2, [.ref cd, .int 0])), (cd, .inl (cI, 90, .inl (fun _ => 0))), (rd, .inr (7, [.ref rw, .ref rc, .int 0, .int 0, .int 0, .int 0, .int 0])), (aq, .inr (5, [.ref a1, .ref a2, .ref a3, .ref a4, .int 0, .int 0, .long 0])), (py, .inl (cP, 8, .inr (.inr (.inr (.inr (fun _ => none)))))), (ro, .inr (8, [.ref r1, .ref r2, .int 0])), (m0, .inr (12, [.ref mp, .int 0, .int 0, .int 0, .ref mw, .ref mh, .ref mo, .int 0, .int 0, .int 0, .int 0, .int 0, .int 0, .ref m5, .ref m6, .ref m7, .long 0, .int 0, .ref mk, .ref mn, .int 0, .ref mq, .ref m8, .ref m9, .int 0, .int 0, .int 0, .int 0, .ref ma, .int 0, .ref mb, .ref md, .long 0])), (mp, .inl (cM, 90, .inl (fun _ => 0))), (mk, .inl (cK, 8, .inl (fun _ => 0))), (mn, .inl (cN, 32, .inl (fun _ => 0)))]) (hS : va_S (AA s) s.heap H locs) {ls : Array Slot} (hl : lv_has ls 4 [(3, .int 0), (2, .ref m0), (1, .ref x0), (0, .ref b)]) : W p l e room_1 s m #[Value.ref b] below meth c H locs 62 2530 (lw_Z below #[Value.ref b] s) (F0 m 314 ls []) := by
  obtain ⟨hx, hb, hr, hml, hown, hts, hX, hbl, hlocks, hgv⟩ := id C0
  have hg := fun (w : Cond) (h : w ∈ gw_tbl) => hts w (gw_lw h)
  have hown : s.vm.findClass RL = some m.cls := hown
  have hbA : ¬ AA s b := Nat.not_le.mpr hbl
  have hA : ∀ q : Nat, s.heap.size ≤ q → AA s q := fun _ h => h
  refine lv_aload_n hx hb dL_law_314 rfl (lv_at hl 2 rfl) ?_
  refine lv_aload_n hx hb dL_law_315 rfl (lv_at hl 3 rfl) ?_
  refine lv_iload_n hx hb dL_law_316 rfl (lv_at hl 0 rfl) ?_
  refine lv_iconst (v := 1) hx hb dL_law_317 (by decide) ?_
  refine lv_iadd hx hb dL_law_318 ?_
  refine lv_topi (fun z_318 e_318 => ?_)
  obtain rfl : z_318 = (1 : Int32) := e_318.trans (by decide)
  refine va_sld hx hb hX hbl hbA hS (show ¬ ((1 : Int32) < 0 ∨ 6 ≤ (1 : Int32).toNatClampNeg) by decide) dL_law_319 ?_
  refine W.eq (g2 := F0 m 320 ls (.int (xs 1) :: .ref x0 :: [])) rfl ?_
  refine lv_aload_n hx hb dL_law_320 rfl (lv_at hl 3 rfl) ?_
  refine lv_iload_n hx hb dL_law_321 rfl (lv_at hl 0 rfl) ?_
  refine lv_iconst (v := 2) hx hb dL_law_322 (by decide) ?_
  refine lv_iadd hx hb dL_law_323 ?_
  refine lv_topi (fun z_323 e_323 => ?_)
  obtain rfl : z_323 = (2 : Int32) := e_323.trans (by decide)
  refine va_sld hx hb hX hbl hbA hS (show ¬ ((2 : Int32) < 0 ∨ 6 ≤ (2 : Int32).toNatClampNeg) by decide) dL_law_324 ?_
  refine W.eq (g2 := F0 m 325 ls (.int (xs 2) :: .int (xs 1) :: .ref x0 :: [])) rfl ?_
  refine lv_aload_n hx hb dL_law_325 rfl (lv_at hl 3 rfl) ?_
  refine lv_iload_n hx hb dL_law_326 rfl (lv_at hl 0 rfl) ?_
  refine lv_iconst (v := 3) hx hb dL_law_327 (by decide) ?_
  refine lv_iadd hx hb dL_law_328 ?_
  refine lv_topi (fun z_328 e_328 => ?_)
  obtain rfl : z_328 = (3 : Int32) := e_328.trans (by decide)
  refine va_sld hx hb hX hbl hbA hS (show ¬ ((3 : Int32) < 0 ∨ 6 ≤ (3 : Int32).toNatClampNeg) by decide) dL_law_329 ?_
  refine W.eq (g2 := F0 m 330 ls (.int (xs 3) :: .int (xs 2) :: .int (xs 1) :: .ref x0 :: [])) rfl ?_
  refine lv_aload_n hx hb dL_law_330 rfl (lv_at hl 3 rfl) ?_
  refine lv_iload_n hx hb dL_law_331 rfl (lv_at hl 0 rfl) ?_
  refine lv_iconst (v := 4) hx hb dL_law_332 (by decide) ?_
  refine lv_iadd hx hb dL_law_333 ?_
  refine lv_topi (fun z_333 e_333 => ?_)
  obtain rfl : z_333 = (4 : Int32) := e_333.trans (by decide)
  refine va_sld hx hb hX hbl hbA hS (show ¬ ((4 : Int32) < 0 ∨ 6 ≤ (4 : Int32).toNatClampNeg) by decide) dL_law_334 ?_
  refine W.eq (g2 := F0 m 335 ls (.int (xs 4) :: .int (xs 3) :: .int (xs 2) :: .int (xs 1) :: .ref x0 :: [])) rfl ?_
  have hPc := hP.sub (ws' := [(x0, .inr (11, [.ref pg, .ref rd, .ref aq, .ref py, .ref pl, .ref ch, .ref ro, .int 0, .int 0])), (aq, .inr (5, [.ref a1, .ref a2, .ref a3, .ref a4, .int 0, .int 0, .long 0]))]) [0, 4] rfl
  have hKc := hK.sub (tys' := []) [] rfl
  refine vp_callSl (W.runV (As := [.int (xs 1), .int (xs 2), .int (xs 3), .int (xs 4)]) (rest := []) ⟨hx, hb, hml, hown, hg⟩ (x_thinks l D x0 pg rd aq py pl ch ro a1 a2 a3 a4 (xs 1) (xs 2) (xs 3) (xs 4)) (cwV 4 hg (gw_V kw_322 kw_323 kw_324 kw_6 kw_321) rfl rfl rfl (by decide +kernel) ⟨Nat.le_of_ble_eq_true rfl, Nat.le_of_ble_eq_true rfl⟩) (pr_SV (q := (RX11, TX11, 9)) 11 0 hKc hPc rfl rfl) rfl rfl hl.1 rfl (lv_room (Nat.le_of_ble_eq_true rfl)) dL_law_335 ⟨Nat.le_of_ble_eq_true rfl, Nat.le_of_ble_eq_true rfl⟩) (fun r_335 h_335 => ?_)
  obtain rfl : r_335 = ((-101) : Int64) := h_335
  refine lv_aload_n hx hb dL_law_338 rfl (lv_at hl 1 rfl) ?_
  refine lv_aload_n hx hb dL_law_339 rfl (lv_at hl 3 rfl) ?_
  refine lv_iload_n hx hb dL_law_340 rfl (lv_at hl 0 rfl) ?_
  refine lv_iconst (v := 1) hx hb dL_law_341 (by decide) ?_
  refine lv_iadd hx hb dL_law_342 ?_
  refine lv_topi (fun z_342 e_342 => ?_)
  obtain rfl : z_342 = (1 : Int32) := e_342.trans (by decide)
  refine va_sld hx hb hX hbl hbA hS (show ¬ ((1 : Int32) < 0 ∨ 6 ≤ (1 : Int32).toNatClampNeg) by decide) dL_law_343 ?_
  refine W.eq (g2 := F0 m 344 ls (.int (xs 1) :: .ref m0 :: .long (-101) :: [])) rfl ?_
  refine lv_aload_n hx hb dL_law_344 rfl (lv_at hl 3 rfl) ?_
  refine lv_iload_n hx hb dL_law_345 rfl (lv_at hl 0 rfl) ?_
  refine lv_iconst (v := 2) hx hb dL_law_346 (by decide) ?_
  refine lv_iadd hx hb dL_law_347 ?_
  refine lv_topi (fun z_347 e_347 => ?_)
  obtain rfl : z_347 = (2 : Int32) := e_347.trans (by decide)
  refine va_sld hx hb hX hbl hbA hS (show ¬ ((2 : Int32) < 0 ∨ 6 ≤ (2 : Int32).toNatClampNeg) by decide) dL_law_348 ?_
  refine W.eq (g2 := F0 m 349 ls (.int (xs 2) :: .int (xs 1) :: .ref m0 :: .long (-101) :: [])) rfl ?_
  refine lv_aload_n hx hb dL_law_349 rfl (lv_at hl 3 rfl) ?_
  refine lv_iload_n hx hb dL_law_350 rfl (lv_at hl 0 rfl) ?_
  refine lv_iconst (v := 3) hx hb dL_law_351 (by decide) ?_
  refine lv_iadd hx hb dL_law_352 ?_
  refine lv_topi (fun z_352 e_352 => ?_)
  obtain rfl : z_352 = (3 : Int32) := e_352.trans (by decide)
  refine va_sld hx hb hX hbl hbA hS (show ¬ ((3 : Int32) < 0 ∨ 6 ≤ (3 : Int32).toNatClampNeg) by decide) dL_law_353 ?_
  refine W.eq (g2 := F0 m 354 ls (.int (xs 3) :: .int (xs 2) :: .int (xs 1) :: .ref m0 :: .long (-101) :: [])) rfl ?_
  refine lv_aload_n hx hb dL_law_354 rfl (lv_at hl 3 rfl) ?_
  refine lv_iload_n hx hb dL_law_355 rfl (lv_at hl 0 rfl) ?_
  refine lv_iconst (v := 4) hx hb dL_law_356 (by decide) ?_
  refine lv_iadd hx hb dL_law_357 ?_
  refine lv_topi (fun z_357 e_357 => ?_)
  obtain rfl : z_357 = (4 : Int32) := e_357.trans (by decide)
  refine va_sld hx hb hX hbl hbA hS (show ¬ ((4 : Int32) < 0 ∨ 6 ≤ (4 : Int32).toNatClampNeg) by decide) dL_law_358 ?_
  refine W.eq (g2 := F0 m 359 ls (.int (xs 4) :: .int (xs 3) :: .int (xs 2) :: .int (xs 1) :: .ref m0 :: .long (-101) :: [])) rfl ?_
  have hPc := hP.sub (ws' := [(m0, .inr (12, [.ref mp, .int 0, .int 0, .int 0, .ref mw, .ref mh, .ref mo, .int 0, .int 0, .int 0, .int 0, .int 0, .int 0, .ref m5, .ref m6, .ref m7, .long 0, .int 0, .ref mk, .ref mn, .int 0, .ref mq, .ref m8, .ref m9, .int 0, .int 0, .int 0, .int 0, .ref ma, .int 0, .ref mb, .ref md, .long 0]))]) [7] rfl
  have hKc := hK.sub (tys' := []) [] rfl
  refine vp_callSl (W.runV (As := [.int (xs 1), .int (xs 2), .int (xs 3), .int (xs 4)]) (rest := [.long (-101)]) ⟨hx, hb, hml, hown, hg⟩ (m_thinks l D m0 mp mw mh mo m5 m6 m7 mk mn mq m8 m9 ma mb md (xs 1) (xs 2) (xs 3) (xs 4)) (cwV 4 hg (gw_V kw_326 kw_327 kw_328 kw_210 kw_325) rfl rfl rfl (by decide +kernel) ⟨Nat.le_of_ble_eq_true rfl, Nat.le_of_ble_eq_true rfl⟩) (pr_SV (q := (RX12, TX12, 33)) 12 0 hKc hPc rfl rfl) rfl rfl hl.1 rfl (lv_room (Nat.le_of_ble_eq_true rfl)) dL_law_359 ⟨Nat.le_of_ble_eq_true rfl, Nat.le_of_ble_eq_true rfl⟩) (fun r_359 h_359 => ?_)
  obtain rfl : r_359 = ((-101) : Int64) := h_359
  refine W.lcmp hx hb dL_law_362 ?_
  refine lv_topi (fun z_362 e_362 => ?_)
  obtain rfl : z_362 = (0 : Int32) := e_362.trans (by decide)
  refine lv_if_eq (tgt := 1101) hx hb dL_law_363 (by decide) (fun c_363 => ?_) (fun c_363 => absurd c_363 (by decide))
  exact law_end l C0 hS (lv_sub hl [0, 1, 2, 3] rfl) (Nat.le_of_ble_eq_true rfl) (Nat.le_of_ble_eq_true rfl)

theorem kw_329 : (.code yX11_pay cX11_pay 7 (some .int) : Cond) ∈ gw_tbl := gw_in (by decide +kernel) (by decide +kernel)
theorem kw_330 : (.methodLink RL 47 yX11_pay : Cond) ∈ gw_tbl := gw_in (by decide +kernel) (by decide +kernel)
theorem kw_331 : (.instanceMethod yX11_pay : Cond) ∈ gw_tbl := gw_in (by decide +kernel) (by decide +kernel)
theorem kw_332 : (.selects RX11 yX11_pay yX11_pay : Cond) ∈ gw_tbl := gw_in (by decide +kernel) (by decide +kernel)
theorem kw_333 : (.code yX12_pay cX12_pay 7 (some .int) : Cond) ∈ gw_tbl := gw_in (by decide +kernel) (by decide +kernel)
theorem kw_334 : (.methodLink RL 51 yX12_pay : Cond) ∈ gw_tbl := gw_in (by decide +kernel) (by decide +kernel)
theorem kw_335 : (.instanceMethod yX12_pay : Cond) ∈ gw_tbl := gw_in (by decide +kernel) (by decide +kernel)
theorem kw_336 : (.selects RX12 yX12_pay yX12_pay : Cond) ∈ gw_tbl := gw_in (by decide +kernel) (by decide +kernel)

set_option maxHeartbeats 4000000 in
set_option maxRecDepth 100000 in
theorem law_case_7 {p : Program} {e : Env} {s : State} {m : MethodId} {below : List Frame} {meth : Method} {c : Code} (l : Launch) {b : Nat} {xs : Nat → Int32} (C0 : lw_At p s m meth c b 6 xs) (hN : nw_C s) {D : va_G} (x0 : Nat) (pg : Nat) (rd : Nat) (aq : Nat) (py : Nat) (pl : Nat) (ch : Nat) (ro : Nat) (cd : Nat) (rw : Nat) (rc : Nat) (a1 : Nat) (a2 : Nat) (a3 : Nat) (a4 : Nat) (r1 : Nat) (r2 : Nat) (cI : ClassId) (cP : ClassId) (m0 : Nat) (mp : Nat) (mw : Nat) (mh : Nat) (mo : Nat) (m5 : Nat) (m6 : Nat) (m7 : Nat) (mk : Nat) (mn : Nat) (mq : Nat) (m8 : Nat) (m9 : Nat) (ma : Nat) (mb : Nat) (md : Nat) (cM : ClassId) (cK : ClassId) (cN : ClassId) {H : Heap} {locs : List Loc} (hK : va_K D vwCl [(cI, .int), (cP, .object RX3), (cM, .int), (cK, .int), (cN, .int)] s) (hP : va_P D vwCl [(x0, .inr (11, [.ref pg, .ref rd, .ref aq, .ref py, .ref pl, .ref ch, .ref ro, .int 0, .int 0])), (pg, .inr (2, [.ref cd, .int 0])), (cd, .inl (cI, 90, .inl (fun _ => 0))), (rd, .inr (7, [.ref rw, .ref rc, .int 0, .int 0, .int 0, .int 0, .int 0])), (aq, .inr (5, [.ref a1, .ref a2, .ref a3, .ref a4, .int 0, .int 0, .long 0])), (py, .inl (cP, 8, .inr (.inr (.inr (.inr (fun _ => none)))))), (ro, .inr (8, [.ref r1, .ref r2, .int 0])), (m0, .inr (12, [.ref mp, .int 0, .int 0, .int 0, .ref mw, .ref mh, .ref mo, .int 0, .int 0, .int 0, .int 0, .int 0, .int 0, .ref m5, .ref m6, .ref m7, .long 0, .int 0, .ref mk, .ref mn, .int 0, .ref mq, .ref m8, .ref m9, .int 0, .int 0, .int 0, .int 0, .ref ma, .int 0, .ref mb, .ref md, .long 0])), (mp, .inl (cM, 90, .inl (fun _ => 0))), (mk, .inl (cK, 8, .inl (fun _ => 0))), (mn, .inl (cN, 32, .inl (fun _ => 0)))] H) (hD : va_D (AA s) [(x0, .inr (11, [.ref pg, .ref rd, .ref aq, .ref py, .ref pl, .ref ch, .ref ro, .int 0, .int 0])), (pg, .inr (2, [.ref cd, .int 0])), (cd, .inl (cI, 90, .inl (fun _ => 0))), (rd, .inr (7, [.ref rw, .ref rc, .int 0, .int 0, .int 0, .int 0, .int 0])), (aq, .inr (5, [.ref a1, .ref a2, .ref a3, .ref a4, .int 0, .int 0, .long 0])), (py, .inl (cP, 8, .inr (.inr (.inr (.inr (fun _ => none)))))), (ro, .inr (8, [.ref r1, .ref r2, .int 0])), (m0, .inr (12, [.ref mp, .int 0, .int 0, .int 0, .ref mw, .ref mh, .ref mo, .int 0, .int 0, .int 0, .int 0, .int 0, .int 0, .ref m5, .ref m6, .ref m7, .long 0, .int 0, .ref mk, .ref mn, .int 0, .ref mq, .ref m8, .ref m9, .int 0, .int 0, .int 0, .int 0, .ref ma, .int 0, .ref mb, .ref md, .long 0])), (mp, .inl (cM, 90, .inl (fun _ => 0))), (mk, .inl (cK, 8, .inl (fun _ => 0))), (mn, .inl (cN, 32, .inl (fun _ => 0)))]) (hS : va_S (AA s) s.heap H locs) {ls : Array Slot} (hl : lv_has ls 4 [(3, .int 0), (2, .ref m0), (1, .ref x0), (0, .ref b)]) : W p l e room_1 s m #[Value.ref b] below meth c H locs 62 2530 (lw_Z below #[Value.ref b] s) (F0 m 368 ls []) := by
  obtain ⟨hx, hb, hr, hml, hown, hts, hX, hbl, hlocks, hgv⟩ := id C0
  have hg := fun (w : Cond) (h : w ∈ gw_tbl) => hts w (gw_lw h)
  have hown : s.vm.findClass RL = some m.cls := hown
  have hbA : ¬ AA s b := Nat.not_le.mpr hbl
  have hA : ∀ q : Nat, s.heap.size ≤ q → AA s q := fun _ h => h
  refine lv_aload_n hx hb dL_law_368 rfl (lv_at hl 2 rfl) ?_
  refine lv_aload_n hx hb dL_law_369 rfl (lv_at hl 3 rfl) ?_
  refine lv_iload_n hx hb dL_law_370 rfl (lv_at hl 0 rfl) ?_
  refine lv_iconst (v := 1) hx hb dL_law_371 (by decide) ?_
  refine lv_iadd hx hb dL_law_372 ?_
  refine lv_topi (fun z_372 e_372 => ?_)
  obtain rfl : z_372 = (1 : Int32) := e_372.trans (by decide)
  refine va_sld hx hb hX hbl hbA hS (show ¬ ((1 : Int32) < 0 ∨ 6 ≤ (1 : Int32).toNatClampNeg) by decide) dL_law_373 ?_
  refine W.eq (g2 := F0 m 374 ls (.int (xs 1) :: .ref x0 :: [])) rfl ?_
  refine lv_aload_n hx hb dL_law_374 rfl (lv_at hl 3 rfl) ?_
  refine lv_iload_n hx hb dL_law_375 rfl (lv_at hl 0 rfl) ?_
  refine lv_iconst (v := 2) hx hb dL_law_376 (by decide) ?_
  refine lv_iadd hx hb dL_law_377 ?_
  refine lv_topi (fun z_377 e_377 => ?_)
  obtain rfl : z_377 = (2 : Int32) := e_377.trans (by decide)
  refine va_sld hx hb hX hbl hbA hS (show ¬ ((2 : Int32) < 0 ∨ 6 ≤ (2 : Int32).toNatClampNeg) by decide) dL_law_378 ?_
  refine W.eq (g2 := F0 m 379 ls (.int (xs 2) :: .int (xs 1) :: .ref x0 :: [])) rfl ?_
  refine lv_aload_n hx hb dL_law_379 rfl (lv_at hl 3 rfl) ?_
  refine lv_iload_n hx hb dL_law_380 rfl (lv_at hl 0 rfl) ?_
  refine lv_iconst (v := 3) hx hb dL_law_381 (by decide) ?_
  refine lv_iadd hx hb dL_law_382 ?_
  refine lv_topi (fun z_382 e_382 => ?_)
  obtain rfl : z_382 = (3 : Int32) := e_382.trans (by decide)
  refine va_sld hx hb hX hbl hbA hS (show ¬ ((3 : Int32) < 0 ∨ 6 ≤ (3 : Int32).toNatClampNeg) by decide) dL_law_383 ?_
  refine W.eq (g2 := F0 m 384 ls (.int (xs 3) :: .int (xs 2) :: .int (xs 1) :: .ref x0 :: [])) rfl ?_
  refine lv_aload_n hx hb dL_law_384 rfl (lv_at hl 3 rfl) ?_
  refine lv_iload_n hx hb dL_law_385 rfl (lv_at hl 0 rfl) ?_
  refine lv_iconst (v := 4) hx hb dL_law_386 (by decide) ?_
  refine lv_iadd hx hb dL_law_387 ?_
  refine lv_topi (fun z_387 e_387 => ?_)
  obtain rfl : z_387 = (4 : Int32) := e_387.trans (by decide)
  refine va_sld hx hb hX hbl hbA hS (show ¬ ((4 : Int32) < 0 ∨ 6 ≤ (4 : Int32).toNatClampNeg) by decide) dL_law_388 ?_
  refine W.eq (g2 := F0 m 389 ls (.int (xs 4) :: .int (xs 3) :: .int (xs 2) :: .int (xs 1) :: .ref x0 :: [])) rfl ?_
  refine lv_aload_n hx hb dL_law_389 rfl (lv_at hl 3 rfl) ?_
  refine lv_iload_n hx hb dL_law_390 rfl (lv_at hl 0 rfl) ?_
  refine lv_iconst (v := 5) hx hb dL_law_391 (by decide) ?_
  refine lv_iadd hx hb dL_law_392 ?_
  refine lv_topi (fun z_392 e_392 => ?_)
  obtain rfl : z_392 = (5 : Int32) := e_392.trans (by decide)
  refine va_sld hx hb hX hbl hbA hS (show ¬ ((5 : Int32) < 0 ∨ 6 ≤ (5 : Int32).toNatClampNeg) by decide) dL_law_393 ?_
  refine W.eq (g2 := F0 m 394 ls (.int (xs 5) :: .int (xs 4) :: .int (xs 3) :: .int (xs 2) :: .int (xs 1) :: .ref x0 :: [])) rfl ?_
  have hPc := hP.sub (ws' := [(x0, .inr (11, [.ref pg, .ref rd, .ref aq, .ref py, .ref pl, .ref ch, .ref ro, .int 0, .int 0])), (py, .inl (cP, 8, .inr (.inr (.inr (.inr (fun _ => none))))))]) [0, 5] rfl
  have hKc := hK.sub (tys' := [(cP, .object RX3)]) [1] rfl
  have hDc := hD.sub (ws' := [(x0, .inr (11, [.ref pg, .ref rd, .ref aq, .ref py, .ref pl, .ref ch, .ref ro, .int 0, .int 0])), (py, .inl (cP, 8, .inr (.inr (.inr (.inr (fun _ => none))))))]) [0, 5] (by decide) rfl
  have hFc := va_free (wc := [(x0, .inr (11, [.ref pg, .ref rd, .ref aq, .ref py, .ref pl, .ref ch, .ref ro, .int 0, .int 0])), (py, .inl (cP, 8, .inr (.inr (.inr (.inr (fun _ => none))))))]) hD hS hA [0, 5] rfl
  refine va_calli (va_runV (As := [.int (xs 1), .int (xs 2), .int (xs 3), .int (xs 4), .int (xs 5)]) (rest := []) ⟨hx, hb, hml, hown, hg⟩ (x_pay l D x0 pg rd aq py pl ch ro cP (xs 1) (xs 2) (xs 3) (xs 4) (xs 5) _) (cwV 5 hg (gw_V kw_330 kw_331 kw_332 kw_6 kw_329) rfl rfl rfl (by decide +kernel) ⟨Nat.le_of_ble_eq_true rfl, Nat.le_of_ble_eq_true rfl⟩) (pr_CV (q := (RX11, TX11, 9)) 11 0 hKc hPc hDc hN rfl rfl) rfl rfl hl.1 rfl (lv_room (Nat.le_of_ble_eq_true rfl)) dL_law_394 ⟨Nat.le_of_ble_eq_true rfl, Nat.le_of_ble_eq_true rfl⟩) hS (fun q _ h => hFc q h) hFc (fun r_394 u t H1 locs ht hvm h_394 hB hz1 hk1 hS => ?_)
  have hP1 := p_nil (D := D) (H := H1)
  have hK1 := hK.sub (tys' := []) [] rfl
  obtain ⟨hP, hD⟩ := va_join (wr := [(pg, .inr (2, [.ref cd, .int 0])), (cd, .inl (cI, 90, .inl (fun _ => 0))), (rd, .inr (7, [.ref rw, .ref rc, .int 0, .int 0, .int 0, .int 0, .int 0])), (aq, .inr (5, [.ref a1, .ref a2, .ref a3, .ref a4, .int 0, .int 0, .long 0])), (ro, .inr (8, [.ref r1, .ref r2, .int 0])), (m0, .inr (12, [.ref mp, .int 0, .int 0, .int 0, .ref mw, .ref mh, .ref mo, .int 0, .int 0, .int 0, .int 0, .int 0, .int 0, .ref m5, .ref m6, .ref m7, .long 0, .int 0, .ref mk, .ref mn, .int 0, .ref mq, .ref m8, .ref m9, .int 0, .int 0, .int 0, .int 0, .ref ma, .int 0, .ref mb, .ref md, .long 0])), (mp, .inl (cM, 90, .inl (fun _ => 0))), (mk, .inl (cK, 8, .inl (fun _ => 0))), (mn, .inl (cN, 32, .inl (fun _ => 0)))]) (w1 := []) hP hD [0, 5] [1, 2, 3, 4, 6, 7, 8, 9, 10] rfl rfl (by decide) (by decide) hk1 hFc hP1 d_nil
  have hK := hK.app hK1
  generalize H1 = H at hP hS ⊢
  have hP : va_P D vwCl [(pg, .inr (2, [.ref cd, .int 0])), (cd, .inl (cI, 90, .inl (fun _ => 0))), (rd, .inr (7, [.ref rw, .ref rc, .int 0, .int 0, .int 0, .int 0, .int 0])), (aq, .inr (5, [.ref a1, .ref a2, .ref a3, .ref a4, .int 0, .int 0, .long 0])), (ro, .inr (8, [.ref r1, .ref r2, .int 0])), (m0, .inr (12, [.ref mp, .int 0, .int 0, .int 0, .ref mw, .ref mh, .ref mo, .int 0, .int 0, .int 0, .int 0, .int 0, .int 0, .ref m5, .ref m6, .ref m7, .long 0, .int 0, .ref mk, .ref mn, .int 0, .ref mq, .ref m8, .ref m9, .int 0, .int 0, .int 0, .int 0, .ref ma, .int 0, .ref mb, .ref md, .long 0])), (mp, .inl (cM, 90, .inl (fun _ => 0))), (mk, .inl (cK, 8, .inl (fun _ => 0))), (mn, .inl (cN, 32, .inl (fun _ => 0)))] H := hP
  have hD : va_D (AA s) [(pg, .inr (2, [.ref cd, .int 0])), (cd, .inl (cI, 90, .inl (fun _ => 0))), (rd, .inr (7, [.ref rw, .ref rc, .int 0, .int 0, .int 0, .int 0, .int 0])), (aq, .inr (5, [.ref a1, .ref a2, .ref a3, .ref a4, .int 0, .int 0, .long 0])), (ro, .inr (8, [.ref r1, .ref r2, .int 0])), (m0, .inr (12, [.ref mp, .int 0, .int 0, .int 0, .ref mw, .ref mh, .ref mo, .int 0, .int 0, .int 0, .int 0, .int 0, .int 0, .ref m5, .ref m6, .ref m7, .long 0, .int 0, .ref mk, .ref mn, .int 0, .ref mq, .ref m8, .ref m9, .int 0, .int 0, .int 0, .int 0, .ref ma, .int 0, .ref mb, .ref md, .long 0])), (mp, .inl (cM, 90, .inl (fun _ => 0))), (mk, .inl (cK, 8, .inl (fun _ => 0))), (mn, .inl (cN, 32, .inl (fun _ => 0)))] := hD
  have hK : va_K D vwCl [(cI, .int), (cP, .object RX3), (cM, .int), (cK, .int), (cN, .int)] s := hK
  refine W.cs (cells' := 64) (slots' := 2537) rfl rfl ?_
  try dsimp only at h_394
  refine lv_aload_n hx hb dL_law_397 rfl (lv_at hl 1 rfl) ?_
  refine lv_aload_n hx hb dL_law_398 rfl (lv_at hl 3 rfl) ?_
  refine lv_iload_n hx hb dL_law_399 rfl (lv_at hl 0 rfl) ?_
  refine lv_iconst (v := 1) hx hb dL_law_400 (by decide) ?_
  refine lv_iadd hx hb dL_law_401 ?_
  refine lv_topi (fun z_401 e_401 => ?_)
  obtain rfl : z_401 = (1 : Int32) := e_401.trans (by decide)
  refine va_sld hx hb hX hbl hbA hS (show ¬ ((1 : Int32) < 0 ∨ 6 ≤ (1 : Int32).toNatClampNeg) by decide) dL_law_402 ?_
  refine W.eq (g2 := F0 m 403 ls (.int (xs 1) :: .ref m0 :: .int r_394 :: [])) rfl ?_
  refine lv_aload_n hx hb dL_law_403 rfl (lv_at hl 3 rfl) ?_
  refine lv_iload_n hx hb dL_law_404 rfl (lv_at hl 0 rfl) ?_
  refine lv_iconst (v := 2) hx hb dL_law_405 (by decide) ?_
  refine lv_iadd hx hb dL_law_406 ?_
  refine lv_topi (fun z_406 e_406 => ?_)
  obtain rfl : z_406 = (2 : Int32) := e_406.trans (by decide)
  refine va_sld hx hb hX hbl hbA hS (show ¬ ((2 : Int32) < 0 ∨ 6 ≤ (2 : Int32).toNatClampNeg) by decide) dL_law_407 ?_
  refine W.eq (g2 := F0 m 408 ls (.int (xs 2) :: .int (xs 1) :: .ref m0 :: .int r_394 :: [])) rfl ?_
  refine lv_aload_n hx hb dL_law_408 rfl (lv_at hl 3 rfl) ?_
  refine lv_iload_n hx hb dL_law_409 rfl (lv_at hl 0 rfl) ?_
  refine lv_iconst (v := 3) hx hb dL_law_410 (by decide) ?_
  refine lv_iadd hx hb dL_law_411 ?_
  refine lv_topi (fun z_411 e_411 => ?_)
  obtain rfl : z_411 = (3 : Int32) := e_411.trans (by decide)
  refine va_sld hx hb hX hbl hbA hS (show ¬ ((3 : Int32) < 0 ∨ 6 ≤ (3 : Int32).toNatClampNeg) by decide) dL_law_412 ?_
  refine W.eq (g2 := F0 m 413 ls (.int (xs 3) :: .int (xs 2) :: .int (xs 1) :: .ref m0 :: .int r_394 :: [])) rfl ?_
  refine lv_aload_n hx hb dL_law_413 rfl (lv_at hl 3 rfl) ?_
  refine lv_iload_n hx hb dL_law_414 rfl (lv_at hl 0 rfl) ?_
  refine lv_iconst (v := 4) hx hb dL_law_415 (by decide) ?_
  refine lv_iadd hx hb dL_law_416 ?_
  refine lv_topi (fun z_416 e_416 => ?_)
  obtain rfl : z_416 = (4 : Int32) := e_416.trans (by decide)
  refine va_sld hx hb hX hbl hbA hS (show ¬ ((4 : Int32) < 0 ∨ 6 ≤ (4 : Int32).toNatClampNeg) by decide) dL_law_417 ?_
  refine W.eq (g2 := F0 m 418 ls (.int (xs 4) :: .int (xs 3) :: .int (xs 2) :: .int (xs 1) :: .ref m0 :: .int r_394 :: [])) rfl ?_
  refine lv_aload_n hx hb dL_law_418 rfl (lv_at hl 3 rfl) ?_
  refine lv_iload_n hx hb dL_law_419 rfl (lv_at hl 0 rfl) ?_
  refine lv_iconst (v := 5) hx hb dL_law_420 (by decide) ?_
  refine lv_iadd hx hb dL_law_421 ?_
  refine lv_topi (fun z_421 e_421 => ?_)
  obtain rfl : z_421 = (5 : Int32) := e_421.trans (by decide)
  refine va_sld hx hb hX hbl hbA hS (show ¬ ((5 : Int32) < 0 ∨ 6 ≤ (5 : Int32).toNatClampNeg) by decide) dL_law_422 ?_
  refine W.eq (g2 := F0 m 423 ls (.int (xs 5) :: .int (xs 4) :: .int (xs 3) :: .int (xs 2) :: .int (xs 1) :: .ref m0 :: .int r_394 :: [])) rfl ?_
  have hPc := hP.sub (ws' := [(m0, .inr (12, [.ref mp, .int 0, .int 0, .int 0, .ref mw, .ref mh, .ref mo, .int 0, .int 0, .int 0, .int 0, .int 0, .int 0, .ref m5, .ref m6, .ref m7, .long 0, .int 0, .ref mk, .ref mn, .int 0, .ref mq, .ref m8, .ref m9, .int 0, .int 0, .int 0, .int 0, .ref ma, .int 0, .ref mb, .ref md, .long 0])), (mk, .inl (cK, 8, .inl (fun _ => 0))), (mn, .inl (cN, 32, .inl (fun _ => 0)))]) [5, 7, 8] rfl
  have hKc := hK.sub (tys' := [(cK, .int), (cN, .int)]) [3, 4] rfl
  have hDc := hD.sub (ws' := [(m0, .inr (12, [.ref mp, .int 0, .int 0, .int 0, .ref mw, .ref mh, .ref mo, .int 0, .int 0, .int 0, .int 0, .int 0, .int 0, .ref m5, .ref m6, .ref m7, .long 0, .int 0, .ref mk, .ref mn, .int 0, .ref mq, .ref m8, .ref m9, .int 0, .int 0, .int 0, .int 0, .ref ma, .int 0, .ref mb, .ref md, .long 0])), (mk, .inl (cK, 8, .inl (fun _ => 0))), (mn, .inl (cN, 32, .inl (fun _ => 0)))]) [5, 7, 8] (by decide) rfl
  have hFc := va_free (wc := [(m0, .inr (12, [.ref mp, .int 0, .int 0, .int 0, .ref mw, .ref mh, .ref mo, .int 0, .int 0, .int 0, .int 0, .int 0, .int 0, .ref m5, .ref m6, .ref m7, .long 0, .int 0, .ref mk, .ref mn, .int 0, .ref mq, .ref m8, .ref m9, .int 0, .int 0, .int 0, .int 0, .ref ma, .int 0, .ref mb, .ref md, .long 0])), (mk, .inl (cK, 8, .inl (fun _ => 0))), (mn, .inl (cN, 32, .inl (fun _ => 0)))]) hD hS hA [5, 7, 8] rfl
  refine va_calli (va_runV (As := [.int (xs 1), .int (xs 2), .int (xs 3), .int (xs 4), .int (xs 5)]) (rest := [.int r_394]) ⟨hx, hb, hml, hown, hg⟩ (m_pay l D m0 mp mw mh mo m5 m6 m7 mk mn mq m8 m9 ma mb md cK cN (fun _ => 0) (fun _ => 0) (xs 1) (xs 2) (xs 3) (xs 4) (xs 5) _) (cwV 5 hg (gw_V kw_334 kw_335 kw_336 kw_210 kw_333) rfl rfl rfl (by decide +kernel) ⟨Nat.le_of_ble_eq_true rfl, Nat.le_of_ble_eq_true rfl⟩) (pr_MV (q := (RX12, TX12, 33)) 12 0 hKc hPc hDc rfl rfl) rfl rfl hl.1 rfl (lv_room (Nat.le_of_ble_eq_true rfl)) dL_law_423 ⟨Nat.le_of_ble_eq_true rfl, Nat.le_of_ble_eq_true rfl⟩) hS (fun q _ h => hFc q h) hFc (fun r_423 u t H1 locs ht hvm h_423 hB hz1 hk1 hS => ?_)
  have hP1 := p_nil (D := D) (H := H1)
  have hK1 := hK.sub (tys' := []) [] rfl
  obtain ⟨hP, hD⟩ := va_join (wr := [(pg, .inr (2, [.ref cd, .int 0])), (cd, .inl (cI, 90, .inl (fun _ => 0))), (rd, .inr (7, [.ref rw, .ref rc, .int 0, .int 0, .int 0, .int 0, .int 0])), (aq, .inr (5, [.ref a1, .ref a2, .ref a3, .ref a4, .int 0, .int 0, .long 0])), (ro, .inr (8, [.ref r1, .ref r2, .int 0])), (mp, .inl (cM, 90, .inl (fun _ => 0)))]) (w1 := []) hP hD [5, 7, 8] [0, 1, 2, 3, 4, 6] rfl rfl (by decide) (by decide) hk1 hFc hP1 d_nil
  have hK := hK.app hK1
  generalize H1 = H at hP hS ⊢
  have hP : va_P D vwCl [(pg, .inr (2, [.ref cd, .int 0])), (cd, .inl (cI, 90, .inl (fun _ => 0))), (rd, .inr (7, [.ref rw, .ref rc, .int 0, .int 0, .int 0, .int 0, .int 0])), (aq, .inr (5, [.ref a1, .ref a2, .ref a3, .ref a4, .int 0, .int 0, .long 0])), (ro, .inr (8, [.ref r1, .ref r2, .int 0])), (mp, .inl (cM, 90, .inl (fun _ => 0)))] H := hP
  have hD : va_D (AA s) [(pg, .inr (2, [.ref cd, .int 0])), (cd, .inl (cI, 90, .inl (fun _ => 0))), (rd, .inr (7, [.ref rw, .ref rc, .int 0, .int 0, .int 0, .int 0, .int 0])), (aq, .inr (5, [.ref a1, .ref a2, .ref a3, .ref a4, .int 0, .int 0, .long 0])), (ro, .inr (8, [.ref r1, .ref r2, .int 0])), (mp, .inl (cM, 90, .inl (fun _ => 0)))] := hD
  have hK : va_K D vwCl [(cI, .int), (cP, .object RX3), (cM, .int), (cK, .int), (cN, .int)] s := hK
  refine W.cs (cells' := 64) (slots' := 2537) rfl rfl ?_
  try dsimp only at h_423
  refine lv_icmp_eq (tgt := 1101) hx hb dL_law_426 (by decide) (fun c_426 => ?_) (fun c_426 => absurd (h_394.trans h_423.symm) c_426)
  exact law_end l C0 hS (lv_sub hl [0, 1, 2, 3] rfl) (Nat.le_of_ble_eq_true rfl) (Nat.le_of_ble_eq_true rfl)

theorem kw_337 : (.code yX11_as cX11_as 4 (some .int) : Cond) ∈ gw_tbl := gw_in (by decide +kernel) (by decide +kernel)
theorem kw_338 : (.methodLink RL 52 yX11_as : Cond) ∈ gw_tbl := gw_in (by decide +kernel) (by decide +kernel)
theorem kw_339 : (.instanceMethod yX11_as : Cond) ∈ gw_tbl := gw_in (by decide +kernel) (by decide +kernel)
theorem kw_340 : (.selects RX11 yX11_as yX11_as : Cond) ∈ gw_tbl := gw_in (by decide +kernel) (by decide +kernel)
theorem kw_341 : (.code yX12_as cX12_as 4 (some .int) : Cond) ∈ gw_tbl := gw_in (by decide +kernel) (by decide +kernel)
theorem kw_342 : (.methodLink RL 55 yX12_as : Cond) ∈ gw_tbl := gw_in (by decide +kernel) (by decide +kernel)
theorem kw_343 : (.instanceMethod yX12_as : Cond) ∈ gw_tbl := gw_in (by decide +kernel) (by decide +kernel)
theorem kw_344 : (.selects RX12 yX12_as yX12_as : Cond) ∈ gw_tbl := gw_in (by decide +kernel) (by decide +kernel)

set_option maxHeartbeats 4000000 in
set_option maxRecDepth 100000 in
theorem law_case_8 {p : Program} {e : Env} {s : State} {m : MethodId} {below : List Frame} {meth : Method} {c : Code} (l : Launch) {b : Nat} {xs : Nat → Int32} (C0 : lw_At p s m meth c b 6 xs) (hN : nw_C s) {D : va_G} (x0 : Nat) (pg : Nat) (rd : Nat) (aq : Nat) (py : Nat) (pl : Nat) (ch : Nat) (ro : Nat) (cd : Nat) (rw : Nat) (rc : Nat) (a1 : Nat) (a2 : Nat) (a3 : Nat) (a4 : Nat) (r1 : Nat) (r2 : Nat) (cI : ClassId) (cP : ClassId) (m0 : Nat) (mp : Nat) (mw : Nat) (mh : Nat) (mo : Nat) (m5 : Nat) (m6 : Nat) (m7 : Nat) (mk : Nat) (mn : Nat) (mq : Nat) (m8 : Nat) (m9 : Nat) (ma : Nat) (mb : Nat) (md : Nat) (cM : ClassId) (cK : ClassId) (cN : ClassId) {H : Heap} {locs : List Loc} (hK : va_K D vwCl [(cI, .int), (cP, .object RX3), (cM, .int), (cK, .int), (cN, .int)] s) (hP : va_P D vwCl [(x0, .inr (11, [.ref pg, .ref rd, .ref aq, .ref py, .ref pl, .ref ch, .ref ro, .int 0, .int 0])), (pg, .inr (2, [.ref cd, .int 0])), (cd, .inl (cI, 90, .inl (fun _ => 0))), (rd, .inr (7, [.ref rw, .ref rc, .int 0, .int 0, .int 0, .int 0, .int 0])), (aq, .inr (5, [.ref a1, .ref a2, .ref a3, .ref a4, .int 0, .int 0, .long 0])), (py, .inl (cP, 8, .inr (.inr (.inr (.inr (fun _ => none)))))), (ro, .inr (8, [.ref r1, .ref r2, .int 0])), (m0, .inr (12, [.ref mp, .int 0, .int 0, .int 0, .ref mw, .ref mh, .ref mo, .int 0, .int 0, .int 0, .int 0, .int 0, .int 0, .ref m5, .ref m6, .ref m7, .long 0, .int 0, .ref mk, .ref mn, .int 0, .ref mq, .ref m8, .ref m9, .int 0, .int 0, .int 0, .int 0, .ref ma, .int 0, .ref mb, .ref md, .long 0])), (mp, .inl (cM, 90, .inl (fun _ => 0))), (mk, .inl (cK, 8, .inl (fun _ => 0))), (mn, .inl (cN, 32, .inl (fun _ => 0)))] H) (hD : va_D (AA s) [(x0, .inr (11, [.ref pg, .ref rd, .ref aq, .ref py, .ref pl, .ref ch, .ref ro, .int 0, .int 0])), (pg, .inr (2, [.ref cd, .int 0])), (cd, .inl (cI, 90, .inl (fun _ => 0))), (rd, .inr (7, [.ref rw, .ref rc, .int 0, .int 0, .int 0, .int 0, .int 0])), (aq, .inr (5, [.ref a1, .ref a2, .ref a3, .ref a4, .int 0, .int 0, .long 0])), (py, .inl (cP, 8, .inr (.inr (.inr (.inr (fun _ => none)))))), (ro, .inr (8, [.ref r1, .ref r2, .int 0])), (m0, .inr (12, [.ref mp, .int 0, .int 0, .int 0, .ref mw, .ref mh, .ref mo, .int 0, .int 0, .int 0, .int 0, .int 0, .int 0, .ref m5, .ref m6, .ref m7, .long 0, .int 0, .ref mk, .ref mn, .int 0, .ref mq, .ref m8, .ref m9, .int 0, .int 0, .int 0, .int 0, .ref ma, .int 0, .ref mb, .ref md, .long 0])), (mp, .inl (cM, 90, .inl (fun _ => 0))), (mk, .inl (cK, 8, .inl (fun _ => 0))), (mn, .inl (cN, 32, .inl (fun _ => 0)))]) (hS : va_S (AA s) s.heap H locs) {ls : Array Slot} (hl : lv_has ls 4 [(3, .int 0), (2, .ref m0), (1, .ref x0), (0, .ref b)]) : W p l e room_1 s m #[Value.ref b] below meth c H locs 62 2530 (lw_Z below #[Value.ref b] s) (F0 m 431 ls []) := by
  obtain ⟨hx, hb, hr, hml, hown, hts, hX, hbl, hlocks, hgv⟩ := id C0
  have hg := fun (w : Cond) (h : w ∈ gw_tbl) => hts w (gw_lw h)
  have hown : s.vm.findClass RL = some m.cls := hown
  have hbA : ¬ AA s b := Nat.not_le.mpr hbl
  have hA : ∀ q : Nat, s.heap.size ≤ q → AA s q := fun _ h => h
  refine lv_aload_n hx hb dL_law_431 rfl (lv_at hl 2 rfl) ?_
  refine lv_aload_n hx hb dL_law_432 rfl (lv_at hl 3 rfl) ?_
  refine lv_iload_n hx hb dL_law_433 rfl (lv_at hl 0 rfl) ?_
  refine lv_iconst (v := 1) hx hb dL_law_434 (by decide) ?_
  refine lv_iadd hx hb dL_law_435 ?_
  refine lv_topi (fun z_435 e_435 => ?_)
  obtain rfl : z_435 = (1 : Int32) := e_435.trans (by decide)
  refine va_sld hx hb hX hbl hbA hS (show ¬ ((1 : Int32) < 0 ∨ 6 ≤ (1 : Int32).toNatClampNeg) by decide) dL_law_436 ?_
  refine W.eq (g2 := F0 m 437 ls (.int (xs 1) :: .ref x0 :: [])) rfl ?_
  refine lv_aload_n hx hb dL_law_437 rfl (lv_at hl 3 rfl) ?_
  refine lv_iload_n hx hb dL_law_438 rfl (lv_at hl 0 rfl) ?_
  refine lv_iconst (v := 2) hx hb dL_law_439 (by decide) ?_
  refine lv_iadd hx hb dL_law_440 ?_
  refine lv_topi (fun z_440 e_440 => ?_)
  obtain rfl : z_440 = (2 : Int32) := e_440.trans (by decide)
  refine va_sld hx hb hX hbl hbA hS (show ¬ ((2 : Int32) < 0 ∨ 6 ≤ (2 : Int32).toNatClampNeg) by decide) dL_law_441 ?_
  refine W.eq (g2 := F0 m 442 ls (.int (xs 2) :: .int (xs 1) :: .ref x0 :: [])) rfl ?_
  have hPc := hP.sub (ws' := [(x0, .inr (11, [.ref pg, .ref rd, .ref aq, .ref py, .ref pl, .ref ch, .ref ro, .int 0, .int 0]))]) [0] rfl
  have hKc := hK.sub (tys' := []) [] rfl
  refine vp_callSi (W.runV (As := [.int (xs 1), .int (xs 2)]) (rest := []) ⟨hx, hb, hml, hown, hg⟩ (x_as l D x0 pg rd aq py pl ch ro (xs 1) (xs 2)) (cwV 2 hg (gw_V kw_338 kw_339 kw_340 kw_6 kw_337) rfl rfl rfl (by decide +kernel) ⟨Nat.le_of_ble_eq_true rfl, Nat.le_of_ble_eq_true rfl⟩) (pr_SV (q := (RX11, TX11, 9)) 11 0 hKc hPc rfl rfl) rfl rfl hl.1 rfl (lv_room (Nat.le_of_ble_eq_true rfl)) dL_law_442 ⟨Nat.le_of_ble_eq_true rfl, Nat.le_of_ble_eq_true rfl⟩) (fun r_442 h_442 => ?_)
  obtain rfl : r_442 = ((-101) : Int32) := h_442
  refine lv_aload_n hx hb dL_law_445 rfl (lv_at hl 1 rfl) ?_
  refine lv_aload_n hx hb dL_law_446 rfl (lv_at hl 3 rfl) ?_
  refine lv_iload_n hx hb dL_law_447 rfl (lv_at hl 0 rfl) ?_
  refine lv_iconst (v := 1) hx hb dL_law_448 (by decide) ?_
  refine lv_iadd hx hb dL_law_449 ?_
  refine lv_topi (fun z_449 e_449 => ?_)
  obtain rfl : z_449 = (1 : Int32) := e_449.trans (by decide)
  refine va_sld hx hb hX hbl hbA hS (show ¬ ((1 : Int32) < 0 ∨ 6 ≤ (1 : Int32).toNatClampNeg) by decide) dL_law_450 ?_
  refine W.eq (g2 := F0 m 451 ls (.int (xs 1) :: .ref m0 :: .int (-101) :: [])) rfl ?_
  refine lv_aload_n hx hb dL_law_451 rfl (lv_at hl 3 rfl) ?_
  refine lv_iload_n hx hb dL_law_452 rfl (lv_at hl 0 rfl) ?_
  refine lv_iconst (v := 2) hx hb dL_law_453 (by decide) ?_
  refine lv_iadd hx hb dL_law_454 ?_
  refine lv_topi (fun z_454 e_454 => ?_)
  obtain rfl : z_454 = (2 : Int32) := e_454.trans (by decide)
  refine va_sld hx hb hX hbl hbA hS (show ¬ ((2 : Int32) < 0 ∨ 6 ≤ (2 : Int32).toNatClampNeg) by decide) dL_law_455 ?_
  refine W.eq (g2 := F0 m 456 ls (.int (xs 2) :: .int (xs 1) :: .ref m0 :: .int (-101) :: [])) rfl ?_
  have hPc := hP.sub (ws' := [(m0, .inr (12, [.ref mp, .int 0, .int 0, .int 0, .ref mw, .ref mh, .ref mo, .int 0, .int 0, .int 0, .int 0, .int 0, .int 0, .ref m5, .ref m6, .ref m7, .long 0, .int 0, .ref mk, .ref mn, .int 0, .ref mq, .ref m8, .ref m9, .int 0, .int 0, .int 0, .int 0, .ref ma, .int 0, .ref mb, .ref md, .long 0]))]) [7] rfl
  have hKc := hK.sub (tys' := []) [] rfl
  refine vp_callSi (W.runV (As := [.int (xs 1), .int (xs 2)]) (rest := [.int (-101)]) ⟨hx, hb, hml, hown, hg⟩ (m_as l D m0 mp mw mh mo m5 m6 m7 mk mn mq m8 m9 ma mb md (xs 1) (xs 2)) (cwV 2 hg (gw_V kw_342 kw_343 kw_344 kw_210 kw_341) rfl rfl rfl (by decide +kernel) ⟨Nat.le_of_ble_eq_true rfl, Nat.le_of_ble_eq_true rfl⟩) (pr_SV (q := (RX12, TX12, 33)) 12 0 hKc hPc rfl rfl) rfl rfl hl.1 rfl (lv_room (Nat.le_of_ble_eq_true rfl)) dL_law_456 ⟨Nat.le_of_ble_eq_true rfl, Nat.le_of_ble_eq_true rfl⟩) (fun r_456 h_456 => ?_)
  obtain rfl : r_456 = ((-101) : Int32) := h_456
  refine lv_icmp_eq (tgt := 1101) hx hb dL_law_459 (by decide) (fun c_459 => ?_) (fun c_459 => absurd c_459 (by decide))
  exact law_end l C0 hS (lv_sub hl [0, 1, 2, 3] rfl) (Nat.le_of_ble_eq_true rfl) (Nat.le_of_ble_eq_true rfl)
