theorem kw_486 : (.instantiable RX11 9 : Cond) ∈ gw_tbl := gw_in (by decide +kernel) (by decide +kernel)
theorem kw_487 : (.instantiable RX12 33 : Cond) ∈ gw_tbl := gw_in (by decide +kernel) (by decide +kernel)
theorem kw_488 : (.classLink RL 7 RX11 : Cond) ∈ gw_tbl := gw_in (by decide +kernel) (by decide +kernel)
theorem kw_489 : (.code yX11_init cX11_init 1 none : Cond) ∈ gw_tbl := gw_in (by decide +kernel) (by decide +kernel)
theorem kw_490 : (.methodLink RL 9 yX11_init : Cond) ∈ gw_tbl := gw_in (by decide +kernel) (by decide +kernel)
theorem kw_491 : (.instanceMethod yX11_init : Cond) ∈ gw_tbl := gw_in (by decide +kernel) (by decide +kernel)
theorem kw_492 : (.classLink RL 10 RX12 : Cond) ∈ gw_tbl := gw_in (by decide +kernel) (by decide +kernel)
theorem kw_493 : (.code yX12_init cX12_init 1 none : Cond) ∈ gw_tbl := gw_in (by decide +kernel) (by decide +kernel)
theorem kw_494 : (.methodLink RL 12 yX12_init : Cond) ∈ gw_tbl := gw_in (by decide +kernel) (by decide +kernel)
theorem kw_495 : (.instanceMethod yX12_init : Cond) ∈ gw_tbl := gw_in (by decide +kernel) (by decide +kernel)

set_option maxHeartbeats 4000000 in
set_option maxRecDepth 100000 in
theorem whole_start {p : Program} {e : Env} {s : State} {m : MethodId} {below : List Frame} {meth : Method} {c : Code} (l : Launch) {b L : Nat} {xs : Nat → Int32} (hL : L ≤ 6) (C0 : lw_At p s m meth c b L xs) : W p l e room_1 s m #[Value.ref b] below meth c s.heap [] 0 0 (lw_Z below #[Value.ref b] s) (entryFrame m ([Value.ref b] : List Value).toArray 4) := by
  obtain ⟨hx, hb, hr, hml, hown, hts, hX, hbl, hlocks, hgv⟩ := id C0
  have hg := fun (w : Cond) (h : w ∈ gw_tbl) => hts w (gw_lw h)
  have hown : s.vm.findClass RL = some m.cls := hown
  have hbA : ¬ AA s b := Nat.not_le.mpr hbl
  have hA : ∀ q : Nat, s.heap.size ≤ q → AA s q := fun _ h => h
  obtain ⟨dc0, di0, hKn0⟩ := u_known (C := RX0) (T := TX0) (N := 12) (n := 12) hg gwX0 (hg _ kw_195)
  obtain ⟨dc1, di1, hKn1⟩ := u_known (C := RX1) (T := TX1) (N := 3) (n := 3) hg gwX1 (hg _ kw_119)
  obtain ⟨dc2, di2, hKn2⟩ := u_known (C := RX2) (T := TX2) (N := 2) (n := 2) hg gwX2 (hg _ kw_176)
  obtain ⟨dc3, di3, hKn3⟩ := u_known (C := RX3) (T := TX3) (N := 3) (n := 3) hg gwX3 (hg _ kw_108)
  obtain ⟨dc4, di4, hKn4⟩ := u_known (C := RX4) (T := TX4) (N := 10) (n := 10) hg gwX4 (hg _ kw_188)
  obtain ⟨dc5, di5, hKn5⟩ := u_known (C := RX5) (T := TX5) (N := 7) (n := 7) hg gwX5 (hg _ kw_184)
  obtain ⟨dc6, di6, hKn6⟩ := u_known (C := RX6) (T := TX6) (N := 3) (n := 3) hg gwX6 (hg _ kw_114)
  obtain ⟨dc7, di7, hKn7⟩ := u_known (C := RX7) (T := TX7) (N := 7) (n := 7) hg gwX7 (hg _ kw_180)
  obtain ⟨dc8, di8, hKn8⟩ := u_known (C := RX8) (T := TX8) (N := 3) (n := 3) hg gwX8 (hg _ kw_202)
  obtain ⟨dc9, di9, hKn9⟩ := u_known (C := RX9) (T := TX9) (N := 3) (n := 3) hg gwX9 (hg _ kw_110)
  obtain ⟨dc10, di10, hKn10⟩ := u_known (C := RX10) (T := TX10) (N := 3) (n := 3) hg gwX10 (hg _ kw_112)
  obtain ⟨dc11, di11, hKn11⟩ := u_known (C := RX11) (T := TX11) (N := 9) (n := 9) hg gwX11 (hg _ kw_486)
  obtain ⟨dc12, di12, hKn12⟩ := u_known (C := RX12) (T := TX12) (N := 33) (n := 33) hg gwX12 (hg _ kw_487)
  obtain ⟨D, hKc⟩ : ∃ D : va_G, ∀ (k : Nat) (q : vw_C), vwCl[k]? = some q → u_Kn s q.1 q.2.1 q.2.2 (D.1 k) (D.2 k) := by
    refine ⟨(fun k => if k = 0 then dc0 else if k = 1 then dc1 else if k = 2 then dc2 else if k = 3 then dc3 else if k = 4 then dc4 else if k = 5 then dc5 else if k = 6 then dc6 else if k = 7 then dc7 else if k = 8 then dc8 else if k = 9 then dc9 else if k = 10 then dc10 else if k = 11 then dc11 else dc12, fun k => if k = 0 then di0 else if k = 1 then di1 else if k = 2 then di2 else if k = 3 then di3 else if k = 4 then di4 else if k = 5 then di5 else if k = 6 then di6 else if k = 7 then di7 else if k = 8 then di8 else if k = 9 then di9 else if k = 10 then di10 else if k = 11 then di11 else di12), ?_⟩
    intro k q hq
    match k, hq with
    | 0, hq => cases hq; exact hKn0
    | 1, hq => cases hq; exact hKn1
    | 2, hq => cases hq; exact hKn2
    | 3, hq => cases hq; exact hKn3
    | 4, hq => cases hq; exact hKn4
    | 5, hq => cases hq; exact hKn5
    | 6, hq => cases hq; exact hKn6
    | 7, hq => cases hq; exact hKn7
    | 8, hq => cases hq; exact hKn8
    | 9, hq => cases hq; exact hKn9
    | 10, hq => cases hq; exact hKn10
    | 11, hq => cases hq; exact hKn11
    | 12, hq => cases hq; exact hKn12
    | k + 13, hq => simp [vwCl] at hq
  have hS : va_S (AA s) s.heap s.heap [] := va_S.rf
  have hK : va_K D vwCl [] s := ⟨hKc, fun k q h => by simp at h⟩
  have hP : va_P D vwCl [] s.heap := p_nil
  have hD : va_D (AA s) [] := d_nil
  have hN := nw_of hts
  have hl := lv_entry ([.ref b]) (n := 4) (Nat.le_of_ble_eq_true rfl)
  rw [lg_entry_eq]
  generalize (lg_sl ([.ref b]) ++ List.replicate (4 - (lg_sl ([.ref b])).length) Slot.unset).toArray = ls at hl ⊢
  have hl : lv_has ls 4 [(0, .ref b)] := hl
  refine va_new (ci := 11) (fs := [.null, .null, .null, .null, .null, .null, .null, .int 0, .int 0]) (C := RX11) (T := TX11) (N := 9) hx hb hg gwX11 tyX11 tyX11_ok hown (hg _ kw_488) (hg _ kw_486) (hg _ kw_6) hK hP hD hS hA rfl (by decide +kernel) (Nat.le_of_ble_eq_true rfl) (Nat.le_of_ble_eq_true rfl) dL_law_0 (fun q_0 H hP hD hS => ?_)
  have hP : va_P D vwCl [(q_0, .inr (11, [.null, .null, .null, .null, .null, .null, .null, .int 0, .int 0]))] H := hP
  have hD : va_D (AA s) [(q_0, .inr (11, [.null, .null, .null, .null, .null, .null, .null, .int 0, .int 0]))] := hD
  refine W.cs (cells' := 1) (slots' := 9) rfl rfl ?_
  refine lv_dup hx hb dL_law_3 rfl ?_
  have hPc := hP.sub (ws' := [(q_0, .inr (11, [.null, .null, .null, .null, .null, .null, .null, .int 0, .int 0]))]) [0] rfl
  have hKc := hK.sub (tys' := []) [] rfl
  have hDc := hD.sub (ws' := [(q_0, .inr (11, [.null, .null, .null, .null, .null, .null, .null, .int 0, .int 0]))]) [0] (by decide) rfl
  have hFc := va_free (wc := [(q_0, .inr (11, [.null, .null, .null, .null, .null, .null, .null, .int 0, .int 0]))]) hD hS hA [0] rfl
  refine va_callv (va_runI (As := []) (rest := [.ref q_0]) ⟨hx, hb, hml, hown, hg⟩ (i_nobody l D q_0 _) (cwI 0 hg (gw_I kw_489) rfl rfl rfl (hg _ kw_6) (hg _ kw_490) (hg _ kw_491) rfl (by decide +kernel) ⟨Nat.le_of_ble_eq_true rfl, Nat.le_of_ble_eq_true rfl⟩) (pr_C hKc hPc hDc hN) rfl rfl hl.1 rfl (lv_room (Nat.le_of_ble_eq_true rfl)) dL_law_4 ⟨Nat.le_of_ble_eq_true rfl, Nat.le_of_ble_eq_true rfl⟩) hS (fun q _ h => hFc q h) hFc (fun u t H1 locs ht hvm h_4 hB hz1 hk1 hS => ?_)
  obtain ⟨pg_4, rd_4, aq_4, py_4, pl_4, ch_4, ro_4, cd_4, rw_4, rc_4, a1_4, a2_4, a3_4, a4_4, r1_4, r2_4, cI_4, cP_4, hP1, hK1, hD1⟩ := hB
  rw [ht] at hP1
  have hK1 := va_K.moved hvm.symm hK1
  obtain ⟨hP, hD⟩ := va_join (wr := []) (w1 := [(q_0, .inr (11, [.ref pg_4, .ref rd_4, .ref aq_4, .ref py_4, .ref pl_4, .ref ch_4, .ref ro_4, .int 0, .int 0])), (pg_4, .inr (2, [.ref cd_4, .int 0])), (cd_4, .inl (cI_4, 90, .inl (fun _ => 0))), (rd_4, .inr (7, [.ref rw_4, .ref rc_4, .int 0, .int 0, .int 0, .int 0, .int 0])), (aq_4, .inr (5, [.ref a1_4, .ref a2_4, .ref a3_4, .ref a4_4, .int 0, .int 0, .long 0])), (py_4, .inl (cP_4, 8, .inr (.inr (.inr (.inr (fun _ => none)))))), (ro_4, .inr (8, [.ref r1_4, .ref r2_4, .int 0]))]) hP hD [0] [] rfl rfl (by decide) (by decide) hk1 hFc hP1 hD1
  have hK := hK.app hK1
  generalize H1 = H at hP hS ⊢
  have hP : va_P D vwCl [(q_0, .inr (11, [.ref pg_4, .ref rd_4, .ref aq_4, .ref py_4, .ref pl_4, .ref ch_4, .ref ro_4, .int 0, .int 0])), (pg_4, .inr (2, [.ref cd_4, .int 0])), (cd_4, .inl (cI_4, 90, .inl (fun _ => 0))), (rd_4, .inr (7, [.ref rw_4, .ref rc_4, .int 0, .int 0, .int 0, .int 0, .int 0])), (aq_4, .inr (5, [.ref a1_4, .ref a2_4, .ref a3_4, .ref a4_4, .int 0, .int 0, .long 0])), (py_4, .inl (cP_4, 8, .inr (.inr (.inr (.inr (fun _ => none)))))), (ro_4, .inr (8, [.ref r1_4, .ref r2_4, .int 0]))] H := hP
  have hD : va_D (AA s) [(q_0, .inr (11, [.ref pg_4, .ref rd_4, .ref aq_4, .ref py_4, .ref pl_4, .ref ch_4, .ref ro_4, .int 0, .int 0])), (pg_4, .inr (2, [.ref cd_4, .int 0])), (cd_4, .inl (cI_4, 90, .inl (fun _ => 0))), (rd_4, .inr (7, [.ref rw_4, .ref rc_4, .int 0, .int 0, .int 0, .int 0, .int 0])), (aq_4, .inr (5, [.ref a1_4, .ref a2_4, .ref a3_4, .ref a4_4, .int 0, .int 0, .long 0])), (py_4, .inl (cP_4, 8, .inr (.inr (.inr (.inr (fun _ => none)))))), (ro_4, .inr (8, [.ref r1_4, .ref r2_4, .int 0]))] := hD
  have hK : va_K D vwCl [(cI_4, .int), (cP_4, .object RX3)] s := hK
  refine W.cs (cells' := 46) (slots' := 901) rfl rfl ?_
  try dsimp only at h_4
  refine lv_astore_n (lv' := [(1, .ref q_0), (0, .ref b)]) hx hb dL_law_7 rfl hl (by decide) rfl (fun ls hl => ?_)
  refine va_new (ci := 12) (fs := [.null, .int 0, .int 0, .int 0, .null, .null, .null, .int 0, .int 0, .int 0, .int 0, .int 0, .int 0, .null, .null, .null, .long 0, .int 0, .null, .null, .int 0, .null, .null, .null, .int 0, .int 0, .int 0, .int 0, .null, .int 0, .null, .null, .long 0]) (C := RX12) (T := TX12) (N := 33) hx hb hg gwX12 tyX12 tyX12_ok hown (hg _ kw_492) (hg _ kw_487) (hg _ kw_210) hK hP hD hS hA rfl (by decide +kernel) (Nat.le_of_ble_eq_true rfl) (Nat.le_of_ble_eq_true rfl) dL_law_8 (fun q_8 H hP hD hS => ?_)
  have hP : va_P D vwCl [(q_0, .inr (11, [.ref pg_4, .ref rd_4, .ref aq_4, .ref py_4, .ref pl_4, .ref ch_4, .ref ro_4, .int 0, .int 0])), (pg_4, .inr (2, [.ref cd_4, .int 0])), (cd_4, .inl (cI_4, 90, .inl (fun _ => 0))), (rd_4, .inr (7, [.ref rw_4, .ref rc_4, .int 0, .int 0, .int 0, .int 0, .int 0])), (aq_4, .inr (5, [.ref a1_4, .ref a2_4, .ref a3_4, .ref a4_4, .int 0, .int 0, .long 0])), (py_4, .inl (cP_4, 8, .inr (.inr (.inr (.inr (fun _ => none)))))), (ro_4, .inr (8, [.ref r1_4, .ref r2_4, .int 0])), (q_8, .inr (12, [.null, .int 0, .int 0, .int 0, .null, .null, .null, .int 0, .int 0, .int 0, .int 0, .int 0, .int 0, .null, .null, .null, .long 0, .int 0, .null, .null, .int 0, .null, .null, .null, .int 0, .int 0, .int 0, .int 0, .null, .int 0, .null, .null, .long 0]))] H := hP
  have hD : va_D (AA s) [(q_0, .inr (11, [.ref pg_4, .ref rd_4, .ref aq_4, .ref py_4, .ref pl_4, .ref ch_4, .ref ro_4, .int 0, .int 0])), (pg_4, .inr (2, [.ref cd_4, .int 0])), (cd_4, .inl (cI_4, 90, .inl (fun _ => 0))), (rd_4, .inr (7, [.ref rw_4, .ref rc_4, .int 0, .int 0, .int 0, .int 0, .int 0])), (aq_4, .inr (5, [.ref a1_4, .ref a2_4, .ref a3_4, .ref a4_4, .int 0, .int 0, .long 0])), (py_4, .inl (cP_4, 8, .inr (.inr (.inr (.inr (fun _ => none)))))), (ro_4, .inr (8, [.ref r1_4, .ref r2_4, .int 0])), (q_8, .inr (12, [.null, .int 0, .int 0, .int 0, .null, .null, .null, .int 0, .int 0, .int 0, .int 0, .int 0, .int 0, .null, .null, .null, .long 0, .int 0, .null, .null, .int 0, .null, .null, .null, .int 0, .int 0, .int 0, .int 0, .null, .int 0, .null, .null, .long 0]))] := hD
  refine W.cs (cells' := 47) (slots' := 934) rfl rfl ?_
  refine lv_dup hx hb dL_law_11 rfl ?_
  have hPc := hP.sub (ws' := [(q_8, .inr (12, [.null, .int 0, .int 0, .int 0, .null, .null, .null, .int 0, .int 0, .int 0, .int 0, .int 0, .int 0, .null, .null, .null, .long 0, .int 0, .null, .null, .int 0, .null, .null, .null, .int 0, .int 0, .int 0, .int 0, .null, .int 0, .null, .null, .long 0]))]) [7] rfl
  have hKc := hK.sub (tys' := []) [] rfl
  have hDc := hD.sub (ws' := [(q_8, .inr (12, [.null, .int 0, .int 0, .int 0, .null, .null, .null, .int 0, .int 0, .int 0, .int 0, .int 0, .int 0, .null, .null, .null, .long 0, .int 0, .null, .null, .int 0, .null, .null, .null, .int 0, .int 0, .int 0, .int 0, .null, .int 0, .null, .null, .long 0]))]) [7] (by decide) rfl
  have hFc := va_free (wc := [(q_8, .inr (12, [.null, .int 0, .int 0, .int 0, .null, .null, .null, .int 0, .int 0, .int 0, .int 0, .int 0, .int 0, .null, .null, .null, .long 0, .int 0, .null, .null, .int 0, .null, .null, .null, .int 0, .int 0, .int 0, .int 0, .null, .int 0, .null, .null, .long 0]))]) hD hS hA [7] rfl
  refine va_callv (va_runI (As := []) (rest := [.ref q_8]) ⟨hx, hb, hml, hown, hg⟩ (i_model l D q_8 _) (cwI 0 hg (gw_I kw_493) rfl rfl rfl (hg _ kw_210) (hg _ kw_494) (hg _ kw_495) rfl (by decide +kernel) ⟨Nat.le_of_ble_eq_true rfl, Nat.le_of_ble_eq_true rfl⟩) (pr_C hKc hPc hDc hN) rfl rfl hl.1 rfl (lv_room (Nat.le_of_ble_eq_true rfl)) dL_law_12 ⟨Nat.le_of_ble_eq_true rfl, Nat.le_of_ble_eq_true rfl⟩) hS (fun q _ h => hFc q h) hFc (fun u t H1 locs ht hvm h_12 hB hz1 hk1 hS => ?_)
  obtain ⟨mp_12, mw_12, mh_12, mo_12, m5_12, m6_12, m7_12, mk_12, mn_12, mq_12, m8_12, m9_12, ma_12, mb_12, md_12, cM_12, cK_12, cN_12, hP1, hK1, hD1⟩ := hB
  rw [ht] at hP1
  have hK1 := va_K.moved hvm.symm hK1
  obtain ⟨hP, hD⟩ := va_join (wr := [(q_0, .inr (11, [.ref pg_4, .ref rd_4, .ref aq_4, .ref py_4, .ref pl_4, .ref ch_4, .ref ro_4, .int 0, .int 0])), (pg_4, .inr (2, [.ref cd_4, .int 0])), (cd_4, .inl (cI_4, 90, .inl (fun _ => 0))), (rd_4, .inr (7, [.ref rw_4, .ref rc_4, .int 0, .int 0, .int 0, .int 0, .int 0])), (aq_4, .inr (5, [.ref a1_4, .ref a2_4, .ref a3_4, .ref a4_4, .int 0, .int 0, .long 0])), (py_4, .inl (cP_4, 8, .inr (.inr (.inr (.inr (fun _ => none)))))), (ro_4, .inr (8, [.ref r1_4, .ref r2_4, .int 0]))]) (w1 := [(q_8, .inr (12, [.ref mp_12, .int 0, .int 0, .int 0, .ref mw_12, .ref mh_12, .ref mo_12, .int 0, .int 0, .int 0, .int 0, .int 0, .int 0, .ref m5_12, .ref m6_12, .ref m7_12, .long 0, .int 0, .ref mk_12, .ref mn_12, .int 0, .ref mq_12, .ref m8_12, .ref m9_12, .int 0, .int 0, .int 0, .int 0, .ref ma_12, .int 0, .ref mb_12, .ref md_12, .long 0])), (mp_12, .inl (cM_12, 90, .inl (fun _ => 0))), (mk_12, .inl (cK_12, 8, .inl (fun _ => 0))), (mn_12, .inl (cN_12, 32, .inl (fun _ => 0)))]) hP hD [7] [0, 1, 2, 3, 4, 5, 6] rfl rfl (by decide) (by decide) hk1 hFc hP1 hD1
  have hK := hK.app hK1
  generalize H1 = H at hP hS ⊢
  have hP : va_P D vwCl [(q_0, .inr (11, [.ref pg_4, .ref rd_4, .ref aq_4, .ref py_4, .ref pl_4, .ref ch_4, .ref ro_4, .int 0, .int 0])), (pg_4, .inr (2, [.ref cd_4, .int 0])), (cd_4, .inl (cI_4, 90, .inl (fun _ => 0))), (rd_4, .inr (7, [.ref rw_4, .ref rc_4, .int 0, .int 0, .int 0, .int 0, .int 0])), (aq_4, .inr (5, [.ref a1_4, .ref a2_4, .ref a3_4, .ref a4_4, .int 0, .int 0, .long 0])), (py_4, .inl (cP_4, 8, .inr (.inr (.inr (.inr (fun _ => none)))))), (ro_4, .inr (8, [.ref r1_4, .ref r2_4, .int 0])), (q_8, .inr (12, [.ref mp_12, .int 0, .int 0, .int 0, .ref mw_12, .ref mh_12, .ref mo_12, .int 0, .int 0, .int 0, .int 0, .int 0, .int 0, .ref m5_12, .ref m6_12, .ref m7_12, .long 0, .int 0, .ref mk_12, .ref mn_12, .int 0, .ref mq_12, .ref m8_12, .ref m9_12, .int 0, .int 0, .int 0, .int 0, .ref ma_12, .int 0, .ref mb_12, .ref md_12, .long 0])), (mp_12, .inl (cM_12, 90, .inl (fun _ => 0))), (mk_12, .inl (cK_12, 8, .inl (fun _ => 0))), (mn_12, .inl (cN_12, 32, .inl (fun _ => 0)))] H := hP
  have hD : va_D (AA s) [(q_0, .inr (11, [.ref pg_4, .ref rd_4, .ref aq_4, .ref py_4, .ref pl_4, .ref ch_4, .ref ro_4, .int 0, .int 0])), (pg_4, .inr (2, [.ref cd_4, .int 0])), (cd_4, .inl (cI_4, 90, .inl (fun _ => 0))), (rd_4, .inr (7, [.ref rw_4, .ref rc_4, .int 0, .int 0, .int 0, .int 0, .int 0])), (aq_4, .inr (5, [.ref a1_4, .ref a2_4, .ref a3_4, .ref a4_4, .int 0, .int 0, .long 0])), (py_4, .inl (cP_4, 8, .inr (.inr (.inr (.inr (fun _ => none)))))), (ro_4, .inr (8, [.ref r1_4, .ref r2_4, .int 0])), (q_8, .inr (12, [.ref mp_12, .int 0, .int 0, .int 0, .ref mw_12, .ref mh_12, .ref mo_12, .int 0, .int 0, .int 0, .int 0, .int 0, .int 0, .ref m5_12, .ref m6_12, .ref m7_12, .long 0, .int 0, .ref mk_12, .ref mn_12, .int 0, .ref mq_12, .ref m8_12, .ref m9_12, .int 0, .int 0, .int 0, .int 0, .ref ma_12, .int 0, .ref mb_12, .ref md_12, .long 0])), (mp_12, .inl (cM_12, 90, .inl (fun _ => 0))), (mk_12, .inl (cK_12, 8, .inl (fun _ => 0))), (mn_12, .inl (cN_12, 32, .inl (fun _ => 0)))] := hD
  have hK : va_K D vwCl [(cI_4, .int), (cP_4, .object RX3), (cM_12, .int), (cK_12, .int), (cN_12, .int)] s := hK
  refine W.cs (cells' := 62) (slots' := 2530) rfl rfl ?_
  try dsimp only at h_12
  refine lv_astore_n (lv' := [(2, .ref q_8), (1, .ref q_0), (0, .ref b)]) hx hb dL_law_15 rfl hl (by decide) rfl (fun ls hl => ?_)
  refine lv_iconst (v := 0) hx hb dL_law_16 (by decide) ?_
  refine lv_istore_n (lv' := [(3, .int 0), (2, .ref q_8), (1, .ref q_0), (0, .ref b)]) hx hb dL_law_17 rfl hl (by decide) rfl (fun ls hl => ?_)
  rcases Nat.lt_or_ge L 6 with hL6 | hL6
  · exact law_short l hL6 C0 hS (lv_sub hl [0, 1, 2, 3] rfl) (Nat.le_of_ble_eq_true rfl) (Nat.le_of_ble_eq_true rfl)
  · obtain rfl : L = 6 := by omega
    exact law_head l C0 hN q_0 pg_4 rd_4 aq_4 py_4 pl_4 ch_4 ro_4 cd_4 rw_4 rc_4 a1_4 a2_4 a3_4 a4_4 r1_4 r2_4 cI_4 cP_4 q_8 mp_12 mw_12 mh_12 mo_12 m5_12 m6_12 m7_12 mk_12 mn_12 mq_12 m8_12 m9_12 ma_12 mb_12 md_12 cM_12 cK_12 cN_12 (hK.sub [0, 1, 2, 3, 4] rfl) (hP.sub [0, 1, 2, 3, 4, 5, 6, 7, 8, 9, 10] rfl) (hD.sub [0, 1, 2, 3, 4, 5, 6, 7, 8, 9, 10] (by decide) rfl) hS (lv_sub hl [0, 1, 2, 3] rfl)
