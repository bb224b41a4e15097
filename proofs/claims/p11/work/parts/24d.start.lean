theorem kw_1033 : (.classLink RL 7 RX11 : Cond) ∈ gw_tbl := gw_in (by decide +kernel) (by decide +kernel)
theorem kw_1034 : (.code yX11_init cX11_init 1 none : Cond) ∈ gw_tbl := gw_in (by decide +kernel) (by decide +kernel)
theorem kw_1035 : (.methodLink RL 9 yX11_init : Cond) ∈ gw_tbl := gw_in (by decide +kernel) (by decide +kernel)
theorem kw_1036 : (.instanceMethod yX11_init : Cond) ∈ gw_tbl := gw_in (by decide +kernel) (by decide +kernel)

set_option maxHeartbeats 4000000 in
set_option maxRecDepth 100000 in
theorem whole_start {p : Program} {e : Env} {s : State} {m : MethodId} {below : List Frame} {meth : Method} {c : Code} (l : Launch) {b L : Nat} {xs : Nat → Int32} (hL : L ≤ 3072) (C0 : lw_At p s m meth c b L xs) : W p l e room_1 s m #[Value.ref b] below meth c s.heap [] 0 0 (lw_Z below #[Value.ref b] s) (entryFrame m ([Value.ref b] : List Value).toArray 4) := by
  obtain ⟨hx, hb, hr, hml, hown, hts, hX, hbl, hlocks, hgv⟩ := id C0
  have hg := fun (w : Cond) (h : w ∈ gw_tbl) => hts w (gw_lw h)
  have hown : s.vm.findClass RL = some m.cls := hown
  have hbA : ¬ AA s b := Nat.not_le.mpr hbl
  have hA : ∀ q : Nat, s.heap.size ≤ q → AA s q := fun _ h => h
  obtain ⟨D, cs, hK, hN, hI⟩ := st_known C0
  have hS : va_S (AA s) s.heap s.heap [] := va_S.rf
  have hP : va_P D vwCl [] s.heap := p_nil
  have hD : va_D (AA s) [] := d_nil
  have hl := lv_entry ([.ref b]) (n := 4) (Nat.le_of_ble_eq_true rfl)
  rw [lg_entry_eq]
  generalize (lg_sl ([.ref b]) ++ List.replicate (4 - (lg_sl ([.ref b])).length) Slot.unset).toArray = ls at hl ⊢
  have hl : lv_has ls 4 [(0, .ref b)] := hl
  refine va_new (ci := 11) (fs := [.null, .null, .null, .null, .null, .null, .null, .int 0, .int 0]) (C := RX11) (T := TX11) (N := 9) hx hb hg gwX11 tyX11 tyX11_ok hown (hg _ kw_1033) (hg _ kw_1027) (hg _ kw_12) hK hP hD hS hA rfl (by decide +kernel) (Nat.le_of_ble_eq_true rfl) (Nat.le_of_ble_eq_true rfl) dL_law_0 (fun q_0 H hP hD hS => ?_)
  have hP : va_P D vwCl [(q_0, .inr (11, [.null, .null, .null, .null, .null, .null, .null, .int 0, .int 0]))] H := hP
  have hD : va_D (AA s) [(q_0, .inr (11, [.null, .null, .null, .null, .null, .null, .null, .int 0, .int 0]))] := hD
  refine W.cs (cells' := 1) (slots' := 9) rfl rfl ?_
  refine lv_dup hx hb dL_law_3 rfl ?_
  have hPc := hP.sub (ws' := [(q_0, .inr (11, [.null, .null, .null, .null, .null, .null, .null, .int 0, .int 0]))]) [0] rfl
  have hDc := hD.sub (ws' := [(q_0, .inr (11, [.null, .null, .null, .null, .null, .null, .null, .int 0, .int 0]))]) [0] (by decide) rfl
  have hFc := va_free (wc := [(q_0, .inr (11, [.null, .null, .null, .null, .null, .null, .null, .int 0, .int 0]))]) hD hS hA [0] rfl
  refine va_callv (va_runI (As := []) (rest := [.ref q_0]) ⟨hx, hb, hml, hown, hg⟩ (i_nobody l D cs q_0 _) (cwI 0 hg (gw_I kw_1034) rfl rfl rfl (hg _ kw_12) (hg _ kw_1035) (hg _ kw_1036) rfl (by decide +kernel) ⟨(Nat.le_of_ble_eq_true rfl), (Nat.le_of_ble_eq_true rfl)⟩) (pr_C hK hPc hDc hN) rfl rfl hl.1 rfl (lv_room (Nat.le_of_ble_eq_true rfl)) dL_law_4 ⟨(Nat.le_of_ble_eq_true rfl), (Nat.le_of_ble_eq_true rfl)⟩) hS (fun q _ h => hFc q h) hFc (fun u t H1 locs ht hvm h_4 hB hz1 hk1 hS => ?_)
  refine nb_elim hB (fun py_4 pn_4 td_4 pg_4 rd_4 aq_4 pl_4 ch_4 ro_4 fpy_4 cd_4 ps_4 fcd_4 rw_4 rc_4 aC_4 aP_4 aA_4 rD_4 rV_4 frw_4 rr_4 frr_4 aw_4 ac_4 ao_4 am_4 C_4 P_4 tot_4 faw_4 fao_4 fam_4 ar_4 far_4 nx_4 sn_4 pv_4 bel_4 gs_4 gp_4 la_4 stp_4 rou_4 fnx_4 fsn_4 sm_4 tb_4 ck_4 cm_4 le_4 ne_4 pr_4 tr_4 ln_4 trs_4 lpr_4 smn_4 tbn_4 ckn_4 fsm_4 ftb_4 fck_4 fcm_4 lr_4 flr_4 fne_4 fpr_4 ftr_4 fln_4 ra_4 rg_4 rs__4 fra_4 frg_4 hps_4 hC5_4 hP4_4 hrs__4 hpn0_4 hP1 hD1 => ?_)
  obtain ⟨Wx, hWx⟩ : ∃ W9 : va_W, W9 = [(q_0, .inr (11, [.ref pg_4, .ref rd_4, .ref aq_4, .ref py_4, .ref pl_4, .ref ch_4, .ref ro_4, .int (nI pn_4), .int td_4])), (pg_4, .inr (2, [.ref cd_4, .int (nI ps_4)])), (cd_4, .inl (cs 0, 90, .inl fcd_4)), (rd_4, .inr (7, [.ref rw_4, .ref rc_4, .int aC_4, .int aP_4, .int aA_4, .int rD_4, .int rV_4])), (rw_4, .inl (cs 0, 5, .inl frw_4)), (rc_4, .inl (cs 4, 5, .inr (.inr (.inr (.inr (rowsF 5 rr_4)))))), ((rr_4 0), .inl (cs 0, 4, .inl (frr_4 0))), ((rr_4 1), .inl (cs 0, 4, .inl (frr_4 1))), ((rr_4 2), .inl (cs 0, 4, .inl (frr_4 2))), ((rr_4 3), .inl (cs 0, 4, .inl (frr_4 3))), ((rr_4 4), .inl (cs 0, 4, .inl (frr_4 4))), (aq_4, .inr (5, [.ref aw_4, .ref ac_4, .ref ao_4, .ref am_4, .int (nI C_4), .int (nI P_4), .long tot_4])), (aw_4, .inl (cs 0, 5, .inl faw_4)), (ac_4, .inl (cs 4, 5, .inr (.inr (.inr (.inr (rowsF 5 ar_4)))))), ((ar_4 0), .inl (cs 0, 4, .inl (far_4 0))), ((ar_4 1), .inl (cs 0, 4, .inl (far_4 1))), ((ar_4 2), .inl (cs 0, 4, .inl (far_4 2))), ((ar_4 3), .inl (cs 0, 4, .inl (far_4 3))), ((ar_4 4), .inl (cs 0, 4, .inl (far_4 4))), (ao_4, .inl (cs 0, 4, .inl fao_4)), (am_4, .inl (cs 1, 16, .inr (.inl fam_4))), (py_4, .inl (cs 3, 8, .inr (.inr (.inr (.inr fpy_4))))), (pl_4, .inr (4, [.ref aq_4, .ref nx_4, .ref sn_4, pv_4, .long bel_4, .int gs_4, .int gp_4, .int la_4, .int stp_4, .int rou_4])), (nx_4, .inl (cs 0, 256, .inl fnx_4)), (sn_4, .inl (cs 0, 256, .inl fsn_4)), (ch_4, .inr (0, [.ref aq_4, .ref sm_4, .ref tb_4, .ref ck_4, .ref cm_4, .ref le_4, .ref ne_4, .ref pr_4, .ref tr_4, .ref ln_4, .int trs_4, .long lpr_4])), (sm_4, .inr (9, [.ref smn_4, .null, .int 0])), (smn_4, .inl (cs 0, 4, .inl fsm_4)), (tb_4, .inr (10, [.ref tbn_4, .null, .int 0])), (tbn_4, .inl (cs 0, 4, .inl ftb_4)), (ck_4, .inr (1, [.ref ckn_4, .null, .int 0])), (ckn_4, .inl (cs 0, 4, .inl fck_4)), (cm_4, .inl (cs 1, 16, .inr (.inl fcm_4))), (le_4, .inl (cs 5, 4, .inr (.inr (.inr (.inr (rowsF 4 lr_4)))))), ((lr_4 0), .inl (cs 1, 12, .inr (.inl (flr_4 0)))), ((lr_4 1), .inl (cs 1, 12, .inr (.inl (flr_4 1)))), ((lr_4 2), .inl (cs 1, 12, .inr (.inl (flr_4 2)))), ((lr_4 3), .inl (cs 1, 12, .inr (.inl (flr_4 3)))), (ne_4, .inl (cs 1, 12, .inr (.inl fne_4))), (pr_4, .inl (cs 1, 4, .inr (.inl fpr_4))), (tr_4, .inl (cs 0, 4, .inl ftr_4)), (ln_4, .inl (cs 0, 4, .inl fln_4)), (ro_4, .inr (8, [.ref ra_4, .ref rg_4, .int (nI rs__4)])), (ra_4, .inl (cs 0, 24, .inl fra_4)), (rg_4, .inl (cs 1, 24, .inr (.inl frg_4)))] := ⟨_, rfl⟩
  rw [← hWx] at hP1 hD1
  rw [ht] at hP1
  obtain ⟨hP, hD⟩ := va_join (wr := []) (w1 := Wx) hP hD [0] [] rfl rfl (by decide) (by decide) hk1 hFc hP1 hD1
  generalize H1 = H at hP hS ⊢
  have hP : va_P D vwCl ([] ++ Wx) H := hP
  have hD : va_D (AA s) ([] ++ Wx) := hD
  refine W.cs (cells' := 46) (slots' := 901) rfl rfl ?_
  refine lv_astore_n (lv' := [(1, .ref q_0), (0, .ref b)]) hx hb dL_law_7 rfl hl (by decide) rfl (fun ls hl => ?_)
  exact st_second l hL C0 hN hI hK hps_4 hC5_4 hP4_4 hrs__4 hpn0_4 hWx hP hD hS (lv_sub hl [0, 1] rfl)
