theorem kw_1027 : (.instantiable RX11 9 : Cond) ∈ gw_tbl := gw_in (by decide +kernel) (by decide +kernel)
theorem kw_1028 : (.instantiable RX12 33 : Cond) ∈ gw_tbl := gw_in (by decide +kernel) (by decide +kernel)
theorem kw_1029 : (.classLink RL 7 RX11 : Cond) ∈ gw_tbl := gw_in (by decide +kernel) (by decide +kernel)
theorem kw_1030 : (.code yX11_init cX11_init 1 none : Cond) ∈ gw_tbl := gw_in (by decide +kernel) (by decide +kernel)
theorem kw_1031 : (.methodLink RL 9 yX11_init : Cond) ∈ gw_tbl := gw_in (by decide +kernel) (by decide +kernel)
theorem kw_1032 : (.instanceMethod yX11_init : Cond) ∈ gw_tbl := gw_in (by decide +kernel) (by decide +kernel)
theorem kw_1033 : (.classLink RL 10 RX12 : Cond) ∈ gw_tbl := gw_in (by decide +kernel) (by decide +kernel)
theorem kw_1034 : (.code yX12_init cX12_init 1 none : Cond) ∈ gw_tbl := gw_in (by decide +kernel) (by decide +kernel)
theorem kw_1035 : (.methodLink RL 12 yX12_init : Cond) ∈ gw_tbl := gw_in (by decide +kernel) (by decide +kernel)
theorem kw_1036 : (.instanceMethod yX12_init : Cond) ∈ gw_tbl := gw_in (by decide +kernel) (by decide +kernel)

set_option maxHeartbeats 4000000 in
set_option maxRecDepth 100000 in
theorem whole_start {p : Program} {e : Env} {s : State} {m : MethodId} {below : List Frame} {meth : Method} {c : Code} (l : Launch) {b L : Nat} {xs : Nat → Int32} (hL : L ≤ 3072) (C0 : lw_At p s m meth c b L xs) : W p l e room_1 s m #[Value.ref b] below meth c s.heap [] 0 0 (lw_Z below #[Value.ref b] s) (entryFrame m ([Value.ref b] : List Value).toArray 4) := by
  obtain ⟨hx, hb, hr, hml, hown, hts, hX, hbl, hlocks, hgv⟩ := id C0
  have hg := fun (w : Cond) (h : w ∈ gw_tbl) => hts w (gw_lw h)
  have hown : s.vm.findClass RL = some m.cls := hown
  have hbA : ¬ AA s b := Nat.not_le.mpr hbl
  have hA : ∀ q : Nat, s.heap.size ≤ q → AA s q := fun _ h => h
  obtain ⟨dc0, di0, hKn0⟩ := u_known (C := RX0) (T := TX0) (N := 12) (n := 12) hg gwX0 (hg _ kw_803)
  obtain ⟨dc1, di1, hKn1⟩ := u_known (C := RX1) (T := TX1) (N := 3) (n := 3) hg gwX1 (hg _ kw_708)
  obtain ⟨dc2, di2, hKn2⟩ := u_known (C := RX2) (T := TX2) (N := 2) (n := 2) hg gwX2 (hg _ kw_786)
  obtain ⟨dc3, di3, hKn3⟩ := u_known (C := RX3) (T := TX3) (N := 3) (n := 3) hg gwX3 (hg _ kw_702)
  obtain ⟨dc4, di4, hKn4⟩ := u_known (C := RX4) (T := TX4) (N := 10) (n := 10) hg gwX4 (hg _ kw_798)
  obtain ⟨dc5, di5, hKn5⟩ := u_known (C := RX5) (T := TX5) (N := 7) (n := 7) hg gwX5 (hg _ kw_794)
  obtain ⟨dc6, di6, hKn6⟩ := u_known (C := RX6) (T := TX6) (N := 3) (n := 3) hg gwX6 (hg _ kw_705)
  obtain ⟨dc7, di7, hKn7⟩ := u_known (C := RX7) (T := TX7) (N := 7) (n := 7) hg gwX7 (hg _ kw_790)
  obtain ⟨dc8, di8, hKn8⟩ := u_known (C := RX8) (T := TX8) (N := 3) (n := 3) hg gwX8 (hg _ kw_808)
  obtain ⟨dc9, di9, hKn9⟩ := u_known (C := RX9) (T := TX9) (N := 3) (n := 3) hg gwX9 (hg _ kw_703)
  obtain ⟨dc10, di10, hKn10⟩ := u_known (C := RX10) (T := TX10) (N := 3) (n := 3) hg gwX10 (hg _ kw_704)
  obtain ⟨dc11, di11, hKn11⟩ := u_known (C := RX11) (T := TX11) (N := 9) (n := 9) hg gwX11 (hg _ kw_1027)
  obtain ⟨dc12, di12, hKn12⟩ := u_known (C := RX12) (T := TX12) (N := 33) (n := 33) hg gwX12 (hg _ kw_1028)
  obtain ⟨D, hKc⟩ : ∃ D : va_G, ∀ (k : Nat) (q : vw_C), vwCl[k]? = some q → u_Kn s q.1 q.2.1 q.2.2 (D.1 k) (D.2 k) := by
    refine ⟨(fun k => if k = 0 then dc0 else if k = 1 then dc1 else if k = 2 then dc2 else if k = 3 then dc3 else if k = 4 then dc4 else if k = 5 then dc5 else if k = 6 then dc6 else if k = 7 then dc7 else if k = 8 then dc8 else if k = 9 then dc9 else if k = 10 then dc10 else if k = 11 then dc11 else dc12, fun k => if k = 0 then di0 else if k = 1 then di1 else if k = 2 then di2 else if k = 3 then di3 else if k = 4 then di4 else if k = 5 then di5 else if k = 6 then di6 else if k = 7 then di7 else if k = 8 then di8 else if k = 9 then di9 else if k = 10 then di10 else if k = 11 then di11 else di12), ?_⟩
    intro k q hq
    match k, hq with
    | 0, hq => cases hq; exact hKn0
    | 1, hq => cases hq; exact hKn1
    | 2, hq => cases hq; exact hKn2
    | 3, hq => cases hq; exact hKn3
    | 4, hq => cases hq; exact hKn4
    | 5, hq => cases hq; exact hKn5
    | 6, hq => cases hq; exact hKn6
    | 7, hq => cases hq; exact hKn7
    | 8, hq => cases hq; exact hKn8
    | 9, hq => cases hq; exact hKn9
    | 10, hq => cases hq; exact hKn10
    | 11, hq => cases hq; exact hKn11
    | 12, hq => cases hq; exact hKn12
    | k + 13, hq => simp [vwCl] at hq
  have hN := nw_of hts
  have hI := ic_of hts hgv
  obtain ⟨c0, a0, r0⟩ := k_prim (ty := .int) rfl (hg _ kw_694)
  obtain ⟨c1, a1, r1⟩ := k_prim (ty := .long) rfl (hg _ kw_186)
  obtain ⟨c2, a2, r2⟩ := k_prim (ty := .boolean) rfl (hg _ kw_812)
  obtain ⟨c3, a3, r3⟩ := k_obj hN.2.1
  obtain ⟨c4, a4, r4⟩ := k_arr hN.2.2.1
  obtain ⟨c5, a5, r5⟩ := k_arr hN.2.2.2.1
  obtain ⟨cs, hK⟩ : ∃ cs : Nat → ClassId, va_K D vwCl (GT cs) s := by
    refine ⟨fun k => if k = 0 then c0 else if k = 1 then c1 else if k = 2 then c2 else if k = 3 then c3 else if k = 4 then c4 else c5, hKc, fun k q hq => ?_⟩
    match k, hq with
    | 0, hq => cases hq; exact ⟨a0, r0⟩
    | 1, hq => cases hq; exact ⟨a1, r1⟩
    | 2, hq => cases hq; exact ⟨a2, r2⟩
    | 3, hq => cases hq; exact ⟨a3, r3⟩
    | 4, hq => cases hq; exact ⟨a4, r4⟩
    | 5, hq => cases hq; exact ⟨a5, r5⟩
    | k + 6, hq => simp [GT] at hq
  have hS : va_S (AA s) s.heap s.heap [] := va_S.rf
  have hP : va_P D vwCl [] s.heap := p_nil
  have hD : va_D (AA s) [] := d_nil
  have hl := lv_entry ([.ref b]) (n := 4) (Nat.le_of_ble_eq_true rfl)
  rw [lg_entry_eq]
  generalize (lg_sl ([.ref b]) ++ List.replicate (4 - (lg_sl ([.ref b])).length) Slot.unset).toArray = ls at hl ⊢
  have hl : lv_has ls 4 [(0, .ref b)] := hl
  refine va_new (ci := 11) (fs := [.null, .null, .null, .null, .null, .null, .null, .int 0, .int 0]) (C := RX11) (T := TX11) (N := 9) hx hb hg gwX11 tyX11 tyX11_ok hown (hg _ kw_1029) (hg _ kw_1027) (hg _ kw_12) hK hP hD hS hA rfl (by decide +kernel) (Nat.le_of_ble_eq_true rfl) (Nat.le_of_ble_eq_true rfl) dL_law_0 (fun q_0 H hP hD hS => ?_)
  have hP : va_P D vwCl [(q_0, .inr (11, [.null, .null, .null, .null, .null, .null, .null, .int 0, .int 0]))] H := hP
  have hD : va_D (AA s) [(q_0, .inr (11, [.null, .null, .null, .null, .null, .null, .null, .int 0, .int 0]))] := hD
  refine W.cs (cells' := 1) (slots' := 9) rfl rfl ?_
  refine lv_dup hx hb dL_law_3 rfl ?_
  have hPc := hP.sub (ws' := [(q_0, .inr (11, [.null, .null, .null, .null, .null, .null, .null, .int 0, .int 0]))]) [0] rfl
  have hDc := hD.sub (ws' := [(q_0, .inr (11, [.null, .null, .null, .null, .null, .null, .null, .int 0, .int 0]))]) [0] (by decide) rfl
  have hFc := va_free (wc := [(q_0, .inr (11, [.null, .null, .null, .null, .null, .null, .null, .int 0, .int 0]))]) hD hS hA [0] rfl
  refine va_callv (va_runI (As := []) (rest := [.ref q_0]) ⟨hx, hb, hml, hown, hg⟩ (i_nobody l D cs q_0 _) (cwI 0 hg (gw_I kw_1030) rfl rfl rfl (hg _ kw_12) (hg _ kw_1031) (hg _ kw_1032) rfl (by decide +kernel) ⟨(Nat.le_of_ble_eq_true rfl), (Nat.le_of_ble_eq_true rfl)⟩) (pr_C hK hPc hDc hN) rfl rfl hl.1 rfl (lv_room (Nat.le_of_ble_eq_true rfl)) dL_law_4 ⟨(Nat.le_of_ble_eq_true rfl), (Nat.le_of_ble_eq_true rfl)⟩) hS (fun q _ h => hFc q h) hFc (fun u t H1 locs ht hvm h_4 hB hz1 hk1 hS => ?_)
  refine nb_elim hB (fun py_4 pn_4 td_4 pg_4 rd_4 aq_4 pl_4 ch_4 ro_4 fpy_4 cd_4 ps_4 fcd_4 rw_4 rc_4 aC_4 aP_4 aA_4 rD_4 rV_4 frw_4 rr_4 frr_4 aw_4 ac_4 ao_4 am_4 C_4 P_4 tot_4 faw_4 fao_4 fam_4 ar_4 far_4 nx_4 sn_4 pv_4 bel_4 gs_4 gp_4 la_4 stp_4 rou_4 fnx_4 fsn_4 sm_4 tb_4 ck_4 cm_4 le_4 ne_4 pr_4 tr_4 ln_4 trs_4 lpr_4 smn_4 tbn_4 ckn_4 fsm_4 ftb_4 fck_4 fcm_4 lr_4 flr_4 fne_4 fpr_4 ftr_4 fln_4 ra_4 rg_4 rs__4 fra_4 frg_4 hps_4 hC5_4 hP4_4 hrs__4 hpn0_4 hP1 hD1 => ?_)
  obtain ⟨Wx, hWx⟩ : ∃ W9 : va_W, W9 = [(q_0, .inr (11, [.ref pg_4, .ref rd_4, .ref aq_4, .ref py_4, .ref pl_4, .ref ch_4, .ref ro_4, .int (nI pn_4), .int td_4])), (pg_4, .inr (2, [.ref cd_4, .int (nI ps_4)])), (cd_4, .inl (cs 0, 90, .inl fcd_4)), (rd_4, .inr (7, [.ref rw_4, .ref rc_4, .int aC_4, .int aP_4, .int aA_4, .int rD_4, .int rV_4])), (rw_4, .inl (cs 0, 5, .inl frw_4)), (rc_4, .inl (cs 4, 5, .inr (.inr (.inr (.inr (rowsF 5 rr_4)))))), ((rr_4 0), .inl (cs 0, 4, .inl (frr_4 0))), ((rr_4 1), .inl (cs 0, 4, .inl (frr_4 1))), ((rr_4 2), .inl (cs 0, 4, .inl (frr_4 2))), ((rr_4 3), .inl (cs 0, 4, .inl (frr_4 3))), ((rr_4 4), .inl (cs 0, 4, .inl (frr_4 4))), (aq_4, .inr (5, [.ref aw_4, .ref ac_4, .ref ao_4, .ref am_4, .int (nI C_4), .int (nI P_4), .long tot_4])), (aw_4, .inl (cs 0, 5, .inl faw_4)), (ac_4, .inl (cs 4, 5, .inr (.inr (.inr (.inr (rowsF 5 ar_4)))))), ((ar_4 0), .inl (cs 0, 4, .inl (far_4 0))), ((ar_4 1), .inl (cs 0, 4, .inl (far_4 1))), ((ar_4 2), .inl (cs 0, 4, .inl (far_4 2))), ((ar_4 3), .inl (cs 0, 4, .inl (far_4 3))), ((ar_4 4), .inl (cs 0, 4, .inl (far_4 4))), (ao_4, .inl (cs 0, 4, .inl fao_4)), (am_4, .inl (cs 1, 16, .inr (.inl fam_4))), (py_4, .inl (cs 3, 8, .inr (.inr (.inr (.inr fpy_4))))), (pl_4, .inr (4, [.ref aq_4, .ref nx_4, .ref sn_4, pv_4, .long bel_4, .int gs_4, .int gp_4, .int la_4, .int stp_4, .int rou_4])), (nx_4, .inl (cs 0, 256, .inl fnx_4)), (sn_4, .inl (cs 0, 256, .inl fsn_4)), (ch_4, .inr (0, [.ref aq_4, .ref sm_4, .ref tb_4, .ref ck_4, .ref cm_4, .ref le_4, .ref ne_4, .ref pr_4, .ref tr_4, .ref ln_4, .int trs_4, .long lpr_4])), (sm_4, .inr (9, [.ref smn_4, .null, .int 0])), (smn_4, .inl (cs 0, 4, .inl fsm_4)), (tb_4, .inr (10, [.ref tbn_4, .null, .int 0])), (tbn_4, .inl (cs 0, 4, .inl ftb_4)), (ck_4, .inr (1, [.ref ckn_4, .null, .int 0])), (ckn_4, .inl (cs 0, 4, .inl fck_4)), (cm_4, .inl (cs 1, 16, .inr (.inl fcm_4))), (le_4, .inl (cs 5, 4, .inr (.inr (.inr (.inr (rowsF 4 lr_4)))))), ((lr_4 0), .inl (cs 1, 12, .inr (.inl (flr_4 0)))), ((lr_4 1), .inl (cs 1, 12, .inr (.inl (flr_4 1)))), ((lr_4 2), .inl (cs 1, 12, .inr (.inl (flr_4 2)))), ((lr_4 3), .inl (cs 1, 12, .inr (.inl (flr_4 3)))), (ne_4, .inl (cs 1, 12, .inr (.inl fne_4))), (pr_4, .inl (cs 1, 4, .inr (.inl fpr_4))), (tr_4, .inl (cs 0, 4, .inl ftr_4)), (ln_4, .inl (cs 0, 4, .inl fln_4)), (ro_4, .inr (8, [.ref ra_4, .ref rg_4, .int (nI rs__4)])), (ra_4, .inl (cs 0, 24, .inl fra_4)), (rg_4, .inl (cs 1, 24, .inr (.inl frg_4)))] := ⟨_, rfl⟩
  rw [← hWx] at hP1 hD1
  rw [ht] at hP1
  obtain ⟨hP, hD⟩ := va_join (wr := []) (w1 := Wx) hP hD [0] [] rfl rfl (by decide) (by decide) hk1 hFc hP1 hD1
  generalize H1 = H at hP hS ⊢
  have hP : va_P D vwCl ([] ++ Wx) H := hP
  have hD : va_D (AA s) ([] ++ Wx) := hD
  refine W.cs (cells' := 46) (slots' := 901) rfl rfl ?_
  refine lv_astore_n (lv' := [(1, .ref q_0), (0, .ref b)]) hx hb dL_law_7 rfl hl (by decide) rfl (fun ls hl => ?_)
  refine va_new (ci := 12) (fs := [.null, .int 0, .int 0, .int 0, .null, .null, .null, .int 0, .int 0, .int 0, .int 0, .int 0, .int 0, .null, .null, .null, .long 0, .int 0, .null, .null, .int 0, .null, .null, .null, .int 0, .int 0, .int 0, .int 0, .null, .int 0, .null, .null, .long 0]) (C := RX12) (T := TX12) (N := 33) hx hb hg gwX12 tyX12 tyX12_ok hown (hg _ kw_1033) (hg _ kw_1028) (hg _ kw_319) hK hP hD hS hA rfl (by decide +kernel) (Nat.le_of_ble_eq_true rfl) (Nat.le_of_ble_eq_true rfl) dL_law_8 (fun q_8 H hP hD hS => ?_)
  have hP := va_P.swap (a := []) (b := Wx) (c := [(q_8, .inr (12, [.null, .int 0, .int 0, .int 0, .null, .null, .null, .int 0, .int 0, .int 0, .int 0, .int 0, .int 0, .null, .null, .null, .long 0, .int 0, .null, .null, .int 0, .null, .null, .null, .int 0, .int 0, .int 0, .int 0, .null, .int 0, .null, .null, .long 0]))]) hP
  have hD := va_D.swap (a := []) (b := Wx) (c := [(q_8, .inr (12, [.null, .int 0, .int 0, .int 0, .null, .null, .null, .int 0, .int 0, .int 0, .int 0, .int 0, .int 0, .null, .null, .null, .long 0, .int 0, .null, .null, .int 0, .null, .null, .null, .int 0, .int 0, .int 0, .int 0, .null, .int 0, .null, .null, .long 0]))]) hD
  have hP : va_P D vwCl ([(q_8, .inr (12, [.null, .int 0, .int 0, .int 0, .null, .null, .null, .int 0, .int 0, .int 0, .int 0, .int 0, .int 0, .null, .null, .null, .long 0, .int 0, .null, .null, .int 0, .null, .null, .null, .int 0, .int 0, .int 0, .int 0, .null, .int 0, .null, .null, .long 0]))] ++ Wx) H := hP
  have hD : va_D (AA s) ([(q_8, .inr (12, [.null, .int 0, .int 0, .int 0, .null, .null, .null, .int 0, .int 0, .int 0, .int 0, .int 0, .int 0, .null, .null, .null, .long 0, .int 0, .null, .null, .int 0, .null, .null, .null, .int 0, .int 0, .int 0, .int 0, .null, .int 0, .null, .null, .long 0]))] ++ Wx) := hD
  refine W.cs (cells' := 47) (slots' := 934) rfl rfl ?_
  refine lv_dup hx hb dL_law_11 rfl ?_
  have hPc := hP.sub (ws' := [(q_8, .inr (12, [.null, .int 0, .int 0, .int 0, .null, .null, .null, .int 0, .int 0, .int 0, .int 0, .int 0, .int 0, .null, .null, .null, .long 0, .int 0, .null, .null, .int 0, .null, .null, .null, .int 0, .int 0, .int 0, .int 0, .null, .int 0, .null, .null, .long 0]))]) [0] rfl
  have hDc := hD.sub (ws' := [(q_8, .inr (12, [.null, .int 0, .int 0, .int 0, .null, .null, .null, .int 0, .int 0, .int 0, .int 0, .int 0, .int 0, .null, .null, .null, .long 0, .int 0, .null, .null, .int 0, .null, .null, .null, .int 0, .int 0, .int 0, .int 0, .null, .int 0, .null, .null, .long 0]))]) [0] (by decide) rfl
  have hFc := va_free (wc := [(q_8, .inr (12, [.null, .int 0, .int 0, .int 0, .null, .null, .null, .int 0, .int 0, .int 0, .int 0, .int 0, .int 0, .null, .null, .null, .long 0, .int 0, .null, .null, .int 0, .null, .null, .null, .int 0, .int 0, .int 0, .int 0, .null, .int 0, .null, .null, .long 0]))]) hD hS hA [0] rfl
  refine va_callv (va_runI (As := []) (rest := [.ref q_8]) ⟨hx, hb, hml, hown, hg⟩ (i_model l D cs q_8 _) (cwI 0 hg (gw_I kw_1034) rfl rfl rfl (hg _ kw_319) (hg _ kw_1035) (hg _ kw_1036) rfl (by decide +kernel) ⟨(Nat.le_of_ble_eq_true rfl), (Nat.le_of_ble_eq_true rfl)⟩) (pr_C hK hPc hDc hN) rfl rfl hl.1 rfl (lv_room (Nat.le_of_ble_eq_true rfl)) dL_law_12 ⟨(Nat.le_of_ble_eq_true rfl), (Nat.le_of_ble_eq_true rfl)⟩) hS (fun q _ h => hFc q h) hFc (fun u t H1 locs ht hvm h_12 hB hz1 hk1 hS => ?_)
  refine md_elim hB (fun mp_12 mw_12 mh_12 mo_12 m5_12 m6_12 m7_12 mk_12 mn_12 mq_12 m8_12 m9_12 mz_12 mb_12 md_12 msm_12 Cm_12 Pm_12 mpn_12 mrs_12 sSm_12 rcm_12 rpm_12 icm_12 x_value_12 x_digits_12 x_all_12 x_kind_12 x_last_12 x_steps_12 x_isRound_12 x_tablesDone_12 x_hash_12 fmp_12 fmw_12 fmh_12 fmo_12 fm5_12 fm6_12 fm7_12 fmk_12 fmn_12 fmq_12 fm8_12 fm9_12 fmz_12 fmb_12 fmd_12 hms_12 hCm5_12 hPm4_12 hmrs_12 hsS_12 hrc_12 hrp_12 hic_12 hwI_12 hal_12 hPC_12 hpn1_12 hP1 hD1 => ?_)
  rw [ht] at hP1
  obtain ⟨hP, hD⟩ := va_joinQ (X := [(q_8, .inr (12, [.null, .int 0, .int 0, .int 0, .null, .null, .null, .int 0, .int 0, .int 0, .int 0, .int 0, .int 0, .null, .null, .null, .long 0, .int 0, .null, .null, .int 0, .null, .null, .null, .int 0, .int 0, .int 0, .int 0, .null, .int 0, .null, .null, .long 0]))]) (pl := Wx) (cx := [(q_8, .inr (12, [.null, .int 0, .int 0, .int 0, .null, .null, .null, .int 0, .int 0, .int 0, .int 0, .int 0, .int 0, .null, .null, .null, .long 0, .int 0, .null, .null, .int 0, .null, .null, .null, .int 0, .int 0, .int 0, .int 0, .null, .int 0, .null, .null, .long 0]))]) (wr := []) (w1 := [(q_8, .inr (12, [.ref mp_12, .int (nI msm_12), .int (nI Cm_12), .int (nI Pm_12), .ref mw_12, .ref mh_12, .ref mo_12, .int (nI sSm_12), .int x_value_12, .int x_digits_12, .int (nI rcm_12), .int (nI rpm_12), .int (nI icm_12), .ref m5_12, .ref m6_12, .ref m7_12, .long x_all_12, .int (nI mpn_12), .ref mk_12, .ref mn_12, .int x_kind_12, .ref mq_12, .ref m8_12, .ref m9_12, .int x_last_12, .int x_steps_12, .int x_isRound_12, .int x_tablesDone_12, .ref mz_12, .int (nI mrs_12), .ref mb_12, .ref md_12, .long x_hash_12])), (mp_12, .inl (cs 0, 90, .inl fmp_12)), (mw_12, .inl (cs 0, 5, .inl fmw_12)), (mh_12, .inl (cs 0, 20, .inl fmh_12)), (mo_12, .inl (cs 0, 4, .inl fmo_12)), (m5_12, .inl (cs 0, 5, .inl fm5_12)), (m6_12, .inl (cs 0, 20, .inl fm6_12)), (m7_12, .inl (cs 1, 16, .inr (.inl fm7_12))), (mk_12, .inl (cs 0, 8, .inl fmk_12)), (mn_12, .inl (cs 0, 32, .inl fmn_12)), (mq_12, .inl (cs 0, 4, .inl fmq_12)), (m8_12, .inl (cs 1, 1024, .inr (.inl fm8_12))), (m9_12, .inl (cs 2, 256, .inl fm9_12)), (mz_12, .inl (cs 1, 64, .inr (.inl fmz_12))), (mb_12, .inl (cs 0, 24, .inl fmb_12)), (md_12, .inl (cs 1, 24, .inr (.inl fmd_12)))]) hP hD [0] [] rfl rfl (by decide) (by decide) hk1 hFc hP1 hD1
  generalize H1 = H at hP hS ⊢
  have hP : va_P D vwCl ([(q_8, .inr (12, [.ref mp_12, .int (nI msm_12), .int (nI Cm_12), .int (nI Pm_12), .ref mw_12, .ref mh_12, .ref mo_12, .int (nI sSm_12), .int x_value_12, .int x_digits_12, .int (nI rcm_12), .int (nI rpm_12), .int (nI icm_12), .ref m5_12, .ref m6_12, .ref m7_12, .long x_all_12, .int (nI mpn_12), .ref mk_12, .ref mn_12, .int x_kind_12, .ref mq_12, .ref m8_12, .ref m9_12, .int x_last_12, .int x_steps_12, .int x_isRound_12, .int x_tablesDone_12, .ref mz_12, .int (nI mrs_12), .ref mb_12, .ref md_12, .long x_hash_12])), (mp_12, .inl (cs 0, 90, .inl fmp_12)), (mw_12, .inl (cs 0, 5, .inl fmw_12)), (mh_12, .inl (cs 0, 20, .inl fmh_12)), (mo_12, .inl (cs 0, 4, .inl fmo_12)), (m5_12, .inl (cs 0, 5, .inl fm5_12)), (m6_12, .inl (cs 0, 20, .inl fm6_12)), (m7_12, .inl (cs 1, 16, .inr (.inl fm7_12))), (mk_12, .inl (cs 0, 8, .inl fmk_12)), (mn_12, .inl (cs 0, 32, .inl fmn_12)), (mq_12, .inl (cs 0, 4, .inl fmq_12)), (m8_12, .inl (cs 1, 1024, .inr (.inl fm8_12))), (m9_12, .inl (cs 2, 256, .inl fm9_12)), (mz_12, .inl (cs 1, 64, .inr (.inl fmz_12))), (mb_12, .inl (cs 0, 24, .inl fmb_12)), (md_12, .inl (cs 1, 24, .inr (.inl fmd_12)))] ++ Wx) H := hP
  have hD : va_D (AA s) ([(q_8, .inr (12, [.ref mp_12, .int (nI msm_12), .int (nI Cm_12), .int (nI Pm_12), .ref mw_12, .ref mh_12, .ref mo_12, .int (nI sSm_12), .int x_value_12, .int x_digits_12, .int (nI rcm_12), .int (nI rpm_12), .int (nI icm_12), .ref m5_12, .ref m6_12, .ref m7_12, .long x_all_12, .int (nI mpn_12), .ref mk_12, .ref mn_12, .int x_kind_12, .ref mq_12, .ref m8_12, .ref m9_12, .int x_last_12, .int x_steps_12, .int x_isRound_12, .int x_tablesDone_12, .ref mz_12, .int (nI mrs_12), .ref mb_12, .ref md_12, .long x_hash_12])), (mp_12, .inl (cs 0, 90, .inl fmp_12)), (mw_12, .inl (cs 0, 5, .inl fmw_12)), (mh_12, .inl (cs 0, 20, .inl fmh_12)), (mo_12, .inl (cs 0, 4, .inl fmo_12)), (m5_12, .inl (cs 0, 5, .inl fm5_12)), (m6_12, .inl (cs 0, 20, .inl fm6_12)), (m7_12, .inl (cs 1, 16, .inr (.inl fm7_12))), (mk_12, .inl (cs 0, 8, .inl fmk_12)), (mn_12, .inl (cs 0, 32, .inl fmn_12)), (mq_12, .inl (cs 0, 4, .inl fmq_12)), (m8_12, .inl (cs 1, 1024, .inr (.inl fm8_12))), (m9_12, .inl (cs 2, 256, .inl fm9_12)), (mz_12, .inl (cs 1, 64, .inr (.inl fmz_12))), (mb_12, .inl (cs 0, 24, .inl fmb_12)), (md_12, .inl (cs 1, 24, .inr (.inl fmd_12)))] ++ Wx) := hD
  refine W.cs (cells' := 62) (slots' := 2530) rfl rfl ?_
  refine lv_astore_n (lv' := [(2, .ref q_8), (1, .ref q_0), (0, .ref b)]) hx hb dL_law_15 rfl hl (by decide) rfl (fun ls hl => ?_)
  refine lv_iconst (v := 0) hx hb dL_law_16 (by decide) ?_
  refine lv_istore_n (lv' := [(3, .int 0), (2, .ref q_8), (1, .ref q_0), (0, .ref b)]) hx hb dL_law_17 rfl hl (by decide) rfl (fun ls hl => ?_)
  have hpm : mpn_12 = pn_4 := hpn1_12.trans hpn0_4.symm
  rw [hpm, hWx] at hP
  rw [hpm, hWx] at hD
  have hV : INV D cs (AA s) q_0 q_8 H := INV_mk py_4 pn_4 td_4 pg_4 rd_4 aq_4 pl_4 ch_4 ro_4 fpy_4 cd_4 ps_4 fcd_4 rw_4 rc_4 aC_4 aP_4 aA_4 rD_4 rV_4 frw_4 rr_4 frr_4 aw_4 ac_4 ao_4 am_4 C_4 P_4 tot_4 faw_4 fao_4 fam_4 ar_4 far_4 nx_4 sn_4 pv_4 bel_4 gs_4 gp_4 la_4 stp_4 rou_4 fnx_4 fsn_4 sm_4 tb_4 ck_4 cm_4 le_4 ne_4 pr_4 tr_4 ln_4 trs_4 lpr_4 smn_4 tbn_4 ckn_4 fsm_4 ftb_4 fck_4 fcm_4 lr_4 flr_4 fne_4 fpr_4 ftr_4 fln_4 ra_4 rg_4 rs__4 fra_4 frg_4 [] mp_12 mw_12 mh_12 mo_12 m5_12 m6_12 m7_12 mk_12 mn_12 mq_12 m8_12 m9_12 mz_12 mb_12 md_12 msm_12 Cm_12 Pm_12 mrs_12 sSm_12 rcm_12 rpm_12 icm_12 x_value_12 x_digits_12 x_all_12 x_kind_12 x_last_12 x_steps_12 x_isRound_12 x_tablesDone_12 x_hash_12 fmp_12 fmw_12 fmh_12 fmo_12 fm5_12 fm6_12 fm7_12 fmk_12 fmn_12 fmq_12 fm8_12 fm9_12 fmz_12 fmb_12 fmd_12 (hps_4) (hC5_4) (hP4_4) (hrs__4) (by omega) (hpn0_4) (⟨by decide, fun k q h => by simp at h⟩) (hms_12) (hCm5_12) (hPm4_12) (hmrs_12) (hsS_12) (hrc_12) (hrp_12) (hic_12) (hwI_12) (hal_12) (hPC_12) (st_P hP) (st_D hD)
  exact law_loop l hL C0 hN hI hK (L + 1) 0 _ _ ls (by omega) (by omega) hV hS (lv_sub hl [0, 1, 2, 3] rfl)
