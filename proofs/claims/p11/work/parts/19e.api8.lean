theorem dX11_withPays_0 : decode cX11_withPays 0 = .ok (.lload_n 1, 1) := by decide +kernel
theorem dX11_withPays_1 : decode cX11_withPays 1 = .ok (.lstore_n 3, 1) := by decide +kernel
theorem dX11_withPays_2 : decode cX11_withPays 2 = .ok (.iconst 0, 1) := by decide +kernel
theorem dX11_withPays_3 : decode cX11_withPays 3 = .ok (.istore 5, 2) := by decide +kernel
theorem dX11_withPays_5 : decode cX11_withPays 5 = .ok (.iload 5, 2) := by decide +kernel
theorem dX11_withPays_7 : decode cX11_withPays 7 = .ok (.aload_n 0, 1) := by decide +kernel
theorem dX11_withPays_8 : decode cX11_withPays 8 = .ok (.getfield 134, 3) := by decide +kernel
theorem dX11_withPays_11 : decode cX11_withPays 11 = .ok (.if_icmp .ge 30, 3) := by decide +kernel
theorem dX11_withPays_14 : decode cX11_withPays 14 = .ok (.aload_n 0, 1) := by decide +kernel
theorem dX11_withPays_15 : decode cX11_withPays 15 = .ok (.iload 5, 2) := by decide +kernel
theorem dX11_withPays_17 : decode cX11_withPays 17 = .ok (.invokevirtual 145, 3) := by decide +kernel
theorem dX11_withPays_20 : decode cX11_withPays 20 = .ok (.astore 6, 2) := by decide +kernel
theorem dX11_withPays_22 : decode cX11_withPays 22 = .ok (.aload 6, 2) := by decide +kernel
theorem dX11_withPays_24 : decode cX11_withPays 24 = .ok (.ifnull 11, 3) := by decide +kernel
theorem dX11_withPays_27 : decode cX11_withPays 27 = .ok (.aload_n 0, 1) := by decide +kernel
theorem dX11_withPays_28 : decode cX11_withPays 28 = .ok (.lload_n 3, 1) := by decide +kernel
theorem dX11_withPays_29 : decode cX11_withPays 29 = .ok (.aload 6, 2) := by decide +kernel
theorem dX11_withPays_31 : decode cX11_withPays 31 = .ok (.invokevirtual 317, 3) := by decide +kernel
theorem dX11_withPays_34 : decode cX11_withPays 34 = .ok (.lstore_n 3, 1) := by decide +kernel
theorem dX11_withPays_35 : decode cX11_withPays 35 = .ok (.iinc 5 1, 3) := by decide +kernel
theorem dX11_withPays_38 : decode cX11_withPays 38 = .ok (.goto (-33), 3) := by decide +kernel
theorem dX11_withPays_41 : decode cX11_withPays 41 = .ok (.lload_n 3, 1) := by decide +kernel
theorem dX11_withPays_42 : decode cX11_withPays 42 = .ok (.lreturn, 1) := by decide +kernel
theorem kw_750 : (.code yX11_withPay cX11_withPay 7 (some .long) : Cond) ∈ gw_tbl := gw_in (by decide +kernel) (by decide +kernel)
theorem kw_751 : (.methodLink RX11 317 yX11_withPay : Cond) ∈ gw_tbl := gw_in (by decide +kernel) (by decide +kernel)
theorem kw_752 : (.instanceMethod yX11_withPay : Cond) ∈ gw_tbl := gw_in (by decide +kernel) (by decide +kernel)
theorem kw_753 : (.selects RX11 yX11_withPay yX11_withPay : Cond) ∈ gw_tbl := gw_in (by decide +kernel) (by decide +kernel)

set_option maxHeartbeats 4000000 in
set_option maxRecDepth 100000 in
theorem x_withPays (l : Launch) (D : va_G) (cs : Nat → ClassId) (x0 : Nat) (py : Nat) (pn : Nat) (hpn : pn ≤ 8) (td : Int32) (pg : Nat) (rd : Nat) (ch : Nat) (ro : Nat) (fpy : Nat → Option Nat) (rs : List PRec) (hpi : pyI fpy rs) (hpl : pn = rs.length) (pl : Nat) (nx : Nat) (sn : Nat) (bel : Int64) (gs : Int32) (gp : Int32) (la : Int32) (stp : Int32) (rou : Int32) (pv : Value) (aq : Nat) (aw : Nat) (ac : Nat) (ao : Nat) (am : Nat) (C : Nat) (hC5 : C ≤ 5) (P : Nat) (hP4 : P ≤ 4) (tot : Int64) (fao : Nat → Int32) (fam : Nat → Int64) (v : Int64) (sz : Nat) : Met l yX11_withPays (Cond.code yX11_withPays cX11_withPays 7 (some .long) :: gw_tbl) ({ frames := 6, cells := 8, slots := 8192, locals := 142 }) (pc_M D cs ([(x0, .inr (11, [.ref pg, .ref rd, .ref aq, .ref py, .ref pl, .ref ch, .ref ro, .int (nI pn), .int td])), (py, .inl (cs 3, 8, .inr (.inr (.inr (.inr fpy))))), (pl, .inr (4, [.ref aq, .ref nx, .ref sn, pv, .long bel, .int gs, .int gp, .int la, .int stp, .int rou])), (aq, .inr (5, [.ref aw, .ref ac, .ref ao, .ref am, .int (nI C), .int (nI P), .long tot])), (ao, .inl (cs 0, 4, .inl fao)), (am, .inl (cs 1, 16, .inr (.inl fam)))] ++ (pyL cs rs)) sz [.ref x0, .long v]) (va_Ql (fun (r : Int64) (u : Unit) => True) (fun u t => ∃ (bel2 : Int64), ∃ (pv2 : Value), ∃ rs2 : List PRec, pyS rs rs2 ∧ va_P D vwCl ([(x0, .inr (11, [.ref pg, .ref rd, .ref aq, .ref py, .ref pl, .ref ch, .ref ro, .int (nI pn), .int td])), (py, .inl (cs 3, 8, .inr (.inr (.inr (.inr fpy))))), (pl, .inr (4, [.ref aq, .ref nx, .ref sn, pv2, .long bel2, .int gs, .int gp, .int la, .int stp, .int rou])), (aq, .inr (5, [.ref aw, .ref ac, .ref ao, .ref am, .int (nI C), .int (nI P), .long tot])), (ao, .inl (cs 0, 4, .inl fao)), (am, .inl (cs 1, 16, .inr (.inl fam)))] ++ pyL cs rs2) t.heap ∧ va_D (va_A ([(x0, .inr (11, [.ref pg, .ref rd, .ref aq, .ref py, .ref pl, .ref ch, .ref ro, .int (nI pn), .int td])), (py, .inl (cs 3, 8, .inr (.inr (.inr (.inr fpy))))), (pl, .inr (4, [.ref aq, .ref nx, .ref sn, pv, .long bel, .int gs, .int gp, .int la, .int stp, .int rou])), (aq, .inr (5, [.ref aw, .ref ac, .ref ao, .ref am, .int (nI C), .int (nI P), .long tot])), (ao, .inl (cs 0, 4, .inl fao)), (am, .inl (cs 1, 16, .inr (.inl fam)))] ++ pyL cs rs) sz) ([(x0, .inr (11, [.ref pg, .ref rd, .ref aq, .ref py, .ref pl, .ref ch, .ref ro, .int (nI pn), .int td])), (py, .inl (cs 3, 8, .inr (.inr (.inr (.inr fpy))))), (pl, .inr (4, [.ref aq, .ref nx, .ref sn, pv2, .long bel2, .int gs, .int gp, .int la, .int stp, .int rou])), (aq, .inr (5, [.ref aw, .ref ac, .ref ao, .ref am, .int (nI C), .int (nI P), .long tot])), (ao, .inl (cs 0, 4, .inl fao)), (am, .inl (cs 1, 16, .inr (.inl fam)))] ++ pyL cs rs2)) (va_A ([(x0, .inr (11, [.ref pg, .ref rd, .ref aq, .ref py, .ref pl, .ref ch, .ref ro, .int (nI pn), .int td])), (py, .inl (cs 3, 8, .inr (.inr (.inr (.inr fpy))))), (pl, .inr (4, [.ref aq, .ref nx, .ref sn, pv, .long bel, .int gs, .int gp, .int la, .int stp, .int rou])), (aq, .inr (5, [.ref aw, .ref ac, .ref ao, .ref am, .int (nI C), .int (nI P), .long tot])), (ao, .inl (cs 0, 4, .inl fao)), (am, .inl (cs 1, 16, .inr (.inl fam)))] ++ (pyL cs rs)) sz)) 8 8192 (va_A ([(x0, .inr (11, [.ref pg, .ref rd, .ref aq, .ref py, .ref pl, .ref ch, .ref ro, .int (nI pn), .int td])), (py, .inl (cs 3, 8, .inr (.inr (.inr (.inr fpy))))), (pl, .inr (4, [.ref aq, .ref nx, .ref sn, pv, .long bel, .int gs, .int gp, .int la, .int stp, .int rou])), (aq, .inr (5, [.ref aw, .ref ac, .ref ao, .ref am, .int (nI C), .int (nI P), .long tot])), (ao, .inl (cs 0, 4, .inl fao)), (am, .inl (cs 1, 16, .inr (.inl fam)))] ++ (pyL cs rs)) sz) := by
  refine Met.ofW (cc := cX11_withPays) (maxL := 7) (ret := (some .long)) (by decide) rfl ?_
  intro p e s m args below meth c s₁ B hml hv
  obtain ⟨hargs, hsz, hP, hK, hD0⟩ := hv
  have hx := B.exec
  have hb := B.bytes
  have hr := B.returns
  have hts := atoms_spec (ws := Cond.code yX11_withPays cX11_withPays 7 (some .long) :: gw_tbl) B.pre
  have hg := fun (w : Cond) (h : w ∈ gw_tbl) => hts w (List.mem_cons_of_mem _ h)
  have hown : s.vm.findClass RX11 = some m.cls := findClass_of_methodNamed B.named
  have hlocks := B.notSynchronized
  subst hsz
  have hD := hD0.self (sz := s.heap.size)
  generalize hAe : va_A ([(x0, .inr (11, [.ref pg, .ref rd, .ref aq, .ref py, .ref pl, .ref ch, .ref ro, .int (nI pn), .int td])), (py, .inl (cs 3, 8, .inr (.inr (.inr (.inr fpy))))), (pl, .inr (4, [.ref aq, .ref nx, .ref sn, pv, .long bel, .int gs, .int gp, .int la, .int stp, .int rou])), (aq, .inr (5, [.ref aw, .ref ac, .ref ao, .ref am, .int (nI C), .int (nI P), .long tot])), (ao, .inl (cs 0, 4, .inl fao)), (am, .inl (cs 1, 16, .inr (.inl fam)))] ++ (pyL cs rs)) s.heap.size = A at hD ⊢
  have hA : ∀ q : Nat, s.heap.size ≤ q → A q := fun q h => by rw [← hAe]; exact Or.inr h
  have hS : va_S A s.heap s.heap [] := va_S.rf
  have hP : va_P D vwCl ([(x0, .inr (11, [.ref pg, .ref rd, .ref aq, .ref py, .ref pl, .ref ch, .ref ro, .int (nI pn), .int td])), (py, .inl (cs 3, 8, .inr (.inr (.inr (.inr fpy))))), (pl, .inr (4, [.ref aq, .ref nx, .ref sn, pv, .long bel, .int gs, .int gp, .int la, .int stp, .int rou])), (aq, .inr (5, [.ref aw, .ref ac, .ref ao, .ref am, .int (nI C), .int (nI P), .long tot])), (ao, .inl (cs 0, 4, .inl fao)), (am, .inl (cs 1, 16, .inr (.inl fam)))] ++ (pyL cs rs)) s.heap := hP
  have hl := lv_entry ([.ref x0, .long v]) (n := 7) (Nat.le_of_ble_eq_true rfl)
  rw [show entryFrame m args 7 = F0 m 0 (lg_sl ([.ref x0, .long v]) ++ List.replicate (7 - (lg_sl ([.ref x0, .long v])).length) Slot.unset).toArray [] from by rw [hargs]; exact lg_entry_eq ..]
  generalize (lg_sl ([.ref x0, .long v]) ++ List.replicate (7 - (lg_sl ([.ref x0, .long v])).length) Slot.unset).toArray = ls at hl ⊢
  have hl : lv_has ls 7 [(0, .ref x0), (1, .long v)] := hl
  refine W_genQ (fun Q hQ => ?_)
  have hlm := lim_le hP4
  have hlq := lim_pos P
  have hsg := sgn_le hP4
  refine lv_lload_n hx hb dX11_withPays_0 rfl (lv_at hl 1 rfl) ?_
  refine lv_lstore_n (lv' := [(3, .long v), (0, .ref x0), (1, .long v)]) hx hb dX11_withPays_1 rfl hl (by decide) rfl (fun ls hl => ?_)
  refine lv_iconst (v := 0) hx hb dX11_withPays_2 (by decide) ?_
  refine lv_istore (lv' := [(5, .int 0), (3, .long v), (0, .ref x0), (1, .long v)]) hx hb dX11_withPays_3 hl (by decide) rfl (fun ls hl => ?_)
  have LOOP5 : ∀ (n5 : Nat) (u3_5 : Int64) (k : Nat) (rsL : List PRec) (wpl4_5 : Int64) (wpl3_5 : Value), k ≤ pn → pyS rs rsL → pn - k < n5 → ∀ (H : Heap) (locs : List Loc) (ls : Array Slot), va_P D vwCl ([(x0, .inr (11, [.ref pg, .ref rd, .ref aq, .ref py, .ref pl, .ref ch, .ref ro, .int (nI pn), .int td])), (py, .inl (cs 3, 8, .inr (.inr (.inr (.inr fpy))))), (pl, .inr (4, [.ref aq, .ref nx, .ref sn, wpl3_5, .long wpl4_5, .int gs, .int gp, .int la, .int stp, .int rou])), (aq, .inr (5, [.ref aw, .ref ac, .ref ao, .ref am, .int (nI C), .int (nI P), .long tot])), (ao, .inl (cs 0, 4, .inl fao)), (am, .inl (cs 1, 16, .inr (.inl fam)))] ++ (pyL cs rsL)) H → va_D A ([(x0, .inr (11, [.ref pg, .ref rd, .ref aq, .ref py, .ref pl, .ref ch, .ref ro, .int (nI pn), .int td])), (py, .inl (cs 3, 8, .inr (.inr (.inr (.inr fpy))))), (pl, .inr (4, [.ref aq, .ref nx, .ref sn, wpl3_5, .long wpl4_5, .int gs, .int gp, .int la, .int stp, .int rou])), (aq, .inr (5, [.ref aw, .ref ac, .ref ao, .ref am, .int (nI C), .int (nI P), .long tot])), (ao, .inl (cs 0, 4, .inl fao)), (am, .inl (cs 1, 16, .inr (.inl fam)))] ++ (pyL cs rsL)) → va_S A s.heap H locs → lv_has ls 7 [(0, .ref x0), (1, .long v), (3, .long u3_5), (5, .int (nI k))] → W p l e ({ frames := 6, cells := 8, slots := 8192, locals := 142 } : Room) s m args below meth c H locs k (1024 * k) Q (F0 m 5 ls []) := by
    intro n5
    induction n5 with
    | zero =>
      intro u3_5 k rsL wpl4_5 wpl3_5 hk hps hn5 H locs ls hP hD hS hl
      exact absurd hn5 (Nat.not_lt_zero _)
    | succ n5 ih5 =>
      intro u3_5 k rsL wpl4_5 wpl3_5 hk hps hn5 H locs ls hP hD hS hl
      have hpiL := pyS_I hps hpi
      have hlL : rsL.length = pn := by rw [pyS_len hps]; omega
      refine lv_iload hx hb dX11_withPays_5 (lv_at hl 3 rfl) ?_
      refine lv_aload_n hx hb dX11_withPays_7 rfl (lv_at hl 0 rfl) ?_
      refine va_get (D := D) (ci := 11) (v := .int (nI pn)) (C := RX11) (T := TX11) (N := 9) hx hb hg gwX11 hown hK hP 0 rfl rfl 7 (by decide) (hg _ kw_593) (fun _ h9 => h9) rfl dX11_withPays_8 ?_
      refine lv_icmp_ge (tgt := 41) hx hb dX11_withPays_11 (by decide) (fun c_11 => ?_) (fun c_11 => ?_)
      · have n_11 : pn ≤ k := b_le_t (by omega) (by omega) c_11
        refine lv_lload_n hx hb dX11_withPays_41 rfl (lv_at hl 2 rfl) ?_
        refine W_sQ hQ ?_
        refine W.widen (k := 8) (n := 8192) (by omega) (by omega) ?_
        have hP9 := hP.part (cx := [(x0, .inr (11, [.ref pg, .ref rd, .ref aq, .ref py, .ref pl, .ref ch, .ref ro, .int (nI pn), .int td])), (py, .inl (cs 3, 8, .inr (.inr (.inr (.inr fpy))))), (pl, .inr (4, [.ref aq, .ref nx, .ref sn, wpl3_5, .long wpl4_5, .int gs, .int gp, .int la, .int stp, .int rou])), (aq, .inr (5, [.ref aw, .ref ac, .ref ao, .ref am, .int (nI C), .int (nI P), .long tot])), (ao, .inl (cs 0, 4, .inl fao)), (am, .inl (cs 1, 16, .inr (.inl fam)))]) [0, 1, 2, 3, 4, 5] rfl
        have hD9 := hD.part (cx := [(x0, .inr (11, [.ref pg, .ref rd, .ref aq, .ref py, .ref pl, .ref ch, .ref ro, .int (nI pn), .int td])), (py, .inl (cs 3, 8, .inr (.inr (.inr (.inr fpy))))), (pl, .inr (4, [.ref aq, .ref nx, .ref sn, wpl3_5, .long wpl4_5, .int gs, .int gp, .int la, .int stp, .int rou])), (aq, .inr (5, [.ref aw, .ref ac, .ref ao, .ref am, .int (nI C), .int (nI P), .long tot])), (ao, .inl (cs 0, 4, .inl fao)), (am, .inl (cs 1, 16, .inr (.inl fam)))]) [0, 1, 2, 3, 4, 5] (by decide) rfl
        exact W.lret (v := u3_5) hx hb hr (fun t ht hW => ⟨⟨u3_5, (), rfl, trivial, ⟨wpl4_5, wpl3_5, rsL, hps, by rw [ht]; exact hP9, hD9⟩⟩, hS.F ht⟩) hS.2.2 dX11_withPays_42
      · have n_11 : k < pn := b_le_f (by omega) (by omega) c_11
        refine lv_aload_n hx hb dX11_withPays_14 rfl (lv_at hl 0 rfl) ?_
        refine lv_iload hx hb dX11_withPays_15 (lv_at hl 3 rfl) ?_
        have hPc := hP.sub (ws' := [(x0, .inr (11, [.ref pg, .ref rd, .ref aq, .ref py, .ref pl, .ref ch, .ref ro, .int (nI pn), .int td])), (py, .inl (cs 3, 8, .inr (.inr (.inr (.inr fpy)))))]) [0, 1] rfl
        refine va_csq (W.runV (As := [.int (nI k)]) (rest := []) ⟨hx, hb, hml, hown, hg⟩ (x_payOfN l D cs x0 py pn (by omega) td pg rd aq pl ch ro fpy k (by omega)) (cwV 1 hg (gw_V kw_612 kw_613 kw_614 kw_12 kw_611) rfl rfl rfl (by decide +kernel) ⟨(Nat.le_of_ble_eq_true rfl), (Nat.le_of_ble_eq_true rfl)⟩) (pr_SV (q := (RX11, TX11, 9)) 11 0 hK hPc rfl rfl) rfl rfl hl.1 rfl (lv_room (Nat.le_of_ble_eq_true rfl)) dX11_withPays_17 ⟨(show k + 0 ≤ 8 by omega), (show 1024 * k + 0 ≤ 8192 by omega)⟩) (fun r_17 h_17 => ?_)
        subst h_17
        obtain ⟨⟨h0, ci, nq, fq, avg, rk⟩, hrk⟩ : ∃ r9, rsL[k]? = some r9 := ⟨_, List.getElem?_eq_getElem (by omega)⟩
        obtain ⟨hfa, -⟩ := hpiL.2 _ _ hrk
        rw [show fpy k = some h0 from hfa]
        refine W.eq (g2 := F0 m 20 ls [.ref h0]) rfl ?_
        refine lv_astore (lv' := [(6, .ref h0), (0, .ref x0), (1, .long v), (3, .long u3_5), (5, .int (nI k))]) hx hb dX11_withPays_20 hl (by decide) rfl (fun ls hl => ?_)
        refine lv_aload hx hb dX11_withPays_22 (lv_at hl 0 rfl) ?_
        refine lv_ifnull hx hb dX11_withPays_24 ?_
        refine lv_aload_n hx hb dX11_withPays_27 rfl (lv_at hl 1 rfl) ?_
        refine lv_lload_n hx hb dX11_withPays_28 rfl (lv_at hl 3 rfl) ?_
        refine lv_aload hx hb dX11_withPays_29 (lv_at hl 0 rfl) ?_
        have hPc := hP.part (cx := [(x0, .inr (11, [.ref pg, .ref rd, .ref aq, .ref py, .ref pl, .ref ch, .ref ro, .int (nI pn), .int td])), (py, .inl (cs 3, 8, .inr (.inr (.inr (.inr fpy))))), (pl, .inr (4, [.ref aq, .ref nx, .ref sn, wpl3_5, .long wpl4_5, .int gs, .int gp, .int la, .int stp, .int rou])), (aq, .inr (5, [.ref aw, .ref ac, .ref ao, .ref am, .int (nI C), .int (nI P), .long tot])), (ao, .inl (cs 0, 4, .inl fao)), (am, .inl (cs 1, 16, .inr (.inl fam)))]) [0, 1, 2, 3, 4, 5] rfl
        have hDc := hD.part (cx := [(x0, .inr (11, [.ref pg, .ref rd, .ref aq, .ref py, .ref pl, .ref ch, .ref ro, .int (nI pn), .int td])), (py, .inl (cs 3, 8, .inr (.inr (.inr (.inr fpy))))), (pl, .inr (4, [.ref aq, .ref nx, .ref sn, wpl3_5, .long wpl4_5, .int gs, .int gp, .int la, .int stp, .int rou])), (aq, .inr (5, [.ref aw, .ref ac, .ref ao, .ref am, .int (nI C), .int (nI P), .long tot])), (ao, .inl (cs 0, 4, .inl fao)), (am, .inl (cs 1, 16, .inr (.inl fam)))]) [0, 1, 2, 3, 4, 5] (by decide) rfl
        have hFc := va_freeP (cx := [(x0, .inr (11, [.ref pg, .ref rd, .ref aq, .ref py, .ref pl, .ref ch, .ref ro, .int (nI pn), .int td])), (py, .inl (cs 3, 8, .inr (.inr (.inr (.inr fpy))))), (pl, .inr (4, [.ref aq, .ref nx, .ref sn, wpl3_5, .long wpl4_5, .int gs, .int gp, .int la, .int stp, .int rou])), (aq, .inr (5, [.ref aw, .ref ac, .ref ao, .ref am, .int (nI C), .int (nI P), .long tot])), (ao, .inl (cs 0, 4, .inl fao)), (am, .inl (cs 1, 16, .inr (.inl fam)))]) hD hS hA [0, 1, 2, 3, 4, 5] rfl
        refine va_calll (va_runV (As := [.long u3_5, .ref h0]) (rest := []) ⟨hx, hb, hml, hown, hg⟩ (x_withPay l D cs x0 py pn (by omega) td pg rd ch ro fpy rsL hpiL (by omega) pl nx sn wpl4_5 gs gp la stp rou wpl3_5 aq aw ac ao am C (by omega) P (by omega) tot fao fam u3_5 k h0 ci nq fq avg rk hrk _) (cwV 2 hg (gw_V kw_751 kw_752 kw_753 kw_12 kw_750) rfl rfl rfl (by decide +kernel) ⟨(Nat.le_of_ble_eq_true rfl), (Nat.le_of_ble_eq_true rfl)⟩) (pr_MV (q := (RX11, TX11, 9)) 11 0 hK hPc hDc rfl rfl) rfl rfl hl.1 rfl (lv_room (Nat.le_of_ble_eq_true rfl)) dX11_withPays_31 ⟨(show k + 1 ≤ 8 by omega), (show 1024 * k + 1024 ≤ 8192 by omega)⟩) hS (fun q _ h => hFc q h) hFc (fun r_31 u t H1 locs ht hvm h_31 hB hz1 hk1 hS => ?_)
        obtain ⟨bel2_31, pv2_31, rs2_31, hps_31, hP1, hD1⟩ := hB
        have hpi_31 := pyS_I hps_31 hpiL
        have hpt_31 := hps_31
        rw [ht] at hP1
        obtain ⟨hP, hD⟩ := va_joinP (X := [(x0, .inr (11, [.ref pg, .ref rd, .ref aq, .ref py, .ref pl, .ref ch, .ref ro, .int (nI pn), .int td])), (py, .inl (cs 3, 8, .inr (.inr (.inr (.inr fpy))))), (pl, .inr (4, [.ref aq, .ref nx, .ref sn, wpl3_5, .long wpl4_5, .int gs, .int gp, .int la, .int stp, .int rou])), (aq, .inr (5, [.ref aw, .ref ac, .ref ao, .ref am, .int (nI C), .int (nI P), .long tot])), (ao, .inl (cs 0, 4, .inl fao)), (am, .inl (cs 1, 16, .inr (.inl fam)))]) (pl := (pyL cs rsL)) (cx := [(x0, .inr (11, [.ref pg, .ref rd, .ref aq, .ref py, .ref pl, .ref ch, .ref ro, .int (nI pn), .int td])), (py, .inl (cs 3, 8, .inr (.inr (.inr (.inr fpy))))), (pl, .inr (4, [.ref aq, .ref nx, .ref sn, wpl3_5, .long wpl4_5, .int gs, .int gp, .int la, .int stp, .int rou])), (aq, .inr (5, [.ref aw, .ref ac, .ref ao, .ref am, .int (nI C), .int (nI P), .long tot])), (ao, .inl (cs 0, 4, .inl fao)), (am, .inl (cs 1, 16, .inr (.inl fam)))]) (wr := []) (rx := [(x0, .inr (11, [.ref pg, .ref rd, .ref aq, .ref py, .ref pl, .ref ch, .ref ro, .int (nI pn), .int td])), (py, .inl (cs 3, 8, .inr (.inr (.inr (.inr fpy))))), (pl, .inr (4, [.ref aq, .ref nx, .ref sn, pv2_31, .long bel2_31, .int gs, .int gp, .int la, .int stp, .int rou])), (aq, .inr (5, [.ref aw, .ref ac, .ref ao, .ref am, .int (nI C), .int (nI P), .long tot])), (ao, .inl (cs 0, 4, .inl fao)), (am, .inl (cs 1, 16, .inr (.inl fam)))]) (pl1 := (pyL cs rs2_31)) hP hD [0, 1, 2, 3, 4, 5] [] rfl rfl (by decide) (by decide) hk1 hFc hP1 hD1
        generalize H1 = H at hP hS ⊢
        have hP : va_P D vwCl ([(x0, .inr (11, [.ref pg, .ref rd, .ref aq, .ref py, .ref pl, .ref ch, .ref ro, .int (nI pn), .int td])), (py, .inl (cs 3, 8, .inr (.inr (.inr (.inr fpy))))), (pl, .inr (4, [.ref aq, .ref nx, .ref sn, pv2_31, .long bel2_31, .int gs, .int gp, .int la, .int stp, .int rou])), (aq, .inr (5, [.ref aw, .ref ac, .ref ao, .ref am, .int (nI C), .int (nI P), .long tot])), (ao, .inl (cs 0, 4, .inl fao)), (am, .inl (cs 1, 16, .inr (.inl fam)))] ++ (pyL cs rs2_31)) H := hP
        have hD : va_D A ([(x0, .inr (11, [.ref pg, .ref rd, .ref aq, .ref py, .ref pl, .ref ch, .ref ro, .int (nI pn), .int td])), (py, .inl (cs 3, 8, .inr (.inr (.inr (.inr fpy))))), (pl, .inr (4, [.ref aq, .ref nx, .ref sn, pv2_31, .long bel2_31, .int gs, .int gp, .int la, .int stp, .int rou])), (aq, .inr (5, [.ref aw, .ref ac, .ref ao, .ref am, .int (nI C), .int (nI P), .long tot])), (ao, .inl (cs 0, 4, .inl fao)), (am, .inl (cs 1, 16, .inr (.inl fam)))] ++ (pyL cs rs2_31)) := hD
        refine W.cs (cells' := k + 1) (slots' := 1024 * k + 1024) rfl rfl ?_
        refine lv_lstore_n (lv' := [(3, .long r_31), (6, .ref h0), (0, .ref x0), (1, .long v), (5, .int (nI k))]) hx hb dX11_withPays_34 rfl hl (by decide) rfl (fun ls hl => ?_)
        refine lv_iinc (v := (nI (k + 1))) (lv' := [(5, .int (nI (k + 1))), (3, .long r_31), (6, .ref h0), (0, .ref x0), (1, .long v)]) hx hb dX11_withPays_35 hl (k := 4) rfl (nI_add k 1) (by decide) rfl (fun ls hl => ?_)
        refine lv_goto (tgt := 5) hx hb dX11_withPays_38 (by decide) ?_
        refine W.cs (cells' := (k + 1)) (slots' := 1024 * (k + 1)) (by omega) (by omega) ?_
        exact ih5 r_31 (k + 1) rs2_31 bel2_31 pv2_31 (by omega) (pyS_tr hps hps_31) (by omega) _ _ ls hP hD hS (lv_sub hl [3, 4, 1, 0] rfl)
  refine W.cs (cells' := 0) (slots' := 1024 * 0) (by omega) (by omega) ?_
  exact LOOP5 (pn - 0 + 1) v 0 rs bel pv (by omega) pyS_rf (Nat.lt_succ_self _) _ _ ls hP hD hS (lv_sub hl [2, 3, 1, 0] rfl)

theorem dX11_digest_0 : decode cX11_digest 0 = .ok (.aload_n 0, 1) := by decide +kernel
theorem dX11_digest_1 : decode cX11_digest 1 = .ok (.aload_n 0, 1) := by decide +kernel
theorem dX11_digest_2 : decode cX11_digest 2 = .ok (.aload_n 0, 1) := by decide +kernel
theorem dX11_digest_3 : decode cX11_digest 3 = .ok (.ldc2_w 295, 3) := by decide +kernel
theorem dX11_digest_6 : decode cX11_digest 6 = .ok (.invokevirtual 297, 3) := by decide +kernel
theorem dX11_digest_9 : decode cX11_digest 9 = .ok (.invokevirtual 301, 3) := by decide +kernel
theorem dX11_digest_12 : decode cX11_digest 12 = .ok (.invokevirtual 304, 3) := by decide +kernel
theorem dX11_digest_15 : decode cX11_digest 15 = .ok (.lstore_n 1, 1) := by decide +kernel
theorem dX11_digest_16 : decode cX11_digest 16 = .ok (.iconst 0, 1) := by decide +kernel
theorem dX11_digest_17 : decode cX11_digest 17 = .ok (.istore_n 3, 1) := by decide +kernel
theorem dX11_digest_18 : decode cX11_digest 18 = .ok (.iload_n 3, 1) := by decide +kernel
theorem dX11_digest_19 : decode cX11_digest 19 = .ok (.aload_n 0, 1) := by decide +kernel
theorem dX11_digest_20 : decode cX11_digest 20 = .ok (.getfield 10, 3) := by decide +kernel
theorem dX11_digest_23 : decode cX11_digest 23 = .ok (.getfield 63, 3) := by decide +kernel
theorem dX11_digest_26 : decode cX11_digest 26 = .ok (.if_icmp .ge 24, 3) := by decide +kernel
theorem dX11_digest_29 : decode cX11_digest 29 = .ok (.lload_n 1, 1) := by decide +kernel
theorem dX11_digest_30 : decode cX11_digest 30 = .ok (.aload_n 0, 1) := by decide +kernel
theorem dX11_digest_31 : decode cX11_digest 31 = .ok (.getfield 10, 3) := by decide +kernel
theorem dX11_digest_34 : decode cX11_digest 34 = .ok (.getfield 307, 3) := by decide +kernel
theorem dX11_digest_37 : decode cX11_digest 37 = .ok (.iload_n 3, 1) := by decide +kernel
theorem dX11_digest_38 : decode cX11_digest 38 = .ok (.iaload, 1) := by decide +kernel
theorem dX11_digest_39 : decode cX11_digest 39 = .ok (.i2l, 1) := by decide +kernel
theorem dX11_digest_40 : decode cX11_digest 40 = .ok (.invokestatic 310, 3) := by decide +kernel
theorem dX11_digest_43 : decode cX11_digest 43 = .ok (.lstore_n 1, 1) := by decide +kernel
theorem dX11_digest_44 : decode cX11_digest 44 = .ok (.iinc 3 1, 3) := by decide +kernel
theorem dX11_digest_47 : decode cX11_digest 47 = .ok (.goto (-29), 3) := by decide +kernel
theorem dX11_digest_50 : decode cX11_digest 50 = .ok (.iconst 0, 1) := by decide +kernel
theorem dX11_digest_51 : decode cX11_digest 51 = .ok (.istore_n 3, 1) := by decide +kernel
theorem dX11_digest_52 : decode cX11_digest 52 = .ok (.iload_n 3, 1) := by decide +kernel
theorem dX11_digest_53 : decode cX11_digest 53 = .ok (.iconst 5, 1) := by decide +kernel
theorem dX11_digest_54 : decode cX11_digest 54 = .ok (.if_icmp .gt 20, 3) := by decide +kernel
theorem dX11_digest_57 : decode cX11_digest 57 = .ok (.lload_n 1, 1) := by decide +kernel
theorem dX11_digest_58 : decode cX11_digest 58 = .ok (.aload_n 0, 1) := by decide +kernel
theorem dX11_digest_59 : decode cX11_digest 59 = .ok (.iload_n 3, 1) := by decide +kernel
theorem dX11_digest_60 : decode cX11_digest 60 = .ok (.invokevirtual 314, 3) := by decide +kernel
theorem dX11_digest_63 : decode cX11_digest 63 = .ok (.i2l, 1) := by decide +kernel
theorem dX11_digest_64 : decode cX11_digest 64 = .ok (.invokestatic 310, 3) := by decide +kernel
theorem dX11_digest_67 : decode cX11_digest 67 = .ok (.lstore_n 1, 1) := by decide +kernel
theorem dX11_digest_68 : decode cX11_digest 68 = .ok (.iinc 3 1, 3) := by decide +kernel
theorem dX11_digest_71 : decode cX11_digest 71 = .ok (.goto (-19), 3) := by decide +kernel
theorem dX11_digest_74 : decode cX11_digest 74 = .ok (.lload_n 1, 1) := by decide +kernel
theorem dX11_digest_75 : decode cX11_digest 75 = .ok (.lreturn, 1) := by decide +kernel
theorem kw_754 : (.constantLong RX11 295 (347) : Cond) ∈ gw_tbl := gw_in (by decide +kernel) (by decide +kernel)
theorem kw_755 : (.code yX11_withQuestion cX11_withQuestion 7 (some .long) : Cond) ∈ gw_tbl := gw_in (by decide +kernel) (by decide +kernel)
theorem kw_756 : (.methodLink RX11 297 yX11_withQuestion : Cond) ∈ gw_tbl := gw_in (by decide +kernel) (by decide +kernel)
theorem kw_757 : (.instanceMethod yX11_withQuestion : Cond) ∈ gw_tbl := gw_in (by decide +kernel) (by decide +kernel)
theorem kw_758 : (.selects RX11 yX11_withQuestion yX11_withQuestion : Cond) ∈ gw_tbl := gw_in (by decide +kernel) (by decide +kernel)
theorem kw_759 : (.code yX11_withPays cX11_withPays 7 (some .long) : Cond) ∈ gw_tbl := gw_in (by decide +kernel) (by decide +kernel)
theorem kw_760 : (.methodLink RX11 301 yX11_withPays : Cond) ∈ gw_tbl := gw_in (by decide +kernel) (by decide +kernel)
theorem kw_761 : (.instanceMethod yX11_withPays : Cond) ∈ gw_tbl := gw_in (by decide +kernel) (by decide +kernel)
theorem kw_762 : (.selects RX11 yX11_withPays yX11_withPays : Cond) ∈ gw_tbl := gw_in (by decide +kernel) (by decide +kernel)
theorem kw_763 : (.code yX11_withRows cX11_withRows 6 (some .long) : Cond) ∈ gw_tbl := gw_in (by decide +kernel) (by decide +kernel)
theorem kw_764 : (.methodLink RX11 304 yX11_withRows : Cond) ∈ gw_tbl := gw_in (by decide +kernel) (by decide +kernel)
theorem kw_765 : (.instanceMethod yX11_withRows : Cond) ∈ gw_tbl := gw_in (by decide +kernel) (by decide +kernel)
theorem kw_766 : (.selects RX11 yX11_withRows yX11_withRows : Cond) ∈ gw_tbl := gw_in (by decide +kernel) (by decide +kernel)
theorem kw_767 : (.code yX11_count cX11_count 2 (some .int) : Cond) ∈ gw_tbl := gw_in (by decide +kernel) (by decide +kernel)
theorem kw_768 : (.methodLink RX11 314 yX11_count : Cond) ∈ gw_tbl := gw_in (by decide +kernel) (by decide +kernel)
theorem kw_769 : (.instanceMethod yX11_count : Cond) ∈ gw_tbl := gw_in (by decide +kernel) (by decide +kernel)
theorem kw_770 : (.selects RX11 yX11_count yX11_count : Cond) ∈ gw_tbl := gw_in (by decide +kernel) (by decide +kernel)
theorem kw_771 : (.fieldLink RX11 307 "NobodyChecks$Page" "codes" "[I" : Cond) ∈ gw_tbl := gw_in (by decide +kernel) (by decide +kernel)

set_option maxHeartbeats 4000000 in
set_option maxRecDepth 100000 in
theorem x_digest (l : Launch) (D : va_G) (cs : Nat → ClassId) (x0 : Nat) (py : Nat) (pn : Nat) (hpn : pn ≤ 8) (td : Int32) (rd : Nat) (ch : Nat) (fpy : Nat → Option Nat) (rs : List PRec) (hpi : pyI fpy rs) (hpl : pn = rs.length) (pl : Nat) (nx : Nat) (sn : Nat) (bel : Int64) (gs : Int32) (gp : Int32) (la : Int32) (stp : Int32) (rou : Int32) (pv : Value) (aq : Nat) (aw : Nat) (ac : Nat) (ao : Nat) (am : Nat) (C : Nat) (hC5 : C ≤ 5) (P : Nat) (hP4 : P ≤ 4) (tot : Int64) (fao : Nat → Int32) (fam : Nat → Int64) (faw : Nat → Int32) (ar : Nat → Nat) (far : Nat → Nat → Int32) (ro : Nat) (ra : Nat) (rg : Nat) (rs_ : Nat) (hrs_ : rs_ ≤ 24) (fra : Nat → Int32) (frg : Nat → Int64) (pg : Nat) (cd : Nat) (ps : Nat) (hps : ps ≤ 90) (fcd : Nat → Int32) (sz : Nat) : Met l yX11_digest (Cond.code yX11_digest cX11_digest 4 (some .long) :: gw_tbl) ({ frames := 7, cells := 8, slots := 8192, locals := 168 }) (pc_M D cs ([(x0, .inr (11, [.ref pg, .ref rd, .ref aq, .ref py, .ref pl, .ref ch, .ref ro, .int (nI pn), .int td])), (py, .inl (cs 3, 8, .inr (.inr (.inr (.inr fpy))))), (pl, .inr (4, [.ref aq, .ref nx, .ref sn, pv, .long bel, .int gs, .int gp, .int la, .int stp, .int rou])), (aq, .inr (5, [.ref aw, .ref ac, .ref ao, .ref am, .int (nI C), .int (nI P), .long tot])), (aw, .inl (cs 0, 5, .inl faw)), (ac, .inl (cs 4, 5, .inr (.inr (.inr (.inr (rowsF 5 ar)))))), ((ar 0), .inl (cs 0, 4, .inl (far 0))), ((ar 1), .inl (cs 0, 4, .inl (far 1))), ((ar 2), .inl (cs 0, 4, .inl (far 2))), ((ar 3), .inl (cs 0, 4, .inl (far 3))), ((ar 4), .inl (cs 0, 4, .inl (far 4))), (ao, .inl (cs 0, 4, .inl fao)), (am, .inl (cs 1, 16, .inr (.inl fam))), (ro, .inr (8, [.ref ra, .ref rg, .int (nI rs_)])), (ra, .inl (cs 0, 24, .inl fra)), (rg, .inl (cs 1, 24, .inr (.inl frg))), (pg, .inr (2, [.ref cd, .int (nI ps)])), (cd, .inl (cs 0, 90, .inl fcd))] ++ (pyL cs rs)) sz [.ref x0]) (va_Ql (fun (r : Int64) (u : Unit) => True) (fun u t => ∃ (bel2 : Int64), ∃ (pv2 : Value), ∃ rs2 : List PRec, pyS rs rs2 ∧ va_P D vwCl ([(x0, .inr (11, [.ref pg, .ref rd, .ref aq, .ref py, .ref pl, .ref ch, .ref ro, .int (nI pn), .int td])), (py, .inl (cs 3, 8, .inr (.inr (.inr (.inr fpy))))), (pl, .inr (4, [.ref aq, .ref nx, .ref sn, pv2, .long bel2, .int gs, .int gp, .int la, .int stp, .int rou])), (aq, .inr (5, [.ref aw, .ref ac, .ref ao, .ref am, .int (nI C), .int (nI P), .long tot])), (aw, .inl (cs 0, 5, .inl faw)), (ac, .inl (cs 4, 5, .inr (.inr (.inr (.inr (rowsF 5 ar)))))), ((ar 0), .inl (cs 0, 4, .inl (far 0))), ((ar 1), .inl (cs 0, 4, .inl (far 1))), ((ar 2), .inl (cs 0, 4, .inl (far 2))), ((ar 3), .inl (cs 0, 4, .inl (far 3))), ((ar 4), .inl (cs 0, 4, .inl (far 4))), (ao, .inl (cs 0, 4, .inl fao)), (am, .inl (cs 1, 16, .inr (.inl fam))), (ro, .inr (8, [.ref ra, .ref rg, .int (nI rs_)])), (ra, .inl (cs 0, 24, .inl fra)), (rg, .inl (cs 1, 24, .inr (.inl frg))), (pg, .inr (2, [.ref cd, .int (nI ps)])), (cd, .inl (cs 0, 90, .inl fcd))] ++ pyL cs rs2) t.heap ∧ va_D (va_A ([(x0, .inr (11, [.ref pg, .ref rd, .ref aq, .ref py, .ref pl, .ref ch, .ref ro, .int (nI pn), .int td])), (py, .inl (cs 3, 8, .inr (.inr (.inr (.inr fpy))))), (pl, .inr (4, [.ref aq, .ref nx, .ref sn, pv, .long bel, .int gs, .int gp, .int la, .int stp, .int rou])), (aq, .inr (5, [.ref aw, .ref ac, .ref ao, .ref am, .int (nI C), .int (nI P), .long tot])), (aw, .inl (cs 0, 5, .inl faw)), (ac, .inl (cs 4, 5, .inr (.inr (.inr (.inr (rowsF 5 ar)))))), ((ar 0), .inl (cs 0, 4, .inl (far 0))), ((ar 1), .inl (cs 0, 4, .inl (far 1))), ((ar 2), .inl (cs 0, 4, .inl (far 2))), ((ar 3), .inl (cs 0, 4, .inl (far 3))), ((ar 4), .inl (cs 0, 4, .inl (far 4))), (ao, .inl (cs 0, 4, .inl fao)), (am, .inl (cs 1, 16, .inr (.inl fam))), (ro, .inr (8, [.ref ra, .ref rg, .int (nI rs_)])), (ra, .inl (cs 0, 24, .inl fra)), (rg, .inl (cs 1, 24, .inr (.inl frg))), (pg, .inr (2, [.ref cd, .int (nI ps)])), (cd, .inl (cs 0, 90, .inl fcd))] ++ pyL cs rs) sz) ([(x0, .inr (11, [.ref pg, .ref rd, .ref aq, .ref py, .ref pl, .ref ch, .ref ro, .int (nI pn), .int td])), (py, .inl (cs 3, 8, .inr (.inr (.inr (.inr fpy))))), (pl, .inr (4, [.ref aq, .ref nx, .ref sn, pv2, .long bel2, .int gs, .int gp, .int la, .int stp, .int rou])), (aq, .inr (5, [.ref aw, .ref ac, .ref ao, .ref am, .int (nI C), .int (nI P), .long tot])), (aw, .inl (cs 0, 5, .inl faw)), (ac, .inl (cs 4, 5, .inr (.inr (.inr (.inr (rowsF 5 ar)))))), ((ar 0), .inl (cs 0, 4, .inl (far 0))), ((ar 1), .inl (cs 0, 4, .inl (far 1))), ((ar 2), .inl (cs 0, 4, .inl (far 2))), ((ar 3), .inl (cs 0, 4, .inl (far 3))), ((ar 4), .inl (cs 0, 4, .inl (far 4))), (ao, .inl (cs 0, 4, .inl fao)), (am, .inl (cs 1, 16, .inr (.inl fam))), (ro, .inr (8, [.ref ra, .ref rg, .int (nI rs_)])), (ra, .inl (cs 0, 24, .inl fra)), (rg, .inl (cs 1, 24, .inr (.inl frg))), (pg, .inr (2, [.ref cd, .int (nI ps)])), (cd, .inl (cs 0, 90, .inl fcd))] ++ pyL cs rs2)) (va_A ([(x0, .inr (11, [.ref pg, .ref rd, .ref aq, .ref py, .ref pl, .ref ch, .ref ro, .int (nI pn), .int td])), (py, .inl (cs 3, 8, .inr (.inr (.inr (.inr fpy))))), (pl, .inr (4, [.ref aq, .ref nx, .ref sn, pv, .long bel, .int gs, .int gp, .int la, .int stp, .int rou])), (aq, .inr (5, [.ref aw, .ref ac, .ref ao, .ref am, .int (nI C), .int (nI P), .long tot])), (aw, .inl (cs 0, 5, .inl faw)), (ac, .inl (cs 4, 5, .inr (.inr (.inr (.inr (rowsF 5 ar)))))), ((ar 0), .inl (cs 0, 4, .inl (far 0))), ((ar 1), .inl (cs 0, 4, .inl (far 1))), ((ar 2), .inl (cs 0, 4, .inl (far 2))), ((ar 3), .inl (cs 0, 4, .inl (far 3))), ((ar 4), .inl (cs 0, 4, .inl (far 4))), (ao, .inl (cs 0, 4, .inl fao)), (am, .inl (cs 1, 16, .inr (.inl fam))), (ro, .inr (8, [.ref ra, .ref rg, .int (nI rs_)])), (ra, .inl (cs 0, 24, .inl fra)), (rg, .inl (cs 1, 24, .inr (.inl frg))), (pg, .inr (2, [.ref cd, .int (nI ps)])), (cd, .inl (cs 0, 90, .inl fcd))] ++ (pyL cs rs)) sz)) 8 8192 (va_A ([(x0, .inr (11, [.ref pg, .ref rd, .ref aq, .ref py, .ref pl, .ref ch, .ref ro, .int (nI pn), .int td])), (py, .inl (cs 3, 8, .inr (.inr (.inr (.inr fpy))))), (pl, .inr (4, [.ref aq, .ref nx, .ref sn, pv, .long bel, .int gs, .int gp, .int la, .int stp, .int rou])), (aq, .inr (5, [.ref aw, .ref ac, .ref ao, .ref am, .int (nI C), .int (nI P), .long tot])), (aw, .inl (cs 0, 5, .inl faw)), (ac, .inl (cs 4, 5, .inr (.inr (.inr (.inr (rowsF 5 ar)))))), ((ar 0), .inl (cs 0, 4, .inl (far 0))), ((ar 1), .inl (cs 0, 4, .inl (far 1))), ((ar 2), .inl (cs 0, 4, .inl (far 2))), ((ar 3), .inl (cs 0, 4, .inl (far 3))), ((ar 4), .inl (cs 0, 4, .inl (far 4))), (ao, .inl (cs 0, 4, .inl fao)), (am, .inl (cs 1, 16, .inr (.inl fam))), (ro, .inr (8, [.ref ra, .ref rg, .int (nI rs_)])), (ra, .inl (cs 0, 24, .inl fra)), (rg, .inl (cs 1, 24, .inr (.inl frg))), (pg, .inr (2, [.ref cd, .int (nI ps)])), (cd, .inl (cs 0, 90, .inl fcd))] ++ (pyL cs rs)) sz) := by
  refine Met.ofW (cc := cX11_digest) (maxL := 4) (ret := (some .long)) (by decide) rfl ?_
  intro p e s m args below meth c s₁ B hml hv
  obtain ⟨hargs, hsz, hP, hK, hD0⟩ := hv
  have hx := B.exec
  have hb := B.bytes
  have hr := B.returns
  have hts := atoms_spec (ws := Cond.code yX11_digest cX11_digest 4 (some .long) :: gw_tbl) B.pre
  have hg := fun (w : Cond) (h : w ∈ gw_tbl) => hts w (List.mem_cons_of_mem _ h)
  have hown : s.vm.findClass RX11 = some m.cls := findClass_of_methodNamed B.named
  have hlocks := B.notSynchronized
  subst hsz
  have hD := hD0.self (sz := s.heap.size)
  generalize hAe : va_A ([(x0, .inr (11, [.ref pg, .ref rd, .ref aq, .ref py, .ref pl, .ref ch, .ref ro, .int (nI pn), .int td])), (py, .inl (cs 3, 8, .inr (.inr (.inr (.inr fpy))))), (pl, .inr (4, [.ref aq, .ref nx, .ref sn, pv, .long bel, .int gs, .int gp, .int la, .int stp, .int rou])), (aq, .inr (5, [.ref aw, .ref ac, .ref ao, .ref am, .int (nI C), .int (nI P), .long tot])), (aw, .inl (cs 0, 5, .inl faw)), (ac, .inl (cs 4, 5, .inr (.inr (.inr (.inr (rowsF 5 ar)))))), ((ar 0), .inl (cs 0, 4, .inl (far 0))), ((ar 1), .inl (cs 0, 4, .inl (far 1))), ((ar 2), .inl (cs 0, 4, .inl (far 2))), ((ar 3), .inl (cs 0, 4, .inl (far 3))), ((ar 4), .inl (cs 0, 4, .inl (far 4))), (ao, .inl (cs 0, 4, .inl fao)), (am, .inl (cs 1, 16, .inr (.inl fam))), (ro, .inr (8, [.ref ra, .ref rg, .int (nI rs_)])), (ra, .inl (cs 0, 24, .inl fra)), (rg, .inl (cs 1, 24, .inr (.inl frg))), (pg, .inr (2, [.ref cd, .int (nI ps)])), (cd, .inl (cs 0, 90, .inl fcd))] ++ (pyL cs rs)) s.heap.size = A at hD ⊢
  have hA : ∀ q : Nat, s.heap.size ≤ q → A q := fun q h => by rw [← hAe]; exact Or.inr h
  have hS : va_S A s.heap s.heap [] := va_S.rf
  have hP : va_P D vwCl ([(x0, .inr (11, [.ref pg, .ref rd, .ref aq, .ref py, .ref pl, .ref ch, .ref ro, .int (nI pn), .int td])), (py, .inl (cs 3, 8, .inr (.inr (.inr (.inr fpy))))), (pl, .inr (4, [.ref aq, .ref nx, .ref sn, pv, .long bel, .int gs, .int gp, .int la, .int stp, .int rou])), (aq, .inr (5, [.ref aw, .ref ac, .ref ao, .ref am, .int (nI C), .int (nI P), .long tot])), (aw, .inl (cs 0, 5, .inl faw)), (ac, .inl (cs 4, 5, .inr (.inr (.inr (.inr (rowsF 5 ar)))))), ((ar 0), .inl (cs 0, 4, .inl (far 0))), ((ar 1), .inl (cs 0, 4, .inl (far 1))), ((ar 2), .inl (cs 0, 4, .inl (far 2))), ((ar 3), .inl (cs 0, 4, .inl (far 3))), ((ar 4), .inl (cs 0, 4, .inl (far 4))), (ao, .inl (cs 0, 4, .inl fao)), (am, .inl (cs 1, 16, .inr (.inl fam))), (ro, .inr (8, [.ref ra, .ref rg, .int (nI rs_)])), (ra, .inl (cs 0, 24, .inl fra)), (rg, .inl (cs 1, 24, .inr (.inl frg))), (pg, .inr (2, [.ref cd, .int (nI ps)])), (cd, .inl (cs 0, 90, .inl fcd))] ++ (pyL cs rs)) s.heap := hP
  have hl := lv_entry ([.ref x0]) (n := 4) (Nat.le_of_ble_eq_true rfl)
  rw [show entryFrame m args 4 = F0 m 0 (lg_sl ([.ref x0]) ++ List.replicate (4 - (lg_sl ([.ref x0])).length) Slot.unset).toArray [] from by rw [hargs]; exact lg_entry_eq ..]
  generalize (lg_sl ([.ref x0]) ++ List.replicate (4 - (lg_sl ([.ref x0])).length) Slot.unset).toArray = ls at hl ⊢
  have hl : lv_has ls 4 [(0, .ref x0)] := hl
  refine W_genQ (fun Q hQ => ?_)
  have hlm := lim_le hP4
  have hlq := lim_pos P
  have hsg := sgn_le hP4
  refine lv_aload_n hx hb dX11_digest_0 rfl (lv_at hl 0 rfl) ?_
  refine lv_aload_n hx hb dX11_digest_1 rfl (lv_at hl 0 rfl) ?_
  refine lv_aload_n hx hb dX11_digest_2 rfl (lv_at hl 0 rfl) ?_
  refine lv_ldc2 hx hb hown (hg _ kw_754) dX11_digest_3 ?_
  have hPc := hP.sub (ws' := [(x0, .inr (11, [.ref pg, .ref rd, .ref aq, .ref py, .ref pl, .ref ch, .ref ro, .int (nI pn), .int td])), (aq, .inr (5, [.ref aw, .ref ac, .ref ao, .ref am, .int (nI C), .int (nI P), .long tot])), (aw, .inl (cs 0, 5, .inl faw)), (ac, .inl (cs 4, 5, .inr (.inr (.inr (.inr (rowsF 5 ar)))))), ((ar 0), .inl (cs 0, 4, .inl (far 0))), ((ar 1), .inl (cs 0, 4, .inl (far 1))), ((ar 2), .inl (cs 0, 4, .inl (far 2))), ((ar 3), .inl (cs 0, 4, .inl (far 3))), ((ar 4), .inl (cs 0, 4, .inl (far 4))), (ao, .inl (cs 0, 4, .inl fao))]) [0, 3, 4, 5, 6, 7, 8, 9, 10, 11] rfl
  refine vp_callSl (W.runV (As := [.long 347]) (rest := [.ref x0, .ref x0]) ⟨hx, hb, hml, hown, hg⟩ (x_withQuestion l D cs x0 py pn (by omega) td pg rd pl ch ro aq aw ac ao am C (by omega) P (by omega) tot faw fao ar far 347) (cwV 1 hg (gw_V kw_756 kw_757 kw_758 kw_12 kw_755) rfl rfl rfl (by decide +kernel) ⟨(Nat.le_of_ble_eq_true rfl), (Nat.le_of_ble_eq_true rfl)⟩) (pr_SV (q := (RX11, TX11, 9)) 11 0 hK hPc rfl rfl) rfl rfl hl.1 rfl (lv_room (Nat.le_of_ble_eq_true rfl)) dX11_digest_6 ⟨(Nat.le_of_ble_eq_true rfl), (Nat.le_of_ble_eq_true rfl)⟩) (fun r_6 h_6 => ?_)
  clear h_6
  have hPc := hP.part (cx := [(x0, .inr (11, [.ref pg, .ref rd, .ref aq, .ref py, .ref pl, .ref ch, .ref ro, .int (nI pn), .int td])), (py, .inl (cs 3, 8, .inr (.inr (.inr (.inr fpy))))), (pl, .inr (4, [.ref aq, .ref nx, .ref sn, pv, .long bel, .int gs, .int gp, .int la, .int stp, .int rou])), (aq, .inr (5, [.ref aw, .ref ac, .ref ao, .ref am, .int (nI C), .int (nI P), .long tot])), (ao, .inl (cs 0, 4, .inl fao)), (am, .inl (cs 1, 16, .inr (.inl fam)))]) [0, 1, 2, 3, 11, 12] rfl
  have hDc := hD.part (cx := [(x0, .inr (11, [.ref pg, .ref rd, .ref aq, .ref py, .ref pl, .ref ch, .ref ro, .int (nI pn), .int td])), (py, .inl (cs 3, 8, .inr (.inr (.inr (.inr fpy))))), (pl, .inr (4, [.ref aq, .ref nx, .ref sn, pv, .long bel, .int gs, .int gp, .int la, .int stp, .int rou])), (aq, .inr (5, [.ref aw, .ref ac, .ref ao, .ref am, .int (nI C), .int (nI P), .long tot])), (ao, .inl (cs 0, 4, .inl fao)), (am, .inl (cs 1, 16, .inr (.inl fam)))]) [0, 1, 2, 3, 11, 12] (by decide) rfl
  have hFc := va_freeP (cx := [(x0, .inr (11, [.ref pg, .ref rd, .ref aq, .ref py, .ref pl, .ref ch, .ref ro, .int (nI pn), .int td])), (py, .inl (cs 3, 8, .inr (.inr (.inr (.inr fpy))))), (pl, .inr (4, [.ref aq, .ref nx, .ref sn, pv, .long bel, .int gs, .int gp, .int la, .int stp, .int rou])), (aq, .inr (5, [.ref aw, .ref ac, .ref ao, .ref am, .int (nI C), .int (nI P), .long tot])), (ao, .inl (cs 0, 4, .inl fao)), (am, .inl (cs 1, 16, .inr (.inl fam)))]) hD hS hA [0, 1, 2, 3, 11, 12] rfl
  refine va_calll (va_runV (As := [.long r_6]) (rest := [.ref x0]) ⟨hx, hb, hml, hown, hg⟩ (x_withPays l D cs x0 py pn (by omega) td pg rd ch ro fpy rs hpi (by omega) pl nx sn bel gs gp la stp rou pv aq aw ac ao am C (by omega) P (by omega) tot fao fam r_6 _) (cwV 1 hg (gw_V kw_760 kw_761 kw_762 kw_12 kw_759) rfl rfl rfl (by decide +kernel) ⟨(Nat.le_of_ble_eq_true rfl), (Nat.le_of_ble_eq_true rfl)⟩) (pr_MV (q := (RX11, TX11, 9)) 11 0 hK hPc hDc rfl rfl) rfl rfl hl.1 rfl (lv_room (Nat.le_of_ble_eq_true rfl)) dX11_digest_9 ⟨(Nat.le_of_ble_eq_true rfl), (Nat.le_of_ble_eq_true rfl)⟩) hS (fun q _ h => hFc q h) hFc (fun r_9 u t H1 locs ht hvm h_9 hB hz1 hk1 hS => ?_)
  obtain ⟨bel2_9, pv2_9, rs2_9, hps_9, hP1, hD1⟩ := hB
  have hpi_9 := pyS_I hps_9 hpi
  have hpt_9 := hps_9
  rw [ht] at hP1
  obtain ⟨hP, hD⟩ := va_joinP (X := [(x0, .inr (11, [.ref pg, .ref rd, .ref aq, .ref py, .ref pl, .ref ch, .ref ro, .int (nI pn), .int td])), (py, .inl (cs 3, 8, .inr (.inr (.inr (.inr fpy))))), (pl, .inr (4, [.ref aq, .ref nx, .ref sn, pv, .long bel, .int gs, .int gp, .int la, .int stp, .int rou])), (aq, .inr (5, [.ref aw, .ref ac, .ref ao, .ref am, .int (nI C), .int (nI P), .long tot])), (aw, .inl (cs 0, 5, .inl faw)), (ac, .inl (cs 4, 5, .inr (.inr (.inr (.inr (rowsF 5 ar)))))), ((ar 0), .inl (cs 0, 4, .inl (far 0))), ((ar 1), .inl (cs 0, 4, .inl (far 1))), ((ar 2), .inl (cs 0, 4, .inl (far 2))), ((ar 3), .inl (cs 0, 4, .inl (far 3))), ((ar 4), .inl (cs 0, 4, .inl (far 4))), (ao, .inl (cs 0, 4, .inl fao)), (am, .inl (cs 1, 16, .inr (.inl fam))), (ro, .inr (8, [.ref ra, .ref rg, .int (nI rs_)])), (ra, .inl (cs 0, 24, .inl fra)), (rg, .inl (cs 1, 24, .inr (.inl frg))), (pg, .inr (2, [.ref cd, .int (nI ps)])), (cd, .inl (cs 0, 90, .inl fcd))]) (pl := (pyL cs rs)) (cx := [(x0, .inr (11, [.ref pg, .ref rd, .ref aq, .ref py, .ref pl, .ref ch, .ref ro, .int (nI pn), .int td])), (py, .inl (cs 3, 8, .inr (.inr (.inr (.inr fpy))))), (pl, .inr (4, [.ref aq, .ref nx, .ref sn, pv, .long bel, .int gs, .int gp, .int la, .int stp, .int rou])), (aq, .inr (5, [.ref aw, .ref ac, .ref ao, .ref am, .int (nI C), .int (nI P), .long tot])), (ao, .inl (cs 0, 4, .inl fao)), (am, .inl (cs 1, 16, .inr (.inl fam)))]) (wr := [(aw, .inl (cs 0, 5, .inl faw)), (ac, .inl (cs 4, 5, .inr (.inr (.inr (.inr (rowsF 5 ar)))))), ((ar 0), .inl (cs 0, 4, .inl (far 0))), ((ar 1), .inl (cs 0, 4, .inl (far 1))), ((ar 2), .inl (cs 0, 4, .inl (far 2))), ((ar 3), .inl (cs 0, 4, .inl (far 3))), ((ar 4), .inl (cs 0, 4, .inl (far 4))), (ro, .inr (8, [.ref ra, .ref rg, .int (nI rs_)])), (ra, .inl (cs 0, 24, .inl fra)), (rg, .inl (cs 1, 24, .inr (.inl frg))), (pg, .inr (2, [.ref cd, .int (nI ps)])), (cd, .inl (cs 0, 90, .inl fcd))]) (rx := [(x0, .inr (11, [.ref pg, .ref rd, .ref aq, .ref py, .ref pl, .ref ch, .ref ro, .int (nI pn), .int td])), (py, .inl (cs 3, 8, .inr (.inr (.inr (.inr fpy))))), (pl, .inr (4, [.ref aq, .ref nx, .ref sn, pv2_9, .long bel2_9, .int gs, .int gp, .int la, .int stp, .int rou])), (aq, .inr (5, [.ref aw, .ref ac, .ref ao, .ref am, .int (nI C), .int (nI P), .long tot])), (ao, .inl (cs 0, 4, .inl fao)), (am, .inl (cs 1, 16, .inr (.inl fam)))]) (pl1 := (pyL cs rs2_9)) hP hD [0, 1, 2, 3, 11, 12] [4, 5, 6, 7, 8, 9, 10, 13, 14, 15, 16, 17] rfl rfl (by decide) (by decide) hk1 hFc hP1 hD1
  generalize H1 = H at hP hS ⊢
  have hP : va_P D vwCl ([(aw, .inl (cs 0, 5, .inl faw)), (ac, .inl (cs 4, 5, .inr (.inr (.inr (.inr (rowsF 5 ar)))))), ((ar 0), .inl (cs 0, 4, .inl (far 0))), ((ar 1), .inl (cs 0, 4, .inl (far 1))), ((ar 2), .inl (cs 0, 4, .inl (far 2))), ((ar 3), .inl (cs 0, 4, .inl (far 3))), ((ar 4), .inl (cs 0, 4, .inl (far 4))), (ro, .inr (8, [.ref ra, .ref rg, .int (nI rs_)])), (ra, .inl (cs 0, 24, .inl fra)), (rg, .inl (cs 1, 24, .inr (.inl frg))), (pg, .inr (2, [.ref cd, .int (nI ps)])), (cd, .inl (cs 0, 90, .inl fcd)), (x0, .inr (11, [.ref pg, .ref rd, .ref aq, .ref py, .ref pl, .ref ch, .ref ro, .int (nI pn), .int td])), (py, .inl (cs 3, 8, .inr (.inr (.inr (.inr fpy))))), (pl, .inr (4, [.ref aq, .ref nx, .ref sn, pv2_9, .long bel2_9, .int gs, .int gp, .int la, .int stp, .int rou])), (aq, .inr (5, [.ref aw, .ref ac, .ref ao, .ref am, .int (nI C), .int (nI P), .long tot])), (ao, .inl (cs 0, 4, .inl fao)), (am, .inl (cs 1, 16, .inr (.inl fam)))] ++ (pyL cs rs2_9)) H := hP
  have hD : va_D A ([(aw, .inl (cs 0, 5, .inl faw)), (ac, .inl (cs 4, 5, .inr (.inr (.inr (.inr (rowsF 5 ar)))))), ((ar 0), .inl (cs 0, 4, .inl (far 0))), ((ar 1), .inl (cs 0, 4, .inl (far 1))), ((ar 2), .inl (cs 0, 4, .inl (far 2))), ((ar 3), .inl (cs 0, 4, .inl (far 3))), ((ar 4), .inl (cs 0, 4, .inl (far 4))), (ro, .inr (8, [.ref ra, .ref rg, .int (nI rs_)])), (ra, .inl (cs 0, 24, .inl fra)), (rg, .inl (cs 1, 24, .inr (.inl frg))), (pg, .inr (2, [.ref cd, .int (nI ps)])), (cd, .inl (cs 0, 90, .inl fcd)), (x0, .inr (11, [.ref pg, .ref rd, .ref aq, .ref py, .ref pl, .ref ch, .ref ro, .int (nI pn), .int td])), (py, .inl (cs 3, 8, .inr (.inr (.inr (.inr fpy))))), (pl, .inr (4, [.ref aq, .ref nx, .ref sn, pv2_9, .long bel2_9, .int gs, .int gp, .int la, .int stp, .int rou])), (aq, .inr (5, [.ref aw, .ref ac, .ref ao, .ref am, .int (nI C), .int (nI P), .long tot])), (ao, .inl (cs 0, 4, .inl fao)), (am, .inl (cs 1, 16, .inr (.inl fam)))] ++ (pyL cs rs2_9)) := hD
  refine W.cs (cells' := 8) (slots' := 8192) rfl rfl ?_
  have hPc := hP.sub (ws' := [(x0, .inr (11, [.ref pg, .ref rd, .ref aq, .ref py, .ref pl, .ref ch, .ref ro, .int (nI pn), .int td])), (aq, .inr (5, [.ref aw, .ref ac, .ref ao, .ref am, .int (nI C), .int (nI P), .long tot])), (ro, .inr (8, [.ref ra, .ref rg, .int (nI rs_)])), (ra, .inl (cs 0, 24, .inl fra)), (rg, .inl (cs 1, 24, .inr (.inl frg)))]) [12, 15, 7, 8, 9] rfl
  refine vp_callSl (W.runV (As := [.long r_9]) (rest := []) ⟨hx, hb, hml, hown, hg⟩ (x_withRows l D cs x0 py pn (by omega) td pg rd pl ch aq aw ac ao am C (by omega) P (by omega) tot ro ra rg rs_ (by omega) fra frg r_9) (cwV 1 hg (gw_V kw_764 kw_765 kw_766 kw_12 kw_763) rfl rfl rfl (by decide +kernel) ⟨(Nat.le_of_ble_eq_true rfl), (Nat.le_of_ble_eq_true rfl)⟩) (pr_SV (q := (RX11, TX11, 9)) 11 0 hK hPc rfl rfl) rfl rfl hl.1 rfl (lv_room (Nat.le_of_ble_eq_true rfl)) dX11_digest_12 ⟨(Nat.le_of_ble_eq_true rfl), (Nat.le_of_ble_eq_true rfl)⟩) (fun r_12 h_12 => ?_)
  clear h_12
  refine lv_lstore_n (lv' := [(1, .long r_12), (0, .ref x0)]) hx hb dX11_digest_15 rfl hl (by decide) rfl (fun ls hl => ?_)
  refine lv_iconst (v := 0) hx hb dX11_digest_16 (by decide) ?_
  refine lv_istore_n (lv' := [(3, .int 0), (1, .long r_12), (0, .ref x0)]) hx hb dX11_digest_17 rfl hl (by decide) rfl (fun ls hl => ?_)
  have LOOP18 : ∀ (n18 : Nat) (u1_18 : Int64) (k : Nat), k ≤ ps → ps - k < n18 → ∀ (H : Heap) (locs : List Loc) (ls : Array Slot), va_P D vwCl ([(aw, .inl (cs 0, 5, .inl faw)), (ac, .inl (cs 4, 5, .inr (.inr (.inr (.inr (rowsF 5 ar)))))), ((ar 0), .inl (cs 0, 4, .inl (far 0))), ((ar 1), .inl (cs 0, 4, .inl (far 1))), ((ar 2), .inl (cs 0, 4, .inl (far 2))), ((ar 3), .inl (cs 0, 4, .inl (far 3))), ((ar 4), .inl (cs 0, 4, .inl (far 4))), (ro, .inr (8, [.ref ra, .ref rg, .int (nI rs_)])), (ra, .inl (cs 0, 24, .inl fra)), (rg, .inl (cs 1, 24, .inr (.inl frg))), (pg, .inr (2, [.ref cd, .int (nI ps)])), (cd, .inl (cs 0, 90, .inl fcd)), (x0, .inr (11, [.ref pg, .ref rd, .ref aq, .ref py, .ref pl, .ref ch, .ref ro, .int (nI pn), .int td])), (py, .inl (cs 3, 8, .inr (.inr (.inr (.inr fpy))))), (pl, .inr (4, [.ref aq, .ref nx, .ref sn, pv2_9, .long bel2_9, .int gs, .int gp, .int la, .int stp, .int rou])), (aq, .inr (5, [.ref aw, .ref ac, .ref ao, .ref am, .int (nI C), .int (nI P), .long tot])), (ao, .inl (cs 0, 4, .inl fao)), (am, .inl (cs 1, 16, .inr (.inl fam)))] ++ (pyL cs rs2_9)) H → va_D A ([(aw, .inl (cs 0, 5, .inl faw)), (ac, .inl (cs 4, 5, .inr (.inr (.inr (.inr (rowsF 5 ar)))))), ((ar 0), .inl (cs 0, 4, .inl (far 0))), ((ar 1), .inl (cs 0, 4, .inl (far 1))), ((ar 2), .inl (cs 0, 4, .inl (far 2))), ((ar 3), .inl (cs 0, 4, .inl (far 3))), ((ar 4), .inl (cs 0, 4, .inl (far 4))), (ro, .inr (8, [.ref ra, .ref rg, .int (nI rs_)])), (ra, .inl (cs 0, 24, .inl fra)), (rg, .inl (cs 1, 24, .inr (.inl frg))), (pg, .inr (2, [.ref cd, .int (nI ps)])), (cd, .inl (cs 0, 90, .inl fcd)), (x0, .inr (11, [.ref pg, .ref rd, .ref aq, .ref py, .ref pl, .ref ch, .ref ro, .int (nI pn), .int td])), (py, .inl (cs 3, 8, .inr (.inr (.inr (.inr fpy))))), (pl, .inr (4, [.ref aq, .ref nx, .ref sn, pv2_9, .long bel2_9, .int gs, .int gp, .int la, .int stp, .int rou])), (aq, .inr (5, [.ref aw, .ref ac, .ref ao, .ref am, .int (nI C), .int (nI P), .long tot])), (ao, .inl (cs 0, 4, .inl fao)), (am, .inl (cs 1, 16, .inr (.inl fam)))] ++ (pyL cs rs2_9)) → va_S A s.heap H locs → lv_has ls 4 [(0, .ref x0), (1, .long u1_18), (3, .int (nI k))] → W p l e ({ frames := 7, cells := 8, slots := 8192, locals := 168 } : Room) s m args below meth c H locs 8 8192 Q (F0 m 18 ls []) := by
    intro n18
    induction n18 with
    | zero =>
      intro u1_18 k hk hn18 H locs ls hP hD hS hl
      exact absurd hn18 (Nat.not_lt_zero _)
    | succ n18 ih18 =>
      intro u1_18 k hk hn18 H locs ls hP hD hS hl
      refine lv_iload_n hx hb dX11_digest_18 rfl (lv_at hl 2 rfl) ?_
      refine lv_aload_n hx hb dX11_digest_19 rfl (lv_at hl 0 rfl) ?_
      refine va_get (D := D) (ci := 11) (v := .ref pg) (C := RX11) (T := TX11) (N := 9) hx hb hg gwX11 hown hK hP 12 rfl rfl 0 (by decide) (hg _ kw_512) (fun _ h9 => h9) rfl dX11_digest_20 ?_
      refine va_get (D := D) (ci := 2) (v := .int (nI ps)) (C := RX2) (T := TX2) (N := 2) hx hb hg gwX2 hown hK hP 10 rfl rfl 1 (by decide) (hg _ kw_513) (fun _ h9 => h9) rfl dX11_digest_23 ?_
      refine lv_icmp_ge (tgt := 50) hx hb dX11_digest_26 (by decide) (fun c_26 => ?_) (fun c_26 => ?_)
      · have n_26 : ps ≤ k := b_le_t (by omega) (by omega) c_26
        refine lv_iconst (v := 0) hx hb dX11_digest_50 (by decide) ?_
        refine lv_istore_n (lv' := [(3, .int 0), (0, .ref x0), (1, .long u1_18)]) hx hb dX11_digest_51 rfl hl (by decide) rfl (fun ls hl => ?_)
        have LOOP52 : ∀ (n52 : Nat) (u1_52 : Int64) (k2 : Nat), k2 ≤ 6 → 6 - k2 < n52 → ∀ (H : Heap) (locs : List Loc) (ls : Array Slot), va_P D vwCl ([(aw, .inl (cs 0, 5, .inl faw)), (ac, .inl (cs 4, 5, .inr (.inr (.inr (.inr (rowsF 5 ar)))))), ((ar 0), .inl (cs 0, 4, .inl (far 0))), ((ar 1), .inl (cs 0, 4, .inl (far 1))), ((ar 2), .inl (cs 0, 4, .inl (far 2))), ((ar 3), .inl (cs 0, 4, .inl (far 3))), ((ar 4), .inl (cs 0, 4, .inl (far 4))), (ro, .inr (8, [.ref ra, .ref rg, .int (nI rs_)])), (ra, .inl (cs 0, 24, .inl fra)), (rg, .inl (cs 1, 24, .inr (.inl frg))), (pg, .inr (2, [.ref cd, .int (nI ps)])), (cd, .inl (cs 0, 90, .inl fcd)), (x0, .inr (11, [.ref pg, .ref rd, .ref aq, .ref py, .ref pl, .ref ch, .ref ro, .int (nI pn), .int td])), (py, .inl (cs 3, 8, .inr (.inr (.inr (.inr fpy))))), (pl, .inr (4, [.ref aq, .ref nx, .ref sn, pv2_9, .long bel2_9, .int gs, .int gp, .int la, .int stp, .int rou])), (aq, .inr (5, [.ref aw, .ref ac, .ref ao, .ref am, .int (nI C), .int (nI P), .long tot])), (ao, .inl (cs 0, 4, .inl fao)), (am, .inl (cs 1, 16, .inr (.inl fam)))] ++ (pyL cs rs2_9)) H → va_D A ([(aw, .inl (cs 0, 5, .inl faw)), (ac, .inl (cs 4, 5, .inr (.inr (.inr (.inr (rowsF 5 ar)))))), ((ar 0), .inl (cs 0, 4, .inl (far 0))), ((ar 1), .inl (cs 0, 4, .inl (far 1))), ((ar 2), .inl (cs 0, 4, .inl (far 2))), ((ar 3), .inl (cs 0, 4, .inl (far 3))), ((ar 4), .inl (cs 0, 4, .inl (far 4))), (ro, .inr (8, [.ref ra, .ref rg, .int (nI rs_)])), (ra, .inl (cs 0, 24, .inl fra)), (rg, .inl (cs 1, 24, .inr (.inl frg))), (pg, .inr (2, [.ref cd, .int (nI ps)])), (cd, .inl (cs 0, 90, .inl fcd)), (x0, .inr (11, [.ref pg, .ref rd, .ref aq, .ref py, .ref pl, .ref ch, .ref ro, .int (nI pn), .int td])), (py, .inl (cs 3, 8, .inr (.inr (.inr (.inr fpy))))), (pl, .inr (4, [.ref aq, .ref nx, .ref sn, pv2_9, .long bel2_9, .int gs, .int gp, .int la, .int stp, .int rou])), (aq, .inr (5, [.ref aw, .ref ac, .ref ao, .ref am, .int (nI C), .int (nI P), .long tot])), (ao, .inl (cs 0, 4, .inl fao)), (am, .inl (cs 1, 16, .inr (.inl fam)))] ++ (pyL cs rs2_9)) → va_S A s.heap H locs → lv_has ls 4 [(0, .ref x0), (1, .long u1_52), (3, .int (nI k2))] → W p l e ({ frames := 7, cells := 8, slots := 8192, locals := 168 } : Room) s m args below meth c H locs 8 8192 Q (F0 m 52 ls []) := by
          intro n52
          induction n52 with
          | zero =>
            intro u1_52 k2 hk2 hn52 H locs ls hP hD hS hl
            exact absurd hn52 (Nat.not_lt_zero _)
          | succ n52 ih52 =>
            intro u1_52 k2 hk2 hn52 H locs ls hP hD hS hl
            refine lv_iload_n hx hb dX11_digest_52 rfl (lv_at hl 2 rfl) ?_
            refine lv_iconst (v := 5) hx hb dX11_digest_53 (by decide) ?_
            refine lv_icmp_gt (tgt := 74) hx hb dX11_digest_54 (by decide) (fun c_54 => ?_) (fun c_54 => ?_)
            · have n_54 : 5 < k2 := b_lt_t (by omega) (by omega) c_54
              refine lv_lload_n hx hb dX11_digest_74 rfl (lv_at hl 1 rfl) ?_
              refine W_sQ hQ ?_
              refine W.widen (k := 8) (n := 8192) (Nat.le_of_ble_eq_true rfl) (Nat.le_of_ble_eq_true rfl) ?_
              have hP9 := hP.part (cx := [(x0, .inr (11, [.ref pg, .ref rd, .ref aq, .ref py, .ref pl, .ref ch, .ref ro, .int (nI pn), .int td])), (py, .inl (cs 3, 8, .inr (.inr (.inr (.inr fpy))))), (pl, .inr (4, [.ref aq, .ref nx, .ref sn, pv2_9, .long bel2_9, .int gs, .int gp, .int la, .int stp, .int rou])), (aq, .inr (5, [.ref aw, .ref ac, .ref ao, .ref am, .int (nI C), .int (nI P), .long tot])), (aw, .inl (cs 0, 5, .inl faw)), (ac, .inl (cs 4, 5, .inr (.inr (.inr (.inr (rowsF 5 ar)))))), ((ar 0), .inl (cs 0, 4, .inl (far 0))), ((ar 1), .inl (cs 0, 4, .inl (far 1))), ((ar 2), .inl (cs 0, 4, .inl (far 2))), ((ar 3), .inl (cs 0, 4, .inl (far 3))), ((ar 4), .inl (cs 0, 4, .inl (far 4))), (ao, .inl (cs 0, 4, .inl fao)), (am, .inl (cs 1, 16, .inr (.inl fam))), (ro, .inr (8, [.ref ra, .ref rg, .int (nI rs_)])), (ra, .inl (cs 0, 24, .inl fra)), (rg, .inl (cs 1, 24, .inr (.inl frg))), (pg, .inr (2, [.ref cd, .int (nI ps)])), (cd, .inl (cs 0, 90, .inl fcd))]) [12, 13, 14, 15, 0, 1, 2, 3, 4, 5, 6, 16, 17, 7, 8, 9, 10, 11] rfl
              have hD9 := hD.part (cx := [(x0, .inr (11, [.ref pg, .ref rd, .ref aq, .ref py, .ref pl, .ref ch, .ref ro, .int (nI pn), .int td])), (py, .inl (cs 3, 8, .inr (.inr (.inr (.inr fpy))))), (pl, .inr (4, [.ref aq, .ref nx, .ref sn, pv2_9, .long bel2_9, .int gs, .int gp, .int la, .int stp, .int rou])), (aq, .inr (5, [.ref aw, .ref ac, .ref ao, .ref am, .int (nI C), .int (nI P), .long tot])), (aw, .inl (cs 0, 5, .inl faw)), (ac, .inl (cs 4, 5, .inr (.inr (.inr (.inr (rowsF 5 ar)))))), ((ar 0), .inl (cs 0, 4, .inl (far 0))), ((ar 1), .inl (cs 0, 4, .inl (far 1))), ((ar 2), .inl (cs 0, 4, .inl (far 2))), ((ar 3), .inl (cs 0, 4, .inl (far 3))), ((ar 4), .inl (cs 0, 4, .inl (far 4))), (ao, .inl (cs 0, 4, .inl fao)), (am, .inl (cs 1, 16, .inr (.inl fam))), (ro, .inr (8, [.ref ra, .ref rg, .int (nI rs_)])), (ra, .inl (cs 0, 24, .inl fra)), (rg, .inl (cs 1, 24, .inr (.inl frg))), (pg, .inr (2, [.ref cd, .int (nI ps)])), (cd, .inl (cs 0, 90, .inl fcd))]) [12, 13, 14, 15, 0, 1, 2, 3, 4, 5, 6, 16, 17, 7, 8, 9, 10, 11] (by decide) rfl
              exact W.lret (v := u1_52) hx hb hr (fun t ht hW => ⟨⟨u1_52, (), rfl, trivial, ⟨bel2_9, pv2_9, rs2_9, hpt_9, by rw [ht]; exact hP9, hD9⟩⟩, hS.F ht⟩) hS.2.2 dX11_digest_75
            · have n_54 : k2 ≤ 5 := b_lt_f (by omega) (by omega) c_54
              refine lv_lload_n hx hb dX11_digest_57 rfl (lv_at hl 1 rfl) ?_
              refine lv_aload_n hx hb dX11_digest_58 rfl (lv_at hl 0 rfl) ?_
              refine lv_iload_n hx hb dX11_digest_59 rfl (lv_at hl 2 rfl) ?_
              have hPc := hP.sub (ws' := [(x0, .inr (11, [.ref pg, .ref rd, .ref aq, .ref py, .ref pl, .ref ch, .ref ro, .int (nI pn), .int td])), (aq, .inr (5, [.ref aw, .ref ac, .ref ao, .ref am, .int (nI C), .int (nI P), .long tot])), (ro, .inr (8, [.ref ra, .ref rg, .int (nI rs_)])), (pg, .inr (2, [.ref cd, .int (nI ps)]))]) [12, 15, 7, 10] rfl
              refine vp_callSi (W.runV (As := [.int (nI k2)]) (rest := [.long u1_52]) ⟨hx, hb, hml, hown, hg⟩ (x_count l D cs x0 py pn (by omega) td rd pl ch aq aw ac ao am C (by omega) P (by omega) tot ro ra rg rs_ (by omega) pg cd ps (by omega) (nI k2)) (cwV 1 hg (gw_V kw_768 kw_769 kw_770 kw_12 kw_767) rfl rfl rfl (by decide +kernel) ⟨(Nat.le_of_ble_eq_true rfl), (Nat.le_of_ble_eq_true rfl)⟩) (pr_SV (q := (RX11, TX11, 9)) 11 0 hK hPc rfl rfl) rfl rfl hl.1 rfl (lv_room (Nat.le_of_ble_eq_true rfl)) dX11_digest_60 ⟨(Nat.le_of_ble_eq_true rfl), (Nat.le_of_ble_eq_true rfl)⟩) (fun r_60 h_60 => ?_)
              clear h_60
              refine lv_i2l hx hb dX11_digest_63 rfl ?_
              refine lv_topl (fun z_63 e_63 => ?_)
              refine vp_callSl (W.runS (As := [.long u1_52, .long z_63]) (rest := []) ⟨hx, hb, hml, hown, hg⟩ (c_mixed l u1_52 z_63) (va_cwS 2 hg (gw_S kw_746 kw_747 kw_12 kw_745) rfl rfl rfl (by decide +kernel) ⟨(Nat.le_of_ble_eq_true rfl), (Nat.le_of_ble_eq_true rfl)⟩) pr_0 rfl rfl hl.1 rfl (lv_room (Nat.le_of_ble_eq_true rfl)) dX11_digest_64 ⟨(Nat.le_of_ble_eq_true rfl), (Nat.le_of_ble_eq_true rfl)⟩) (fun r_64 h_64 => ?_)
              clear h_64
              refine lv_lstore_n (lv' := [(1, .long r_64), (0, .ref x0), (3, .int (nI k2))]) hx hb dX11_digest_67 rfl hl (by decide) rfl (fun ls hl => ?_)
              refine lv_iinc (v := (nI (k2 + 1))) (lv' := [(3, .int (nI (k2 + 1))), (1, .long r_64), (0, .ref x0)]) hx hb dX11_digest_68 hl (k := 2) rfl (nI_add k2 1) (by decide) rfl (fun ls hl => ?_)
              refine lv_goto (tgt := 52) hx hb dX11_digest_71 (by decide) ?_
              exact ih52 r_64 (k2 + 1) (by omega) (by omega) _ _ ls hP hD hS (lv_sub hl [2, 1, 0] rfl)
        exact LOOP52 (6 - 0 + 1) u1_18 0 (by omega) (Nat.lt_succ_self _) _ _ ls hP hD hS (lv_sub hl [1, 2, 0] rfl)
      · have n_26 : k < ps := b_le_f (by omega) (by omega) c_26
        refine lv_lload_n hx hb dX11_digest_29 rfl (lv_at hl 1 rfl) ?_
        refine lv_aload_n hx hb dX11_digest_30 rfl (lv_at hl 0 rfl) ?_
        refine va_get (D := D) (ci := 11) (v := .ref pg) (C := RX11) (T := TX11) (N := 9) hx hb hg gwX11 hown hK hP 12 rfl rfl 0 (by decide) (hg _ kw_512) (fun _ h9 => h9) rfl dX11_digest_31 ?_
        refine va_get (D := D) (ci := 2) (v := .ref cd) (C := RX2) (T := TX2) (N := 2) hx hb hg gwX2 hown hK hP 10 rfl rfl 0 (by decide) (hg _ kw_771) (fun _ h9 => h9) rfl dX11_digest_34 ?_
        refine lv_iload_n hx hb dX11_digest_37 rfl (lv_at hl 2 rfl) ?_
        refine va_iald hx hb hK hP 11 0 rfl rfl (vp_in_nI (show k < 90 by omega) (by decide)) dX11_digest_38 ?_
        refine lv_topi (fun z_38 e_38 => ?_)
        refine lv_i2l hx hb dX11_digest_39 rfl ?_
        refine lv_topl (fun z_39 e_39 => ?_)
        refine vp_callSl (W.runS (As := [.long u1_18, .long z_39]) (rest := []) ⟨hx, hb, hml, hown, hg⟩ (c_mixed l u1_18 z_39) (va_cwS 2 hg (gw_S kw_746 kw_747 kw_12 kw_745) rfl rfl rfl (by decide +kernel) ⟨(Nat.le_of_ble_eq_true rfl), (Nat.le_of_ble_eq_true rfl)⟩) pr_0 rfl rfl hl.1 rfl (lv_room (Nat.le_of_ble_eq_true rfl)) dX11_digest_40 ⟨(Nat.le_of_ble_eq_true rfl), (Nat.le_of_ble_eq_true rfl)⟩) (fun r_40 h_40 => ?_)
        clear h_40
        refine lv_lstore_n (lv' := [(1, .long r_40), (0, .ref x0), (3, .int (nI k))]) hx hb dX11_digest_43 rfl hl (by decide) rfl (fun ls hl => ?_)
        refine lv_iinc (v := (nI (k + 1))) (lv' := [(3, .int (nI (k + 1))), (1, .long r_40), (0, .ref x0)]) hx hb dX11_digest_44 hl (k := 2) rfl (nI_add k 1) (by decide) rfl (fun ls hl => ?_)
        refine lv_goto (tgt := 18) hx hb dX11_digest_47 (by decide) ?_
        exact ih18 r_40 (k + 1) (by omega) (by omega) _ _ ls hP hD hS (lv_sub hl [2, 1, 0] rfl)
  exact LOOP18 (ps - 0 + 1) r_12 0 (by omega) (Nat.lt_succ_self _) _ _ ls hP hD hS (lv_sub hl [2, 1, 0] rfl)
