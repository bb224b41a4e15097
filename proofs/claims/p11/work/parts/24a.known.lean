theorem kw_1027 : (.instantiable RX11 9 : Cond) ∈ gw_tbl := gw_in (by decide +kernel) (by decide +kernel)
theorem kw_1028 : (.instantiable RX12 33 : Cond) ∈ gw_tbl := gw_in (by decide +kernel) (by decide +kernel)

set_option maxHeartbeats 4000000 in
set_option maxRecDepth 100000 in
theorem st_known {p : Program} {s : State} {m : MethodId} {meth : Method} {c : Code} {b L : Nat} {xs : Nat → Int32} (C0 : lw_At p s m meth c b L xs) : ∃ (D : va_G) (cs : Nat → ClassId), va_K D vwCl (GT cs) s ∧ nw_C s ∧ ic_C s := by
  obtain ⟨hx, hb, hr, hml, hown, hts, hX, hbl, hlocks, hgv⟩ := id C0
  have hg := fun (w : Cond) (h : w ∈ gw_tbl) => hts w (gw_lw h)
  have hown : s.vm.findClass RL = some m.cls := hown
  have hbA : ¬ AA s b := Nat.not_le.mpr hbl
  have hA : ∀ q : Nat, s.heap.size ≤ q → AA s q := fun _ h => h
  obtain ⟨dc0, di0, hKn0⟩ := u_known (C := RX0) (T := TX0) (N := 12) (n := 12) hg gwX0 (hg _ kw_803)
  obtain ⟨dc1, di1, hKn1⟩ := u_known (C := RX1) (T := TX1) (N := 3) (n := 3) hg gwX1 (hg _ kw_708)
  obtain ⟨dc2, di2, hKn2⟩ := u_known (C := RX2) (T := TX2) (N := 2) (n := 2) hg gwX2 (hg _ kw_786)
  obtain ⟨dc3, di3, hKn3⟩ := u_known (C := RX3) (T := TX3) (N := 3) (n := 3) hg gwX3 (hg _ kw_702)
  obtain ⟨dc4, di4, hKn4⟩ := u_known (C := RX4) (T := TX4) (N := 10) (n := 10) hg gwX4 (hg _ kw_798)
  obtain ⟨dc5, di5, hKn5⟩ := u_known (C := RX5) (T := TX5) (N := 7) (n := 7) hg gwX5 (hg _ kw_794)
  obtain ⟨dc6, di6, hKn6⟩ := u_known (C := RX6) (T := TX6) (N := 3) (n := 3) hg gwX6 (hg _ kw_705)
  obtain ⟨dc7, di7, hKn7⟩ := u_known (C := RX7) (T := TX7) (N := 7) (n := 7) hg gwX7 (hg _ kw_790)
  obtain ⟨dc8, di8, hKn8⟩ := u_known (C := RX8) (T := TX8) (N := 3) (n := 3) hg gwX8 (hg _ kw_808)
  obtain ⟨dc9, di9, hKn9⟩ := u_known (C := RX9) (T := TX9) (N := 3) (n := 3) hg gwX9 (hg _ kw_703)
  obtain ⟨dc10, di10, hKn10⟩ := u_known (C := RX10) (T := TX10) (N := 3) (n := 3) hg gwX10 (hg _ kw_704)
  obtain ⟨dc11, di11, hKn11⟩ := u_known (C := RX11) (T := TX11) (N := 9) (n := 9) hg gwX11 (hg _ kw_1027)
  obtain ⟨dc12, di12, hKn12⟩ := u_known (C := RX12) (T := TX12) (N := 33) (n := 33) hg gwX12 (hg _ kw_1028)
  obtain ⟨D, hKc⟩ : ∃ D : va_G, ∀ (k : Nat) (q : vw_C), vwCl[k]? = some q → u_Kn s q.1 q.2.1 q.2.2 (D.1 k) (D.2 k) := by
    refine ⟨(fun k => if k = 0 then dc0 else if k = 1 then dc1 else if k = 2 then dc2 else if k = 3 then dc3 else if k = 4 then dc4 else if k = 5 then dc5 else if k = 6 then dc6 else if k = 7 then dc7 else if k = 8 then dc8 else if k = 9 then dc9 else if k = 10 then dc10 else if k = 11 then dc11 else dc12, fun k => if k = 0 then di0 else if k = 1 then di1 else if k = 2 then di2 else if k = 3 then di3 else if k = 4 then di4 else if k = 5 then di5 else if k = 6 then di6 else if k = 7 then di7 else if k = 8 then di8 else if k = 9 then di9 else if k = 10 then di10 else if k = 11 then di11 else di12), ?_⟩
    intro k q hq
    match k, hq with
    | 0, hq => cases hq; exact hKn0
    | 1, hq => cases hq; exact hKn1
    | 2, hq => cases hq; exact hKn2
    | 3, hq => cases hq; exact hKn3
    | 4, hq => cases hq; exact hKn4
    | 5, hq => cases hq; exact hKn5
    | 6, hq => cases hq; exact hKn6
    | 7, hq => cases hq; exact hKn7
    | 8, hq => cases hq; exact hKn8
    | 9, hq => cases hq; exact hKn9
    | 10, hq => cases hq; exact hKn10
    | 11, hq => cases hq; exact hKn11
    | 12, hq => cases hq; exact hKn12
    | k + 13, hq => simp [vwCl] at hq
  have hN := nw_of hts
  have hI := ic_of hts hgv
  obtain ⟨c0, a0, r0⟩ := k_prim (ty := .int) rfl (hg _ kw_694)
  obtain ⟨c1, a1, r1⟩ := k_prim (ty := .long) rfl (hg _ kw_186)
  obtain ⟨c2, a2, r2⟩ := k_prim (ty := .boolean) rfl (hg _ kw_812)
  obtain ⟨c3, a3, r3⟩ := k_obj hN.2.1
  obtain ⟨c4, a4, r4⟩ := k_arr hN.2.2.1
  obtain ⟨c5, a5, r5⟩ := k_arr hN.2.2.2.1
  obtain ⟨cs, hK⟩ : ∃ cs : Nat → ClassId, va_K D vwCl (GT cs) s := by
    refine ⟨fun k => if k = 0 then c0 else if k = 1 then c1 else if k = 2 then c2 else if k = 3 then c3 else if k = 4 then c4 else c5, hKc, fun k q hq => ?_⟩
    match k, hq with
    | 0, hq => cases hq; exact ⟨a0, r0⟩
    | 1, hq => cases hq; exact ⟨a1, r1⟩
    | 2, hq => cases hq; exact ⟨a2, r2⟩
    | 3, hq => cases hq; exact ⟨a3, r3⟩
    | 4, hq => cases hq; exact ⟨a4, r4⟩
    | 5, hq => cases hq; exact ⟨a5, r5⟩
    | k + 6, hq => simp [GT] at hq
  exact ⟨D, cs, hK, hN, hI⟩
