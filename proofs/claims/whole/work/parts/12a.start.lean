/-! THE START: classes, arrays, tables, nest mates -/
theorem ar_p {args : Array Value} {s : State} {ty : FieldType} (h : (Cond.arrayClass ty).before args s = true) (hty : ∀ C, ty ≠ .object C) : ∃ cA, ArrOfT s cA ty ∧ va_RA s cA ty := by
  obtain ⟨cA, kA, comp, h1, h2, h3⟩ := Cond.arrayClass_spec h
  refine ⟨cA, fun n z => ⟨fun k h => (by cases h), kA, h2, comp, h3⟩, ?_⟩
  cases ty with
  | object C => exact absurd rfl (hty C)
  | _ => exact h1
theorem ar_o {s : State} {C : String} (h : va_AO C s) : ∃ cA, ArrOfT s cA (.object C) ∧ va_RA s cA (.object C) := by
  obtain ⟨comp, c, k, h1, h2, h3, h4, h5⟩ := Cond.arrayOver_spec h
  exact ⟨c, fun N z => ⟨(fun k h => by cases h), k, h3, comp, h4⟩, k, comp, h3, h4, h1, h5⟩
theorem ao_0 : Cond.arrayOver (.object RX0) ∈ lw_tbl := List.mem_of_getElem? (i := 105) (by decide +kernel)
theorem ao_3 : Cond.arrayOver (.object RX3) ∈ lw_tbl := List.mem_of_getElem? (i := 273) (by decide +kernel)
theorem ao_4 : Cond.arrayOver (.object RX4) ∈ lw_tbl := List.mem_of_getElem? (i := 99) (by decide +kernel)
theorem ao_6 : Cond.arrayOver (.object RX6) ∈ lw_tbl := List.mem_of_getElem? (i := 107) (by decide +kernel)
theorem ao_7 : Cond.arrayOver (.object RX7) ∈ lw_tbl := List.mem_of_getElem? (i := 103) (by decide +kernel)
theorem ao_8 : Cond.arrayOver (.object RX8) ∈ lw_tbl := List.mem_of_getElem? (i := 101) (by decide +kernel)
theorem nst_0 : Cond.methodLinkNest RX11 9 yX10_init "WireMill" ∈ lw_tbl := List.mem_of_getElem? (i := 69) (by decide +kernel)
theorem nst_1 : Cond.methodLinkNest RX11 48 yX5_init "WireMill" ∈ lw_tbl := List.mem_of_getElem? (i := 110) (by decide +kernel)
theorem nst_2 : Cond.methodLinkNest RX11 73 yX1_init "WireMill" ∈ lw_tbl := List.mem_of_getElem? (i := 190) (by decide +kernel)
theorem nst_3 : Cond.methodLinkNest RX11 84 yX7_init "WireMill" ∈ lw_tbl := List.mem_of_getElem? (i := 268) (by decide +kernel)
theorem nst_4 : Cond.methodLinkNest RX10 35 yX11_isWithin "WireMill" ∈ lw_tbl := List.mem_of_getElem? (i := 362) (by decide +kernel)
theorem nst_5 : Cond.methodLinkNest RX0 29 yX11_quotient "WireMill" ∈ lw_tbl := List.mem_of_getElem? (i := 506) (by decide +kernel)
theorem nst_6 : Cond.methodLinkNest RX2 23 yX11_quotient "WireMill" ∈ lw_tbl := List.mem_of_getElem? (i := 524) (by decide +kernel)
theorem nst_7 : Cond.methodLinkNest RX8 17 yX11_quotient "WireMill" ∈ lw_tbl := List.mem_of_getElem? (i := 560) (by decide +kernel)
theorem nst_8 : Cond.methodLinkNest RX9 64 yX11_isWithin "WireMill" ∈ lw_tbl := List.mem_of_getElem? (i := 613) (by decide +kernel)
theorem nst_9 : Cond.methodLinkNest RX6 29 yX11_isWithin "WireMill" ∈ lw_tbl := List.mem_of_getElem? (i := 696) (by decide +kernel)
theorem nst_10 : Cond.methodLinkNest RX1 50 yX11_quotient "WireMill" ∈ lw_tbl := List.mem_of_getElem? (i := 717) (by decide +kernel)
theorem nst_11 : Cond.methodLinkNest RX5 33 yX11_choices "WireMill" ∈ lw_tbl := List.mem_of_getElem? (i := 783) (by decide +kernel)
theorem ls_LEAST : Cond.laysStatic "WireMill$Settings" "LEAST" "[I" ∈ lw_tbl := List.mem_of_getElem? (i := 359) (by decide +kernel)
theorem ls_MOST : Cond.laysStatic "WireMill$Settings" "MOST" "[I" ∈ lw_tbl := List.mem_of_getElem? (i := 361) (by decide +kernel)
theorem ls_DIGITS : Cond.laysStatic "WireMill$Cutting" "DIGITS" "[I" ∈ lw_tbl := List.mem_of_getElem? (i := 682) (by decide +kernel)
section START
variable {args : Array Value} {s : State}
theorem st_NW (hts : ∀ w ∈ lw_tbl, w.before args s = true) : NW s := by
  refine ⟨?_, ?_⟩
  · intro w hw
    rcases List.mem_cons.mp hw with rfl | hw
    · exact va_Nw.of rfl (hts _ nst_0)
    rcases List.mem_cons.mp hw with rfl | hw
    · exact va_Nw.of rfl (hts _ nst_1)
    rcases List.mem_cons.mp hw with rfl | hw
    · exact va_Nw.of rfl (hts _ nst_2)
    rcases List.mem_cons.mp hw with rfl | hw
    · exact va_Nw.of rfl (hts _ nst_3)
    rcases List.mem_cons.mp hw with rfl | hw
    · exact va_Nw.of rfl (hts _ nst_4)
    rcases List.mem_cons.mp hw with rfl | hw
    · exact va_Nw.of rfl (hts _ nst_5)
    rcases List.mem_cons.mp hw with rfl | hw
    · exact va_Nw.of rfl (hts _ nst_6)
    rcases List.mem_cons.mp hw with rfl | hw
    · exact va_Nw.of rfl (hts _ nst_7)
    rcases List.mem_cons.mp hw with rfl | hw
    · exact va_Nw.of rfl (hts _ nst_8)
    rcases List.mem_cons.mp hw with rfl | hw
    · exact va_Nw.of rfl (hts _ nst_9)
    rcases List.mem_cons.mp hw with rfl | hw
    · exact va_Nw.of rfl (hts _ nst_10)
    rcases List.mem_cons.mp hw with rfl | hw
    · exact va_Nw.of rfl (hts _ nst_11)
    cases hw
  · intro C hC
    rcases List.mem_cons.mp hC with rfl | hC
    · exact va_AO.of (hts _ ao_0)
    rcases List.mem_cons.mp hC with rfl | hC
    · exact va_AO.of (hts _ ao_3)
    rcases List.mem_cons.mp hC with rfl | hC
    · exact va_AO.of (hts _ ao_4)
    rcases List.mem_cons.mp hC with rfl | hC
    · exact va_AO.of (hts _ ao_6)
    rcases List.mem_cons.mp hC with rfl | hC
    · exact va_AO.of (hts _ ao_7)
    rcases List.mem_cons.mp hC with rfl | hC
    · exact va_AO.of (hts _ ao_8)
    cases hC
theorem st_cl (hts : ∀ w ∈ TT, w.before args s = true) : ∃ (dC : Nat → ClassId) (dI : Nat → Nat → Nat), ∀ (k : Nat) (q : vw_C), vwCl[k]? = some q → u_Kn s q.1 q.2.1 q.2.2 (dC k) (dI k) := by
  obtain ⟨c0, i0, h0⟩ := u_known (C := RX0) (T := TX0) (N := 7) hts ux_0 (hts _ it_X0)
  obtain ⟨c1, i1, h1⟩ := u_known (C := RX1) (T := TX1) (N := 6) hts ux_1 (hts _ it_X1)
  obtain ⟨c2, i2, h2⟩ := u_known (C := RX2) (T := TX2) (N := 5) hts ux_2 (hts _ it_X2)
  obtain ⟨c3, i3, h3⟩ := u_known (C := RX3) (T := TX3) (N := 3) hts ux_3 (hts _ it_X3)
  obtain ⟨c4, i4, h4⟩ := u_known (C := RX4) (T := TX4) (N := 6) hts ux_4 (hts _ it_X4)
  obtain ⟨c5, i5, h5⟩ := u_known (C := RX5) (T := TX5) (N := 3) hts ux_5 (hts _ it_X5)
  obtain ⟨c6, i6, h6⟩ := u_known (C := RX6) (T := TX6) (N := 5) hts ux_6 (hts _ it_X6)
  obtain ⟨c7, i7, h7⟩ := u_known (C := RX7) (T := TX7) (N := 2) hts ux_7 (hts _ it_X7)
  obtain ⟨c8, i8, h8⟩ := u_known (C := RX8) (T := TX8) (N := 4) hts ux_8 (hts _ it_X8)
  obtain ⟨c9, i9, h9⟩ := u_known (C := RX9) (T := TX9) (N := 9) hts ux_9 (hts _ it_X9)
  obtain ⟨c10, i10, h10⟩ := u_known (C := RX10) (T := TX10) (N := 6) hts ux_10 (hts _ it_X10)
  obtain ⟨c11, i11, h11⟩ := u_known (C := RX11) (T := TX11) (N := 19) hts ux_11 (hts _ it_X11)
  obtain ⟨c12, i12, h12⟩ := u_known (C := RX12) (T := TX12) (N := 49) hts ux_12 (hts _ it_X12)
  refine ⟨fun k => if k = 0 then c0 else if k = 1 then c1 else if k = 2 then c2 else if k = 3 then c3 else if k = 4 then c4 else if k = 5 then c5 else if k = 6 then c6 else if k = 7 then c7 else if k = 8 then c8 else if k = 9 then c9 else if k = 10 then c10 else if k = 11 then c11 else c12, fun k => if k = 0 then i0 else if k = 1 then i1 else if k = 2 then i2 else if k = 3 then i3 else if k = 4 then i4 else if k = 5 then i5 else if k = 6 then i6 else if k = 7 then i7 else if k = 8 then i8 else if k = 9 then i9 else if k = 10 then i10 else if k = 11 then i11 else i12, ?_⟩
  intro k q hq
  match k, hq with
  | 0, hq => cases hq; exact h0
  | 1, hq => cases hq; exact h1
  | 2, hq => cases hq; exact h2
  | 3, hq => cases hq; exact h3
  | 4, hq => cases hq; exact h4
  | 5, hq => cases hq; exact h5
  | 6, hq => cases hq; exact h6
  | 7, hq => cases hq; exact h7
  | 8, hq => cases hq; exact h8
  | 9, hq => cases hq; exact h9
  | 10, hq => cases hq; exact h10
  | 11, hq => cases hq; exact h11
  | 12, hq => cases hq; exact h12
  | k + 13, hq => simp [vwCl] at hq
theorem st_ty (hts : ∀ w ∈ TT, w.before args s = true) (hN : NW s) : ∃ cA : Nat → ClassId, ∀ (dC : Nat → ClassId) (dI : Nat → Nat → Nat) (k : Nat) (q : ClassId × FieldType), (tyl (dC, dI, cA))[k]? = some q → ArrOfT s q.1 q.2 ∧ va_RA s q.1 q.2 := by
  obtain ⟨a0, h0⟩ := ar_p (hts _ ac_int) (fun C h => by cases h)
  obtain ⟨a1, h1⟩ := ar_p (hts _ ac_long) (fun C h => by cases h)
  obtain ⟨a2, h2⟩ := ar_p (hts _ ac_boolean) (fun C h => by cases h)
  obtain ⟨a3, h3⟩ := ar_o (hN.2 RX0 (by simp [aoC]))
  obtain ⟨a4, h4⟩ := ar_o (hN.2 RX3 (by simp [aoC]))
  obtain ⟨a5, h5⟩ := ar_o (hN.2 RX4 (by simp [aoC]))
  obtain ⟨a6, h6⟩ := ar_o (hN.2 RX6 (by simp [aoC]))
  obtain ⟨a7, h7⟩ := ar_o (hN.2 RX7 (by simp [aoC]))
  obtain ⟨a8, h8⟩ := ar_o (hN.2 RX8 (by simp [aoC]))
  refine ⟨fun k => if k = 0 then a0 else if k = 1 then a1 else if k = 2 then a2 else if k = 3 then a3 else if k = 4 then a4 else if k = 5 then a5 else if k = 6 then a6 else if k = 7 then a7 else a8, ?_⟩
  intro dC dI k q hq
  match k, hq with
  | 0, hq => cases hq; exact h0
  | 1, hq => cases hq; exact h1
  | 2, hq => cases hq; exact h2
  | 3, hq => cases hq; exact h3
  | 4, hq => cases hq; exact h4
  | 5, hq => cases hq; exact h5
  | 6, hq => cases hq; exact h6
  | 7, hq => cases hq; exact h7
  | 8, hq => cases hq; exact h8
  | k + 9, hq => simp [tyl] at hq
theorem st_LEAST (hts : ∀ w ∈ lw_tbl, w.before args s = true) (hini : (Cond.initialized "WireMill$Settings").before args s = true) (hg : (Jvm.Cond.and given_1 narrow_1).before args s = true) : ∃ t : Nat, va_Z "WireMill$Settings" "LEAST" "[I" (.ref t) (lA s) s s.heap ∧ va_T .int t 6 (fun j => .int (lstV j)) (lA s) s s.heap := by
  have hs := flat_of_before _ hg
  have hA : ∀ a : Nat, a < s.heap.size → ¬ lA s a := fun a h => Nat.not_le.mpr h
  obtain ⟨t, h1, h2⟩ := va_Tof (tm := .static "WireMill$Settings" "LEAST" "[I") (N := 6) (f := fun j => .int (lstV j)) (A := lA s) (by decide) (hs (Cond.arrayOf (.static "WireMill$Settings" "LEAST" "[I") .int) (by decide +kernel)) (va_eqt (hs (Cond.eq (.length (.static "WireMill$Settings" "LEAST" "[I")) (.int 6)) (by decide +kernel))) (fun j hj => by
    match j, hj with
    | 0, _ => exact va_eqt (hs (Cond.eq (.elem (.static "WireMill$Settings" "LEAST" "[I") (.int 0)) (.int 0)) (by decide +kernel))
    | 1, _ => exact va_eqt (hs (Cond.eq (.elem (.static "WireMill$Settings" "LEAST" "[I") (.int 1)) (.int 10)) (by decide +kernel))
    | 2, _ => exact va_eqt (hs (Cond.eq (.elem (.static "WireMill$Settings" "LEAST" "[I") (.int 2)) (.int 0)) (by decide +kernel))
    | 3, _ => exact va_eqt (hs (Cond.eq (.elem (.static "WireMill$Settings" "LEAST" "[I") (.int 3)) (.int 1)) (by decide +kernel))
    | 4, _ => exact va_eqt (hs (Cond.eq (.elem (.static "WireMill$Settings" "LEAST" "[I") (.int 4)) (.int 0)) (by decide +kernel))
    | 5, _ => exact va_eqt (hs (Cond.eq (.elem (.static "WireMill$Settings" "LEAST" "[I") (.int 5)) (.int 1)) (by decide +kernel))
    | j + 6, hj => exact absurd hj (by omega)) hA
  exact ⟨t, va_Zref (hts _ ls_LEAST) hini h1 hA, h2⟩
theorem st_MOST (hts : ∀ w ∈ lw_tbl, w.before args s = true) (hini : (Cond.initialized "WireMill$Settings").before args s = true) (hg : (Jvm.Cond.and given_1 narrow_1).before args s = true) : ∃ t : Nat, va_Z "WireMill$Settings" "MOST" "[I" (.ref t) (lA s) s s.heap ∧ va_T .int t 6 (fun j => .int (mstV j)) (lA s) s s.heap := by
  have hs := flat_of_before _ hg
  have hA : ∀ a : Nat, a < s.heap.size → ¬ lA s a := fun a h => Nat.not_le.mpr h
  obtain ⟨t, h1, h2⟩ := va_Tof (tm := .static "WireMill$Settings" "MOST" "[I") (N := 6) (f := fun j => .int (mstV j)) (A := lA s) (by decide) (hs (Cond.arrayOf (.static "WireMill$Settings" "MOST" "[I") .int) (by decide +kernel)) (va_eqt (hs (Cond.eq (.length (.static "WireMill$Settings" "MOST" "[I")) (.int 6)) (by decide +kernel))) (fun j hj => by
    match j, hj with
    | 0, _ => exact va_eqt (hs (Cond.eq (.elem (.static "WireMill$Settings" "MOST" "[I") (.int 0)) (.int 100)) (by decide +kernel))
    | 1, _ => exact va_eqt (hs (Cond.eq (.elem (.static "WireMill$Settings" "MOST" "[I") (.int 1)) (.int 100)) (by decide +kernel))
    | 2, _ => exact va_eqt (hs (Cond.eq (.elem (.static "WireMill$Settings" "MOST" "[I") (.int 2)) (.int 10)) (by decide +kernel))
    | 3, _ => exact va_eqt (hs (Cond.eq (.elem (.static "WireMill$Settings" "MOST" "[I") (.int 3)) (.int 500)) (by decide +kernel))
    | 4, _ => exact va_eqt (hs (Cond.eq (.elem (.static "WireMill$Settings" "MOST" "[I") (.int 4)) (.int 20)) (by decide +kernel))
    | 5, _ => exact va_eqt (hs (Cond.eq (.elem (.static "WireMill$Settings" "MOST" "[I") (.int 5)) (.int 100)) (by decide +kernel))
    | j + 6, hj => exact absurd hj (by omega)) hA
  exact ⟨t, va_Zref (hts _ ls_MOST) hini h1 hA, h2⟩
theorem st_DIGITS (hts : ∀ w ∈ lw_tbl, w.before args s = true) (hini : (Cond.initialized "WireMill$Cutting").before args s = true) (hg : (Jvm.Cond.and given_1 narrow_1).before args s = true) : ∃ t : Nat, va_Z "WireMill$Cutting" "DIGITS" "[I" (.ref t) (lA s) s s.heap ∧ va_T .int t 6 (fun j => .int (digV j)) (lA s) s s.heap := by
  have hs := flat_of_before _ hg
  have hA : ∀ a : Nat, a < s.heap.size → ¬ lA s a := fun a h => Nat.not_le.mpr h
  obtain ⟨t, h1, h2⟩ := va_Tof (tm := .static "WireMill$Cutting" "DIGITS" "[I") (N := 6) (f := fun j => .int (digV j)) (A := lA s) (by decide) (hs (Cond.arrayOf (.static "WireMill$Cutting" "DIGITS" "[I") .int) (by decide +kernel)) (va_eqt (hs (Cond.eq (.length (.static "WireMill$Cutting" "DIGITS" "[I")) (.int 6)) (by decide +kernel))) (fun j hj => by
    match j, hj with
    | 0, _ => exact va_eqt (hs (Cond.eq (.elem (.static "WireMill$Cutting" "DIGITS" "[I") (.int 0)) (.int 1419857)) (by decide +kernel))
    | 1, _ => exact va_eqt (hs (Cond.eq (.elem (.static "WireMill$Cutting" "DIGITS" "[I") (.int 1)) (.int 83521)) (by decide +kernel))
    | 2, _ => exact va_eqt (hs (Cond.eq (.elem (.static "WireMill$Cutting" "DIGITS" "[I") (.int 2)) (.int 4913)) (by decide +kernel))
    | 3, _ => exact va_eqt (hs (Cond.eq (.elem (.static "WireMill$Cutting" "DIGITS" "[I") (.int 3)) (.int 289)) (by decide +kernel))
    | 4, _ => exact va_eqt (hs (Cond.eq (.elem (.static "WireMill$Cutting" "DIGITS" "[I") (.int 4)) (.int 17)) (by decide +kernel))
    | 5, _ => exact va_eqt (hs (Cond.eq (.elem (.static "WireMill$Cutting" "DIGITS" "[I") (.int 5)) (.int 1)) (by decide +kernel))
    | j + 6, hj => exact absurd hj (by omega)) hA
  exact ⟨t, va_Zref (hts _ ls_DIGITS) hini h1 hA, h2⟩
end START
