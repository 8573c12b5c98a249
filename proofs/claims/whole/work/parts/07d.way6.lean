/-! ways of the class: way, step -/
def h0V (V : tF) (c : Nat) : Nat := (V 117 c).toNatClampNeg
theorem h0_ok {V : tF} {G : tG} {nh : Nat → Nat} {nc : Nat} {mt : Nat → Nat} (h : GI V G nh nc mt) {c : Nat} (hc : c < nc) : h0V V c ≤ 100 ∧ V 117 c = nI (h0V V c) := by
  obtain ⟨s, x, -, ⟨x1, ex⟩, -⟩ := h.2.2.2.2.1 c hc
  unfold h0V
  rw [ex, nI_clamp (by omega)]
  exact ⟨x1, rfl⟩
theorem gd_0 {V : tF} {G : tG} {nh : Nat → Nat} {nc : Nat} {mt : Nat → Nat} (h : GI V G nh nc mt) {c i : Nat} (hc : c < nc) : szP V nh c i 0 ≤ 1000 := by
  obtain ⟨s, x, ⟨s1, s2, es⟩, -⟩ := h.2.2.2.2.1 c hc
  rw [szP_0, es]
  exact nI_le s2 (by decide)
abbrev wY (V : tF) (nh mt : Nat → Nat) (c p u : Int32) (lo hi : Int32) : wT := wtV V nh mt c.toNatClampNeg p.toNatClampNeg u.toNatClampNeg lo hi
def pY (V : tF) (nh mt : Nat → Nat) (c p u lo hi : Int32) : Nat := pr (wY V nh mt c p u lo hi) 0 (h0V V c.toNatClampNeg)
def sp_way (V : tF) (G : tG) (nc : Nat) (nh mt : Nat → Nat) (c p u lo hi : Int32) : Int32 := if sp_wrong G nc c p u lo hi = 1 then (if pY V nh mt c p u lo hi < 100000 then nI (pY V nh mt c p u lo hi) else -1) else sp_wrong G nc c p u lo hi
def sp_step (V : tF) (G : tG) (nc : Nat) (nh mt : Nat → Nat) (c p u lo hi i : Int32) : Int32 := if sp_wrong G nc c p u lo hi = 1 then (if i < 0 then -3 else if pY V nh mt c p u lo hi < 100000 ∧ i < nI (wlen (wY V nh mt c p u lo hi) (h0V V c.toNatClampNeg)) then nI (stp (wY V nh mt c p u lo hi) (h0V V c.toNatClampNeg) i.toNatClampNeg) else -1) else sp_wrong G nc c p u lo hi
theorem wr_y {G : tG} {nc c i u : Nat} {lo hi : Int32} (ok : ok_coil G nc (nI c) = true) (hi4 : i < 4) (hu : u < 3) (hr : (20 ≤ lo ∧ lo ≤ 1000) ∧ (20 ≤ hi ∧ hi ≤ 1000) ∧ ¬ hi < lo) : sp_wrong G nc (nI c) (nI i) (nI u) lo hi = 1 := by
  have h1 := i_rng (i := i) (n := 3) (by omega) (by decide)
  have h2 := i_rng (i := u) (n := 2) (by omega) (by decide)
  rw [sp_wrong, if_pos ⟨ok, h1, h2⟩, if_pos hr]
theorem wr_cases (G : tG) (nc : Nat) (c p u lo hi : Int32) : sp_wrong G nc c p u lo hi = 1 ∨ sp_wrong G nc c p u lo hi = -2 ∨ sp_wrong G nc c p u lo hi = -3 := by
  unfold sp_wrong
  split
  · split
    · exact Or.inl rfl
    · exact Or.inr (Or.inr rfl)
  · exact Or.inr (Or.inl rfl)
set_option maxHeartbeats 4000000 in
set_option maxRecDepth 100000 in
theorem c_X11_seekWay (E : cE) (tt : Nat × Nat × Nat) {X : List Nat} (B : Nat → Nat) (F : tF) (G : tG) {P : tP} {nh : Nat → Nat} {nc no : Nat} {mt om : Nat → Nat} (hR : RC X P nh nc no mt om) (hGI : GI (vF F) (vG G) nh nc mt) (hwh : WHok F) (c0 p0 u0 lo hi : Int32)  : CT E tt yX11_seekWay cX11_seekWay 9 (some .int) 24 0 0 [.ref (B (0)), .int (c0), .int (p0), .int (u0), .int (lo), .int (hi)] (wl E X B F G P) (fun r w => (∃ c1 i1 u1 : Nat, c1 < nc ∧ i1 < 4 ∧ u1 < 3 ∧ c0 = nI c1 ∧ p0 = nI i1 ∧ u0 = nI u1 ∧ sp_wrong (vG G) nc c0 p0 u0 lo hi = 1 ∧ pr (wtV (vF F) nh mt c1 i1 u1 lo hi) 0 (h0V (vF F) c1) < 100000 ∧ r = some (.int (nI (pr (wtV (vF F) nh mt c1 i1 u1 lo hi) 0 (h0V (vF F) c1)))) ∧ ∃ F1 : tF, AG4 F F1 ∧ F1 80 3 = nI (wlen (wtV (vF F) nh mt c1 i1 u1 lo hi) (h0V (vF F) c1)) ∧ (∀ j, j < wlen (wtV (vF F) nh mt c1 i1 u1 lo hi) (h0V (vF F) c1) → F1 82 j = nI (stp (wtV (vF F) nh mt c1 i1 u1 lo hi) (h0V (vF F) c1) j)) ∧ w = wl E X B F1 G (uP (uP P 80 4 (some (53 + c1))) 80 5 (some (12 + i1)))) ∨ (∃ c1 i1 u1 : Nat, c1 < nc ∧ i1 < 4 ∧ u1 < 3 ∧ c0 = nI c1 ∧ p0 = nI i1 ∧ u0 = nI u1 ∧ sp_wrong (vG G) nc c0 p0 u0 lo hi = 1 ∧ ¬ pr (wtV (vF F) nh mt c1 i1 u1 lo hi) 0 (h0V (vF F) c1) < 100000 ∧ r = some (.int (-1)) ∧ ∃ F1 : tF, AG4 F F1 ∧ w = wl E X B F1 G (uP (uP P 80 4 (some (53 + c1))) 80 5 (some (12 + i1)))) ∨ (¬ sp_wrong (vG G) nc c0 p0 u0 lo hi = 1 ∧ r = some (.int (sp_wrong (vG G) nc c0 p0 u0 lo hi)) ∧ w = wl E X B F G P)) := by
  refine CT.mk (by decide +kernel) (Nat.le_of_ble_eq_true rfl) ?_
  intro l p e s m below meth c A ls C hr hlk hnm hw hl
  have hx := C.1
  have hb := C.2.1
  have hts := C.2.2.2.2
  have hown : s.vm.findClass RX11 = some m.cls := C.2.2.2.1
  have hl : lv_has ls 9 [(0, .ref (B (0))), (1, .int (c0)), (2, .int (p0)), (3, .int (u0)), (4, .int (lo)), (5, .int (hi))] := hl
  refine lv_aload_n hx hb dX11_seekWay_0 rfl (lv_at hl 0 rfl) ?_
  refine lv_iload_n hx hb dX11_seekWay_1 rfl (lv_at hl 1 rfl) ?_
  refine kV C hw (c_X11_coilAt E tt B F G hR hGI.ck (c0)) vy_X11_coilAt ml_X11_183 (rcv hw (hR.f rfl) rfl (by decide) (q2 := (RX11, TX11, 19)) rfl) rfl hl.1 (rest := []) rfl dX11_seekWay_2 (Nat.le_of_ble_eq_true rfl) ⟨by decide, by decide⟩ ⟨Nat.le_of_ble_eq_true rfl, Nat.le_of_ble_eq_true rfl⟩ (fun v_2 ws_2 H locs hp_2 hq_2 => ?_)
  clear hw
  rcases hp_2 with ⟨c1, hl_c1, rfl, ok_2, rfl, rfl⟩ | ⟨h_2, rfl, rfl⟩
  · have hw := hq_2
    refine W.eq (g2 := F0 m 5 ls [.ref (B (53 + c1))]) rfl ?_
    have hn16 := hR.nc16
    have hz_c1 := i4_cl (i := c1) (by omega)
    have v1_c1 := vF_at (lc_c1 (c := c1) (by omega)) F
    have v2_c1 := vF_at (lc_c2 (c := c1) (by omega)) F
    have v3_c1 := vG_at (lc_c3 (c := c1) (by omega)) G
    have v4_c1 := vF_at (lc_c4 (c := c1) (by omega)) F
    have v5_c1 := vF_at (lc_c5 (c := c1) (by omega)) F
    have v6_c1 := vF_at (lc_c6 (c := c1) (by omega)) F
    refine lv_astore (lv' := [(6, .ref (B (53 + c1))), (0, .ref (B (0))), (1, .int (nI c1)), (2, .int (p0)), (3, .int (u0)), (4, .int (lo)), (5, .int (hi))]) hx hb dX11_seekWay_5 hl (by decide) rfl (fun ls hl => ?_)
    refine lv_aload_n hx hb dX11_seekWay_7 rfl (lv_at hl 1 rfl) ?_
    refine lv_iload_n hx hb dX11_seekWay_8 rfl (lv_at hl 3 rfl) ?_
    refine kV C hw (c_X11_plateAt E tt B F G hR (p0)) vy_X11_plateAt ml_X11_132 (rcv hw (hR.f rfl) rfl (by decide) (q2 := (RX11, TX11, 19)) rfl) rfl hl.1 (rest := []) rfl dX11_seekWay_9 (Nat.le_of_ble_eq_true rfl) ⟨by decide, by decide⟩ ⟨Nat.le_of_ble_eq_true rfl, Nat.le_of_ble_eq_true rfl⟩ (fun v_9 ws_9 H locs hp_9 hq_9 => ?_)
    clear hw
    rcases hp_9 with ⟨i1, hl_i1, rfl, rfl, rfl⟩ | ⟨h_9, rfl, rfl⟩
    · have hw := hq_9
      refine W.eq (g2 := F0 m 12 ls [.ref (B (12 + i1))]) rfl ?_
      have hz_i1 := i4_cl (i := i1) (by omega)
      refine lv_astore (lv' := [(7, .ref (B (12 + i1))), (6, .ref (B (53 + c1))), (0, .ref (B (0))), (1, .int (nI c1)), (2, .int (nI i1)), (3, .int (u0)), (4, .int (lo)), (5, .int (hi))]) hx hb dX11_seekWay_12 hl (by decide) rfl (fun ls hl => ?_)
      refine lv_aload_n hx hb dX11_seekWay_14 rfl (lv_at hl 2 rfl) ?_
      refine lv_iload_n hx hb dX11_seekWay_15 rfl (lv_at hl 5 rfl) ?_
      refine kV C hw (c_X11_pullerAt E tt B F G hR (u0)) vy_X11_pullerAt ml_X11_121 (rcv hw (hR.f rfl) rfl (by decide) (q2 := (RX11, TX11, 19)) rfl) rfl hl.1 (rest := []) rfl dX11_seekWay_16 (Nat.le_of_ble_eq_true rfl) ⟨by decide, by decide⟩ ⟨Nat.le_of_ble_eq_true rfl, Nat.le_of_ble_eq_true rfl⟩ (fun v_16 ws_16 H locs hp_16 hq_16 => ?_)
      clear hw
      rcases hp_16 with ⟨u1, hl_u1, rfl, rfl, rfl⟩ | ⟨h_16, rfl, rfl⟩
      · have hw := hq_16
        refine W.eq (g2 := F0 m 19 ls [.ref (B (8 + u1))]) rfl ?_
        have hz_u1 := i4_cl (i := u1) (by omega)
        have hpu : 0 ≤ nI u1 ∧ nI u1 ≤ 2 := i_rng (i := u1) (n := 2) (by omega) (by decide)
        refine lv_astore (lv' := [(8, .ref (B (8 + u1))), (7, .ref (B (12 + i1))), (6, .ref (B (53 + c1))), (0, .ref (B (0))), (1, .int (nI c1)), (2, .int (nI i1)), (3, .int (nI u1)), (4, .int (lo)), (5, .int (hi))]) hx hb dX11_seekWay_19 hl (by decide) rfl (fun ls hl => ?_)
        refine lv_aload hx hb dX11_seekWay_21 (lv_at hl 2 rfl) ?_
        refine lv_ifnull hx hb dX11_seekWay_23 ?_
        refine lv_aload hx hb dX11_seekWay_26 (lv_at hl 1 rfl) ?_
        refine lv_ifnull hx hb dX11_seekWay_28 ?_
        refine lv_aload hx hb dX11_seekWay_31 (lv_at hl 0 rfl) ?_
        refine lv_ifnonnull (tgt := 39) hx hb dX11_seekWay_33 (by decide) ?_
        refine lv_iload hx hb dX11_seekWay_39 (lv_at hl 7 rfl) ?_
        refine lv_iload hx hb dX11_seekWay_41 (lv_at hl 8 rfl) ?_
        refine kS C hw (c_X11_isRange E tt _ (lo) (hi)) vy_X11_isRange ml_X11_295 rfl hl.1 (rest := []) rfl dX11_seekWay_43 (Nat.le_of_ble_eq_true rfl) ⟨by decide, by decide⟩ ⟨Nat.le_of_ble_eq_true rfl, Nat.le_of_ble_eq_true rfl⟩ (fun v_43 ws_43 H locs hp_43 hq_43 => ?_)
        clear hw
        rcases hp_43 with ⟨h_43, rfl, rfl⟩ | ⟨h_43, rfl, rfl⟩
        · have hw := hq_43
          refine W.eq (g2 := F0 m 46 ls [.int (1)]) rfl ?_
          refine lv_if_ne (tgt := 52) hx hb dX11_seekWay_46 (by decide) (fun _ => ?_) (fun h9 => False.elim (by revert h9; decide))
          have hwr := wr_y (lo := lo) (hi := hi) ok_2 hl_i1 hl_u1 h_43
          have hV := wt_V (lo := lo) (hi := hi) hGI hl_c1 hl_i1 hl_u1
          rw [v4_c1] at hV
          have hh0 := h0_ok hGI hl_c1
          have hhd := v2_c1.symm.trans hh0.2
          refine lv_aload_n hx hb dX11_seekWay_52 rfl (lv_at hl 3 rfl) ?_
          refine g_r 8 (k2 := 80) C hw (hR.f rfl) rfl fl_X11_67 rfl (hR.p0 8 (by decide)) dX11_seekWay_53 ?_
          refine lv_aload hx hb dX11_seekWay_56 (lv_at hl 2 rfl) ?_
          refine lv_aload hx hb dX11_seekWay_58 (lv_at hl 1 rfl) ?_
          refine lv_aload_n hx hb dX11_seekWay_60 rfl (lv_at hl 3 rfl) ?_
          refine lv_aload hx hb dX11_seekWay_61 (lv_at hl 0 rfl) ?_
          refine kV C hw (c_X11_pullOf E tt B F G hR hwh (u1 := u1) (by omega)) vy_X11_pullOf ml_X11_231 (rcv hw (hR.f rfl) rfl (by decide) (q2 := (RX11, TX11, 19)) rfl) rfl hl.1 (rest := [.ref (B (12 + i1)), .ref (B (53 + c1)), .ref (B (80))]) rfl dX11_seekWay_63 (Nat.le_of_ble_eq_true rfl) ⟨by decide, by decide⟩ ⟨Nat.le_of_ble_eq_true rfl, Nat.le_of_ble_eq_true rfl⟩ (fun v_63 ws_63 H locs hp_63 hq_63 => ?_)
          clear hw
          obtain ⟨rfl, rfl⟩ := hp_63
          have hw := hq_63
          refine W.eq (g2 := F0 m 66 ls [.int ((w_pull (vF F) u1).toInt32), .ref (B (12 + i1)), .ref (B (53 + c1)), .ref (B (80))]) rfl ?_
          refine lv_iload hx hb dX11_seekWay_66 (lv_at hl 7 rfl) ?_
          refine lv_iload hx hb dX11_seekWay_68 (lv_at hl 8 rfl) ?_
          refine kV C hw (c_X9_seek E tt B F G hR (c1 := c1) (i1 := i1) hl_c1 hl_i1 ((w_pull (vF F) u1).toInt32) lo hi (wt_S (u := u1) (lo := lo) (hi := hi) hGI hl_c1 hl_i1) hV (gd_0 hGI hl_c1) hh0.1 hhd) vy_X9_seek ml_X11_402 (rcv hw (hR.f rfl) rfl (by decide) (q2 := (RX9, TX9, 9)) rfl) rfl hl.1 (rest := []) rfl dX11_seekWay_70 (Nat.le_of_ble_eq_true rfl) ⟨by decide, by decide⟩ ⟨Nat.le_of_ble_eq_true rfl, Nat.le_of_ble_eq_true rfl⟩ (fun v_70 ws_70 H locs hp_70 hq_70 => ?_)
          clear hw
          rcases hp_70 with ⟨h_70, rfl, F_70, hA_70, hlen_70, hst_70, rfl⟩ | ⟨h_70, rfl, F_70, hA_70, rfl⟩
          · have hw := hq_70
            refine W.eq (g2 := F0 m 73 ls [.int (nI (pr (wtV (vF F) nh mt c1 i1 u1 lo hi) 0 (h0V (vF F) c1)))]) rfl ?_
            exact r_i C hr hlk hw (Or.inl ⟨c1, i1, u1, hl_c1, hl_i1, hl_u1, rfl, rfl, rfl, hwr, h_70, rfl, F_70, hA_70, hlen_70, hst_70, rfl⟩) dX11_seekWay_73
          · have hw := hq_70
            refine W.eq (g2 := F0 m 73 ls [.int (-1)]) rfl ?_
            exact r_i C hr hlk hw (Or.inr (Or.inl ⟨c1, i1, u1, hl_c1, hl_i1, hl_u1, rfl, rfl, rfl, hwr, h_70, rfl, F_70, hA_70, rfl⟩)) dX11_seekWay_73
        · have hw := hq_43
          refine W.eq (g2 := F0 m 46 ls [.int (0)]) rfl ?_
          refine lv_if_ne (tgt := 52) hx hb dX11_seekWay_46 (by decide) (fun h9 => False.elim (by revert h9; decide)) (fun _ => ?_)
          refine lv_bipush (v := -3) hx hb dX11_seekWay_49 (by decide) ?_
          have hwr : sp_wrong (vG G) nc (nI c1) (nI i1) (nI u1) lo hi = -3 := by rw [sp_wrong, if_pos ⟨ok_2, i_rng (i := i1) (n := 3) (by omega) (by decide), hpu⟩, if_neg h_43]
          exact r_i C hr hlk hw (Or.inr (Or.inr ⟨by rw [hwr]; decide, by rw [hwr], rfl⟩)) dX11_seekWay_51
      · have hw := hq_16
        refine W.eq (g2 := F0 m 19 ls [.null]) rfl ?_
        have hpu : ¬ (0 ≤ u0 ∧ u0 ≤ 2) := fun h9 => by obtain ⟨i, hi, e⟩ := n_of (n := 2) h9.1 h9.2 (by decide); exact h_16 i (by omega) e
        refine lv_astoreN (lv' := [(8, .null), (7, .ref (B (12 + i1))), (6, .ref (B (53 + c1))), (0, .ref (B (0))), (1, .int (nI c1)), (2, .int (nI i1)), (3, .int (u0)), (4, .int (lo)), (5, .int (hi))]) hx hb dX11_seekWay_19 hl (by decide) rfl (fun ls hl => ?_)
        refine lv_aload hx hb dX11_seekWay_21 (lv_at hl 2 rfl) ?_
        refine lv_ifnull hx hb dX11_seekWay_23 ?_
        refine lv_aload hx hb dX11_seekWay_26 (lv_at hl 1 rfl) ?_
        refine lv_ifnull hx hb dX11_seekWay_28 ?_
        refine lv_aloadN hx hb dX11_seekWay_31 (lv_at hl 0 rfl) ?_
        refine lv_ifnonnullN hx hb dX11_seekWay_33 ?_
        refine lv_bipush (v := -2) hx hb dX11_seekWay_36 (by decide) ?_
        have hwr : sp_wrong (vG G) nc (nI c1) (nI i1) u0 lo hi = -2 := if_neg (fun h9 => hpu h9.2.2)
        exact r_i C hr hlk hw (Or.inr (Or.inr ⟨by rw [hwr]; decide, by rw [hwr], rfl⟩)) dX11_seekWay_38
    · have hw := hq_9
      refine W.eq (g2 := F0 m 12 ls [.null]) rfl ?_
      refine lv_astoreN (lv' := [(7, .null), (6, .ref (B (53 + c1))), (0, .ref (B (0))), (1, .int (nI c1)), (2, .int (p0)), (3, .int (u0)), (4, .int (lo)), (5, .int (hi))]) hx hb dX11_seekWay_12 hl (by decide) rfl (fun ls hl => ?_)
      refine lv_aload_n hx hb dX11_seekWay_14 rfl (lv_at hl 2 rfl) ?_
      refine lv_iload_n hx hb dX11_seekWay_15 rfl (lv_at hl 5 rfl) ?_
      refine kV C hw (c_X11_pullerAt E tt B F G hR (u0)) vy_X11_pullerAt ml_X11_121 (rcv hw (hR.f rfl) rfl (by decide) (q2 := (RX11, TX11, 19)) rfl) rfl hl.1 (rest := []) rfl dX11_seekWay_16 (Nat.le_of_ble_eq_true rfl) ⟨by decide, by decide⟩ ⟨Nat.le_of_ble_eq_true rfl, Nat.le_of_ble_eq_true rfl⟩ (fun v_16 ws_16 H locs hp_16 hq_16 => ?_)
      clear hw
      rcases hp_16 with ⟨u1, hl_u1, rfl, rfl, rfl⟩ | ⟨h_16, rfl, rfl⟩
      · have hw := hq_16
        refine W.eq (g2 := F0 m 19 ls [.ref (B (8 + u1))]) rfl ?_
        have hz_u1 := i4_cl (i := u1) (by omega)
        have hpu : 0 ≤ nI u1 ∧ nI u1 ≤ 2 := i_rng (i := u1) (n := 2) (by omega) (by decide)
        refine lv_astore (lv' := [(8, .ref (B (8 + u1))), (7, .null), (6, .ref (B (53 + c1))), (0, .ref (B (0))), (1, .int (nI c1)), (2, .int (p0)), (3, .int (nI u1)), (4, .int (lo)), (5, .int (hi))]) hx hb dX11_seekWay_19 hl (by decide) rfl (fun ls hl => ?_)
        refine lv_aload hx hb dX11_seekWay_21 (lv_at hl 2 rfl) ?_
        refine lv_ifnull hx hb dX11_seekWay_23 ?_
        refine lv_aloadN hx hb dX11_seekWay_26 (lv_at hl 1 rfl) ?_
        refine lv_ifnullN (tgt := 36) hx hb dX11_seekWay_28 (by decide) ?_
        refine lv_bipush (v := -2) hx hb dX11_seekWay_36 (by decide) ?_
        have hwr : sp_wrong (vG G) nc (nI c1) p0 (nI u1) lo hi = -2 := if_neg (fun h9 => by obtain ⟨i, hi, e⟩ := n_of (n := 3) h9.2.1.1 h9.2.1.2 (by decide); exact h_9 i (by omega) e)
        exact r_i C hr hlk hw (Or.inr (Or.inr ⟨by rw [hwr]; decide, by rw [hwr], rfl⟩)) dX11_seekWay_38
      · have hw := hq_16
        refine W.eq (g2 := F0 m 19 ls [.null]) rfl ?_
        have hpu : ¬ (0 ≤ u0 ∧ u0 ≤ 2) := fun h9 => by obtain ⟨i, hi, e⟩ := n_of (n := 2) h9.1 h9.2 (by decide); exact h_16 i (by omega) e
        refine lv_astoreN (lv' := [(8, .null), (7, .null), (6, .ref (B (53 + c1))), (0, .ref (B (0))), (1, .int (nI c1)), (2, .int (p0)), (3, .int (u0)), (4, .int (lo)), (5, .int (hi))]) hx hb dX11_seekWay_19 hl (by decide) rfl (fun ls hl => ?_)
        refine lv_aload hx hb dX11_seekWay_21 (lv_at hl 2 rfl) ?_
        refine lv_ifnull hx hb dX11_seekWay_23 ?_
        refine lv_aloadN hx hb dX11_seekWay_26 (lv_at hl 1 rfl) ?_
        refine lv_ifnullN (tgt := 36) hx hb dX11_seekWay_28 (by decide) ?_
        refine lv_bipush (v := -2) hx hb dX11_seekWay_36 (by decide) ?_
        have hwr : sp_wrong (vG G) nc (nI c1) p0 u0 lo hi = -2 := if_neg (fun h9 => by obtain ⟨i, hi, e⟩ := n_of (n := 3) h9.2.1.1 h9.2.1.2 (by decide); exact h_9 i (by omega) e)
        exact r_i C hr hlk hw (Or.inr (Or.inr ⟨by rw [hwr]; decide, by rw [hwr], rfl⟩)) dX11_seekWay_38
  · have hw := hq_2
    refine W.eq (g2 := F0 m 5 ls [.null]) rfl ?_
    refine lv_astoreN (lv' := [(6, .null), (0, .ref (B (0))), (1, .int (c0)), (2, .int (p0)), (3, .int (u0)), (4, .int (lo)), (5, .int (hi))]) hx hb dX11_seekWay_5 hl (by decide) rfl (fun ls hl => ?_)
    refine lv_aload_n hx hb dX11_seekWay_7 rfl (lv_at hl 1 rfl) ?_
    refine lv_iload_n hx hb dX11_seekWay_8 rfl (lv_at hl 3 rfl) ?_
    refine kV C hw (c_X11_plateAt E tt B F G hR (p0)) vy_X11_plateAt ml_X11_132 (rcv hw (hR.f rfl) rfl (by decide) (q2 := (RX11, TX11, 19)) rfl) rfl hl.1 (rest := []) rfl dX11_seekWay_9 (Nat.le_of_ble_eq_true rfl) ⟨by decide, by decide⟩ ⟨Nat.le_of_ble_eq_true rfl, Nat.le_of_ble_eq_true rfl⟩ (fun v_9 ws_9 H locs hp_9 hq_9 => ?_)
    clear hw
    rcases hp_9 with ⟨i1, hl_i1, rfl, rfl, rfl⟩ | ⟨h_9, rfl, rfl⟩
    · have hw := hq_9
      refine W.eq (g2 := F0 m 12 ls [.ref (B (12 + i1))]) rfl ?_
      have hz_i1 := i4_cl (i := i1) (by omega)
      refine lv_astore (lv' := [(7, .ref (B (12 + i1))), (6, .null), (0, .ref (B (0))), (1, .int (c0)), (2, .int (nI i1)), (3, .int (u0)), (4, .int (lo)), (5, .int (hi))]) hx hb dX11_seekWay_12 hl (by decide) rfl (fun ls hl => ?_)
      refine lv_aload_n hx hb dX11_seekWay_14 rfl (lv_at hl 2 rfl) ?_
      refine lv_iload_n hx hb dX11_seekWay_15 rfl (lv_at hl 5 rfl) ?_
      refine kV C hw (c_X11_pullerAt E tt B F G hR (u0)) vy_X11_pullerAt ml_X11_121 (rcv hw (hR.f rfl) rfl (by decide) (q2 := (RX11, TX11, 19)) rfl) rfl hl.1 (rest := []) rfl dX11_seekWay_16 (Nat.le_of_ble_eq_true rfl) ⟨by decide, by decide⟩ ⟨Nat.le_of_ble_eq_true rfl, Nat.le_of_ble_eq_true rfl⟩ (fun v_16 ws_16 H locs hp_16 hq_16 => ?_)
      clear hw
      rcases hp_16 with ⟨u1, hl_u1, rfl, rfl, rfl⟩ | ⟨h_16, rfl, rfl⟩
      · have hw := hq_16
        refine W.eq (g2 := F0 m 19 ls [.ref (B (8 + u1))]) rfl ?_
        have hz_u1 := i4_cl (i := u1) (by omega)
        have hpu : 0 ≤ nI u1 ∧ nI u1 ≤ 2 := i_rng (i := u1) (n := 2) (by omega) (by decide)
        refine lv_astore (lv' := [(8, .ref (B (8 + u1))), (7, .ref (B (12 + i1))), (6, .null), (0, .ref (B (0))), (1, .int (c0)), (2, .int (nI i1)), (3, .int (nI u1)), (4, .int (lo)), (5, .int (hi))]) hx hb dX11_seekWay_19 hl (by decide) rfl (fun ls hl => ?_)
        refine lv_aloadN hx hb dX11_seekWay_21 (lv_at hl 2 rfl) ?_
        refine lv_ifnullN (tgt := 36) hx hb dX11_seekWay_23 (by decide) ?_
        refine lv_bipush (v := -2) hx hb dX11_seekWay_36 (by decide) ?_
        have hwr : sp_wrong (vG G) nc c0 (nI i1) (nI u1) lo hi = -2 := if_neg (fun h9 => h_2 h9.1)
        exact r_i C hr hlk hw (Or.inr (Or.inr ⟨by rw [hwr]; decide, by rw [hwr], rfl⟩)) dX11_seekWay_38
      · have hw := hq_16
        refine W.eq (g2 := F0 m 19 ls [.null]) rfl ?_
        have hpu : ¬ (0 ≤ u0 ∧ u0 ≤ 2) := fun h9 => by obtain ⟨i, hi, e⟩ := n_of (n := 2) h9.1 h9.2 (by decide); exact h_16 i (by omega) e
        refine lv_astoreN (lv' := [(8, .null), (7, .ref (B (12 + i1))), (6, .null), (0, .ref (B (0))), (1, .int (c0)), (2, .int (nI i1)), (3, .int (u0)), (4, .int (lo)), (5, .int (hi))]) hx hb dX11_seekWay_19 hl (by decide) rfl (fun ls hl => ?_)
        refine lv_aloadN hx hb dX11_seekWay_21 (lv_at hl 2 rfl) ?_
        refine lv_ifnullN (tgt := 36) hx hb dX11_seekWay_23 (by decide) ?_
        refine lv_bipush (v := -2) hx hb dX11_seekWay_36 (by decide) ?_
        have hwr : sp_wrong (vG G) nc c0 (nI i1) u0 lo hi = -2 := if_neg (fun h9 => h_2 h9.1)
        exact r_i C hr hlk hw (Or.inr (Or.inr ⟨by rw [hwr]; decide, by rw [hwr], rfl⟩)) dX11_seekWay_38
    · have hw := hq_9
      refine W.eq (g2 := F0 m 12 ls [.null]) rfl ?_
      refine lv_astoreN (lv' := [(7, .null), (6, .null), (0, .ref (B (0))), (1, .int (c0)), (2, .int (p0)), (3, .int (u0)), (4, .int (lo)), (5, .int (hi))]) hx hb dX11_seekWay_12 hl (by decide) rfl (fun ls hl => ?_)
      refine lv_aload_n hx hb dX11_seekWay_14 rfl (lv_at hl 2 rfl) ?_
      refine lv_iload_n hx hb dX11_seekWay_15 rfl (lv_at hl 5 rfl) ?_
      refine kV C hw (c_X11_pullerAt E tt B F G hR (u0)) vy_X11_pullerAt ml_X11_121 (rcv hw (hR.f rfl) rfl (by decide) (q2 := (RX11, TX11, 19)) rfl) rfl hl.1 (rest := []) rfl dX11_seekWay_16 (Nat.le_of_ble_eq_true rfl) ⟨by decide, by decide⟩ ⟨Nat.le_of_ble_eq_true rfl, Nat.le_of_ble_eq_true rfl⟩ (fun v_16 ws_16 H locs hp_16 hq_16 => ?_)
      clear hw
      rcases hp_16 with ⟨u1, hl_u1, rfl, rfl, rfl⟩ | ⟨h_16, rfl, rfl⟩
      · have hw := hq_16
        refine W.eq (g2 := F0 m 19 ls [.ref (B (8 + u1))]) rfl ?_
        have hz_u1 := i4_cl (i := u1) (by omega)
        have hpu : 0 ≤ nI u1 ∧ nI u1 ≤ 2 := i_rng (i := u1) (n := 2) (by omega) (by decide)
        refine lv_astore (lv' := [(8, .ref (B (8 + u1))), (7, .null), (6, .null), (0, .ref (B (0))), (1, .int (c0)), (2, .int (p0)), (3, .int (nI u1)), (4, .int (lo)), (5, .int (hi))]) hx hb dX11_seekWay_19 hl (by decide) rfl (fun ls hl => ?_)
        refine lv_aloadN hx hb dX11_seekWay_21 (lv_at hl 2 rfl) ?_
        refine lv_ifnullN (tgt := 36) hx hb dX11_seekWay_23 (by decide) ?_
        refine lv_bipush (v := -2) hx hb dX11_seekWay_36 (by decide) ?_
        have hwr : sp_wrong (vG G) nc c0 p0 (nI u1) lo hi = -2 := if_neg (fun h9 => h_2 h9.1)
        exact r_i C hr hlk hw (Or.inr (Or.inr ⟨by rw [hwr]; decide, by rw [hwr], rfl⟩)) dX11_seekWay_38
      · have hw := hq_16
        refine W.eq (g2 := F0 m 19 ls [.null]) rfl ?_
        have hpu : ¬ (0 ≤ u0 ∧ u0 ≤ 2) := fun h9 => by obtain ⟨i, hi, e⟩ := n_of (n := 2) h9.1 h9.2 (by decide); exact h_16 i (by omega) e
        refine lv_astoreN (lv' := [(8, .null), (7, .null), (6, .null), (0, .ref (B (0))), (1, .int (c0)), (2, .int (p0)), (3, .int (u0)), (4, .int (lo)), (5, .int (hi))]) hx hb dX11_seekWay_19 hl (by decide) rfl (fun ls hl => ?_)
        refine lv_aloadN hx hb dX11_seekWay_21 (lv_at hl 2 rfl) ?_
        refine lv_ifnullN (tgt := 36) hx hb dX11_seekWay_23 (by decide) ?_
        refine lv_bipush (v := -2) hx hb dX11_seekWay_36 (by decide) ?_
        have hwr : sp_wrong (vG G) nc c0 p0 u0 lo hi = -2 := if_neg (fun h9 => h_2 h9.1)
        exact r_i C hr hlk hw (Or.inr (Or.inr ⟨by rw [hwr]; decide, by rw [hwr], rfl⟩)) dX11_seekWay_38

set_option maxHeartbeats 4000000 in
set_option maxRecDepth 100000 in
theorem c_X11_way (E : cE) (tt : Nat × Nat × Nat) {X : List Nat} (B : Nat → Nat) (F : tF) (G : tG) {P : tP} {nh : Nat → Nat} {nc no : Nat} {mt om : Nat → Nat} (hR : RC X P nh nc no mt om) (hGI : GI (vF F) (vG G) nh nc mt) (hwh : WHok F) (c0 p0 u0 lo hi : Int32)  : CT E tt yX11_way cX11_way 6 (some .int) 25 0 0 [.ref (B (0)), .int (c0), .int (p0), .int (u0), .int (lo), .int (hi)] (wl E X B F G P) (fun r w => r = some (.int (sp_way (vF F) (vG G) nc nh mt c0 p0 u0 lo hi)) ∧ ∃ (F1 : tF) (P1 : tP), AG4 F F1 ∧ AP nc P P1 ∧ w = wl E X B F1 G P1) := by
  refine CT.mk (by decide +kernel) (Nat.le_of_ble_eq_true rfl) ?_
  intro l p e s m below meth c A ls C hr hlk hnm hw hl
  have hx := C.1
  have hb := C.2.1
  have hts := C.2.2.2.2
  have hown : s.vm.findClass RX11 = some m.cls := C.2.2.2.1
  have hl : lv_has ls 6 [(0, .ref (B (0))), (1, .int (c0)), (2, .int (p0)), (3, .int (u0)), (4, .int (lo)), (5, .int (hi))] := hl
  refine lv_aload_n hx hb dX11_way_0 rfl (lv_at hl 0 rfl) ?_
  refine lv_iload_n hx hb dX11_way_1 rfl (lv_at hl 1 rfl) ?_
  refine lv_iload_n hx hb dX11_way_2 rfl (lv_at hl 2 rfl) ?_
  refine lv_iload_n hx hb dX11_way_3 rfl (lv_at hl 3 rfl) ?_
  refine lv_iload hx hb dX11_way_4 (lv_at hl 4 rfl) ?_
  refine lv_iload hx hb dX11_way_6 (lv_at hl 5 rfl) ?_
  refine kV C hw (c_X11_seekWay E tt B F G hR hGI hwh c0 p0 u0 lo hi) vy_X11_seekWay ml_X11_278 (rcv hw (hR.f rfl) rfl (by decide) (q2 := (RX11, TX11, 19)) rfl) rfl hl.1 (rest := []) rfl dX11_way_8 (Nat.le_of_ble_eq_true rfl) ⟨by decide, by decide⟩ ⟨Nat.le_of_ble_eq_true rfl, Nat.le_of_ble_eq_true rfl⟩ (fun v_8 ws_8 H locs hp_8 hq_8 => ?_)
  clear hw
  rcases hp_8 with ⟨c1, i1, u1, hc1, hi1, hu1, rfl, rfl, rfl, hwr, h_8, rfl, F_8, hA_8, hlen_8, hst_8, rfl⟩ | ⟨c1, i1, u1, hc1, hi1, hu1, rfl, rfl, rfl, hwr, h_8, rfl, F_8, hA_8, rfl⟩ | ⟨hwr, rfl, rfl⟩
  · have hw := hq_8
    refine W.eq (g2 := F0 m 11 ls [.int (nI (pr (wtV (vF F) nh mt c1 i1 u1 lo hi) 0 (h0V (vF F) c1)))]) rfl ?_
    have hR := hR.w80 (some (53 + c1)) (some (12 + i1))
    have hn16 := hR.nc16
    have hz_c1 := i4_cl (i := c1) (by omega)
    have hz_i1 := i4_cl (i := i1) (by omega)
    have hz_u1 := i4_cl (i := u1) (by omega)
    have hpY : pY (vF F) nh mt (nI c1) (nI i1) (nI u1) lo hi = pr (wtV (vF F) nh mt c1 i1 u1 lo hi) 0 (h0V (vF F) c1) := by rw [pY, wY, hz_c1, hz_i1, hz_u1]
    have hwY : wY (vF F) nh mt (nI c1) (nI i1) (nI u1) lo hi = wtV (vF F) nh mt c1 i1 u1 lo hi := by rw [wY, hz_c1, hz_i1, hz_u1]
    have hpb := pr_b (wt_S (u := u1) (lo := lo) (hi := hi) hGI hc1 hi1) (pl := 0) (Nat.zero_le _) (h0_ok hGI hc1).1
    have hw17 : wlen (wtV (vF F) nh mt c1 i1 u1 lo hi) (h0V (vF F) c1) ≤ 17 := by have := hpb.2.1; unfold wlen; omega
    exact r_i C hr hlk hw ⟨(by rw [sp_way, if_pos hwr, hpY, if_pos h_8]), F_8, _, hA_8, Or.inr ⟨c1, i1, hc1, hi1, rfl⟩, rfl⟩ dX11_way_11
  · have hw := hq_8
    refine W.eq (g2 := F0 m 11 ls [.int (-1)]) rfl ?_
    have hR := hR.w80 (some (53 + c1)) (some (12 + i1))
    have hn16 := hR.nc16
    have hz_c1 := i4_cl (i := c1) (by omega)
    have hz_i1 := i4_cl (i := i1) (by omega)
    have hz_u1 := i4_cl (i := u1) (by omega)
    have hpY : pY (vF F) nh mt (nI c1) (nI i1) (nI u1) lo hi = pr (wtV (vF F) nh mt c1 i1 u1 lo hi) 0 (h0V (vF F) c1) := by rw [pY, wY, hz_c1, hz_i1, hz_u1]
    have hwY : wY (vF F) nh mt (nI c1) (nI i1) (nI u1) lo hi = wtV (vF F) nh mt c1 i1 u1 lo hi := by rw [wY, hz_c1, hz_i1, hz_u1]
    have hpb := pr_b (wt_S (u := u1) (lo := lo) (hi := hi) hGI hc1 hi1) (pl := 0) (Nat.zero_le _) (h0_ok hGI hc1).1
    exact r_i C hr hlk hw ⟨(by rw [sp_way, if_pos hwr, hpY, if_neg h_8]), F_8, _, hA_8, Or.inr ⟨c1, i1, hc1, hi1, rfl⟩, rfl⟩ dX11_way_11
  · have hw := hq_8
    refine W.eq (g2 := F0 m 11 ls [.int (sp_wrong (vG G) nc c0 p0 u0 lo hi)]) rfl ?_
    have hcs := wr_cases (vG G) nc c0 p0 u0 lo hi
    exact r_i C hr hlk hw ⟨(by rw [sp_way, if_neg hwr]), F, P, AG4.rf, Or.inl rfl, rfl⟩ dX11_way_11

set_option maxHeartbeats 4000000 in
set_option maxRecDepth 100000 in
theorem c_X11_step (E : cE) (tt : Nat × Nat × Nat) {X : List Nat} (B : Nat → Nat) (F : tF) (G : tG) {P : tP} {nh : Nat → Nat} {nc no : Nat} {mt om : Nat → Nat} (hR : RC X P nh nc no mt om) (hGI : GI (vF F) (vG G) nh nc mt) (hwh : WHok F) (c0 p0 u0 lo hi i0 : Int32)  : CT E tt yX11_step cX11_step 8 (some .int) 25 0 0 [.ref (B (0)), .int (c0), .int (p0), .int (u0), .int (lo), .int (hi), .int (i0)] (wl E X B F G P) (fun r w => r = some (.int (sp_step (vF F) (vG G) nc nh mt c0 p0 u0 lo hi i0)) ∧ ∃ (F1 : tF) (P1 : tP), AG4 F F1 ∧ AP nc P P1 ∧ w = wl E X B F1 G P1) := by
  refine CT.mk (by decide +kernel) (Nat.le_of_ble_eq_true rfl) ?_
  intro l p e s m below meth c A ls C hr hlk hnm hw hl
  have hx := C.1
  have hb := C.2.1
  have hts := C.2.2.2.2
  have hown : s.vm.findClass RX11 = some m.cls := C.2.2.2.1
  have hl : lv_has ls 8 [(0, .ref (B (0))), (1, .int (c0)), (2, .int (p0)), (3, .int (u0)), (4, .int (lo)), (5, .int (hi)), (6, .int (i0))] := hl
  refine lv_aload_n hx hb dX11_step_0 rfl (lv_at hl 0 rfl) ?_
  refine lv_iload_n hx hb dX11_step_1 rfl (lv_at hl 1 rfl) ?_
  refine lv_iload_n hx hb dX11_step_2 rfl (lv_at hl 2 rfl) ?_
  refine lv_iload_n hx hb dX11_step_3 rfl (lv_at hl 3 rfl) ?_
  refine lv_iload hx hb dX11_step_4 (lv_at hl 4 rfl) ?_
  refine lv_iload hx hb dX11_step_6 (lv_at hl 5 rfl) ?_
  refine kV C hw (c_X11_seekWay E tt B F G hR hGI hwh c0 p0 u0 lo hi) vy_X11_seekWay ml_X11_278 (rcv hw (hR.f rfl) rfl (by decide) (q2 := (RX11, TX11, 19)) rfl) rfl hl.1 (rest := []) rfl dX11_step_8 (Nat.le_of_ble_eq_true rfl) ⟨by decide, by decide⟩ ⟨Nat.le_of_ble_eq_true rfl, Nat.le_of_ble_eq_true rfl⟩ (fun v_8 ws_8 H locs hp_8 hq_8 => ?_)
  clear hw
  rcases hp_8 with ⟨c1, i1, u1, hc1, hi1, hu1, rfl, rfl, rfl, hwr, h_8, rfl, F_8, hA_8, hlen_8, hst_8, rfl⟩ | ⟨c1, i1, u1, hc1, hi1, hu1, rfl, rfl, rfl, hwr, h_8, rfl, F_8, hA_8, rfl⟩ | ⟨hwr, rfl, rfl⟩
  · have hw := hq_8
    refine W.eq (g2 := F0 m 11 ls [.int (nI (pr (wtV (vF F) nh mt c1 i1 u1 lo hi) 0 (h0V (vF F) c1)))]) rfl ?_
    have hR := hR.w80 (some (53 + c1)) (some (12 + i1))
    have hn16 := hR.nc16
    have hz_c1 := i4_cl (i := c1) (by omega)
    have hz_i1 := i4_cl (i := i1) (by omega)
    have hz_u1 := i4_cl (i := u1) (by omega)
    have hpY : pY (vF F) nh mt (nI c1) (nI i1) (nI u1) lo hi = pr (wtV (vF F) nh mt c1 i1 u1 lo hi) 0 (h0V (vF F) c1) := by rw [pY, wY, hz_c1, hz_i1, hz_u1]
    have hwY : wY (vF F) nh mt (nI c1) (nI i1) (nI u1) lo hi = wtV (vF F) nh mt c1 i1 u1 lo hi := by rw [wY, hz_c1, hz_i1, hz_u1]
    have hpb := pr_b (wt_S (u := u1) (lo := lo) (hi := hi) hGI hc1 hi1) (pl := 0) (Nat.zero_le _) (h0_ok hGI hc1).1
    have hw17 : wlen (wtV (vF F) nh mt c1 i1 u1 lo hi) (h0V (vF F) c1) ≤ 17 := by have := hpb.2.1; unfold wlen; omega
    refine lv_istore (lv' := [(7, .int (nI (pr (wtV (vF F) nh mt c1 i1 u1 lo hi) 0 (h0V (vF F) c1)))), (0, .ref (B (0))), (1, .int (nI c1)), (2, .int (nI i1)), (3, .int (nI u1)), (4, .int (lo)), (5, .int (hi)), (6, .int (i0))]) hx hb dX11_step_11 hl (by decide) rfl (fun ls hl => ?_)
    refine lv_iload hx hb dX11_step_13 (lv_at hl 0 rfl) ?_
    refine lv_bipush (v := -2) hx hb dX11_step_15 (by decide) ?_
    refine lv_icmp_ne (tgt := 23) hx hb dX11_step_17 (by decide) (fun c_17 => ?_) (fun c_17 => ?_)
    · refine lv_iload hx hb dX11_step_23 (lv_at hl 0 rfl) ?_
      refine lv_bipush (v := -3) hx hb dX11_step_25 (by decide) ?_
      refine lv_icmp_eq (tgt := 35) hx hb dX11_step_27 (by decide) (fun c_27 => ?_) (fun c_27 => ?_)
      · exact absurd c_27 (fun q => nI_pos (n := pr (wtV (vF F) nh mt c1 i1 u1 lo hi) 0 (h0V (vF F) c1)) (by omega) (by rw [q]; decide))
      · refine lv_iload hx hb dX11_step_30 (lv_at hl 7 rfl) ?_
        refine lv_if_ge (tgt := 38) hx hb dX11_step_32 (by decide) (fun c_32 => ?_) (fun c_32 => ?_)
        · have c_32 := Int32.not_lt.mpr c_32
          refine lv_iload hx hb dX11_step_38 (lv_at hl 0 rfl) ?_
          refine lv_iconst (v := -1) hx hb dX11_step_40 (by decide) ?_
          refine lv_icmp_ne (tgt := 48) hx hb dX11_step_41 (by decide) (fun c_41 => ?_) (fun c_41 => ?_)
          · refine lv_aload_n hx hb dX11_step_48 rfl (lv_at hl 1 rfl) ?_
            refine g_r 8 (k2 := 80) C hw (hR.f rfl) rfl fl_X11_67 rfl (hR.p0 8 (by decide)) dX11_step_49 ?_
            refine lv_iload hx hb dX11_step_52 (lv_at hl 7 rfl) ?_
            refine kV C hw (c_X9_stepAt E tt B F_8 G hR (len := wlen (wtV (vF F) nh mt c1 i1 u1 lo hi) (h0V (vF F) c1)) hlen_8 hw17 (i0)) vy_X9_stepAt ml_X11_282 (rcv hw (hR.f rfl) rfl (by decide) (q2 := (RX9, TX9, 9)) rfl) rfl hl.1 (rest := []) rfl dX11_step_54 (Nat.le_of_ble_eq_true rfl) ⟨by decide, by decide⟩ ⟨Nat.le_of_ble_eq_true rfl, Nat.le_of_ble_eq_true rfl⟩ (fun v_54 ws_54 H locs hp_54 hq_54 => ?_)
            clear hw
            obtain ⟨rfl, rfl⟩ := hp_54
            have hw := hq_54
            refine W.eq (g2 := F0 m 57 ls [.int (if 0 ≤ i0 ∧ i0 < nI (wlen (wtV (vF F) nh mt c1 i1 u1 lo hi) (h0V (vF F) c1)) then F_8 82 (i0).toNatClampNeg else -1)]) rfl ?_
            exact r_i C hr hlk hw ⟨(by rw [sp_step, if_pos hwr, if_neg c_32, hpY, hwY, hz_c1]; by_cases h9 : i0 < nI (wlen (wtV (vF F) nh mt c1 i1 u1 lo hi) (h0V (vF F) c1)); rw [if_pos ⟨Int32.not_lt.mp c_32, h9⟩, if_pos ⟨h_8, h9⟩]; obtain ⟨j, hj, rfl⟩ := n_lt (Int32.not_lt.mp c_32) h9 (by omega); rw [i4_cl (by omega), hst_8 j hj]; rw [if_neg (fun q => h9 q.2), if_neg (fun q => h9 q.2)]), F_8, _, hA_8, Or.inr ⟨c1, i1, hc1, hi1, rfl⟩, rfl⟩ dX11_step_57
          · exact absurd c_41 (fun q => nI_pos (n := pr (wtV (vF F) nh mt c1 i1 u1 lo hi) 0 (h0V (vF F) c1)) (by omega) (by rw [q]; decide))
        · have c_32 := Int32.not_le.mp c_32
          refine lv_bipush (v := -3) hx hb dX11_step_35 (by decide) ?_
          exact r_i C hr hlk hw ⟨(by rw [sp_step, if_pos hwr, if_pos c_32]), F_8, _, hA_8, Or.inr ⟨c1, i1, hc1, hi1, rfl⟩, rfl⟩ dX11_step_37
    · exact absurd c_17 (fun q => nI_pos (n := pr (wtV (vF F) nh mt c1 i1 u1 lo hi) 0 (h0V (vF F) c1)) (by omega) (by rw [q]; decide))
  · have hw := hq_8
    refine W.eq (g2 := F0 m 11 ls [.int (-1)]) rfl ?_
    have hR := hR.w80 (some (53 + c1)) (some (12 + i1))
    have hn16 := hR.nc16
    have hz_c1 := i4_cl (i := c1) (by omega)
    have hz_i1 := i4_cl (i := i1) (by omega)
    have hz_u1 := i4_cl (i := u1) (by omega)
    have hpY : pY (vF F) nh mt (nI c1) (nI i1) (nI u1) lo hi = pr (wtV (vF F) nh mt c1 i1 u1 lo hi) 0 (h0V (vF F) c1) := by rw [pY, wY, hz_c1, hz_i1, hz_u1]
    have hwY : wY (vF F) nh mt (nI c1) (nI i1) (nI u1) lo hi = wtV (vF F) nh mt c1 i1 u1 lo hi := by rw [wY, hz_c1, hz_i1, hz_u1]
    have hpb := pr_b (wt_S (u := u1) (lo := lo) (hi := hi) hGI hc1 hi1) (pl := 0) (Nat.zero_le _) (h0_ok hGI hc1).1
    refine lv_istore (lv' := [(7, .int (-1)), (0, .ref (B (0))), (1, .int (nI c1)), (2, .int (nI i1)), (3, .int (nI u1)), (4, .int (lo)), (5, .int (hi)), (6, .int (i0))]) hx hb dX11_step_11 hl (by decide) rfl (fun ls hl => ?_)
    refine lv_iload hx hb dX11_step_13 (lv_at hl 0 rfl) ?_
    refine lv_bipush (v := -2) hx hb dX11_step_15 (by decide) ?_
    refine lv_icmp_ne (tgt := 23) hx hb dX11_step_17 (by decide) (fun _ => ?_) (fun h9 => False.elim (by revert h9; decide))
    refine lv_iload hx hb dX11_step_23 (lv_at hl 0 rfl) ?_
    refine lv_bipush (v := -3) hx hb dX11_step_25 (by decide) ?_
    refine lv_icmp_eq (tgt := 35) hx hb dX11_step_27 (by decide) (fun h9 => False.elim (by revert h9; decide)) (fun _ => ?_)
    refine lv_iload hx hb dX11_step_30 (lv_at hl 7 rfl) ?_
    refine lv_if_ge (tgt := 38) hx hb dX11_step_32 (by decide) (fun c_32 => ?_) (fun c_32 => ?_)
    · have c_32 := Int32.not_lt.mpr c_32
      refine lv_iload hx hb dX11_step_38 (lv_at hl 0 rfl) ?_
      refine lv_iconst (v := -1) hx hb dX11_step_40 (by decide) ?_
      refine lv_icmp_ne (tgt := 48) hx hb dX11_step_41 (by decide) (fun h9 => False.elim (by revert h9; decide)) (fun _ => ?_)
      refine lv_iconst (v := -1) hx hb dX11_step_44 (by decide) ?_
      refine lv_goto (tgt := 57) hx hb dX11_step_45 (by decide) ?_
      exact r_i C hr hlk hw ⟨(by rw [sp_step, if_pos hwr, if_neg c_32, if_neg (fun h9 => h_8 (by rw [← hpY]; exact h9.1))]), F_8, _, hA_8, Or.inr ⟨c1, i1, hc1, hi1, rfl⟩, rfl⟩ dX11_step_57
    · have c_32 := Int32.not_le.mp c_32
      refine lv_bipush (v := -3) hx hb dX11_step_35 (by decide) ?_
      exact r_i C hr hlk hw ⟨(by rw [sp_step, if_pos hwr, if_pos c_32]), F_8, _, hA_8, Or.inr ⟨c1, i1, hc1, hi1, rfl⟩, rfl⟩ dX11_step_37
  · have hw := hq_8
    refine W.eq (g2 := F0 m 11 ls [.int (sp_wrong (vG G) nc c0 p0 u0 lo hi)]) rfl ?_
    have hcs := wr_cases (vG G) nc c0 p0 u0 lo hi
    refine lv_istore (lv' := [(7, .int (sp_wrong (vG G) nc c0 p0 u0 lo hi)), (0, .ref (B (0))), (1, .int (c0)), (2, .int (p0)), (3, .int (u0)), (4, .int (lo)), (5, .int (hi)), (6, .int (i0))]) hx hb dX11_step_11 hl (by decide) rfl (fun ls hl => ?_)
    refine lv_iload hx hb dX11_step_13 (lv_at hl 0 rfl) ?_
    refine lv_bipush (v := -2) hx hb dX11_step_15 (by decide) ?_
    refine lv_icmp_ne (tgt := 23) hx hb dX11_step_17 (by decide) (fun c_17 => ?_) (fun c_17 => ?_)
    · refine lv_iload hx hb dX11_step_23 (lv_at hl 0 rfl) ?_
      refine lv_bipush (v := -3) hx hb dX11_step_25 (by decide) ?_
      refine lv_icmp_eq (tgt := 35) hx hb dX11_step_27 (by decide) (fun c_27 => ?_) (fun c_27 => ?_)
      · refine lv_bipush (v := -3) hx hb dX11_step_35 (by decide) ?_
        exact r_i C hr hlk hw ⟨(by rw [sp_step, if_neg hwr]; rcases hcs with h9 | h9 | h9; exact absurd h9 hwr; exact absurd h9 c_17; rw [h9]), F, P, AG4.rf, Or.inl rfl, rfl⟩ dX11_step_37
      · exact absurd (hcs.elim (fun h9 => absurd h9 hwr) (fun h9 => h9.elim (fun q => absurd q c_17) (fun q => q))) c_27
    · refine lv_bipush (v := -2) hx hb dX11_step_20 (by decide) ?_
      exact r_i C hr hlk hw ⟨(by rw [sp_step, if_neg hwr, c_17]), F, P, AG4.rf, Or.inl rfl, rfl⟩ dX11_step_22
