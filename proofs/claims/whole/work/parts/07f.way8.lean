/-! ways of the reference: way, step, go -/
theorem wr_n {G : tG} {nc : Nat} {c p u lo hi : Int32} (hn : nc ≤ 16) (h : sp_wrong G nc c p u lo hi = 1) : ∃ c1 i1 u1 : Nat, c1 < nc ∧ i1 < 4 ∧ u1 < 3 ∧ c = nI c1 ∧ p = nI i1 ∧ u = nI u1 := by
  unfold sp_wrong at h
  by_cases q : ok_coil G nc c = true ∧ (0 ≤ p ∧ p ≤ 3) ∧ (0 ≤ u ∧ u ≤ 2)
  · obtain ⟨c1, a1, a2, -⟩ := ok_coil_n hn q.1
    obtain ⟨i1, b1, b2⟩ := n_of (n := 3) q.2.1.1 q.2.1.2 (by decide)
    obtain ⟨u1, d1, d2⟩ := n_of (n := 2) q.2.2.1 q.2.2.2 (by decide)
    exact ⟨c1, i1, u1, a1, by omega, by omega, a2, b2, d2⟩
  · rw [if_neg q] at h
    exact absurd h (by decide)
theorem fi_w {p : Nat} (h : p % 100 ≤ 17) : fi p / 1000 * 100 + fi p % 1000 = p := by unfold fi; omega
theorem AGw.e {F F1 : tF} (h : AGw F F1) {k : Nat} (h1 : 101 ≤ k) (h2 : k < 137) : F1 k = F k := h.1 k (by omega) (by omega) (by omega) (by omega) (by omega) (by omega)
theorem AGw.uu {F F1 : tF} (h : AGw F F1) (a b : Nat) (v : Int32) : AGw (uF F a b v) (uF F1 a b v) := by
  refine ⟨fun k h1 h2 h3 h4 h5 h6 => ?_, fun j hj => ?_⟩
  · by_cases e : k = a
    · subst e
      funext j
      by_cases e2 : j = b
      · rw [e2, uF_s, uF_s]
      · rw [uF_n _ _ (Or.inr e2), uF_n _ _ (Or.inr e2), h.1 k h1 h2 h3 h4 h5 h6]
    · rw [uF_o _ _ _ e, uF_o _ _ _ e, h.1 k h1 h2 h3 h4 h5 h6]
  · by_cases e : 100 = a ∧ j = b
    · rw [e.1, e.2, uF_s, uF_s]
    · rw [uF_n _ _ (by omega), uF_n _ _ (by omega), h.2 j hj]
section AGW
variable {F F1 : tF} {G : tG} {nc : Nat} {mt nh : Nat → Nat} {c p x u : Int32}
theorem sp_fire_w (h : AGw F F1) : sp_fire F1 G nc c = sp_fire F G nc c := by
  unfold sp_fire f_done
  rw [h.e (k := 117) (by decide) (by decide), h.e (k := 109) (by decide) (by decide), h.e (k := 120) (by decide) (by decide), h.e (k := 106) (by decide) (by decide)]
theorem st_fireG_w (h : AGw F F1) : st_fireG F1 G nc mt c = st_fireG F G nc mt c := by
  unfold st_fireG tG_ fG0 f_off w_feet
  rw [h.e (k := 117) (by decide) (by decide), h.e (k := 105) (by decide) (by decide), h.e (k := 116) (by decide) (by decide)]
theorem fF_w (h : AGw F F1) (c : Nat) : AGw (fF F c) (fF F1 c) := by
  have e : f_done F1 c = f_done F c := by
    unfold f_done
    rw [h.e (k := 109) (by decide) (by decide), h.e (k := 120) (by decide) (by decide), h.e (k := 106) (by decide) (by decide)]
  unfold fF
  rw [e, h.2 35 (by decide)]
  exact (((h.uu _ _ _).uu _ _ _).uu _ _ _).uu _ _ _
theorem st_fireF_w (h : AGw F F1) : AGw (st_fireF F G nc c) (st_fireF F1 G nc c) := by
  unfold st_fireF
  rw [h.e (k := 117) (by decide) (by decide)]
  split
  · split
    · exact h
    · exact fF_w h _
  · exact h
theorem d_feet_w (h : AGw F F1) (c q : Nat) : d_feet F1 G c q = d_feet F G c q := by
  unfold d_feet
  rw [w_wide_w h]
theorem dF_w (h : AGw F F1) (m c q p : Nat) : AGw (dF F G m c q p) (dF F1 G m c q p) := by
  have e1 : d_wear F1 G m c q = d_wear F G m c q := by
    unfold d_wear
    rw [d_feet_w h, h.e (k := 112) (by decide) (by decide), h.e (k := 104) (by decide) (by decide), h.e (k := 117) (by decide) (by decide)]
  have e2 : d_done F1 G c q p = d_done F G c q p := by
    unfold d_done
    rw [d_feet_w h, h.e (k := 109) (by decide) (by decide), h.e (k := 120) (by decide) (by decide), h.e (k := 108) (by decide) (by decide)]
  unfold dF
  rw [e1, e2, w_hard_w h, w_wide_w h, h.e (k := 116) (by decide) (by decide), h.e (k := 117) (by decide) (by decide), h.2 34 (by decide)]
  exact (((((h.uu _ _ _).uu _ _ _).uu _ _ _).uu _ _ _).uu _ _ _).uu _ _ _
theorem ag_at_w (h : AGw F F1) : ag_at F1 mt c p x u = ag_at F mt c p x u := by
  unfold ag_at
  rw [w_ag_a h, h.e (k := 119) (by decide) (by decide), h.e (k := 116) (by decide) (by decide), h.e (k := 117) (by decide) (by decide)]
theorem sp_draw_w (h : AGw F F1) : sp_draw F1 G nc mt nh c p x u = sp_draw F G nc mt nh c p x u := by
  unfold sp_draw
  rw [ag_at_w h, d_feet_w h]
theorem st_draw_w (h : AGw F F1) : AGw (st_draw F G nc mt nh c p x u) (st_draw F1 G nc mt nh c p x u) := by
  unfold st_draw
  rw [ag_at_w h]
  split
  · split
    · exact dF_w h _ _ _ _
    · exact h
  · exact h
theorem goN_w {sq : Nat → Nat} : ∀ (k i : Nat) (F F1 : tF) (G : tG), AGw F F1 → (goN nc mt nh c p u sq k i F1 G).1 = (goN nc mt nh c p u sq k i F G).1 ∧ AGw (goN nc mt nh c p u sq k i F G).2.1 (goN nc mt nh c p u sq k i F1 G).2.1 ∧ (goN nc mt nh c p u sq k i F1 G).2.2 = (goN nc mt nh c p u sq k i F G).2.2
  | 0, i, F, F1, G, h => ⟨rfl, h, rfl⟩
  | k + 1, i, F, F1, G, h => by
    by_cases h8 : sq i = 8
    · by_cases hz : sp_fire F G nc c < 0
      · rw [goN_f0 h8 hz, goN_f0 h8 (by rw [sp_fire_w h]; exact hz)]
        exact ⟨rfl, st_fireF_w h, st_fireG_w h⟩
      · rw [goN_f h8 hz, goN_f h8 (by rw [sp_fire_w h]; exact hz), st_fireG_w h]
        exact goN_w k (i + 1) _ _ _ (st_fireF_w h)
    · by_cases hz : sp_draw F G nc mt nh c p (nI (sq i)) u < 0
      · rw [goN_d0 h8 hz, goN_d0 h8 (by rw [sp_draw_w h]; exact hz)]
        exact ⟨rfl, st_draw_w h, rfl⟩
      · rw [goN_d h8 hz, goN_d h8 (by rw [sp_draw_w h]; exact hz)]
        exact goN_w k (i + 1) _ _ _ (st_draw_w h)
end AGW
theorem GI.w {F F1 : tF} {G : tG} {nh : Nat → Nat} {nc : Nat} {mt : Nat → Nat} (hG : GI F G nh nc mt) (h : AGw F F1) : GI F1 G nh nc mt := by
  obtain ⟨hM, hS, hP, hH, hC, hT, hN⟩ := hG
  refine ⟨fun k hk => ?_, ?_, fun k hk => ?_, fun i j hi hj => ?_, fun c hc => ?_, hT, hN⟩
  · rw [h.e (k := 101) (by decide) (by decide), h.e (k := 102) (by decide) (by decide), h.e (k := 103) (by decide) (by decide), h.e (k := 104) (by decide) (by decide), h.e (k := 105) (by decide) (by decide)]
    exact hM k hk
  · unfold GS
    rw [h.e (k := 106) (by decide) (by decide)]
    exact hS
  · rw [h.e (k := 107) (by decide) (by decide), h.e (k := 108) (by decide) (by decide)]
    exact hP k hk
  · rw [h.e (k := 111) (by decide) (by decide), h.e (k := 112) (by decide) (by decide), h.e (k := 113) (by decide) (by decide)]
    exact hH i j hi hj
  · rw [h.e (k := 116) (by decide) (by decide), h.e (k := 117) (by decide) (by decide), h.e (k := 121) (by decide) (by decide)]
    exact hC c hc
/-- counts that a draw or a fire keeps -/
def NMk (F F1 : tF) : Prop := F1 110 = F 110 ∧ F1 115 = F 115 ∧ F1 142 = F 142 ∧ F1 100 13 = F 100 13 ∧ F1 100 40 = F 100 40
theorem NMk.tr {F F1 F2 : tF} (h : NMk F F1) (h2 : NMk F1 F2) : NMk F F2 := ⟨h2.1.trans h.1, h2.2.1.trans h.2.1, h2.2.2.1.trans h.2.2.1, h2.2.2.2.1.trans h.2.2.2.1, h2.2.2.2.2.trans h.2.2.2.2⟩
theorem NMk.draw {V : tF} {G : tG} {nc : Nat} {mt nh : Nat → Nat} {c p x u : Int32} : NMk V (st_draw V G nc mt nh c p x u) := by
  unfold st_draw
  split
  · split
    · exact ⟨dF_o (by decide) (by decide) (by decide) (by decide) (by decide) (by decide), dF_o (by decide) (by decide) (by decide) (by decide) (by decide) (by decide), dF_o (by decide) (by decide) (by decide) (by decide) (by decide) (by decide), by simp [dF, uF_g], by simp [dF, uF_g]⟩
    · exact ⟨rfl, rfl, rfl, rfl, rfl⟩
  · exact ⟨rfl, rfl, rfl, rfl, rfl⟩
theorem NMk.fire {V : tF} {G : tG} {nc : Nat} {c : Int32} : NMk V (st_fireF V G nc c) := by
  unfold st_fireF
  split
  · split
    · exact ⟨rfl, rfl, rfl, rfl, rfl⟩
    · exact ⟨fF_o (by decide) (by decide) (by decide) (by decide), fF_o (by decide) (by decide) (by decide) (by decide), fF_o (by decide) (by decide) (by decide) (by decide), by simp [fF, uF_g], by simp [fF, uF_g]⟩
  · exact ⟨rfl, rfl, rfl, rfl, rfl⟩
theorem CO.mv {F F1 : tF} {G1 : tG} {nh : Nat → Nat} {nc : Nat} {mt : Nat → Nat} (h : CO F nc mt) (hk : NMk F F1) (hG : GI F1 G1 nh nc mt) : CO F1 nc mt := by
  refine ⟨hk.2.2.2.1.trans h.1, h.2.1, fun c hc => ?_⟩
  obtain ⟨a1, a2, a3⟩ := h.2.2 c hc
  obtain ⟨s, x, ⟨s1, s2, es⟩, -⟩ := hG.2.2.2.2.1 c hc
  exact ⟨by rw [hk.2.1]; exact a1, a2, by rw [es]; exact lsq_ne (by omega) (by omega)⟩
theorem HN.mv {F F1 : tF} {nh : Nat → Nat} (h : HN F nh) (hk : NMk F F1) : HN F1 nh := fun i hi => by rw [hk.1]; exact h i hi
set_option maxHeartbeats 4000000 in
set_option maxRecDepth 100000 in
theorem c_X12_way (E : cE) (tt : Nat × Nat × Nat) {X : List Nat} (B : Nat → Nat) (F : tF) (G : tG) {P : tP} (hM : RM X P) (nc : Nat) (mt : Nat → Nat) (hC : CO F nc mt) (nh : Nat → Nat) (hN : HN F nh) (hGI : GI F G nh nc mt) (c0 p0 u0 lo hi : Int32)  : CT E tt yX12_way cX12_way 8 (some .int) 6 0 0 [.ref (B (100)), .int (c0), .int (p0), .int (u0), .int (lo), .int (hi)] (wl E X B F G P) (fun r w => r = some (.int (sp_way F G nc nh mt c0 p0 u0 lo hi)) ∧ ∃ F1 : tF, AGw F F1 ∧ w = wl E X B F1 G P) := by
  refine CT.mk (by decide +kernel) (Nat.le_of_ble_eq_true rfl) ?_
  intro l p e s m below meth c A ls C hr hlk hnm hw hl
  have hx := C.1
  have hb := C.2.1
  have hts := C.2.2.2.2
  have hown : s.vm.findClass RX12 = some m.cls := C.2.2.2.1
  have hl : lv_has ls 8 [(0, .ref (B (100))), (1, .int (c0)), (2, .int (p0)), (3, .int (u0)), (4, .int (lo)), (5, .int (hi))] := hl
  refine lv_aload_n hx hb dX12_way_0 rfl (lv_at hl 0 rfl) ?_
  refine lv_iload_n hx hb dX12_way_1 rfl (lv_at hl 1 rfl) ?_
  refine lv_iload_n hx hb dX12_way_2 rfl (lv_at hl 2 rfl) ?_
  refine lv_iload_n hx hb dX12_way_3 rfl (lv_at hl 3 rfl) ?_
  refine lv_iload hx hb dX12_way_4 (lv_at hl 4 rfl) ?_
  refine lv_iload hx hb dX12_way_6 (lv_at hl 5 rfl) ?_
  refine kV C hw (c_X12_wrong E tt B F G hM nc mt hC c0 p0 u0 lo hi) vy_X12_wrong ml_X12_233 (rcv hw (hM.m rfl) rfl (by decide) (q2 := (RX12, TX12, 49)) rfl) rfl hl.1 (rest := []) rfl dX12_way_8 (Nat.le_of_ble_eq_true rfl) ⟨by decide, by decide⟩ ⟨Nat.le_of_ble_eq_true rfl, Nat.le_of_ble_eq_true rfl⟩ (fun v_8 ws_8 H locs hp_8 hq_8 => ?_)
  clear hw
  obtain ⟨rfl, rfl⟩ := hp_8
  have hw := hq_8
  refine W.eq (g2 := F0 m 11 ls [.int (sp_wrong G nc c0 p0 u0 lo hi)]) rfl ?_
  refine lv_istore (lv' := [(6, .int (sp_wrong G nc c0 p0 u0 lo hi)), (0, .ref (B (100))), (1, .int (c0)), (2, .int (p0)), (3, .int (u0)), (4, .int (lo)), (5, .int (hi))]) hx hb dX12_way_11 hl (by decide) rfl (fun ls hl => ?_)
  refine lv_iload hx hb dX12_way_13 (lv_at hl 0 rfl) ?_
  refine lv_iconst (v := 1) hx hb dX12_way_15 (by decide) ?_
  refine lv_icmp_eq (tgt := 22) hx hb dX12_way_16 (by decide) (fun c_16 => ?_) (fun c_16 => ?_)
  · have hwr := c_16
    obtain ⟨c1, i1, u1, hc1, hi1, hu1, rfl, rfl, rfl⟩ := wr_n hC.2.1 hwr
    have hc16 := hC.2.1
    have hz_c1 := i4_cl (i := c1) (by omega)
    have hz_i1 := i4_cl (i := i1) (by omega)
    have hz_u1 := i4_cl (i := u1) (by omega)
    have hpY : pY F nh mt (nI c1) (nI i1) (nI u1) lo hi = pr (wtV F nh mt c1 i1 u1 lo hi) 0 (h0V F c1) := by rw [pY, wY, hz_c1, hz_i1, hz_u1]
    have hwY : wY F nh mt (nI c1) (nI i1) (nI u1) lo hi = wtV F nh mt c1 i1 u1 lo hi := by rw [wY, hz_c1, hz_i1, hz_u1]
    have hpb := pr_b (wt_S (u := u1) (lo := lo) (hi := hi) hGI hc1 hi1) (pl := 0) (Nat.zero_le _) (h0_ok hGI hc1).1
    refine lv_aload_n hx hb dX12_way_22 rfl (lv_at hl 1 rfl) ?_
    refine lv_iload_n hx hb dX12_way_23 rfl (lv_at hl 2 rfl) ?_
    refine lv_iload_n hx hb dX12_way_24 rfl (lv_at hl 3 rfl) ?_
    refine lv_iload_n hx hb dX12_way_25 rfl (lv_at hl 4 rfl) ?_
    refine lv_iload hx hb dX12_way_26 (lv_at hl 5 rfl) ?_
    refine lv_iload hx hb dX12_way_28 (lv_at hl 6 rfl) ?_
    refine kV C hw (c_X12_findWay E tt B F G hM (nh := nh) (c1 := c1) (i1 := i1) (u := u1) (mm := mt c1) (h0 := h0V F c1) (lo := lo) (hi := hi) (wt := wtV F nh mt c1 i1 u1 lo hi) (rk := rkV F nh c1 i1) (by omega) hi1 hu1 (hC.2.2 c1 hc1).1 (hC.2.2 c1 hc1).2.1 (hN i1 hi1).1 (hN i1 hi1).2 (wt_S hGI hc1 hi1) (wt_A hGI hc1 hi1) (h0_ok hGI hc1).1 (h0_ok hGI hc1).2) vy_X12_findWay ml_X12_236 (rcv hw (hM.m rfl) rfl (by decide) (q2 := (RX12, TX12, 49)) rfl) rfl hl.1 (rest := []) rfl dX12_way_30 (Nat.le_of_ble_eq_true rfl) ⟨by decide, by decide⟩ ⟨Nat.le_of_ble_eq_true rfl, Nat.le_of_ble_eq_true rfl⟩ (fun v_30 ws_30 H locs hp_30 hq_30 => ?_)
    clear hw
    rcases hp_30 with ⟨h_30, rfl, F_30, hA_30, hk_30, hs_30, hy_30, rfl⟩ | ⟨h_30, rfl, F_30, hA_30, rfl⟩
    · have hw := hq_30
      refine W.eq (g2 := F0 m 33 ls [.int (1)]) rfl ?_
      have hw17 : wlen (wtV F nh mt c1 i1 u1 lo hi) (h0V F c1) ≤ 17 := by have := hpb.2.1; unfold wlen; omega
      refine lv_if_ne (tgt := 38) hx hb dX12_way_33 (by decide) (fun _ => ?_) (fun h9 => False.elim (by revert h9; decide))
      have hfb := fi_b (p := pr (wtV F nh mt c1 i1 u1 lo hi) 0 (h0V F c1)) (by omega)
      refine lv_aload_n hx hb dX12_way_38 rfl (lv_at hl 1 rfl) ?_
      refine g_r 36 (k2 := 137) C hw (hM.m rfl) rfl fl_X12_93 rfl (hM.p 36 rfl) dX12_way_39 ?_
      refine lv_sipush (v := 808) hx hb dX12_way_42 (by decide) ?_
      refine lv_aload_n hx hb dX12_way_45 rfl (lv_at hl 1 rfl) ?_
      refine g_r 16 (k2 := 117) C hw (hM.m rfl) rfl fl_X12_55 rfl (hM.p 16 rfl) dX12_way_46 ?_
      refine lv_iload_n hx hb dX12_way_49 rfl (lv_at hl 2 rfl) ?_
      refine n_i c1 C hw (hM.m rfl) rfl rfl (show _ < 16 by omega) dX12_way_50 ?_
      refine tp_i (y := nI (h0V F c1)) ((congrFun (hA_30.e (by decide) (by decide)) c1).trans (h0_ok hGI hc1).2) ?_
      refine lv_iadd hx hb dX12_way_51 ?_
      refine tp_i (y := nI (808 + h0V F c1)) (nI_add 808 _) ?_
      refine n_i (808 + h0V F c1) C hw (hM.m rfl) rfl rfl (show _ < 909 by have := (h0_ok hGI hc1).1; omega) dX12_way_52 ?_
      refine tp_i (y := nI (fi (pr (wtV F nh mt c1 i1 u1 lo hi) 0 (h0V F c1)))) (hk_30) ?_
      refine lv_istore (lv' := [(7, .int (nI (fi (pr (wtV F nh mt c1 i1 u1 lo hi) 0 (h0V F c1))))), (6, .int (sp_wrong G nc (nI c1) (nI i1) (nI u1) lo hi)), (0, .ref (B (100))), (1, .int ((nI c1))), (2, .int ((nI i1))), (3, .int ((nI u1))), (4, .int (lo)), (5, .int (hi))]) hx hb dX12_way_53 hl (by decide) rfl (fun ls hl => ?_)
      refine lv_iload hx hb dX12_way_55 (lv_at hl 0 rfl) ?_
      refine lv_sipush (v := 1000) hx hb dX12_way_57 (by decide) ?_
      refine lv_idiv hx hb dX12_way_60 (by decide) ?_
      refine tp_i (y := nI (fi (pr (wtV F nh mt c1 i1 u1 lo hi) 0 (h0V F c1)) / 1000)) (pk_div (d := 1000) (by omega) (by decide) (by decide)) ?_
      refine lv_bipush (v := 100) hx hb dX12_way_61 (by decide) ?_
      refine lv_imul hx hb dX12_way_63 ?_
      refine tp_i (y := nI (fi (pr (wtV F nh mt c1 i1 u1 lo hi) 0 (h0V F c1)) / 1000 * 100)) (pk_mul _ 100) ?_
      refine lv_iload hx hb dX12_way_64 (lv_at hl 0 rfl) ?_
      refine lv_sipush (v := 1000) hx hb dX12_way_66 (by decide) ?_
      refine lv_irem hx hb dX12_way_69 (by decide) ?_
      refine tp_i (y := nI (fi (pr (wtV F nh mt c1 i1 u1 lo hi) 0 (h0V F c1)) % 1000)) (pk_rem (d := 1000) (by omega) (by decide) (by decide)) ?_
      refine lv_iadd hx hb dX12_way_70 ?_
      refine tp_i (y := nI (pr (wtV F nh mt c1 i1 u1 lo hi) 0 (h0V F c1))) (by rw [nI_add, fi_w hpb.2.2]) ?_
      exact r_i C hr hlk hw ⟨(by rw [sp_way, if_pos hwr, hpY, if_pos h_30]), F_30, hA_30, rfl⟩ dX12_way_71
    · have hw := hq_30
      refine W.eq (g2 := F0 m 33 ls [.int (0)]) rfl ?_
      refine lv_if_ne (tgt := 38) hx hb dX12_way_33 (by decide) (fun h9 => False.elim (by revert h9; decide)) (fun _ => ?_)
      refine lv_iconst (v := -1) hx hb dX12_way_36 (by decide) ?_
      exact r_i C hr hlk hw ⟨(by rw [sp_way, if_pos hwr, hpY, if_neg h_30]), F_30, hA_30, rfl⟩ dX12_way_37
  · refine lv_iload hx hb dX12_way_19 (lv_at hl 0 rfl) ?_
    exact r_i C hr hlk hw ⟨(by rw [sp_way, if_neg c_16]), F, AGw.rf, rfl⟩ dX12_way_21

set_option maxHeartbeats 4000000 in
set_option maxRecDepth 100000 in
theorem c_X12_step (E : cE) (tt : Nat × Nat × Nat) {X : List Nat} (B : Nat → Nat) (F : tF) (G : tG) {P : tP} (hM : RM X P) (nc : Nat) (mt : Nat → Nat) (hC : CO F nc mt) (nh : Nat → Nat) (hN : HN F nh) (hGI : GI F G nh nc mt) (c0 p0 u0 lo hi i0 : Int32)  : CT E tt yX12_step cX12_step 8 (some .int) 6 0 0 [.ref (B (100)), .int (c0), .int (p0), .int (u0), .int (lo), .int (hi), .int (i0)] (wl E X B F G P) (fun r w => r = some (.int (sp_step F G nc nh mt c0 p0 u0 lo hi i0)) ∧ ∃ F1 : tF, AGw F F1 ∧ w = wl E X B F1 G P) := by
  refine CT.mk (by decide +kernel) (Nat.le_of_ble_eq_true rfl) ?_
  intro l p e s m below meth c A ls C hr hlk hnm hw hl
  have hx := C.1
  have hb := C.2.1
  have hts := C.2.2.2.2
  have hown : s.vm.findClass RX12 = some m.cls := C.2.2.2.1
  have hl : lv_has ls 8 [(0, .ref (B (100))), (1, .int (c0)), (2, .int (p0)), (3, .int (u0)), (4, .int (lo)), (5, .int (hi)), (6, .int (i0))] := hl
  refine lv_aload_n hx hb dX12_step_0 rfl (lv_at hl 0 rfl) ?_
  refine lv_iload_n hx hb dX12_step_1 rfl (lv_at hl 1 rfl) ?_
  refine lv_iload_n hx hb dX12_step_2 rfl (lv_at hl 2 rfl) ?_
  refine lv_iload_n hx hb dX12_step_3 rfl (lv_at hl 3 rfl) ?_
  refine lv_iload hx hb dX12_step_4 (lv_at hl 4 rfl) ?_
  refine lv_iload hx hb dX12_step_6 (lv_at hl 5 rfl) ?_
  refine kV C hw (c_X12_wrong E tt B F G hM nc mt hC c0 p0 u0 lo hi) vy_X12_wrong ml_X12_233 (rcv hw (hM.m rfl) rfl (by decide) (q2 := (RX12, TX12, 49)) rfl) rfl hl.1 (rest := []) rfl dX12_step_8 (Nat.le_of_ble_eq_true rfl) ⟨by decide, by decide⟩ ⟨Nat.le_of_ble_eq_true rfl, Nat.le_of_ble_eq_true rfl⟩ (fun v_8 ws_8 H locs hp_8 hq_8 => ?_)
  clear hw
  obtain ⟨rfl, rfl⟩ := hp_8
  have hw := hq_8
  refine W.eq (g2 := F0 m 11 ls [.int (sp_wrong G nc c0 p0 u0 lo hi)]) rfl ?_
  refine lv_istore (lv' := [(7, .int (sp_wrong G nc c0 p0 u0 lo hi)), (0, .ref (B (100))), (1, .int (c0)), (2, .int (p0)), (3, .int (u0)), (4, .int (lo)), (5, .int (hi)), (6, .int (i0))]) hx hb dX12_step_11 hl (by decide) rfl (fun ls hl => ?_)
  refine lv_iload hx hb dX12_step_13 (lv_at hl 0 rfl) ?_
  refine lv_iconst (v := 1) hx hb dX12_step_15 (by decide) ?_
  refine lv_icmp_eq (tgt := 22) hx hb dX12_step_16 (by decide) (fun c_16 => ?_) (fun c_16 => ?_)
  · refine lv_iload hx hb dX12_step_22 (lv_at hl 7 rfl) ?_
    refine lv_if_ge (tgt := 30) hx hb dX12_step_24 (by decide) (fun c_24 => ?_) (fun c_24 => ?_)
    · have c_24 := Int32.not_lt.mpr c_24
      have hwr := c_16
      obtain ⟨c1, i1, u1, hc1, hi1, hu1, rfl, rfl, rfl⟩ := wr_n hC.2.1 hwr
      have hc16 := hC.2.1
      have hz_c1 := i4_cl (i := c1) (by omega)
      have hz_i1 := i4_cl (i := i1) (by omega)
      have hz_u1 := i4_cl (i := u1) (by omega)
      have hpY : pY F nh mt (nI c1) (nI i1) (nI u1) lo hi = pr (wtV F nh mt c1 i1 u1 lo hi) 0 (h0V F c1) := by rw [pY, wY, hz_c1, hz_i1, hz_u1]
      have hwY : wY F nh mt (nI c1) (nI i1) (nI u1) lo hi = wtV F nh mt c1 i1 u1 lo hi := by rw [wY, hz_c1, hz_i1, hz_u1]
      have hpb := pr_b (wt_S (u := u1) (lo := lo) (hi := hi) hGI hc1 hi1) (pl := 0) (Nat.zero_le _) (h0_ok hGI hc1).1
      refine lv_aload_n hx hb dX12_step_30 rfl (lv_at hl 1 rfl) ?_
      refine lv_iload_n hx hb dX12_step_31 rfl (lv_at hl 2 rfl) ?_
      refine lv_iload_n hx hb dX12_step_32 rfl (lv_at hl 3 rfl) ?_
      refine lv_iload_n hx hb dX12_step_33 rfl (lv_at hl 4 rfl) ?_
      refine lv_iload hx hb dX12_step_34 (lv_at hl 5 rfl) ?_
      refine lv_iload hx hb dX12_step_36 (lv_at hl 6 rfl) ?_
      refine kV C hw (c_X12_findWay E tt B F G hM (nh := nh) (c1 := c1) (i1 := i1) (u := u1) (mm := mt c1) (h0 := h0V F c1) (lo := lo) (hi := hi) (wt := wtV F nh mt c1 i1 u1 lo hi) (rk := rkV F nh c1 i1) (by omega) hi1 hu1 (hC.2.2 c1 hc1).1 (hC.2.2 c1 hc1).2.1 (hN i1 hi1).1 (hN i1 hi1).2 (wt_S hGI hc1 hi1) (wt_A hGI hc1 hi1) (h0_ok hGI hc1).1 (h0_ok hGI hc1).2) vy_X12_findWay ml_X12_236 (rcv hw (hM.m rfl) rfl (by decide) (q2 := (RX12, TX12, 49)) rfl) rfl hl.1 (rest := []) rfl dX12_step_38 (Nat.le_of_ble_eq_true rfl) ⟨by decide, by decide⟩ ⟨Nat.le_of_ble_eq_true rfl, Nat.le_of_ble_eq_true rfl⟩ (fun v_38 ws_38 H locs hp_38 hq_38 => ?_)
      clear hw
      rcases hp_38 with ⟨h_38, rfl, F_38, hA_38, hk_38, hs_38, hy_38, rfl⟩ | ⟨h_38, rfl, F_38, hA_38, rfl⟩
      · have hw := hq_38
        refine W.eq (g2 := F0 m 41 ls [.int (1)]) rfl ?_
        have hw17 : wlen (wtV F nh mt c1 i1 u1 lo hi) (h0V F c1) ≤ 17 := by have := hpb.2.1; unfold wlen; omega
        refine lv_if_eq (tgt := 63) hx hb dX12_step_41 (by decide) (fun h9 => False.elim (by revert h9; decide)) (fun _ => ?_)
        refine lv_iload hx hb dX12_step_44 (lv_at hl 7 rfl) ?_
        refine lv_aload_n hx hb dX12_step_46 rfl (lv_at hl 1 rfl) ?_
        refine g_i 40 C hw (hM.m rfl) rfl fl_X12_230 rfl dX12_step_47 ?_
        refine tp_i (y := nI (wlen (wtV F nh mt c1 i1 u1 lo hi) (h0V F c1))) (hs_38) ?_
        refine lv_icmp_ge (tgt := 63) hx hb dX12_step_50 (by decide) (fun c_50 => ?_) (fun c_50 => ?_)
        · refine lv_iconst (v := -1) hx hb dX12_step_63 (by decide) ?_
          exact r_i C hr hlk hw ⟨(by rw [sp_step, if_pos hwr, if_neg c_24, hpY, hwY, hz_c1, if_neg (fun h9 => absurd c_50 (Int32.not_le.mpr h9.2))]), F_38, hA_38, rfl⟩ dX12_step_64
        · obtain ⟨j, hj, rfl⟩ := n_lt (Int32.not_lt.mp c_24) (Int32.not_le.mp c_50) (by omega)
          have hz_j := i4_cl (i := j) (by omega)
          refine lv_aload_n hx hb dX12_step_53 rfl (lv_at hl 1 rfl) ?_
          refine g_r 41 (k2 := 142) C hw (hM.m rfl) rfl fl_X12_105 rfl (hM.p 41 rfl) dX12_step_54 ?_
          refine lv_iload hx hb dX12_step_57 (lv_at hl 7 rfl) ?_
          refine n_i j C hw (hM.m rfl) rfl rfl (show _ < 400 by omega) dX12_step_59 ?_
          refine tp_i (y := nI (stp (wtV F nh mt c1 i1 u1 lo hi) (h0V F c1) j)) (hy_38 j hj) ?_
          refine lv_goto (tgt := 64) hx hb dX12_step_60 (by decide) ?_
          exact r_i C hr hlk hw ⟨(by rw [sp_step, if_pos hwr, if_neg c_24, hpY, hwY, hz_c1, if_pos ⟨h_38, Int32.not_le.mp c_50⟩, hz_j]), F_38, hA_38, rfl⟩ dX12_step_64
      · have hw := hq_38
        refine W.eq (g2 := F0 m 41 ls [.int (0)]) rfl ?_
        refine lv_if_eq (tgt := 63) hx hb dX12_step_41 (by decide) (fun _ => ?_) (fun h9 => False.elim (by revert h9; decide))
        refine lv_iconst (v := -1) hx hb dX12_step_63 (by decide) ?_
        exact r_i C hr hlk hw ⟨(by rw [sp_step, if_pos hwr, if_neg c_24, if_neg (fun h9 => h_38 (by rw [← hpY]; exact h9.1))]), F_38, hA_38, rfl⟩ dX12_step_64
    · have c_24 := Int32.not_le.mp c_24
      refine lv_bipush (v := -3) hx hb dX12_step_27 (by decide) ?_
      exact r_i C hr hlk hw ⟨(by rw [sp_step, if_pos c_16, if_pos c_24]), F, AGw.rf, rfl⟩ dX12_step_29
  · refine lv_iload hx hb dX12_step_19 (lv_at hl 0 rfl) ?_
    exact r_i C hr hlk hw ⟨(by rw [sp_step, if_neg c_16]), F, AGw.rf, rfl⟩ dX12_step_21

set_option maxHeartbeats 4000000 in
set_option maxRecDepth 100000 in
theorem c_X12_go (E : cE) (tt : Nat × Nat × Nat) {X : List Nat} (B : Nat → Nat) (F : tF) (G : tG) {P : tP} (hM : RM X P) (nc : Nat) (mt : Nat → Nat) (hC : CO F nc mt) (nh : Nat → Nat) (hN : HN F nh) (hGI : GI F G nh nc mt) (c0 p0 u0 lo hi : Int32)  : CT E tt yX12_go cX12_go 10 (some .int) 6 0 0 [.ref (B (100)), .int (c0), .int (p0), .int (u0), .int (lo), .int (hi)] (wl E X B F G P) (fun r w => r = some (.int (sp_go F G nc nh mt c0 p0 u0 lo hi)) ∧ ∃ F1 : tF, AGw (st_goF F G nc nh mt c0 p0 u0 lo hi) F1 ∧ w = wl E X B F1 (st_goG F G nc nh mt c0 p0 u0 lo hi) P) := by
  refine CT.mk (by decide +kernel) (Nat.le_of_ble_eq_true rfl) ?_
  intro l p e s m below meth c A ls C hr hlk hnm hw hl
  have hx := C.1
  have hb := C.2.1
  have hts := C.2.2.2.2
  have hown : s.vm.findClass RX12 = some m.cls := C.2.2.2.1
  have hl : lv_has ls 10 [(0, .ref (B (100))), (1, .int (c0)), (2, .int (p0)), (3, .int (u0)), (4, .int (lo)), (5, .int (hi))] := hl
  refine lv_aload_n hx hb dX12_go_0 rfl (lv_at hl 0 rfl) ?_
  refine lv_iload_n hx hb dX12_go_1 rfl (lv_at hl 1 rfl) ?_
  refine lv_iload_n hx hb dX12_go_2 rfl (lv_at hl 2 rfl) ?_
  refine lv_iload_n hx hb dX12_go_3 rfl (lv_at hl 3 rfl) ?_
  refine lv_iload hx hb dX12_go_4 (lv_at hl 4 rfl) ?_
  refine lv_iload hx hb dX12_go_6 (lv_at hl 5 rfl) ?_
  refine kV C hw (c_X12_wrong E tt B F G hM nc mt hC c0 p0 u0 lo hi) vy_X12_wrong ml_X12_233 (rcv hw (hM.m rfl) rfl (by decide) (q2 := (RX12, TX12, 49)) rfl) rfl hl.1 (rest := []) rfl dX12_go_8 (Nat.le_of_ble_eq_true rfl) ⟨by decide, by decide⟩ ⟨Nat.le_of_ble_eq_true rfl, Nat.le_of_ble_eq_true rfl⟩ (fun v_8 ws_8 H locs hp_8 hq_8 => ?_)
  clear hw
  obtain ⟨rfl, rfl⟩ := hp_8
  have hw := hq_8
  refine W.eq (g2 := F0 m 11 ls [.int (sp_wrong G nc c0 p0 u0 lo hi)]) rfl ?_
  refine lv_istore (lv' := [(6, .int (sp_wrong G nc c0 p0 u0 lo hi)), (0, .ref (B (100))), (1, .int (c0)), (2, .int (p0)), (3, .int (u0)), (4, .int (lo)), (5, .int (hi))]) hx hb dX12_go_11 hl (by decide) rfl (fun ls hl => ?_)
  refine lv_iload hx hb dX12_go_13 (lv_at hl 0 rfl) ?_
  refine lv_iconst (v := 1) hx hb dX12_go_15 (by decide) ?_
  refine lv_icmp_eq (tgt := 22) hx hb dX12_go_16 (by decide) (fun c_16 => ?_) (fun c_16 => ?_)
  · have hwr := c_16
    obtain ⟨c1, i1, u1, hc1, hi1, hu1, rfl, rfl, rfl⟩ := wr_n hC.2.1 hwr
    have hc16 := hC.2.1
    have hz_c1 := i4_cl (i := c1) (by omega)
    have hz_i1 := i4_cl (i := i1) (by omega)
    have hz_u1 := i4_cl (i := u1) (by omega)
    have hpY : pY F nh mt (nI c1) (nI i1) (nI u1) lo hi = pr (wtV F nh mt c1 i1 u1 lo hi) 0 (h0V F c1) := by rw [pY, wY, hz_c1, hz_i1, hz_u1]
    have hwY : wY F nh mt (nI c1) (nI i1) (nI u1) lo hi = wtV F nh mt c1 i1 u1 lo hi := by rw [wY, hz_c1, hz_i1, hz_u1]
    have hpb := pr_b (wt_S (u := u1) (lo := lo) (hi := hi) hGI hc1 hi1) (pl := 0) (Nat.zero_le _) (h0_ok hGI hc1).1
    refine lv_aload_n hx hb dX12_go_22 rfl (lv_at hl 1 rfl) ?_
    refine lv_iload_n hx hb dX12_go_23 rfl (lv_at hl 2 rfl) ?_
    refine lv_iload_n hx hb dX12_go_24 rfl (lv_at hl 3 rfl) ?_
    refine lv_iload_n hx hb dX12_go_25 rfl (lv_at hl 4 rfl) ?_
    refine lv_iload hx hb dX12_go_26 (lv_at hl 5 rfl) ?_
    refine lv_iload hx hb dX12_go_28 (lv_at hl 6 rfl) ?_
    refine kV C hw (c_X12_findWay E tt B F G hM (nh := nh) (c1 := c1) (i1 := i1) (u := u1) (mm := mt c1) (h0 := h0V F c1) (lo := lo) (hi := hi) (wt := wtV F nh mt c1 i1 u1 lo hi) (rk := rkV F nh c1 i1) (by omega) hi1 hu1 (hC.2.2 c1 hc1).1 (hC.2.2 c1 hc1).2.1 (hN i1 hi1).1 (hN i1 hi1).2 (wt_S hGI hc1 hi1) (wt_A hGI hc1 hi1) (h0_ok hGI hc1).1 (h0_ok hGI hc1).2) vy_X12_findWay ml_X12_236 (rcv hw (hM.m rfl) rfl (by decide) (q2 := (RX12, TX12, 49)) rfl) rfl hl.1 (rest := []) rfl dX12_go_30 (Nat.le_of_ble_eq_true rfl) ⟨by decide, by decide⟩ ⟨Nat.le_of_ble_eq_true rfl, Nat.le_of_ble_eq_true rfl⟩ (fun v_30 ws_30 H locs hp_30 hq_30 => ?_)
    clear hw
    rcases hp_30 with ⟨h_30, rfl, F_30, hA_30, hk_30, hs_30, hy_30, rfl⟩ | ⟨h_30, rfl, F_30, hA_30, rfl⟩
    · have hw := hq_30
      refine W.eq (g2 := F0 m 33 ls [.int (1)]) rfl ?_
      have hw17 : wlen (wtV F nh mt c1 i1 u1 lo hi) (h0V F c1) ≤ 17 := by have := hpb.2.1; unfold wlen; omega
      refine lv_if_ne (tgt := 39) hx hb dX12_go_33 (by decide) (fun _ => ?_) (fun h9 => False.elim (by revert h9; decide))
      have hN30 : HN F_30 nh := fun i hi => by rw [hA_30.e (by decide) (by decide)]; exact hN i hi
      have hC30 : CO F_30 nc mt := ⟨(hA_30.2 13 (by decide)).trans hC.1, hC.2.1, fun c hc => by rw [hA_30.e (k := 115) (by decide) (by decide), hA_30.e (k := 116) (by decide) (by decide)]; exact hC.2.2 c hc⟩
      refine lv_iconst (v := 0) hx hb dX12_go_39 (by decide) ?_
      refine lv_istore (lv' := [(7, .int (0)), (6, .int (sp_wrong G nc (nI c1) (nI i1) (nI u1) lo hi)), (0, .ref (B (100))), (1, .int ((nI c1))), (2, .int ((nI i1))), (3, .int ((nI u1))), (4, .int (lo)), (5, .int (hi))]) hx hb dX12_go_40 hl (by decide) rfl (fun ls hl => ?_)
      refine lv_iconst (v := 1) hx hb dX12_go_42 (by decide) ?_
      refine lv_istore (lv' := [(8, .int (1)), (7, .int (0)), (6, .int (sp_wrong G nc (nI c1) (nI i1) (nI u1) lo hi)), (0, .ref (B (100))), (1, .int ((nI c1))), (2, .int ((nI i1))), (3, .int ((nI u1))), (4, .int (lo)), (5, .int (hi))]) hx hb dX12_go_43 hl (by decide) rfl (fun ls hl => ?_)
      refine lv_iconst (v := 0) hx hb dX12_go_45 (by decide) ?_
      refine lv_istore (lv' := [(9, .int (0)), (8, .int (1)), (7, .int (0)), (6, .int (sp_wrong G nc (nI c1) (nI i1) (nI u1) lo hi)), (0, .ref (B (100))), (1, .int ((nI c1))), (2, .int ((nI i1))), (3, .int ((nI u1))), (4, .int (lo)), (5, .int (hi))]) hx hb dX12_go_46 hl (by decide) rfl (fun ls hl => ?_)
      have lo_g : ∀ (n : Nat) (i : Nat) (d : Nat) (cn : Int32) (F2 : tF) (G2 : tG) (H : Heap) (locs : List Loc) (ls : Array Slot), wlen (wtV F nh mt c1 i1 u1 lo hi) (h0V F c1) - i < n → (i ≤ wlen (wtV F nh mt c1 i1 u1 lo hi) (h0V F c1)) → (NMk F_30 F2) → (GI F2 G2 nh nc mt) → ((cn = 1 ∧ d = i ∧ goN nc mt nh (nI c1) (nI i1) (nI u1) (stp (wtV F nh mt c1 i1 u1 lo hi) (h0V F c1)) (wlen (wtV F nh mt c1 i1 u1 lo hi) (h0V F c1)) 0 F_30 G = goN nc mt nh (nI c1) (nI i1) (nI u1) (stp (wtV F nh mt c1 i1 u1 lo hi) (h0V F c1)) (wlen (wtV F nh mt c1 i1 u1 lo hi) (h0V F c1) - i) i F2 G2) ∨ (cn = 0 ∧ goN nc mt nh (nI c1) (nI i1) (nI u1) (stp (wtV F nh mt c1 i1 u1 lo hi) (h0V F c1)) (wlen (wtV F nh mt c1 i1 u1 lo hi) (h0V F c1)) 0 F_30 G = (d, F2, G2))) → Wd E tt A s (wl E X B F2 G2 P) H locs → lv_has ls 10 [(0, .ref (B (100))), (1, .int (nI c1)), (2, .int (nI i1)), (3, .int (nI u1)), (7, .int (nI d)), (8, .int (cn)), (9, .int (nI i))] → W p l e (rmO 6 0 0) s m ([.ref (B (100)), .int (((nI c1))), .int (((nI i1))), .int (((nI u1))), .int (lo), .int (hi)] : List Value).toArray below meth c H locs 0 0 (MQ below (Fin0 E (fun r w => r = some (.int (sp_go F G nc nh mt ((nI c1)) ((nI i1)) ((nI u1)) lo hi)) ∧ ∃ F1 : tF, AGw (st_goF F G nc nh mt ((nI c1)) ((nI i1)) ((nI u1)) lo hi) F1 ∧ w = wl E X B F1 (st_goG F G nc nh mt ((nI c1)) ((nI i1)) ((nI u1)) lo hi) P) A) ([.ref (B (100)), .int (((nI c1))), .int (((nI i1))), .int (((nI u1))), .int (lo), .int (hi)] : List Value).toArray s 0 0 A) (F0 m 48 ls []) := by
        intro n
        induction n with
        | zero =>
          intro i d cn F2 G2 H locs ls hi_2
          exact absurd hi_2 (Nat.not_lt_zero _)
        | succ n ih_g =>
          intro i d cn F2 G2 H locs ls hj_g hiL hNM hGI2 hst hw hl
          refine lv_iload hx hb dX12_go_48 (lv_at hl 6 rfl) ?_
          refine lv_aload_n hx hb dX12_go_50 rfl (lv_at hl 0 rfl) ?_
          refine g_i 40 C hw (hM.m rfl) rfl fl_X12_230 rfl dX12_go_51 ?_
          refine tp_i (y := nI (wlen (wtV F nh mt c1 i1 u1 lo hi) (h0V F c1))) (hNM.2.2.2.2.trans hs_30) ?_
          refine lv_icmp_ge (tgt := 135) hx hb dX12_go_54 (by decide) (fun c_54 => ?_) (fun c_54 => ?_)
          · have hiw : wlen (wtV F nh mt c1 i1 u1 lo hi) (h0V F c1) ≤ i := (nI_leI (by omega) (by omega)).mp c_54
            refine lv_iload hx hb dX12_go_135 (lv_at hl 4 rfl) ?_
            have hend : goN nc mt nh (nI c1) (nI i1) (nI u1) (stp (wtV F nh mt c1 i1 u1 lo hi) (h0V F c1)) (wlen (wtV F nh mt c1 i1 u1 lo hi) (h0V F c1)) 0 F_30 G = (d, F2, G2) := hst.elim (fun h9 => by rw [h9.2.2, show wlen (wtV F nh mt c1 i1 u1 lo hi) (h0V F c1) - i = 0 by omega, h9.2.1]; rfl) (fun h9 => h9.2)
            have hgw := goN_w (nc := nc) (mt := mt) (nh := nh) (c := nI c1) (p := nI i1) (u := nI u1) (sq := stp (wtV F nh mt c1 i1 u1 lo hi) (h0V F c1)) (wlen (wtV F nh mt c1 i1 u1 lo hi) (h0V F c1)) 0 F F_30 G hA_30
            rw [hend] at hgw
            have hgY : gY F G nc nh mt (nI c1) (nI i1) (nI u1) lo hi = goN nc mt nh (nI c1) (nI i1) (nI u1) (stp (wtV F nh mt c1 i1 u1 lo hi) (h0V F c1)) (wlen (wtV F nh mt c1 i1 u1 lo hi) (h0V F c1)) 0 F G := by rw [gY, hwY, hz_c1]
            exact r_i C hr hlk hw ⟨(by rw [sp_go, if_pos hwr, hpY, if_pos h_30, hgY, ← hgw.1]), F2, (by rw [st_goF, if_pos ⟨hwr, by rw [hpY]; exact h_30⟩, hgY]; exact hgw.2.1), (by rw [st_goG, if_pos ⟨hwr, by rw [hpY]; exact h_30⟩, hgY, ← hgw.2.2])⟩ dX12_go_137
          · have hiw : i < wlen (wtV F nh mt c1 i1 u1 lo hi) (h0V F c1) := by rcases Nat.lt_or_ge i (wlen (wtV F nh mt c1 i1 u1 lo hi) (h0V F c1)) with h9 | h9; exact h9; exact absurd ((nI_leI (by omega) (by omega)).mpr h9) c_54
            refine lv_iload hx hb dX12_go_57 (lv_at hl 5 rfl) ?_
            refine lv_if_eq (tgt := 135) hx hb dX12_go_59 (by decide) (fun c_59 => ?_) (fun c_59 => ?_)
            · refine lv_iload hx hb dX12_go_135 (lv_at hl 4 rfl) ?_
              have hend : goN nc mt nh (nI c1) (nI i1) (nI u1) (stp (wtV F nh mt c1 i1 u1 lo hi) (h0V F c1)) (wlen (wtV F nh mt c1 i1 u1 lo hi) (h0V F c1)) 0 F_30 G = (d, F2, G2) := hst.elim (fun h9 => absurd (h9.1.symm.trans c_59) (by decide)) (fun h9 => h9.2)
              have hgw := goN_w (nc := nc) (mt := mt) (nh := nh) (c := nI c1) (p := nI i1) (u := nI u1) (sq := stp (wtV F nh mt c1 i1 u1 lo hi) (h0V F c1)) (wlen (wtV F nh mt c1 i1 u1 lo hi) (h0V F c1)) 0 F F_30 G hA_30
              rw [hend] at hgw
              have hgY : gY F G nc nh mt (nI c1) (nI i1) (nI u1) lo hi = goN nc mt nh (nI c1) (nI i1) (nI u1) (stp (wtV F nh mt c1 i1 u1 lo hi) (h0V F c1)) (wlen (wtV F nh mt c1 i1 u1 lo hi) (h0V F c1)) 0 F G := by rw [gY, hwY, hz_c1]
              exact r_i C hr hlk hw ⟨(by rw [sp_go, if_pos hwr, hpY, if_pos h_30, hgY, ← hgw.1]), F2, (by rw [st_goF, if_pos ⟨hwr, by rw [hpY]; exact h_30⟩, hgY]; exact hgw.2.1), (by rw [st_goG, if_pos ⟨hwr, by rw [hpY]; exact h_30⟩, hgY, ← hgw.2.2])⟩ dX12_go_137
            · have hcd := hst.elim (fun h9 => h9) (fun h9 => absurd h9.1 c_59)
              obtain ⟨-, hdi, hgo⟩ := hcd
              have hC2 := hC30.mv hNM hGI2
              have hN2 := hN30.mv hNM
              have hst8 : stp (wtV F nh mt c1 i1 u1 lo hi) (h0V F c1) i ≤ 8 := nxt_le _ _ _
              refine lv_aload_n hx hb dX12_go_62 rfl (lv_at hl 0 rfl) ?_
              refine g_r 41 (k2 := 142) C hw (hM.m rfl) rfl fl_X12_105 rfl (hM.p 41 rfl) dX12_go_63 ?_
              refine lv_iload hx hb dX12_go_66 (lv_at hl 6 rfl) ?_
              refine n_i i C hw (hM.m rfl) rfl rfl (show _ < 400 by omega) dX12_go_68 ?_
              refine tp_i (y := nI (stp (wtV F nh mt c1 i1 u1 lo hi) (h0V F c1) i)) ((congrFun hNM.2.2.1 i).trans (hy_30 i hiw)) ?_
              refine lv_bipush (v := 8) hx hb dX12_go_69 (by decide) ?_
              refine lv_icmp_ne (tgt := 90) hx hb dX12_go_71 (by decide) (fun c_71 => ?_) (fun c_71 => ?_)
              · have hn8 : ¬ stp (wtV F nh mt c1 i1 u1 lo hi) (h0V F c1) i = 8 := fun h9 => c_71 (by rw [h9]; rfl)
                refine lv_aload_n hx hb dX12_go_90 rfl (lv_at hl 0 rfl) ?_
                refine lv_iload_n hx hb dX12_go_91 rfl (lv_at hl 1 rfl) ?_
                refine lv_iload_n hx hb dX12_go_92 rfl (lv_at hl 2 rfl) ?_
                refine lv_aload_n hx hb dX12_go_93 rfl (lv_at hl 0 rfl) ?_
                refine g_r 41 (k2 := 142) C hw (hM.m rfl) rfl fl_X12_105 rfl (hM.p 41 rfl) dX12_go_94 ?_
                refine lv_iload hx hb dX12_go_97 (lv_at hl 6 rfl) ?_
                refine n_i i C hw (hM.m rfl) rfl rfl (show _ < 400 by omega) dX12_go_99 ?_
                refine tp_i (y := nI (stp (wtV F nh mt c1 i1 u1 lo hi) (h0V F c1) i)) ((congrFun hNM.2.2.1 i).trans (hy_30 i hiw)) ?_
                refine lv_iload_n hx hb dX12_go_100 rfl (lv_at hl 3 rfl) ?_
                refine kV C hw (c_X12_draw E tt B F2 G2 hM nc mt hC2 nh hN2 hGI2.hz (nI c1) (nI i1) (nI (stp (wtV F nh mt c1 i1 u1 lo hi) (h0V F c1) i)) (nI u1)) vy_X12_draw ml_X12_243 (rcv hw (hM.m rfl) rfl (by decide) (q2 := (RX12, TX12, 49)) rfl) rfl hl.1 (rest := []) rfl dX12_go_101 (Nat.le_of_ble_eq_true rfl) ⟨by decide, by decide⟩ ⟨Nat.le_of_ble_eq_true rfl, Nat.le_of_ble_eq_true rfl⟩ (fun v_101 ws_101 H locs hp_101 hq_101 => ?_)
                clear hw
                obtain ⟨rfl, rfl⟩ := hp_101
                have hw := hq_101
                refine W.eq (g2 := F0 m 104 ls [.int (sp_draw F2 G2 nc mt nh (nI c1) (nI i1) (nI (stp (wtV F nh mt c1 i1 u1 lo hi) (h0V F c1) i)) (nI u1))]) rfl ?_
                refine lv_if_lt (tgt := 111) hx hb dX12_go_104 (by decide) (fun c_104 => ?_) (fun c_104 => ?_)
                · refine lv_iconst (v := 0) hx hb dX12_go_111 (by decide) ?_
                  refine lv_istore (lv' := [(8, .int (0)), (0, .ref (B (100))), (1, .int (nI c1)), (2, .int (nI i1)), (3, .int (nI u1)), (7, .int (nI d)), (9, .int (nI i))]) hx hb dX12_go_112 hl (by decide) rfl (fun ls hl => ?_)
                  refine lv_iload hx hb dX12_go_114 (lv_at hl 5 rfl) ?_
                  refine lv_iload hx hb dX12_go_116 (lv_at hl 0 rfl) ?_
                  refine lv_if_eq (tgt := 125) hx hb dX12_go_118 (by decide) (fun _ => ?_) (fun h9 => False.elim (by revert h9; decide))
                  refine lv_iconst (v := 0) hx hb dX12_go_125 (by decide) ?_
                  refine lv_iadd hx hb dX12_go_126 ?_
                  refine lv_istore (lv' := [(7, .int ((nI d + 0))), (8, .int (0)), (0, .ref (B (100))), (1, .int (nI c1)), (2, .int (nI i1)), (3, .int (nI u1)), (9, .int (nI i))]) hx hb dX12_go_127 hl (by decide) rfl (fun ls hl => ?_)
                  have e7 : nI d + 0 = nI i := by rw [hdi, Int32.add_zero]
                  rw [e7] at hl
                  have hnx := (Or.inr ⟨rfl, by rw [hgo, show wlen (wtV F nh mt c1 i1 u1 lo hi) (h0V F c1) - i = (wlen (wtV F nh mt c1 i1 u1 lo hi) (h0V F c1) - (i + 1)) + 1 by omega, goN_d0 hn8 c_104]⟩ : ((0 : Int32) = 1 ∧ i = i + 1 ∧ goN nc mt nh (nI c1) (nI i1) (nI u1) (stp (wtV F nh mt c1 i1 u1 lo hi) (h0V F c1)) (wlen (wtV F nh mt c1 i1 u1 lo hi) (h0V F c1)) 0 F_30 G = goN nc mt nh (nI c1) (nI i1) (nI u1) (stp (wtV F nh mt c1 i1 u1 lo hi) (h0V F c1)) (wlen (wtV F nh mt c1 i1 u1 lo hi) (h0V F c1) - (i + 1)) (i + 1) (st_draw F2 G2 nc mt nh (nI c1) (nI i1) (nI (stp (wtV F nh mt c1 i1 u1 lo hi) (h0V F c1) i)) (nI u1)) G2) ∨ ((0 : Int32) = 0 ∧ goN nc mt nh (nI c1) (nI i1) (nI u1) (stp (wtV F nh mt c1 i1 u1 lo hi) (h0V F c1)) (wlen (wtV F nh mt c1 i1 u1 lo hi) (h0V F c1)) 0 F_30 G = (i, st_draw F2 G2 nc mt nh (nI c1) (nI i1) (nI (stp (wtV F nh mt c1 i1 u1 lo hi) (h0V F c1) i)) (nI u1), G2)))
                  refine lv_iinc (v := nI (i + 1)) (lv' := [(9, .int (nI (i + 1))), (7, .int (nI i)), (8, .int (0)), (0, .ref (B (100))), (1, .int (nI c1)), (2, .int (nI i1)), (3, .int (nI u1))]) hx hb dX12_go_129 hl (k := 6) rfl (nI_1 _) (by decide) rfl (fun ls hl => ?_)
                  refine lv_goto (tgt := 48) hx hb dX12_go_132 (by decide) ?_
                  exact ih_g (i + 1) i 0 (st_draw F2 G2 nc mt nh (nI c1) (nI i1) (nI (stp (wtV F nh mt c1 i1 u1 lo hi) (h0V F c1) i)) (nI u1)) G2 _ _ _ (by omega) (by omega) (hNM.tr NMk.draw) (hGI2.draw _ _ _ _) hnx hw (lv_sub hl [3, 4, 5, 6, 1, 2, 0] rfl)
                · refine lv_iconst (v := 1) hx hb dX12_go_107 (by decide) ?_
                  refine lv_goto (tgt := 112) hx hb dX12_go_108 (by decide) ?_
                  refine lv_istore (lv' := [(8, .int (1)), (0, .ref (B (100))), (1, .int (nI c1)), (2, .int (nI i1)), (3, .int (nI u1)), (7, .int (nI d)), (9, .int (nI i))]) hx hb dX12_go_112 hl (by decide) rfl (fun ls hl => ?_)
                  refine lv_iload hx hb dX12_go_114 (lv_at hl 5 rfl) ?_
                  refine lv_iload hx hb dX12_go_116 (lv_at hl 0 rfl) ?_
                  refine lv_if_eq (tgt := 125) hx hb dX12_go_118 (by decide) (fun h9 => False.elim (by revert h9; decide)) (fun _ => ?_)
                  refine lv_iconst (v := 1) hx hb dX12_go_121 (by decide) ?_
                  refine lv_goto (tgt := 126) hx hb dX12_go_122 (by decide) ?_
                  refine lv_iadd hx hb dX12_go_126 ?_
                  refine lv_istore (lv' := [(7, .int ((nI d + 1))), (8, .int (1)), (0, .ref (B (100))), (1, .int (nI c1)), (2, .int (nI i1)), (3, .int (nI u1)), (9, .int (nI i))]) hx hb dX12_go_127 hl (by decide) rfl (fun ls hl => ?_)
                  have e7 : nI d + 1 = nI (i + 1) := by rw [hdi]; exact nI_1 i
                  rw [e7] at hl
                  have hnx := (Or.inl ⟨rfl, rfl, by rw [hgo, show wlen (wtV F nh mt c1 i1 u1 lo hi) (h0V F c1) - i = (wlen (wtV F nh mt c1 i1 u1 lo hi) (h0V F c1) - (i + 1)) + 1 by omega, goN_d hn8 c_104]⟩ : ((1 : Int32) = 1 ∧ i + 1 = i + 1 ∧ goN nc mt nh (nI c1) (nI i1) (nI u1) (stp (wtV F nh mt c1 i1 u1 lo hi) (h0V F c1)) (wlen (wtV F nh mt c1 i1 u1 lo hi) (h0V F c1)) 0 F_30 G = goN nc mt nh (nI c1) (nI i1) (nI u1) (stp (wtV F nh mt c1 i1 u1 lo hi) (h0V F c1)) (wlen (wtV F nh mt c1 i1 u1 lo hi) (h0V F c1) - (i + 1)) (i + 1) (st_draw F2 G2 nc mt nh (nI c1) (nI i1) (nI (stp (wtV F nh mt c1 i1 u1 lo hi) (h0V F c1) i)) (nI u1)) G2) ∨ ((1 : Int32) = 0 ∧ goN nc mt nh (nI c1) (nI i1) (nI u1) (stp (wtV F nh mt c1 i1 u1 lo hi) (h0V F c1)) (wlen (wtV F nh mt c1 i1 u1 lo hi) (h0V F c1)) 0 F_30 G = (i + 1, st_draw F2 G2 nc mt nh (nI c1) (nI i1) (nI (stp (wtV F nh mt c1 i1 u1 lo hi) (h0V F c1) i)) (nI u1), G2)))
                  refine lv_iinc (v := nI (i + 1)) (lv' := [(9, .int (nI (i + 1))), (7, .int (nI (i + 1))), (8, .int (1)), (0, .ref (B (100))), (1, .int (nI c1)), (2, .int (nI i1)), (3, .int (nI u1))]) hx hb dX12_go_129 hl (k := 6) rfl (nI_1 _) (by decide) rfl (fun ls hl => ?_)
                  refine lv_goto (tgt := 48) hx hb dX12_go_132 (by decide) ?_
                  exact ih_g (i + 1) (i + 1) 1 (st_draw F2 G2 nc mt nh (nI c1) (nI i1) (nI (stp (wtV F nh mt c1 i1 u1 lo hi) (h0V F c1) i)) (nI u1)) G2 _ _ _ (by omega) (by omega) (hNM.tr NMk.draw) (hGI2.draw _ _ _ _) hnx hw (lv_sub hl [3, 4, 5, 6, 1, 2, 0] rfl)
              · have hn8 : stp (wtV F nh mt c1 i1 u1 lo hi) (h0V F c1) i = 8 := (nI_eq (b := 8) (by omega) (by decide)).mp c_71
                refine lv_aload_n hx hb dX12_go_74 rfl (lv_at hl 0 rfl) ?_
                refine lv_iload_n hx hb dX12_go_75 rfl (lv_at hl 1 rfl) ?_
                refine kV C hw (c_X12_fire E tt B F2 G2 hM nc mt hC2 (nI c1)) vy_X12_fire ml_X12_240 (rcv hw (hM.m rfl) rfl (by decide) (q2 := (RX12, TX12, 49)) rfl) rfl hl.1 (rest := []) rfl dX12_go_76 (Nat.le_of_ble_eq_true rfl) ⟨by decide, by decide⟩ ⟨Nat.le_of_ble_eq_true rfl, Nat.le_of_ble_eq_true rfl⟩ (fun v_76 ws_76 H locs hp_76 hq_76 => ?_)
                clear hw
                obtain ⟨rfl, rfl⟩ := hp_76
                have hw := hq_76
                refine W.eq (g2 := F0 m 79 ls [.int (sp_fire F2 G2 nc (nI c1))]) rfl ?_
                refine lv_if_lt (tgt := 86) hx hb dX12_go_79 (by decide) (fun c_79 => ?_) (fun c_79 => ?_)
                · refine lv_iconst (v := 0) hx hb dX12_go_86 (by decide) ?_
                  refine lv_goto (tgt := 112) hx hb dX12_go_87 (by decide) ?_
                  refine lv_istore (lv' := [(8, .int (0)), (0, .ref (B (100))), (1, .int (nI c1)), (2, .int (nI i1)), (3, .int (nI u1)), (7, .int (nI d)), (9, .int (nI i))]) hx hb dX12_go_112 hl (by decide) rfl (fun ls hl => ?_)
                  refine lv_iload hx hb dX12_go_114 (lv_at hl 5 rfl) ?_
                  refine lv_iload hx hb dX12_go_116 (lv_at hl 0 rfl) ?_
                  refine lv_if_eq (tgt := 125) hx hb dX12_go_118 (by decide) (fun _ => ?_) (fun h9 => False.elim (by revert h9; decide))
                  refine lv_iconst (v := 0) hx hb dX12_go_125 (by decide) ?_
                  refine lv_iadd hx hb dX12_go_126 ?_
                  refine lv_istore (lv' := [(7, .int ((nI d + 0))), (8, .int (0)), (0, .ref (B (100))), (1, .int (nI c1)), (2, .int (nI i1)), (3, .int (nI u1)), (9, .int (nI i))]) hx hb dX12_go_127 hl (by decide) rfl (fun ls hl => ?_)
                  have e7 : nI d + 0 = nI i := by rw [hdi, Int32.add_zero]
                  rw [e7] at hl
                  have hnx := (Or.inr ⟨rfl, by rw [hgo, show wlen (wtV F nh mt c1 i1 u1 lo hi) (h0V F c1) - i = (wlen (wtV F nh mt c1 i1 u1 lo hi) (h0V F c1) - (i + 1)) + 1 by omega, goN_f0 hn8 c_79]⟩ : ((0 : Int32) = 1 ∧ i = i + 1 ∧ goN nc mt nh (nI c1) (nI i1) (nI u1) (stp (wtV F nh mt c1 i1 u1 lo hi) (h0V F c1)) (wlen (wtV F nh mt c1 i1 u1 lo hi) (h0V F c1)) 0 F_30 G = goN nc mt nh (nI c1) (nI i1) (nI u1) (stp (wtV F nh mt c1 i1 u1 lo hi) (h0V F c1)) (wlen (wtV F nh mt c1 i1 u1 lo hi) (h0V F c1) - (i + 1)) (i + 1) (st_fireF F2 G2 nc (nI c1)) (st_fireG F2 G2 nc mt (nI c1))) ∨ ((0 : Int32) = 0 ∧ goN nc mt nh (nI c1) (nI i1) (nI u1) (stp (wtV F nh mt c1 i1 u1 lo hi) (h0V F c1)) (wlen (wtV F nh mt c1 i1 u1 lo hi) (h0V F c1)) 0 F_30 G = (i, st_fireF F2 G2 nc (nI c1), st_fireG F2 G2 nc mt (nI c1))))
                  refine lv_iinc (v := nI (i + 1)) (lv' := [(9, .int (nI (i + 1))), (7, .int (nI i)), (8, .int (0)), (0, .ref (B (100))), (1, .int (nI c1)), (2, .int (nI i1)), (3, .int (nI u1))]) hx hb dX12_go_129 hl (k := 6) rfl (nI_1 _) (by decide) rfl (fun ls hl => ?_)
                  refine lv_goto (tgt := 48) hx hb dX12_go_132 (by decide) ?_
                  exact ih_g (i + 1) i 0 (st_fireF F2 G2 nc (nI c1)) (st_fireG F2 G2 nc mt (nI c1)) _ _ _ (by omega) (by omega) (hNM.tr NMk.fire) (hGI2.fire _) hnx hw (lv_sub hl [3, 4, 5, 6, 1, 2, 0] rfl)
                · refine lv_iconst (v := 1) hx hb dX12_go_82 (by decide) ?_
                  refine lv_goto (tgt := 112) hx hb dX12_go_83 (by decide) ?_
                  refine lv_istore (lv' := [(8, .int (1)), (0, .ref (B (100))), (1, .int (nI c1)), (2, .int (nI i1)), (3, .int (nI u1)), (7, .int (nI d)), (9, .int (nI i))]) hx hb dX12_go_112 hl (by decide) rfl (fun ls hl => ?_)
                  refine lv_iload hx hb dX12_go_114 (lv_at hl 5 rfl) ?_
                  refine lv_iload hx hb dX12_go_116 (lv_at hl 0 rfl) ?_
                  refine lv_if_eq (tgt := 125) hx hb dX12_go_118 (by decide) (fun h9 => False.elim (by revert h9; decide)) (fun _ => ?_)
                  refine lv_iconst (v := 1) hx hb dX12_go_121 (by decide) ?_
                  refine lv_goto (tgt := 126) hx hb dX12_go_122 (by decide) ?_
                  refine lv_iadd hx hb dX12_go_126 ?_
                  refine lv_istore (lv' := [(7, .int ((nI d + 1))), (8, .int (1)), (0, .ref (B (100))), (1, .int (nI c1)), (2, .int (nI i1)), (3, .int (nI u1)), (9, .int (nI i))]) hx hb dX12_go_127 hl (by decide) rfl (fun ls hl => ?_)
                  have e7 : nI d + 1 = nI (i + 1) := by rw [hdi]; exact nI_1 i
                  rw [e7] at hl
                  have hnx := (Or.inl ⟨rfl, rfl, by rw [hgo, show wlen (wtV F nh mt c1 i1 u1 lo hi) (h0V F c1) - i = (wlen (wtV F nh mt c1 i1 u1 lo hi) (h0V F c1) - (i + 1)) + 1 by omega, goN_f hn8 c_79]⟩ : ((1 : Int32) = 1 ∧ i + 1 = i + 1 ∧ goN nc mt nh (nI c1) (nI i1) (nI u1) (stp (wtV F nh mt c1 i1 u1 lo hi) (h0V F c1)) (wlen (wtV F nh mt c1 i1 u1 lo hi) (h0V F c1)) 0 F_30 G = goN nc mt nh (nI c1) (nI i1) (nI u1) (stp (wtV F nh mt c1 i1 u1 lo hi) (h0V F c1)) (wlen (wtV F nh mt c1 i1 u1 lo hi) (h0V F c1) - (i + 1)) (i + 1) (st_fireF F2 G2 nc (nI c1)) (st_fireG F2 G2 nc mt (nI c1))) ∨ ((1 : Int32) = 0 ∧ goN nc mt nh (nI c1) (nI i1) (nI u1) (stp (wtV F nh mt c1 i1 u1 lo hi) (h0V F c1)) (wlen (wtV F nh mt c1 i1 u1 lo hi) (h0V F c1)) 0 F_30 G = (i + 1, st_fireF F2 G2 nc (nI c1), st_fireG F2 G2 nc mt (nI c1))))
                  refine lv_iinc (v := nI (i + 1)) (lv' := [(9, .int (nI (i + 1))), (7, .int (nI (i + 1))), (8, .int (1)), (0, .ref (B (100))), (1, .int (nI c1)), (2, .int (nI i1)), (3, .int (nI u1))]) hx hb dX12_go_129 hl (k := 6) rfl (nI_1 _) (by decide) rfl (fun ls hl => ?_)
                  refine lv_goto (tgt := 48) hx hb dX12_go_132 (by decide) ?_
                  exact ih_g (i + 1) (i + 1) 1 (st_fireF F2 G2 nc (nI c1)) (st_fireG F2 G2 nc mt (nI c1)) _ _ _ (by omega) (by omega) (hNM.tr NMk.fire) (hGI2.fire _) hnx hw (lv_sub hl [3, 4, 5, 6, 1, 2, 0] rfl)
      exact lo_g _ 0 0 1 F_30 G _ _ _ (Nat.lt_succ_self _) (Nat.zero_le _) ⟨rfl, rfl, rfl, rfl, rfl⟩ (hGI.w hA_30) (Or.inl ⟨rfl, rfl, by rw [Nat.sub_zero]⟩) hw (lv_sub hl [4, 5, 6, 7, 2, 1, 0] rfl)
    · have hw := hq_30
      refine W.eq (g2 := F0 m 33 ls [.int (0)]) rfl ?_
      refine lv_if_ne (tgt := 39) hx hb dX12_go_33 (by decide) (fun h9 => False.elim (by revert h9; decide)) (fun _ => ?_)
      refine lv_bipush (v := -4) hx hb dX12_go_36 (by decide) ?_
      exact r_i C hr hlk hw ⟨(by rw [sp_go, if_pos hwr, hpY, if_neg h_30]), F_30, (by rw [st_goF, if_neg (fun h9 => h_30 (by rw [← hpY]; exact h9.2))]; exact hA_30), (by rw [st_goG, if_neg (fun h9 => h_30 (by rw [← hpY]; exact h9.2))])⟩ dX12_go_38
  · refine lv_iload hx hb dX12_go_19 (lv_at hl 0 rfl) ?_
    exact r_i C hr hlk hw ⟨(by rw [sp_go, if_neg c_16]), F, (by rw [st_goF, if_neg (fun h9 => c_16 h9.1)]; exact AGw.rf), (by rw [st_goG, if_neg (fun h9 => c_16 h9.1)])⟩ dX12_go_21
