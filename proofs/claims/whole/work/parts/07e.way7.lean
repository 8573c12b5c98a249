/-! ways of the class: gone -/
def goN (nc : Nat) (mt nh : Nat → Nat) (c p u : Int32) (sq : Nat → Nat) : Nat → Nat → tF → tG → Nat × tF × tG
  | 0, i, V, G => (i, V, G)
  | k + 1, i, V, G => if sq i = 8 then (if sp_fire V G nc c < 0 then (i, st_fireF V G nc c, st_fireG V G nc mt c) else goN nc mt nh c p u sq k (i + 1) (st_fireF V G nc c) (st_fireG V G nc mt c)) else (if sp_draw V G nc mt nh c p (nI (sq i)) u < 0 then (i, st_draw V G nc mt nh c p (nI (sq i)) u, G) else goN nc mt nh c p u sq k (i + 1) (st_draw V G nc mt nh c p (nI (sq i)) u) G)
section GON
variable {nc : Nat} {mt nh : Nat → Nat} {c p u : Int32} {sq : Nat → Nat} {k i : Nat} {V : tF} {G : tG}
theorem goN_f (h : sq i = 8) (h1 : ¬ sp_fire V G nc c < 0) : goN nc mt nh c p u sq (k + 1) i V G = goN nc mt nh c p u sq k (i + 1) (st_fireF V G nc c) (st_fireG V G nc mt c) := by simp only [goN, h, h1, if_true, if_false]
theorem goN_f0 (h : sq i = 8) (h1 : sp_fire V G nc c < 0) : goN nc mt nh c p u sq (k + 1) i V G = (i, st_fireF V G nc c, st_fireG V G nc mt c) := by simp only [goN, h, h1, if_true]
theorem goN_d (h : ¬ sq i = 8) (h1 : ¬ sp_draw V G nc mt nh c p (nI (sq i)) u < 0) : goN nc mt nh c p u sq (k + 1) i V G = goN nc mt nh c p u sq k (i + 1) (st_draw V G nc mt nh c p (nI (sq i)) u) G := by simp only [goN, h, h1, if_false]
theorem goN_d0 (h : ¬ sq i = 8) (h1 : sp_draw V G nc mt nh c p (nI (sq i)) u < 0) : goN nc mt nh c p u sq (k + 1) i V G = (i, st_draw V G nc mt nh c p (nI (sq i)) u, G) := by simp only [goN, h, h1, if_true, if_false]
end GON
def gY (V : tF) (G : tG) (nc : Nat) (nh mt : Nat → Nat) (c p u lo hi : Int32) : Nat × tF × tG := goN nc mt nh c p u (stp (wY V nh mt c p u lo hi) (h0V V c.toNatClampNeg)) (wlen (wY V nh mt c p u lo hi) (h0V V c.toNatClampNeg)) 0 V G
abbrev okY (V : tF) (G : tG) (nc : Nat) (nh mt : Nat → Nat) (c p u lo hi : Int32) : Prop := sp_wrong G nc c p u lo hi = 1 ∧ pY V nh mt c p u lo hi < 100000
def sp_go (V : tF) (G : tG) (nc : Nat) (nh mt : Nat → Nat) (c p u lo hi : Int32) : Int32 := if sp_wrong G nc c p u lo hi = 1 then (if pY V nh mt c p u lo hi < 100000 then nI (gY V G nc nh mt c p u lo hi).1 else -4) else sp_wrong G nc c p u lo hi
def st_goF (V : tF) (G : tG) (nc : Nat) (nh mt : Nat → Nat) (c p u lo hi : Int32) : tF := if okY V G nc nh mt c p u lo hi then (gY V G nc nh mt c p u lo hi).2.1 else V
def st_goG (V : tF) (G : tG) (nc : Nat) (nh mt : Nat → Nat) (c p u lo hi : Int32) : tG := if okY V G nc nh mt c p u lo hi then (gY V G nc nh mt c p u lo hi).2.2 else G
theorem KW.wh {F F1 : tF} (h : KW F F1) (hw : WHok F) : WHok F1 := ⟨(h.2.2.1 0 (by decide)).trans hw.1, (h.2.2.1 1 (by decide)).trans hw.2.1, (h.2.2.1 2 (by decide)).trans hw.2.2⟩
/-- the end of a way that is gone -/
theorem go_end {V V2 : tF} {G G2 : tG} {nc : Nat} {nh mt : Nat → Nat} {c p u lo hi : Int32} {i : Nat} (h1 : sp_wrong G nc c p u lo hi = 1) (h2 : pY V nh mt c p u lo hi < 100000) (hg : gY V G nc nh mt c p u lo hi = (i, V2, G2)) : sp_go V G nc nh mt c p u lo hi = nI i ∧ st_goF V G nc nh mt c p u lo hi = V2 ∧ st_goG V G nc nh mt c p u lo hi = G2 := by
  refine ⟨?_, ?_, ?_⟩
  · rw [sp_go, if_pos h1, if_pos h2, hg]
  · rw [st_goF, if_pos ⟨h1, h2⟩, hg]
  · rw [st_goG, if_pos ⟨h1, h2⟩, hg]
set_option maxHeartbeats 4000000 in
set_option maxRecDepth 100000 in
theorem c_X11_go (E : cE) (tt : Nat × Nat × Nat) {X : List Nat} (B : Nat → Nat) (F : tF) (G : tG) {P : tP} {nh : Nat → Nat} {nc no : Nat} {mt om : Nat → Nat} (hR : RC X P nh nc no mt om) (hGI : GI (vF F) (vG G) nh nc mt) (hwh : WHok F) (c0 p0 u0 lo hi : Int32)  : CT E tt yX11_go cX11_go 11 (some .int) 25 0 0 [.ref (B (0)), .int (c0), .int (p0), .int (u0), .int (lo), .int (hi)] (wl E X B F G P) (fun r w => r = some (.int (sp_go (vF F) (vG G) nc nh mt c0 p0 u0 lo hi)) ∧ ∃ (F1 : tF) (G1 : tG) (P1 : tP), KW F F1 ∧ KG G G1 ∧ AP nc P P1 ∧ vF F1 = st_goF (vF F) (vG G) nc nh mt c0 p0 u0 lo hi ∧ vG G1 = st_goG (vF F) (vG G) nc nh mt c0 p0 u0 lo hi ∧ w = wl E X B F1 G1 P1) := by
  refine CT.mk (by decide +kernel) (Nat.le_of_ble_eq_true rfl) ?_
  intro l p e s m below meth c A ls C hr hlk hnm hw hl
  have hx := C.1
  have hb := C.2.1
  have hts := C.2.2.2.2
  have hown : s.vm.findClass RX11 = some m.cls := C.2.2.2.1
  have hl : lv_has ls 11 [(0, .ref (B (0))), (1, .int (c0)), (2, .int (p0)), (3, .int (u0)), (4, .int (lo)), (5, .int (hi))] := hl
  refine lv_aload_n hx hb dX11_go_0 rfl (lv_at hl 0 rfl) ?_
  refine lv_iload_n hx hb dX11_go_1 rfl (lv_at hl 1 rfl) ?_
  refine lv_iload_n hx hb dX11_go_2 rfl (lv_at hl 2 rfl) ?_
  refine lv_iload_n hx hb dX11_go_3 rfl (lv_at hl 3 rfl) ?_
  refine lv_iload hx hb dX11_go_4 (lv_at hl 4 rfl) ?_
  refine lv_iload hx hb dX11_go_6 (lv_at hl 5 rfl) ?_
  refine kV C hw (c_X11_seekWay E tt B F G hR hGI hwh c0 p0 u0 lo hi) vy_X11_seekWay ml_X11_278 (rcv hw (hR.f rfl) rfl (by decide) (q2 := (RX11, TX11, 19)) rfl) rfl hl.1 (rest := []) rfl dX11_go_8 (Nat.le_of_ble_eq_true rfl) ⟨by decide, by decide⟩ ⟨Nat.le_of_ble_eq_true rfl, Nat.le_of_ble_eq_true rfl⟩ (fun v_8 ws_8 H locs hp_8 hq_8 => ?_)
  clear hw
  rcases hp_8 with ⟨c1, i1, u1, hc1, hi1, hu1, rfl, rfl, rfl, hwr, h_8, rfl, F_8, hA_8, hlen_8, hst_8, rfl⟩ | ⟨c1, i1, u1, hc1, hi1, hu1, rfl, rfl, rfl, hwr, h_8, rfl, F_8, hA_8, rfl⟩ | ⟨hwr, rfl, rfl⟩
  · have hw := hq_8
    refine W.eq (g2 := F0 m 11 ls [.int (nI (pr (wtV (vF F) nh mt c1 i1 u1 lo hi) 0 (h0V (vF F) c1)))]) rfl ?_
    have hR := hR.w80 (some (53 + c1)) (some (12 + i1))
    have hn16 := hR.nc16
    have hz_c1 := i4_cl (i := c1) (by omega)
    have hz_i1 := i4_cl (i := i1) (by omega)
    have hz_u1 := i4_cl (i := u1) (by omega)
    have hpY : pY (vF F) nh mt (nI c1) (nI i1) (nI u1) lo hi = pr (wtV (vF F) nh mt c1 i1 u1 lo hi) 0 (h0V (vF F) c1) := by rw [pY, wY, hz_c1, hz_i1, hz_u1]
    have hwY : wY (vF F) nh mt (nI c1) (nI i1) (nI u1) lo hi = wtV (vF F) nh mt c1 i1 u1 lo hi := by rw [wY, hz_c1, hz_i1, hz_u1]
    have hpb := pr_b (wt_S (u := u1) (lo := lo) (hi := hi) hGI hc1 hi1) (pl := 0) (Nat.zero_le _) (h0_ok hGI hc1).1
    have hw17 : wlen (wtV (vF F) nh mt c1 i1 u1 lo hi) (h0V (vF F) c1) ≤ 17 := by have := hpb.2.1; unfold wlen; omega
    refine lv_istore (lv' := [(6, .int (nI (pr (wtV (vF F) nh mt c1 i1 u1 lo hi) 0 (h0V (vF F) c1)))), (0, .ref (B (0))), (1, .int (nI c1)), (2, .int (nI i1)), (3, .int (nI u1)), (4, .int (lo)), (5, .int (hi))]) hx hb dX11_go_11 hl (by decide) rfl (fun ls hl => ?_)
    refine lv_iload hx hb dX11_go_13 (lv_at hl 0 rfl) ?_
    refine lv_if_ge (tgt := 32) hx hb dX11_go_15 (by decide) (fun c_15 => ?_) (fun c_15 => ?_)
    · refine lv_aload_n hx hb dX11_go_32 rfl (lv_at hl 1 rfl) ?_
      refine g_r 8 (k2 := 80) C hw (hR.f rfl) rfl fl_X11_67 rfl (hR.p0 8 (by decide)) dX11_go_33 ?_
      refine g_i 3 C hw (hR.f rfl) rfl fl_X11_285 rfl dX11_go_36 ?_
      refine tp_i (y := nI (wlen (wtV (vF F) nh mt c1 i1 u1 lo hi) (h0V (vF F) c1))) (hlen_8) ?_
      refine lv_istore (lv' := [(7, .int (nI (wlen (wtV (vF F) nh mt c1 i1 u1 lo hi) (h0V (vF F) c1)))), (6, .int (nI (pr (wtV (vF F) nh mt c1 i1 u1 lo hi) 0 (h0V (vF F) c1)))), (0, .ref (B (0))), (1, .int (nI c1)), (2, .int (nI i1)), (3, .int (nI u1)), (4, .int (lo)), (5, .int (hi))]) hx hb dX11_go_39 hl (by decide) rfl (fun ls hl => ?_)
      refine lv_iconst (v := 0) hx hb dX11_go_41 (by decide) ?_
      refine lv_istore (lv' := [(8, .int (0)), (7, .int (nI (wlen (wtV (vF F) nh mt c1 i1 u1 lo hi) (h0V (vF F) c1)))), (6, .int (nI (pr (wtV (vF F) nh mt c1 i1 u1 lo hi) 0 (h0V (vF F) c1)))), (0, .ref (B (0))), (1, .int (nI c1)), (2, .int (nI i1)), (3, .int (nI u1)), (4, .int (lo)), (5, .int (hi))]) hx hb dX11_go_42 hl (by decide) rfl (fun ls hl => ?_)
      have lo_g : ∀ (n : Nat) (i : Nat) (F2 : tF) (G2 : tG) (H : Heap) (locs : List Loc) (ls : Array Slot), wlen (wtV (vF F) nh mt c1 i1 u1 lo hi) (h0V (vF F) c1) - i < n → (i ≤ wlen (wtV (vF F) nh mt c1 i1 u1 lo hi) (h0V (vF F) c1)) → (KW F F2) → (KG G G2) → (F2 80 = F_8 80) → (F2 82 = F_8 82) → (GI (vF F2) (vG G2) nh nc mt) → (goN nc mt nh (nI c1) (nI i1) (nI u1) (stp (wtV (vF F) nh mt c1 i1 u1 lo hi) (h0V (vF F) c1)) (wlen (wtV (vF F) nh mt c1 i1 u1 lo hi) (h0V (vF F) c1)) 0 (vF F) (vG G) = goN nc mt nh (nI c1) (nI i1) (nI u1) (stp (wtV (vF F) nh mt c1 i1 u1 lo hi) (h0V (vF F) c1)) (wlen (wtV (vF F) nh mt c1 i1 u1 lo hi) (h0V (vF F) c1) - i) i (vF F2) (vG G2)) → Wd E tt A s (wl E X B F2 G2 (uP (uP P 80 4 (some (53 + c1))) 80 5 (some (12 + i1)))) H locs → lv_has ls 11 [(0, .ref (B (0))), (1, .int (nI c1)), (2, .int (nI i1)), (3, .int (nI u1)), (7, .int (nI (wlen (wtV (vF F) nh mt c1 i1 u1 lo hi) (h0V (vF F) c1)))), (8, .int (nI i))] → W p l e (rmO 25 0 0) s m ([.ref (B (0)), .int ((nI c1)), .int ((nI i1)), .int ((nI u1)), .int (lo), .int (hi)] : List Value).toArray below meth c H locs 0 0 (MQ below (Fin0 E (fun r w => r = some (.int (sp_go (vF F) (vG G) nc nh mt (nI c1) (nI i1) (nI u1) lo hi)) ∧ ∃ (F1 : tF) (G1 : tG) (P1 : tP), KW F F1 ∧ KG G G1 ∧ AP nc P P1 ∧ vF F1 = st_goF (vF F) (vG G) nc nh mt (nI c1) (nI i1) (nI u1) lo hi ∧ vG G1 = st_goG (vF F) (vG G) nc nh mt (nI c1) (nI i1) (nI u1) lo hi ∧ w = wl E X B F1 G1 P1) A) ([.ref (B (0)), .int ((nI c1)), .int ((nI i1)), .int ((nI u1)), .int (lo), .int (hi)] : List Value).toArray s 0 0 A) (F0 m 44 ls []) := by
        intro n
        induction n with
        | zero =>
          intro i F2 G2 H locs ls hi_2
          exact absurd hi_2 (Nat.not_lt_zero _)
        | succ n ih_g =>
          intro i F2 G2 H locs ls hj_g hiL hK hKG h80 h82 hGI2 hgo hw hl
          have hwh2 := hK.wh hwh
          refine lv_iload hx hb dX11_go_44 (lv_at hl 5 rfl) ?_
          refine lv_iload hx hb dX11_go_46 (lv_at hl 4 rfl) ?_
          refine lv_icmp_ge (tgt := 102) hx hb dX11_go_48 (by decide) (fun c_48 => ?_) (fun c_48 => ?_)
          · have hiw : i = wlen (wtV (vF F) nh mt c1 i1 u1 lo hi) (h0V (vF F) c1) := by have := (nI_leI (by omega) (by omega)).mp c_48; omega
            refine lv_iload hx hb dX11_go_102 (lv_at hl 4 rfl) ?_
            have hgY : gY (vF F) (vG G) nc nh mt (nI c1) (nI i1) (nI u1) lo hi = (wlen (wtV (vF F) nh mt c1 i1 u1 lo hi) (h0V (vF F) c1), vF F2, vG G2) := by rw [gY, hwY, hz_c1, hgo]; rw [hiw, Nat.sub_self]; rfl
            obtain ⟨e1, e2, e3⟩ := go_end hwr (by rw [hpY]; exact h_8) hgY
            exact r_i C hr hlk hw ⟨(by rw [e1]), F2, G2, _, hK, hKG, (Or.inr ⟨c1, i1, hc1, hi1, rfl⟩), e2.symm, e3.symm, rfl⟩ dX11_go_104
          · have hiw : i < wlen (wtV (vF F) nh mt c1 i1 u1 lo hi) (h0V (vF F) c1) := by rcases Nat.lt_or_ge i (wlen (wtV (vF F) nh mt c1 i1 u1 lo hi) (h0V (vF F) c1)) with h9 | h9; exact h9; exact absurd ((nI_leI (by omega) (by omega)).mpr h9) c_48
            have hst8 : stp (wtV (vF F) nh mt c1 i1 u1 lo hi) (h0V (vF F) c1) i ≤ 8 := nxt_le _ _ _
            refine lv_aload_n hx hb dX11_go_51 rfl (lv_at hl 0 rfl) ?_
            refine g_r 8 (k2 := 80) C hw (hR.f rfl) rfl fl_X11_67 rfl (hR.p0 8 (by decide)) dX11_go_52 ?_
            refine lv_iload hx hb dX11_go_55 (lv_at hl 5 rfl) ?_
            refine kV C hw (c_X9_stepAt E tt B F2 G2 hR (len := wlen (wtV (vF F) nh mt c1 i1 u1 lo hi) (h0V (vF F) c1)) ((congrFun h80 3).trans hlen_8) hw17 (nI i)) vy_X9_stepAt ml_X11_282 (rcv hw (hR.f rfl) rfl (by decide) (q2 := (RX9, TX9, 9)) rfl) rfl hl.1 (rest := []) rfl dX11_go_57 (Nat.le_of_ble_eq_true rfl) ⟨by decide, by decide⟩ ⟨Nat.le_of_ble_eq_true rfl, Nat.le_of_ble_eq_true rfl⟩ (fun v_57 ws_57 H locs hp_57 hq_57 => ?_)
            clear hw
            obtain ⟨rfl, rfl⟩ := hp_57
            have hw := hq_57
            refine W.eq (g2 := F0 m 60 ls [.int (if 0 ≤ (nI i) ∧ (nI i) < nI (wlen (wtV (vF F) nh mt c1 i1 u1 lo hi) (h0V (vF F) c1)) then F2 82 (nI i).toNatClampNeg else -1)]) rfl ?_
            refine tp_i (y := nI (stp (wtV (vF F) nh mt c1 i1 u1 lo hi) (h0V (vF F) c1) i)) (by rw [if_pos ⟨nI_pos' (by omega), nI_lt hiw (by omega)⟩, i4_cl (by omega), congrFun h82 i, hst_8 i hiw]) ?_
            refine lv_istore (lv' := [(9, .int (nI (stp (wtV (vF F) nh mt c1 i1 u1 lo hi) (h0V (vF F) c1) i))), (0, .ref (B (0))), (1, .int (nI c1)), (2, .int (nI i1)), (3, .int (nI u1)), (7, .int (nI (wlen (wtV (vF F) nh mt c1 i1 u1 lo hi) (h0V (vF F) c1)))), (8, .int (nI i))]) hx hb dX11_go_60 hl (by decide) rfl (fun ls hl => ?_)
            refine lv_iload hx hb dX11_go_62 (lv_at hl 0 rfl) ?_
            refine lv_bipush (v := 8) hx hb dX11_go_64 (by decide) ?_
            refine lv_icmp_ne (tgt := 77) hx hb dX11_go_66 (by decide) (fun c_66 => ?_) (fun c_66 => ?_)
            · have hn8 : ¬ stp (wtV (vF F) nh mt c1 i1 u1 lo hi) (h0V (vF F) c1) i = 8 := fun h9 => c_66 (by rw [h9]; rfl)
              refine lv_aload_n hx hb dX11_go_77 rfl (lv_at hl 1 rfl) ?_
              refine lv_iload_n hx hb dX11_go_78 rfl (lv_at hl 2 rfl) ?_
              refine lv_iload_n hx hb dX11_go_79 rfl (lv_at hl 3 rfl) ?_
              refine lv_iload hx hb dX11_go_80 (lv_at hl 0 rfl) ?_
              refine lv_iload_n hx hb dX11_go_82 rfl (lv_at hl 4 rfl) ?_
              refine kV C hw (c_X11_draw E tt B F2 G2 hR hGI2.ck hwh2 hGI2.rf hGI2.mn hGI2.hz (nI c1) (nI i1) (nI (stp (wtV (vF F) nh mt c1 i1 u1 lo hi) (h0V (vF F) c1) i)) (nI u1)) vy_X11_draw ml_X11_291 (rcv hw (hR.f rfl) rfl (by decide) (q2 := (RX11, TX11, 19)) rfl) rfl hl.1 (rest := []) rfl dX11_go_83 (Nat.le_of_ble_eq_true rfl) ⟨by decide, by decide⟩ ⟨Nat.le_of_ble_eq_true rfl, Nat.le_of_ble_eq_true rfl⟩ (fun v_83 ws_83 H locs hp_83 hq_83 => ?_)
              clear hw
              obtain ⟨rfl, F_83, G_83, hk9, hkg9, hv9, hvg9, rfl⟩ := hp_83
              have hw := hq_83
              refine W.eq (g2 := F0 m 86 ls [.int (sp_draw (vF F2) (vG G2) nc mt nh (nI c1) (nI i1) (nI (stp (wtV (vF F) nh mt c1 i1 u1 lo hi) (h0V (vF F) c1) i)) (nI u1))]) rfl ?_
              have hgi9 : GI (vF F_83) (vG G_83) nh nc mt := by rw [hv9, hvg9]; exact hGI2.draw _ _ _ _
              refine lv_istore (lv' := [(10, .int (sp_draw (vF F2) (vG G2) nc mt nh (nI c1) (nI i1) (nI (stp (wtV (vF F) nh mt c1 i1 u1 lo hi) (h0V (vF F) c1) i)) (nI u1))), (9, .int (nI (stp (wtV (vF F) nh mt c1 i1 u1 lo hi) (h0V (vF F) c1) i))), (0, .ref (B (0))), (1, .int (nI c1)), (2, .int (nI i1)), (3, .int (nI u1)), (7, .int (nI (wlen (wtV (vF F) nh mt c1 i1 u1 lo hi) (h0V (vF F) c1)))), (8, .int (nI i))]) hx hb dX11_go_86 hl (by decide) rfl (fun ls hl => ?_)
              refine lv_iload hx hb dX11_go_88 (lv_at hl 0 rfl) ?_
              refine lv_if_ge (tgt := 96) hx hb dX11_go_90 (by decide) (fun c_90 => ?_) (fun c_90 => ?_)
              · have c_90 := Int32.not_lt.mpr c_90
                have hgn9 : goN nc mt nh (nI c1) (nI i1) (nI u1) (stp (wtV (vF F) nh mt c1 i1 u1 lo hi) (h0V (vF F) c1)) (wlen (wtV (vF F) nh mt c1 i1 u1 lo hi) (h0V (vF F) c1)) 0 (vF F) (vG G) = goN nc mt nh (nI c1) (nI i1) (nI u1) (stp (wtV (vF F) nh mt c1 i1 u1 lo hi) (h0V (vF F) c1)) (wlen (wtV (vF F) nh mt c1 i1 u1 lo hi) (h0V (vF F) c1) - (i + 1)) (i + 1) (vF F_83) (vG G_83) := by rw [hgo, show wlen (wtV (vF F) nh mt c1 i1 u1 lo hi) (h0V (vF F) c1) - i = (wlen (wtV (vF F) nh mt c1 i1 u1 lo hi) (h0V (vF F) c1) - (i + 1)) + 1 by omega, goN_d hn8 c_90, hv9, hvg9]
                refine lv_iinc (v := nI (i + 1)) (lv' := [(8, .int (nI (i + 1))), (10, .int (sp_draw (vF F2) (vG G2) nc mt nh (nI c1) (nI i1) (nI (stp (wtV (vF F) nh mt c1 i1 u1 lo hi) (h0V (vF F) c1) i)) (nI u1))), (9, .int (nI (stp (wtV (vF F) nh mt c1 i1 u1 lo hi) (h0V (vF F) c1) i))), (0, .ref (B (0))), (1, .int (nI c1)), (2, .int (nI i1)), (3, .int (nI u1)), (7, .int (nI (wlen (wtV (vF F) nh mt c1 i1 u1 lo hi) (h0V (vF F) c1))))]) hx hb dX11_go_96 hl (k := 7) rfl (nI_1 _) (by decide) rfl (fun ls hl => ?_)
                refine lv_goto (tgt := 44) hx hb dX11_go_99 (by decide) ?_
                exact ih_g (i + 1) F_83 G_83 _ _ _ (by omega) (by omega) (hK.tr hk9.w) (KG.tr hKG hkg9) (hk9.2.2.2.2.2.1.trans h80) (hk9.2.2.2.2.2.2.trans h82) hgi9 hgn9 hw (lv_sub hl [3, 4, 5, 6, 7, 0] rfl)
              · have c_90 := Int32.not_le.mp c_90
                refine lv_iload hx hb dX11_go_93 (lv_at hl 7 rfl) ?_
                have hgY : gY (vF F) (vG G) nc nh mt (nI c1) (nI i1) (nI u1) lo hi = (i, vF F_83, vG G_83) := by rw [gY, hwY, hz_c1, hgo]; rw [show wlen (wtV (vF F) nh mt c1 i1 u1 lo hi) (h0V (vF F) c1) - i = (wlen (wtV (vF F) nh mt c1 i1 u1 lo hi) (h0V (vF F) c1) - (i + 1)) + 1 by omega, goN_d0 hn8 c_90, hv9, hvg9]
                obtain ⟨e1, e2, e3⟩ := go_end hwr (by rw [hpY]; exact h_8) hgY
                exact r_i C hr hlk hw ⟨(by rw [e1]), F_83, G_83, _, hK.tr hk9.w, KG.tr hKG hkg9, (Or.inr ⟨c1, i1, hc1, hi1, rfl⟩), e2.symm, e3.symm, rfl⟩ dX11_go_95
            · have hn8 : stp (wtV (vF F) nh mt c1 i1 u1 lo hi) (h0V (vF F) c1) i = 8 := (nI_eq (b := 8) (by omega) (by decide)).mp c_66
              refine lv_aload_n hx hb dX11_go_69 rfl (lv_at hl 1 rfl) ?_
              refine lv_iload_n hx hb dX11_go_70 rfl (lv_at hl 2 rfl) ?_
              refine kV C hw (c_X11_fire E tt B F2 G2 hR hGI2.ck (nI c1)) vy_X11_fire ml_X11_288 (rcv hw (hR.f rfl) rfl (by decide) (q2 := (RX11, TX11, 19)) rfl) rfl hl.1 (rest := []) rfl dX11_go_71 (Nat.le_of_ble_eq_true rfl) ⟨by decide, by decide⟩ ⟨Nat.le_of_ble_eq_true rfl, Nat.le_of_ble_eq_true rfl⟩ (fun v_71 ws_71 H locs hp_71 hq_71 => ?_)
              clear hw
              obtain ⟨rfl, F_71, G_71, hk9, hkg9, hv9, hvg9, rfl⟩ := hp_71
              have hw := hq_71
              refine W.eq (g2 := F0 m 74 ls [.int (sp_fire (vF F2) (vG G2) nc (nI c1))]) rfl ?_
              have hgi9 : GI (vF F_71) (vG G_71) nh nc mt := by rw [hv9, hvg9]; exact hGI2.fire _
              refine lv_goto (tgt := 86) hx hb dX11_go_74 (by decide) ?_
              refine lv_istore (lv' := [(10, .int (sp_fire (vF F2) (vG G2) nc (nI c1))), (9, .int (nI (stp (wtV (vF F) nh mt c1 i1 u1 lo hi) (h0V (vF F) c1) i))), (0, .ref (B (0))), (1, .int (nI c1)), (2, .int (nI i1)), (3, .int (nI u1)), (7, .int (nI (wlen (wtV (vF F) nh mt c1 i1 u1 lo hi) (h0V (vF F) c1)))), (8, .int (nI i))]) hx hb dX11_go_86 hl (by decide) rfl (fun ls hl => ?_)
              refine lv_iload hx hb dX11_go_88 (lv_at hl 0 rfl) ?_
              refine lv_if_ge (tgt := 96) hx hb dX11_go_90 (by decide) (fun c_90 => ?_) (fun c_90 => ?_)
              · have c_90 := Int32.not_lt.mpr c_90
                have hgn9 : goN nc mt nh (nI c1) (nI i1) (nI u1) (stp (wtV (vF F) nh mt c1 i1 u1 lo hi) (h0V (vF F) c1)) (wlen (wtV (vF F) nh mt c1 i1 u1 lo hi) (h0V (vF F) c1)) 0 (vF F) (vG G) = goN nc mt nh (nI c1) (nI i1) (nI u1) (stp (wtV (vF F) nh mt c1 i1 u1 lo hi) (h0V (vF F) c1)) (wlen (wtV (vF F) nh mt c1 i1 u1 lo hi) (h0V (vF F) c1) - (i + 1)) (i + 1) (vF F_71) (vG G_71) := by rw [hgo, show wlen (wtV (vF F) nh mt c1 i1 u1 lo hi) (h0V (vF F) c1) - i = (wlen (wtV (vF F) nh mt c1 i1 u1 lo hi) (h0V (vF F) c1) - (i + 1)) + 1 by omega, goN_f hn8 c_90, hv9, hvg9]
                refine lv_iinc (v := nI (i + 1)) (lv' := [(8, .int (nI (i + 1))), (10, .int (sp_fire (vF F2) (vG G2) nc (nI c1))), (9, .int (nI (stp (wtV (vF F) nh mt c1 i1 u1 lo hi) (h0V (vF F) c1) i))), (0, .ref (B (0))), (1, .int (nI c1)), (2, .int (nI i1)), (3, .int (nI u1)), (7, .int (nI (wlen (wtV (vF F) nh mt c1 i1 u1 lo hi) (h0V (vF F) c1))))]) hx hb dX11_go_96 hl (k := 7) rfl (nI_1 _) (by decide) rfl (fun ls hl => ?_)
                refine lv_goto (tgt := 44) hx hb dX11_go_99 (by decide) ?_
                exact ih_g (i + 1) F_71 G_71 _ _ _ (by omega) (by omega) (hK.tr hk9.w) (KG.tr hKG hkg9) (hk9.2.2.2.2.2.1.trans h80) (hk9.2.2.2.2.2.2.trans h82) hgi9 hgn9 hw (lv_sub hl [3, 4, 5, 6, 7, 0] rfl)
              · have c_90 := Int32.not_le.mp c_90
                refine lv_iload hx hb dX11_go_93 (lv_at hl 7 rfl) ?_
                have hgY : gY (vF F) (vG G) nc nh mt (nI c1) (nI i1) (nI u1) lo hi = (i, vF F_71, vG G_71) := by rw [gY, hwY, hz_c1, hgo]; rw [show wlen (wtV (vF F) nh mt c1 i1 u1 lo hi) (h0V (vF F) c1) - i = (wlen (wtV (vF F) nh mt c1 i1 u1 lo hi) (h0V (vF F) c1) - (i + 1)) + 1 by omega, goN_f0 hn8 c_90, hv9, hvg9]
                obtain ⟨e1, e2, e3⟩ := go_end hwr (by rw [hpY]; exact h_8) hgY
                exact r_i C hr hlk hw ⟨(by rw [e1]), F_71, G_71, _, hK.tr hk9.w, KG.tr hKG hkg9, (Or.inr ⟨c1, i1, hc1, hi1, rfl⟩), e2.symm, e3.symm, rfl⟩ dX11_go_95
      exact lo_g _ 0 F_8 G _ _ _ (Nat.lt_succ_self _) (Nat.zero_le _) hA_8.KW KG.rf rfl rfl (by rw [hA_8.v]; exact hGI) (by rw [hA_8.v, Nat.sub_zero]) hw (lv_sub hl [3, 4, 5, 6, 1, 0] rfl)
    · exact absurd (nI_pos' (by omega)) c_15
  · have hw := hq_8
    refine W.eq (g2 := F0 m 11 ls [.int (-1)]) rfl ?_
    have hR := hR.w80 (some (53 + c1)) (some (12 + i1))
    have hn16 := hR.nc16
    have hz_c1 := i4_cl (i := c1) (by omega)
    have hz_i1 := i4_cl (i := i1) (by omega)
    have hz_u1 := i4_cl (i := u1) (by omega)
    have hpY : pY (vF F) nh mt (nI c1) (nI i1) (nI u1) lo hi = pr (wtV (vF F) nh mt c1 i1 u1 lo hi) 0 (h0V (vF F) c1) := by rw [pY, wY, hz_c1, hz_i1, hz_u1]
    have hwY : wY (vF F) nh mt (nI c1) (nI i1) (nI u1) lo hi = wtV (vF F) nh mt c1 i1 u1 lo hi := by rw [wY, hz_c1, hz_i1, hz_u1]
    have hpb := pr_b (wt_S (u := u1) (lo := lo) (hi := hi) hGI hc1 hi1) (pl := 0) (Nat.zero_le _) (h0_ok hGI hc1).1
    refine lv_istore (lv' := [(6, .int (-1)), (0, .ref (B (0))), (1, .int (nI c1)), (2, .int (nI i1)), (3, .int (nI u1)), (4, .int (lo)), (5, .int (hi))]) hx hb dX11_go_11 hl (by decide) rfl (fun ls hl => ?_)
    refine lv_iload hx hb dX11_go_13 (lv_at hl 0 rfl) ?_
    refine lv_if_ge (tgt := 32) hx hb dX11_go_15 (by decide) (fun h9 => False.elim (by revert h9; decide)) (fun _ => ?_)
    refine lv_iload hx hb dX11_go_18 (lv_at hl 0 rfl) ?_
    refine lv_iconst (v := -1) hx hb dX11_go_20 (by decide) ?_
    refine lv_icmp_ne (tgt := 29) hx hb dX11_go_21 (by decide) (fun h9 => False.elim (by revert h9; decide)) (fun _ => ?_)
    refine lv_bipush (v := -4) hx hb dX11_go_24 (by decide) ?_
    refine lv_goto (tgt := 31) hx hb dX11_go_26 (by decide) ?_
    exact r_i C hr hlk hw ⟨(by rw [sp_go, if_pos hwr, hpY, if_neg h_8]), F_8, G, _, hA_8.KW, KG.rf, (Or.inr ⟨c1, i1, hc1, hi1, rfl⟩), (by rw [hA_8.v, st_goF, if_neg (fun h9 => h_8 (by rw [← hpY]; exact h9.2))]), (by rw [st_goG, if_neg (fun h9 => h_8 (by rw [← hpY]; exact h9.2))]), rfl⟩ dX11_go_31
  · have hw := hq_8
    refine W.eq (g2 := F0 m 11 ls [.int (sp_wrong (vG G) nc c0 p0 u0 lo hi)]) rfl ?_
    have hcs := wr_cases (vG G) nc c0 p0 u0 lo hi
    refine lv_istore (lv' := [(6, .int (sp_wrong (vG G) nc c0 p0 u0 lo hi)), (0, .ref (B (0))), (1, .int (c0)), (2, .int (p0)), (3, .int (u0)), (4, .int (lo)), (5, .int (hi))]) hx hb dX11_go_11 hl (by decide) rfl (fun ls hl => ?_)
    refine lv_iload hx hb dX11_go_13 (lv_at hl 0 rfl) ?_
    refine lv_if_ge (tgt := 32) hx hb dX11_go_15 (by decide) (fun c_15 => ?_) (fun c_15 => ?_)
    · exact absurd c_15 (by rcases hcs with h9 | h9 | h9; exact absurd h9 hwr; rw [h9]; decide; rw [h9]; decide)
    · refine lv_iload hx hb dX11_go_18 (lv_at hl 0 rfl) ?_
      refine lv_iconst (v := -1) hx hb dX11_go_20 (by decide) ?_
      refine lv_icmp_ne (tgt := 29) hx hb dX11_go_21 (by decide) (fun c_21 => ?_) (fun c_21 => ?_)
      · refine lv_iload hx hb dX11_go_29 (lv_at hl 0 rfl) ?_
        exact r_i C hr hlk hw ⟨(by rw [sp_go, if_neg hwr]), F, G, P, KC.rf.w, KG.rf, Or.inl rfl, (by rw [st_goF, if_neg (fun h9 => hwr h9.1)]), (by rw [st_goG, if_neg (fun h9 => hwr h9.1)]), rfl⟩ dX11_go_31
      · exact absurd c_21 (by rcases hcs with h9 | h9 | h9; exact absurd h9 hwr; rw [h9]; decide; rw [h9]; decide)
