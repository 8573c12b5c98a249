theorem ab_eq {F : tF} {nn : Nat} {ca : Int32} : nI (tlN F ca 0 nn) * nI (tlN F ca 3 nn) - nI (tlN F ca 1 nn) * nI (tlN F ca 2 nn) = w_above F nn ca := by
  unfold w_above
  rw [← nI_add, ← nI_add]
  apply i_eq
  simp only [Int32.toInt_sub, Int32.toInt_mul, Int32.toInt_add]
  generalize (nI (tlN F ca 0 nn)).toInt = a
  generalize (nI (tlN F ca 1 nn)).toInt = b
  generalize (nI (tlN F ca 2 nn)).toInt = c
  generalize (nI (tlN F ca 3 nn)).toInt = d
  simp
  congr 1
  rw [Int.mul_add, Int.mul_add, Int.mul_comm b c, Int.mul_comm c a]
  omega
def w_gr (F : tF) (nn : Nat) (ca cb : Int32) : Bool := decide ((w_above F nn cb).toInt64 * (nI (w_below F nn ca)).toInt64 < (w_above F nn ca).toInt64 * (nI (w_below F nn cb)).toInt64)
set_option maxHeartbeats 4000000 in
set_option maxRecDepth 100000 in
theorem c_X11_ordersFilled (E : cE) (tt : Nat × Nat × Nat) {X : List Nat} (B : Nat → Nat) (F : tF) (G : tG) {P : tP} {nh : Nat → Nat} {nc no : Nat} {mt om : Nat → Nat} (hR : RC X P nh nc no mt om)  : CT E tt yX11_ordersFilled cX11_ordersFilled 3 (some .int) 0 0 0 [.ref (B (0))] (wl E X B F G P) (fun r w => r = some (.int (cntF (vF F 127) no)) ∧ w = (wl E X B F G P)) := by
  refine CT.mk (by decide +kernel) (Nat.le_of_ble_eq_true rfl) ?_
  intro l p e s m below meth c A ls C hr hlk hnm hw hl
  have hx := C.1
  have hb := C.2.1
  have hts := C.2.2.2.2
  have hown : s.vm.findClass RX11 = some m.cls := C.2.2.2.1
  have hl : lv_has ls 3 [(0, .ref (B (0)))] := hl
  have ho6 := hR.no6
  refine lv_iconst (v := 0) hx hb dX11_ordersFilled_0 (by decide) ?_
  refine lv_istore_n (lv' := [(1, .int (0)), (0, .ref (B (0)))]) hx hb dX11_ordersFilled_1 rfl hl (by decide) rfl (fun ls hl => ?_)
  refine lv_iconst (v := 0) hx hb dX11_ordersFilled_2 (by decide) ?_
  refine lv_istore_n (lv' := [(2, .int (0)), (1, .int (0)), (0, .ref (B (0)))]) hx hb dX11_ordersFilled_3 rfl hl (by decide) rfl (fun ls hl => ?_)
  have lo_a : ∀ (n i : Nat)  (H : Heap) (locs : List Loc) (ls : Array Slot), i ≤ 6 → 6 < i + n → Wd E tt A s (wl E X B F G P) H locs → lv_has ls 3 [(0, .ref (B (0))), (1, .int (cntF (vF F 127) (min i no))), (2, .int (nI i))] → W p l e (rmO 0 0 0) s m ([.ref (B (0))] : List Value).toArray below meth c H locs 0 0 (MQ below (Fin0 E (fun r w => r = some (.int (cntF (vF F 127) no)) ∧ w = (wl E X B F G P)) A) ([.ref (B (0))] : List Value).toArray s 0 0 A) (F0 m 4 ls []) := by
    intro n
    induction n with
    | zero =>
      intro i  H locs ls hi_1 hi_2
      exact absurd hi_2 (by omega)
    | succ n ih_a =>
      intro i  H locs ls hi_a hj_a  hw hl
      refine lv_iload_n hx hb dX11_ordersFilled_4 rfl (lv_at hl 2 rfl) ?_
      refine lv_aload_n hx hb dX11_ordersFilled_5 rfl (lv_at hl 0 rfl) ?_
      refine g_r 5 (k2 := 69) C hw (hR.f rfl) rfl fl_X11_42 rfl (hR.p0 5 (by decide)) dX11_ordersFilled_6 ?_
      refine a_n (v := 6) C hw (hR.f rfl) (by decide) (by decide) rfl dX11_ordersFilled_9 ?_
      refine lv_icmp_ge (tgt := 43) hx hb dX11_ordersFilled_10 (by decide) (fun c_10 => ?_) (fun c_10 => ?_)
      · have he : i = 6 := lp_eq (b := 6) (by decide) (by omega) c_10
        subst he
        refine lv_iload_n hx hb dX11_ordersFilled_43 rfl (lv_at hl 1 rfl) ?_
        exact r_i C hr hlk hw ⟨(by rw [show min 6 no = no by omega]), rfl⟩ dX11_ordersFilled_44
      · have hlt : i < 6 := lp_lt (b := 6) (by decide) (by omega) c_10
        by_cases hin : i < no
        rotate_left 1
        · refine lv_aload_n hx hb dX11_ordersFilled_13 rfl (lv_at hl 0 rfl) ?_
          refine g_r 5 (k2 := 69) C hw (hR.f rfl) rfl fl_X11_42 rfl (hR.p0 5 (by decide)) dX11_ordersFilled_14 ?_
          refine lv_iload_n hx hb dX11_ordersFilled_17 rfl (lv_at hl 2 rfl) ?_
          refine n_q i (r := 19) C hw (hR.f rfl) rfl (by decide) rfl rfl (show _ < 6 by omega) dX11_ordersFilled_18 ?_
          rw [hR.po hlt, if_neg hin]
          refine W.eq (g2 := F0 m 19 ls [.null]) rfl ?_
          refine lv_ifnullN (tgt := 37) hx hb dX11_ordersFilled_19 (by decide) ?_
          have hl : lv_has ls 3 [(0, .ref (B (0))), (1, .int (cntF (vF F 127) (min (i + 1) no))), (2, .int (nI i))] := by rw [show min (i + 1) no = min i no by omega]; exact hl
          refine lv_iinc (v := nI (i + 1)) (lv' := [(2, .int (nI (i + 1))), (0, .ref (B (0))), (1, .int (cntF (vF F 127) (min (i + 1) no)))]) hx hb dX11_ordersFilled_37 hl (k := 2) rfl (nI_1 _) (by decide) rfl (fun ls hl => ?_)
          refine lv_goto (tgt := 4) hx hb dX11_ordersFilled_40 (by decide) ?_
          exact ih_a (i + 1)  _ _ _ (by omega) (by omega)  hw (lv_sub hl [1, 2, 0] rfl)
        refine lv_aload_n hx hb dX11_ordersFilled_13 rfl (lv_at hl 0 rfl) ?_
        refine g_r 5 (k2 := 69) C hw (hR.f rfl) rfl fl_X11_42 rfl (hR.p0 5 (by decide)) dX11_ordersFilled_14 ?_
        refine lv_iload_n hx hb dX11_ordersFilled_17 rfl (lv_at hl 2 rfl) ?_
        refine n_r i (k2 := 70 + i) (r := 19) C hw (hR.f rfl) rfl (by decide) rfl rfl (show _ < 6 by omega) ((hR.po hlt).trans (if_pos hin)) dX11_ordersFilled_18 ?_
        refine lv_ifnull hx hb dX11_ordersFilled_19 ?_
        refine lv_aload_n hx hb dX11_ordersFilled_22 rfl (lv_at hl 0 rfl) ?_
        refine g_r 5 (k2 := 69) C hw (hR.f rfl) rfl fl_X11_42 rfl (hR.p0 5 (by decide)) dX11_ordersFilled_23 ?_
        refine lv_iload_n hx hb dX11_ordersFilled_26 rfl (lv_at hl 2 rfl) ?_
        refine n_r i (k2 := 70 + i) (r := 19) C hw (hR.f rfl) rfl (by decide) rfl rfl (show _ < 6 by omega) ((hR.po hlt).trans (if_pos hin)) dX11_ordersFilled_27 ?_
        refine g_i 4 C hw (hR.xo (by omega)) (kd_order (by omega)) fl_X11_327 rfl dX11_ordersFilled_28 ?_
        refine lv_if_eq (tgt := 37) hx hb dX11_ordersFilled_31 (by decide) (fun c_31 => ?_) (fun c_31 => ?_)
        · have vo4 := vF_at (lc_o4 (o := i) hlt) F
          have hl : lv_has ls 3 [(0, .ref (B (0))), (1, .int (cntF (vF F 127) (min (i + 1) no))), (2, .int (nI i))] := by rw [← cntF_n (fun _ => by rw [vo4]; exact c_31)]; exact hl
          refine lv_iinc (v := nI (i + 1)) (lv' := [(2, .int (nI (i + 1))), (0, .ref (B (0))), (1, .int (cntF (vF F 127) (min (i + 1) no)))]) hx hb dX11_ordersFilled_37 hl (k := 2) rfl (nI_1 _) (by decide) rfl (fun ls hl => ?_)
          refine lv_goto (tgt := 4) hx hb dX11_ordersFilled_40 (by decide) ?_
          exact ih_a (i + 1)  _ _ _ (by omega) (by omega)  hw (lv_sub hl [1, 2, 0] rfl)
        · refine lv_iinc (v := (cntF (vF F 127) (min i no)) + 1) (lv' := [(1, .int ((cntF (vF F 127) (min i no)) + 1)), (0, .ref (B (0))), (2, .int (nI i))]) hx hb dX11_ordersFilled_34 hl (k := 1) rfl rfl (by decide) rfl (fun ls hl => ?_)
          have vo4 := vF_at (lc_o4 (o := i) hlt) F
          have hl : lv_has ls 3 [(1, .int (cntF (vF F 127) (min (i + 1) no))), (0, .ref (B (0))), (2, .int (nI i))] := by rw [← cntF_y hin (by rw [vo4]; exact c_31)]; exact hl
          refine lv_iinc (v := nI (i + 1)) (lv' := [(2, .int (nI (i + 1))), (1, .int (cntF (vF F 127) (min (i + 1) no))), (0, .ref (B (0)))]) hx hb dX11_ordersFilled_37 hl (k := 2) rfl (nI_1 _) (by decide) rfl (fun ls hl => ?_)
          refine lv_goto (tgt := 4) hx hb dX11_ordersFilled_40 (by decide) ?_
          exact ih_a (i + 1)  _ _ _ (by omega) (by omega)  hw (lv_sub hl [2, 1, 0] rfl)
  exact lo_a (6 + 1) 0  _ _ _ (by omega) (by omega)  hw (lv_sub hl [2, 1, 0] rfl)

set_option maxHeartbeats 4000000 in
set_option maxRecDepth 100000 in
theorem c_X11_count (E : cE) (tt : Nat × Nat × Nat) {X : List Nat} (B : Nat → Nat) (F : tF) (G : tG) {P : tP} {nh : Nat → Nat} {nc no : Nat} {mt om : Nat → Nat} (hR : RC X P nh nc no mt om) (hCK : CK F G nc) {nn : Nat} (hnc : F 0 10 = nI nc) (hno : F 0 11 = nI no) (hnn : F 76 2 = nI nn) (w0 : Int32)  : CT E tt yX11_count cX11_count 2 (some .int) 5 0 0 [.ref (B (0)), .int (w0)] (wl E X B F G P) (fun r w => r = some (.int (sp_count (vF F) (vG G) nc no nn w0)) ∧ w = (wl E X B F G P)) := by
  refine CT.mk (by decide +kernel) (Nat.le_of_ble_eq_true rfl) ?_
  intro l p e s m below meth c A ls C hr hlk hnm hw hl
  have hx := C.1
  have hb := C.2.1
  have hts := C.2.2.2.2
  have hown : s.vm.findClass RX11 = some m.cls := C.2.2.2.1
  have hl : lv_has ls 2 [(0, .ref (B (0))), (1, .int (w0))] := hl
  refine lv_iload_n hx hb dX11_count_0 rfl (lv_at hl 1 rfl) ?_
  rcases sw_7 w0 with h_sw | h_sw | h_sw | h_sw | h_sw | h_sw | h_sw | h_sw
  · refine lv_tableIn (tgt := 44) hx hb dX11_count_1 (by rw [h_sw]; decide) (by rw [h_sw]; decide) (by rw [h_sw]; rfl) (by decide) ?_
    refine lv_aload_n hx hb dX11_count_44 rfl (lv_at hl 0 rfl) ?_
    refine g_i 10 C hw (hR.f rfl) rfl fl_X11_166 rfl dX11_count_45 ?_
    refine tp_i (y := nI nc) (hnc) ?_
    exact r_i C hr hlk hw ⟨(by simp [sp_count, h_sw, vF_at lc_x34, vF_at lc_x35]), rfl⟩ dX11_count_48
  · refine lv_tableIn (tgt := 49) hx hb dX11_count_1 (by rw [h_sw]; decide) (by rw [h_sw]; decide) (by rw [h_sw]; rfl) (by decide) ?_
    refine lv_aload_n hx hb dX11_count_49 rfl (lv_at hl 0 rfl) ?_
    refine kV C hw (c_X11_coilsLeft E tt B F G hR hCK) vy_X11_coilsLeft ml_X11_372 (rcv hw (hR.f rfl) rfl (by decide) (q2 := (RX11, TX11, 19)) rfl) rfl hl.1 (rest := []) rfl dX11_count_50 (Nat.le_of_ble_eq_true rfl) ⟨by decide, by decide⟩ ⟨Nat.le_of_ble_eq_true rfl, Nat.le_of_ble_eq_true rfl⟩ (fun v_50 ws_50 H locs hp_50 hq_50 => ?_)
    clear hw
    obtain ⟨rfl, rfl⟩ := hp_50
    have hw := hq_50
    refine W.eq (g2 := F0 m 53 ls [.int (cntL (vG G 118) nc)]) rfl ?_
    exact r_i C hr hlk hw ⟨(by simp [sp_count, h_sw, vF_at lc_x34, vF_at lc_x35]), rfl⟩ dX11_count_53
  · refine lv_tableIn (tgt := 54) hx hb dX11_count_1 (by rw [h_sw]; decide) (by rw [h_sw]; decide) (by rw [h_sw]; rfl) (by decide) ?_
    refine lv_aload_n hx hb dX11_count_54 rfl (lv_at hl 0 rfl) ?_
    refine g_i 11 C hw (hR.f rfl) rfl fl_X11_298 rfl dX11_count_55 ?_
    refine tp_i (y := nI no) (hno) ?_
    exact r_i C hr hlk hw ⟨(by simp [sp_count, h_sw, vF_at lc_x34, vF_at lc_x35]), rfl⟩ dX11_count_58
  · refine lv_tableIn (tgt := 59) hx hb dX11_count_1 (by rw [h_sw]; decide) (by rw [h_sw]; decide) (by rw [h_sw]; rfl) (by decide) ?_
    refine lv_aload_n hx hb dX11_count_59 rfl (lv_at hl 0 rfl) ?_
    refine kV C hw (c_X11_ordersFilled E tt B F G hR) vy_X11_ordersFilled ml_X11_375 (rcv hw (hR.f rfl) rfl (by decide) (q2 := (RX11, TX11, 19)) rfl) rfl hl.1 (rest := []) rfl dX11_count_60 (Nat.le_of_ble_eq_true rfl) ⟨by decide, by decide⟩ ⟨Nat.le_of_ble_eq_true rfl, Nat.le_of_ble_eq_true rfl⟩ (fun v_60 ws_60 H locs hp_60 hq_60 => ?_)
    clear hw
    obtain ⟨rfl, rfl⟩ := hp_60
    have hw := hq_60
    refine W.eq (g2 := F0 m 63 ls [.int (cntF (vF F 127) no)]) rfl ?_
    exact r_i C hr hlk hw ⟨(by simp [sp_count, h_sw, vF_at lc_x34, vF_at lc_x35]), rfl⟩ dX11_count_63
  · refine lv_tableIn (tgt := 64) hx hb dX11_count_1 (by rw [h_sw]; decide) (by rw [h_sw]; decide) (by rw [h_sw]; rfl) (by decide) ?_
    refine lv_aload_n hx hb dX11_count_64 rfl (lv_at hl 0 rfl) ?_
    refine g_r 6 (k2 := 76) C hw (hR.f rfl) rfl fl_X11_49 rfl (hR.p0 6 (by decide)) dX11_count_65 ?_
    refine g_i 2 C hw (hR.f rfl) rfl fl_X11_378 rfl dX11_count_68 ?_
    refine tp_i (y := nI nn) (hnn) ?_
    exact r_i C hr hlk hw ⟨(by simp [sp_count, h_sw, vF_at lc_x34, vF_at lc_x35]), rfl⟩ dX11_count_71
  · refine lv_tableIn (tgt := 72) hx hb dX11_count_1 (by rw [h_sw]; decide) (by rw [h_sw]; decide) (by rw [h_sw]; rfl) (by decide) ?_
    refine lv_aload_n hx hb dX11_count_72 rfl (lv_at hl 0 rfl) ?_
    refine g_i 17 C hw (hR.f rfl) rfl fl_X11_379 rfl dX11_count_73 ?_
    exact r_i C hr hlk hw ⟨(by simp [sp_count, h_sw, vF_at lc_x34, vF_at lc_x35]), rfl⟩ dX11_count_76
  · refine lv_tableIn (tgt := 77) hx hb dX11_count_1 (by rw [h_sw]; decide) (by rw [h_sw]; decide) (by rw [h_sw]; rfl) (by decide) ?_
    refine lv_aload_n hx hb dX11_count_77 rfl (lv_at hl 0 rfl) ?_
    refine g_i 18 C hw (hR.f rfl) rfl fl_X11_260 rfl dX11_count_78 ?_
    exact r_i C hr hlk hw ⟨(by simp [sp_count, h_sw, vF_at lc_x34, vF_at lc_x35]), rfl⟩ dX11_count_81
  · refine lv_tableOut (tgt := 82) hx hb dX11_count_1 h_sw (by decide) ?_
    refine lv_bipush (v := -3) hx hb dX11_count_82 (by decide) ?_
    exact r_i C hr hlk hw ⟨(by simp [sp_count, sw_no h_sw (y := 0) (by decide) (by decide), sw_no h_sw (y := 1) (by decide) (by decide), sw_no h_sw (y := 2) (by decide) (by decide), sw_no h_sw (y := 3) (by decide) (by decide), sw_no h_sw (y := 4) (by decide) (by decide), sw_no h_sw (y := 5) (by decide) (by decide), sw_no h_sw (y := 6) (by decide) (by decide)]), rfl⟩ dX11_count_84

set_option maxHeartbeats 4000000 in
set_option maxRecDepth 100000 in
theorem c_X5_share (E : cE) (tt : Nat × Nat × Nat) {X : List Nat} (B : Nat → Nat) (F : tF) (G : tG) {P : tP} {nh : Nat → Nat} {nc no : Nat} {mt om : Nat → Nat} (hR : RC X P nh nc no mt om) {nn : Nat} (hNK : NK F nn) (ca : Int32) {wh : Nat} (hw4 : wh < 4)  : CT E tt yX5_share cX5_share 6 (some .int) 0 0 0 [.ref (B (76)), .int (ca), .int (nI wh)] (wl E X B F G P) (fun r w => r = some (.int (nI (tlN F ca wh nn))) ∧ w = (wl E X B F G P)) := by
  refine CT.mk (by decide +kernel) (Nat.le_of_ble_eq_true rfl) ?_
  intro l p e s m below meth c A ls C hr hlk hnm hw hl
  have hx := C.1
  have hb := C.2.1
  have hts := C.2.2.2.2
  have hown : s.vm.findClass RX5 = some m.cls := C.2.2.2.1
  have hl : lv_has ls 6 [(0, .ref (B (76))), (1, .int (ca)), (2, .int (nI wh))] := hl
  refine lv_iconst (v := 0) hx hb dX5_share_0 (by decide) ?_
  refine lv_istore_n (lv' := [(3, .int (0)), (0, .ref (B (76))), (1, .int (ca)), (2, .int (nI wh))]) hx hb dX5_share_1 rfl hl (by decide) rfl (fun ls hl => ?_)
  refine lv_iload_n hx hb dX5_share_2 rfl (lv_at hl 3 rfl) ?_
  refine lv_iconst (v := 2) hx hb dX5_share_3 (by decide) ?_
  refine lv_icmp_ge (tgt := 11) hx hb dX5_share_4 (by decide) (fun c_4 => ?_) (fun c_4 => ?_)
  · have hw2 : ¬ wh < 2 := by have := (nI_leI (a := 2) (by decide) (by omega)).mp c_4; omega
    refine lv_iconst (v := 0) hx hb dX5_share_11 (by decide) ?_
    refine tp_i (y := if wh < 2 then (1 : Int32) else 0) (by rw [if_neg hw2]) ?_
    refine lv_istore (lv' := [(4, .int (if wh < 2 then (1 : Int32) else 0)), (3, .int (0)), (0, .ref (B (76))), (1, .int (ca)), (2, .int (nI wh))]) hx hb dX5_share_12 hl (by decide) rfl (fun ls hl => ?_)
    refine lv_iconst (v := 0) hx hb dX5_share_14 (by decide) ?_
    refine lv_istore (lv' := [(5, .int (0)), (4, .int (if wh < 2 then (1 : Int32) else 0)), (3, .int (0)), (0, .ref (B (76))), (1, .int (ca)), (2, .int (nI wh))]) hx hb dX5_share_15 hl (by decide) rfl (fun ls hl => ?_)
    have lo_a : ∀ (n b : Nat)  (H : Heap) (locs : List Loc) (ls : Array Slot), b ≤ 8 → 8 < b + n → Wd E tt A s (wl E X B F G P) H locs → lv_has ls 6 [(0, .ref (B (76))), (1, .int (ca)), (2, .int (nI wh)), (3, .int (nI (shr F ca wh nn b))), (4, .int (if wh < 2 then (1 : Int32) else 0)), (5, .int (nI b))] → W p l e (rmO 0 0 0) s m ([.ref (B (76)), .int (ca), .int (nI wh)] : List Value).toArray below meth c H locs 0 0 (MQ below (Fin0 E (fun r w => r = some (.int (nI (tlN F ca wh nn))) ∧ w = (wl E X B F G P)) A) ([.ref (B (76)), .int (ca), .int (nI wh)] : List Value).toArray s 0 0 A) (F0 m 17 ls []) := by
      intro n
      induction n with
      | zero =>
        intro b  H locs ls hi_1 hi_2
        exact absurd hi_2 (by omega)
      | succ n ih_a =>
        intro b  H locs ls hi_a hj_a  hw hl
        refine lv_iload hx hb dX5_share_17 (lv_at hl 5 rfl) ?_
        refine lv_bipush (v := 8) hx hb dX5_share_19 (by decide) ?_
        refine lv_icmp_ge (tgt := 67) hx hb dX5_share_21 (by decide) (fun c_21 => ?_) (fun c_21 => ?_)
        · have he : b = 8 := lp_eq (b := 8) (by decide) (by omega) c_21
          subst he
          refine lv_iload_n hx hb dX5_share_67 rfl (lv_at hl 3 rfl) ?_
          exact r_i C hr hlk hw ⟨(by rw [shr_tl hw4 nn hNK.2.1]), rfl⟩ dX5_share_68
        · have hlt : b < 8 := lp_lt (b := 8) (by decide) (by omega) c_21
          refine lv_iload hx hb dX5_share_24 (lv_at hl 5 rfl) ?_
          refine lv_iload_n hx hb dX5_share_26 rfl (lv_at hl 1 rfl) ?_
          refine lv_ishr hx hb dX5_share_27 ?_
          refine lv_iconst (v := 1) hx hb dX5_share_28 (by decide) ?_
          refine lv_iand hx hb dX5_share_29 ?_
          refine lv_iload hx hb dX5_share_30 (lv_at hl 4 rfl) ?_
          refine lv_icmp_ne (tgt := 61) hx hb dX5_share_32 (by decide) (fun c_32 => ?_) (fun c_32 => ?_)
          · have hl : lv_has ls 6 [(0, .ref (B (76))), (1, .int (ca)), (2, .int (nI wh)), (3, .int (nI (shr F ca wh nn (b + 1)))), (4, .int (if wh < 2 then (1 : Int32) else 0)), (5, .int (nI b))] := by rw [← shr_0 (fun h9 => c_32 (of_decide_eq_true h9))]; exact hl
            refine lv_iinc (v := nI (b + 1)) (lv' := [(5, .int (nI (b + 1))), (0, .ref (B (76))), (1, .int (ca)), (2, .int (nI wh)), (3, .int (nI (shr F ca wh nn (b + 1)))), (4, .int (if wh < 2 then (1 : Int32) else 0))]) hx hb dX5_share_61 hl (k := 5) rfl (nI_1 _) (by decide) rfl (fun ls hl => ?_)
            refine lv_goto (tgt := 17) hx hb dX5_share_64 (by decide) ?_
            exact ih_a (b + 1)  _ _ _ (by omega) (by omega)  hw (lv_sub hl [1, 2, 3, 4, 5, 0] rfl)
          · refine lv_iload_n hx hb dX5_share_35 rfl (lv_at hl 3 rfl) ?_
            refine lv_iload_n hx hb dX5_share_36 rfl (lv_at hl 2 rfl) ?_
            refine lv_iconst (v := 2) hx hb dX5_share_37 (by decide) ?_
            refine lv_irem hx hb dX5_share_38 (by decide) ?_
            refine tp_i (y := nI (wh % 2)) (pk_rem (a := wh) (d := 2) (by omega) (by decide) (by decide)) ?_
            refine lv_if_ne (tgt := 52) hx hb dX5_share_39 (by decide) (fun c_39 => ?_) (fun c_39 => ?_)
            · have hw3 : wh % 2 = 1 := by have : ¬ wh % 2 = 0 := fun h9 => c_39 (by rw [h9]; rfl); omega
              refine lv_aload_n hx hb dX5_share_52 rfl (lv_at hl 0 rfl) ?_
              refine g_r 1 (k2 := 78) C hw (hR.f rfl) rfl fl_X5_15 rfl hR.q76b dX5_share_53 ?_
              refine lv_iload hx hb dX5_share_56 (lv_at hl 5 rfl) ?_
              refine n_i b C hw (hR.f rfl) rfl rfl (show _ < 8 by omega) dX5_share_58 ?_
              refine tp_i (y := nI (cN F b (decide (wh % 2 = 1)) nn)) (by rw [(hNK.1 b hlt).2, decide_eq_true hw3]) ?_
              refine lv_iadd hx hb dX5_share_59 ?_
              refine tp_i (y := nI (shr F ca wh nn (b + 1))) (shr_1 (decide_eq_true c_32)) ?_
              refine lv_istore_n (lv' := [(3, .int (nI (shr F ca wh nn (b + 1)))), (0, .ref (B (76))), (1, .int (ca)), (2, .int (nI wh)), (4, .int (if wh < 2 then (1 : Int32) else 0)), (5, .int (nI b))]) hx hb dX5_share_60 rfl hl (by decide) rfl (fun ls hl => ?_)
              refine lv_iinc (v := nI (b + 1)) (lv' := [(5, .int (nI (b + 1))), (3, .int (nI (shr F ca wh nn (b + 1)))), (0, .ref (B (76))), (1, .int (ca)), (2, .int (nI wh)), (4, .int (if wh < 2 then (1 : Int32) else 0))]) hx hb dX5_share_61 hl (k := 5) rfl (nI_1 _) (by decide) rfl (fun ls hl => ?_)
              refine lv_goto (tgt := 17) hx hb dX5_share_64 (by decide) ?_
              exact ih_a (b + 1)  _ _ _ (by omega) (by omega)  hw (lv_sub hl [2, 3, 4, 1, 5, 0] rfl)
            · have hw3 : ¬ wh % 2 = 1 := by have := (nI_eq (b := 0) (by omega) (by decide)).mp c_39; omega
              refine lv_aload_n hx hb dX5_share_42 rfl (lv_at hl 0 rfl) ?_
              refine g_r 0 (k2 := 77) C hw (hR.f rfl) rfl fl_X5_11 rfl hR.q76 dX5_share_43 ?_
              refine lv_iload hx hb dX5_share_46 (lv_at hl 5 rfl) ?_
              refine n_i b C hw (hR.f rfl) rfl rfl (show _ < 8 by omega) dX5_share_48 ?_
              refine tp_i (y := nI (cN F b (decide (wh % 2 = 1)) nn)) (by rw [(hNK.1 b hlt).1, decide_eq_false hw3]) ?_
              refine lv_goto (tgt := 59) hx hb dX5_share_49 (by decide) ?_
              refine lv_iadd hx hb dX5_share_59 ?_
              refine tp_i (y := nI (shr F ca wh nn (b + 1))) (shr_1 (decide_eq_true c_32)) ?_
              refine lv_istore_n (lv' := [(3, .int (nI (shr F ca wh nn (b + 1)))), (0, .ref (B (76))), (1, .int (ca)), (2, .int (nI wh)), (4, .int (if wh < 2 then (1 : Int32) else 0)), (5, .int (nI b))]) hx hb dX5_share_60 rfl hl (by decide) rfl (fun ls hl => ?_)
              refine lv_iinc (v := nI (b + 1)) (lv' := [(5, .int (nI (b + 1))), (3, .int (nI (shr F ca wh nn (b + 1)))), (0, .ref (B (76))), (1, .int (ca)), (2, .int (nI wh)), (4, .int (if wh < 2 then (1 : Int32) else 0))]) hx hb dX5_share_61 hl (k := 5) rfl (nI_1 _) (by decide) rfl (fun ls hl => ?_)
              refine lv_goto (tgt := 17) hx hb dX5_share_64 (by decide) ?_
              exact ih_a (b + 1)  _ _ _ (by omega) (by omega)  hw (lv_sub hl [2, 3, 4, 1, 5, 0] rfl)
    exact lo_a (8 + 1) 0  _ _ _ (by omega) (by omega)  hw (lv_sub hl [3, 4, 5, 2, 1, 0] rfl)
  · have hw2 : wh < 2 := by rcases Nat.lt_or_ge wh 2 with h9 | h9; exact h9; exact absurd ((nI_leI (a := 2) (by decide) (by omega)).mpr h9) c_4
    refine lv_iconst (v := 1) hx hb dX5_share_7 (by decide) ?_
    refine lv_goto (tgt := 12) hx hb dX5_share_8 (by decide) ?_
    refine tp_i (y := if wh < 2 then (1 : Int32) else 0) (by rw [if_pos hw2]) ?_
    refine lv_istore (lv' := [(4, .int (if wh < 2 then (1 : Int32) else 0)), (3, .int (0)), (0, .ref (B (76))), (1, .int (ca)), (2, .int (nI wh))]) hx hb dX5_share_12 hl (by decide) rfl (fun ls hl => ?_)
    refine lv_iconst (v := 0) hx hb dX5_share_14 (by decide) ?_
    refine lv_istore (lv' := [(5, .int (0)), (4, .int (if wh < 2 then (1 : Int32) else 0)), (3, .int (0)), (0, .ref (B (76))), (1, .int (ca)), (2, .int (nI wh))]) hx hb dX5_share_15 hl (by decide) rfl (fun ls hl => ?_)
    have lo_a : ∀ (n b : Nat)  (H : Heap) (locs : List Loc) (ls : Array Slot), b ≤ 8 → 8 < b + n → Wd E tt A s (wl E X B F G P) H locs → lv_has ls 6 [(0, .ref (B (76))), (1, .int (ca)), (2, .int (nI wh)), (3, .int (nI (shr F ca wh nn b))), (4, .int (if wh < 2 then (1 : Int32) else 0)), (5, .int (nI b))] → W p l e (rmO 0 0 0) s m ([.ref (B (76)), .int (ca), .int (nI wh)] : List Value).toArray below meth c H locs 0 0 (MQ below (Fin0 E (fun r w => r = some (.int (nI (tlN F ca wh nn))) ∧ w = (wl E X B F G P)) A) ([.ref (B (76)), .int (ca), .int (nI wh)] : List Value).toArray s 0 0 A) (F0 m 17 ls []) := by
      intro n
      induction n with
      | zero =>
        intro b  H locs ls hi_1 hi_2
        exact absurd hi_2 (by omega)
      | succ n ih_a =>
        intro b  H locs ls hi_a hj_a  hw hl
        refine lv_iload hx hb dX5_share_17 (lv_at hl 5 rfl) ?_
        refine lv_bipush (v := 8) hx hb dX5_share_19 (by decide) ?_
        refine lv_icmp_ge (tgt := 67) hx hb dX5_share_21 (by decide) (fun c_21 => ?_) (fun c_21 => ?_)
        · have he : b = 8 := lp_eq (b := 8) (by decide) (by omega) c_21
          subst he
          refine lv_iload_n hx hb dX5_share_67 rfl (lv_at hl 3 rfl) ?_
          exact r_i C hr hlk hw ⟨(by rw [shr_tl hw4 nn hNK.2.1]), rfl⟩ dX5_share_68
        · have hlt : b < 8 := lp_lt (b := 8) (by decide) (by omega) c_21
          refine lv_iload hx hb dX5_share_24 (lv_at hl 5 rfl) ?_
          refine lv_iload_n hx hb dX5_share_26 rfl (lv_at hl 1 rfl) ?_
          refine lv_ishr hx hb dX5_share_27 ?_
          refine lv_iconst (v := 1) hx hb dX5_share_28 (by decide) ?_
          refine lv_iand hx hb dX5_share_29 ?_
          refine lv_iload hx hb dX5_share_30 (lv_at hl 4 rfl) ?_
          refine lv_icmp_ne (tgt := 61) hx hb dX5_share_32 (by decide) (fun c_32 => ?_) (fun c_32 => ?_)
          · have hl : lv_has ls 6 [(0, .ref (B (76))), (1, .int (ca)), (2, .int (nI wh)), (3, .int (nI (shr F ca wh nn (b + 1)))), (4, .int (if wh < 2 then (1 : Int32) else 0)), (5, .int (nI b))] := by rw [← shr_0 (fun h9 => c_32 (of_decide_eq_true h9))]; exact hl
            refine lv_iinc (v := nI (b + 1)) (lv' := [(5, .int (nI (b + 1))), (0, .ref (B (76))), (1, .int (ca)), (2, .int (nI wh)), (3, .int (nI (shr F ca wh nn (b + 1)))), (4, .int (if wh < 2 then (1 : Int32) else 0))]) hx hb dX5_share_61 hl (k := 5) rfl (nI_1 _) (by decide) rfl (fun ls hl => ?_)
            refine lv_goto (tgt := 17) hx hb dX5_share_64 (by decide) ?_
            exact ih_a (b + 1)  _ _ _ (by omega) (by omega)  hw (lv_sub hl [1, 2, 3, 4, 5, 0] rfl)
          · refine lv_iload_n hx hb dX5_share_35 rfl (lv_at hl 3 rfl) ?_
            refine lv_iload_n hx hb dX5_share_36 rfl (lv_at hl 2 rfl) ?_
            refine lv_iconst (v := 2) hx hb dX5_share_37 (by decide) ?_
            refine lv_irem hx hb dX5_share_38 (by decide) ?_
            refine tp_i (y := nI (wh % 2)) (pk_rem (a := wh) (d := 2) (by omega) (by decide) (by decide)) ?_
            refine lv_if_ne (tgt := 52) hx hb dX5_share_39 (by decide) (fun c_39 => ?_) (fun c_39 => ?_)
            · have hw3 : wh % 2 = 1 := by have : ¬ wh % 2 = 0 := fun h9 => c_39 (by rw [h9]; rfl); omega
              refine lv_aload_n hx hb dX5_share_52 rfl (lv_at hl 0 rfl) ?_
              refine g_r 1 (k2 := 78) C hw (hR.f rfl) rfl fl_X5_15 rfl hR.q76b dX5_share_53 ?_
              refine lv_iload hx hb dX5_share_56 (lv_at hl 5 rfl) ?_
              refine n_i b C hw (hR.f rfl) rfl rfl (show _ < 8 by omega) dX5_share_58 ?_
              refine tp_i (y := nI (cN F b (decide (wh % 2 = 1)) nn)) (by rw [(hNK.1 b hlt).2, decide_eq_true hw3]) ?_
              refine lv_iadd hx hb dX5_share_59 ?_
              refine tp_i (y := nI (shr F ca wh nn (b + 1))) (shr_1 (decide_eq_true c_32)) ?_
              refine lv_istore_n (lv' := [(3, .int (nI (shr F ca wh nn (b + 1)))), (0, .ref (B (76))), (1, .int (ca)), (2, .int (nI wh)), (4, .int (if wh < 2 then (1 : Int32) else 0)), (5, .int (nI b))]) hx hb dX5_share_60 rfl hl (by decide) rfl (fun ls hl => ?_)
              refine lv_iinc (v := nI (b + 1)) (lv' := [(5, .int (nI (b + 1))), (3, .int (nI (shr F ca wh nn (b + 1)))), (0, .ref (B (76))), (1, .int (ca)), (2, .int (nI wh)), (4, .int (if wh < 2 then (1 : Int32) else 0))]) hx hb dX5_share_61 hl (k := 5) rfl (nI_1 _) (by decide) rfl (fun ls hl => ?_)
              refine lv_goto (tgt := 17) hx hb dX5_share_64 (by decide) ?_
              exact ih_a (b + 1)  _ _ _ (by omega) (by omega)  hw (lv_sub hl [2, 3, 4, 1, 5, 0] rfl)
            · have hw3 : ¬ wh % 2 = 1 := by have := (nI_eq (b := 0) (by omega) (by decide)).mp c_39; omega
              refine lv_aload_n hx hb dX5_share_42 rfl (lv_at hl 0 rfl) ?_
              refine g_r 0 (k2 := 77) C hw (hR.f rfl) rfl fl_X5_11 rfl hR.q76 dX5_share_43 ?_
              refine lv_iload hx hb dX5_share_46 (lv_at hl 5 rfl) ?_
              refine n_i b C hw (hR.f rfl) rfl rfl (show _ < 8 by omega) dX5_share_48 ?_
              refine tp_i (y := nI (cN F b (decide (wh % 2 = 1)) nn)) (by rw [(hNK.1 b hlt).1, decide_eq_false hw3]) ?_
              refine lv_goto (tgt := 59) hx hb dX5_share_49 (by decide) ?_
              refine lv_iadd hx hb dX5_share_59 ?_
              refine tp_i (y := nI (shr F ca wh nn (b + 1))) (shr_1 (decide_eq_true c_32)) ?_
              refine lv_istore_n (lv' := [(3, .int (nI (shr F ca wh nn (b + 1)))), (0, .ref (B (76))), (1, .int (ca)), (2, .int (nI wh)), (4, .int (if wh < 2 then (1 : Int32) else 0)), (5, .int (nI b))]) hx hb dX5_share_60 rfl hl (by decide) rfl (fun ls hl => ?_)
              refine lv_iinc (v := nI (b + 1)) (lv' := [(5, .int (nI (b + 1))), (3, .int (nI (shr F ca wh nn (b + 1)))), (0, .ref (B (76))), (1, .int (ca)), (2, .int (nI wh)), (4, .int (if wh < 2 then (1 : Int32) else 0))]) hx hb dX5_share_61 hl (k := 5) rfl (nI_1 _) (by decide) rfl (fun ls hl => ?_)
              refine lv_goto (tgt := 17) hx hb dX5_share_64 (by decide) ?_
              exact ih_a (b + 1)  _ _ _ (by omega) (by omega)  hw (lv_sub hl [2, 3, 4, 1, 5, 0] rfl)
    exact lo_a (8 + 1) 0  _ _ _ (by omega) (by omega)  hw (lv_sub hl [3, 4, 5, 2, 1, 0] rfl)

set_option maxHeartbeats 4000000 in
set_option maxRecDepth 100000 in
theorem c_X5_above (E : cE) (tt : Nat × Nat × Nat) {X : List Nat} (B : Nat → Nat) (F : tF) (G : tG) {P : tP} {nh : Nat → Nat} {nc no : Nat} {mt om : Nat → Nat} (hR : RC X P nh nc no mt om) {nn : Nat} (hNK : NK F nn) (ca : Int32)  : CT E tt yX5_above cX5_above 2 (some .int) 1 0 0 [.ref (B (76)), .int (ca)] (wl E X B F G P) (fun r w => r = some (.int (w_above F nn ca)) ∧ w = (wl E X B F G P)) := by
  refine CT.mk (by decide +kernel) (Nat.le_of_ble_eq_true rfl) ?_
  intro l p e s m below meth c A ls C hr hlk hnm hw hl
  have hx := C.1
  have hb := C.2.1
  have hts := C.2.2.2.2
  have hown : s.vm.findClass RX5 = some m.cls := C.2.2.2.1
  have hl : lv_has ls 2 [(0, .ref (B (76))), (1, .int (ca))] := hl
  refine lv_aload_n hx hb dX5_above_0 rfl (lv_at hl 0 rfl) ?_
  refine lv_iload_n hx hb dX5_above_1 rfl (lv_at hl 1 rfl) ?_
  refine lv_iconst (v := 0) hx hb dX5_above_2 (by decide) ?_
  refine kV C hw (c_X5_share E tt B F G hR hNK (ca) (wh := 0) (by omega)) vy_X5_share ml_X5_22 (rcv hw (hR.f rfl) rfl (by decide) (q2 := (RX5, TX5, 3)) rfl) rfl hl.1 (rest := []) rfl dX5_above_3 (Nat.le_of_ble_eq_true rfl) ⟨by decide, by decide⟩ ⟨Nat.le_of_ble_eq_true rfl, Nat.le_of_ble_eq_true rfl⟩ (fun v_3 ws_3 H locs hp_3 hq_3 => ?_)
  clear hw
  obtain ⟨rfl, rfl⟩ := hp_3
  have hw := hq_3
  refine W.eq (g2 := F0 m 6 ls [.int (nI (tlN F (ca) 0 nn))]) rfl ?_
  refine lv_aload_n hx hb dX5_above_6 rfl (lv_at hl 0 rfl) ?_
  refine lv_iload_n hx hb dX5_above_7 rfl (lv_at hl 1 rfl) ?_
  refine lv_iconst (v := 3) hx hb dX5_above_8 (by decide) ?_
  refine kV C hw (c_X5_share E tt B F G hR hNK (ca) (wh := 3) (by omega)) vy_X5_share ml_X5_22 (rcv hw (hR.f rfl) rfl (by decide) (q2 := (RX5, TX5, 3)) rfl) rfl hl.1 (rest := [.int (nI (tlN F (ca) 0 nn))]) rfl dX5_above_9 (Nat.le_of_ble_eq_true rfl) ⟨by decide, by decide⟩ ⟨Nat.le_of_ble_eq_true rfl, Nat.le_of_ble_eq_true rfl⟩ (fun v_9 ws_9 H locs hp_9 hq_9 => ?_)
  clear hw
  obtain ⟨rfl, rfl⟩ := hp_9
  have hw := hq_9
  refine W.eq (g2 := F0 m 12 ls [.int (nI (tlN F (ca) 3 nn)), .int (nI (tlN F (ca) 0 nn))]) rfl ?_
  refine lv_imul hx hb dX5_above_12 ?_
  refine lv_aload_n hx hb dX5_above_13 rfl (lv_at hl 0 rfl) ?_
  refine lv_iload_n hx hb dX5_above_14 rfl (lv_at hl 1 rfl) ?_
  refine lv_iconst (v := 1) hx hb dX5_above_15 (by decide) ?_
  refine kV C hw (c_X5_share E tt B F G hR hNK (ca) (wh := 1) (by omega)) vy_X5_share ml_X5_22 (rcv hw (hR.f rfl) rfl (by decide) (q2 := (RX5, TX5, 3)) rfl) rfl hl.1 (rest := [.int ((nI (tlN F (ca) 0 nn) * nI (tlN F (ca) 3 nn)))]) rfl dX5_above_16 (Nat.le_of_ble_eq_true rfl) ⟨by decide, by decide⟩ ⟨Nat.le_of_ble_eq_true rfl, Nat.le_of_ble_eq_true rfl⟩ (fun v_16 ws_16 H locs hp_16 hq_16 => ?_)
  clear hw
  obtain ⟨rfl, rfl⟩ := hp_16
  have hw := hq_16
  refine W.eq (g2 := F0 m 19 ls [.int (nI (tlN F (ca) 1 nn)), .int ((nI (tlN F (ca) 0 nn) * nI (tlN F (ca) 3 nn)))]) rfl ?_
  refine lv_aload_n hx hb dX5_above_19 rfl (lv_at hl 0 rfl) ?_
  refine lv_iload_n hx hb dX5_above_20 rfl (lv_at hl 1 rfl) ?_
  refine lv_iconst (v := 2) hx hb dX5_above_21 (by decide) ?_
  refine kV C hw (c_X5_share E tt B F G hR hNK (ca) (wh := 2) (by omega)) vy_X5_share ml_X5_22 (rcv hw (hR.f rfl) rfl (by decide) (q2 := (RX5, TX5, 3)) rfl) rfl hl.1 (rest := [.int (nI (tlN F (ca) 1 nn)), .int ((nI (tlN F (ca) 0 nn) * nI (tlN F (ca) 3 nn)))]) rfl dX5_above_22 (Nat.le_of_ble_eq_true rfl) ⟨by decide, by decide⟩ ⟨Nat.le_of_ble_eq_true rfl, Nat.le_of_ble_eq_true rfl⟩ (fun v_22 ws_22 H locs hp_22 hq_22 => ?_)
  clear hw
  obtain ⟨rfl, rfl⟩ := hp_22
  have hw := hq_22
  refine W.eq (g2 := F0 m 25 ls [.int (nI (tlN F (ca) 2 nn)), .int (nI (tlN F (ca) 1 nn)), .int ((nI (tlN F (ca) 0 nn) * nI (tlN F (ca) 3 nn)))]) rfl ?_
  refine lv_imul hx hb dX5_above_25 ?_
  refine lv_isub hx hb dX5_above_26 ?_
  exact r_i C hr hlk hw ⟨(by rw [ab_eq]), rfl⟩ dX5_above_27

set_option maxHeartbeats 4000000 in
set_option maxRecDepth 100000 in
theorem c_X5_below (E : cE) (tt : Nat × Nat × Nat) {X : List Nat} (B : Nat → Nat) (F : tF) (G : tG) {P : tP} {nh : Nat → Nat} {nc no : Nat} {mt om : Nat → Nat} (hR : RC X P nh nc no mt om) {nn : Nat} (hNK : NK F nn) (ca : Int32)  : CT E tt yX5_below cX5_below 2 (some .int) 1 0 0 [.ref (B (76)), .int (ca)] (wl E X B F G P) (fun r w => r = some (.int (nI (w_below F nn ca))) ∧ w = (wl E X B F G P)) := by
  refine CT.mk (by decide +kernel) (Nat.le_of_ble_eq_true rfl) ?_
  intro l p e s m below meth c A ls C hr hlk hnm hw hl
  have hx := C.1
  have hb := C.2.1
  have hts := C.2.2.2.2
  have hown : s.vm.findClass RX5 = some m.cls := C.2.2.2.1
  have hl : lv_has ls 2 [(0, .ref (B (76))), (1, .int (ca))] := hl
  refine lv_aload_n hx hb dX5_below_0 rfl (lv_at hl 0 rfl) ?_
  refine lv_iload_n hx hb dX5_below_1 rfl (lv_at hl 1 rfl) ?_
  refine lv_iconst (v := 0) hx hb dX5_below_2 (by decide) ?_
  refine kV C hw (c_X5_share E tt B F G hR hNK (ca) (wh := 0) (by omega)) vy_X5_share ml_X5_22 (rcv hw (hR.f rfl) rfl (by decide) (q2 := (RX5, TX5, 3)) rfl) rfl hl.1 (rest := []) rfl dX5_below_3 (Nat.le_of_ble_eq_true rfl) ⟨by decide, by decide⟩ ⟨Nat.le_of_ble_eq_true rfl, Nat.le_of_ble_eq_true rfl⟩ (fun v_3 ws_3 H locs hp_3 hq_3 => ?_)
  clear hw
  obtain ⟨rfl, rfl⟩ := hp_3
  have hw := hq_3
  refine W.eq (g2 := F0 m 6 ls [.int (nI (tlN F (ca) 0 nn))]) rfl ?_
  refine lv_aload_n hx hb dX5_below_6 rfl (lv_at hl 0 rfl) ?_
  refine lv_iload_n hx hb dX5_below_7 rfl (lv_at hl 1 rfl) ?_
  refine lv_iconst (v := 1) hx hb dX5_below_8 (by decide) ?_
  refine kV C hw (c_X5_share E tt B F G hR hNK (ca) (wh := 1) (by omega)) vy_X5_share ml_X5_22 (rcv hw (hR.f rfl) rfl (by decide) (q2 := (RX5, TX5, 3)) rfl) rfl hl.1 (rest := [.int (nI (tlN F (ca) 0 nn))]) rfl dX5_below_9 (Nat.le_of_ble_eq_true rfl) ⟨by decide, by decide⟩ ⟨Nat.le_of_ble_eq_true rfl, Nat.le_of_ble_eq_true rfl⟩ (fun v_9 ws_9 H locs hp_9 hq_9 => ?_)
  clear hw
  obtain ⟨rfl, rfl⟩ := hp_9
  have hw := hq_9
  refine W.eq (g2 := F0 m 12 ls [.int (nI (tlN F (ca) 1 nn)), .int (nI (tlN F (ca) 0 nn))]) rfl ?_
  refine lv_iadd hx hb dX5_below_12 ?_
  refine tp_i (y := nI (tlN F ca 0 nn + tlN F ca 1 nn)) (nI_add _ _) ?_
  refine lv_aload_n hx hb dX5_below_13 rfl (lv_at hl 0 rfl) ?_
  refine lv_iload_n hx hb dX5_below_14 rfl (lv_at hl 1 rfl) ?_
  refine lv_iconst (v := 2) hx hb dX5_below_15 (by decide) ?_
  refine kV C hw (c_X5_share E tt B F G hR hNK (ca) (wh := 2) (by omega)) vy_X5_share ml_X5_22 (rcv hw (hR.f rfl) rfl (by decide) (q2 := (RX5, TX5, 3)) rfl) rfl hl.1 (rest := [.int (nI (tlN F ca 0 nn + tlN F ca 1 nn))]) rfl dX5_below_16 (Nat.le_of_ble_eq_true rfl) ⟨by decide, by decide⟩ ⟨Nat.le_of_ble_eq_true rfl, Nat.le_of_ble_eq_true rfl⟩ (fun v_16 ws_16 H locs hp_16 hq_16 => ?_)
  clear hw
  obtain ⟨rfl, rfl⟩ := hp_16
  have hw := hq_16
  refine W.eq (g2 := F0 m 19 ls [.int (nI (tlN F (ca) 2 nn)), .int (nI (tlN F ca 0 nn + tlN F ca 1 nn))]) rfl ?_
  refine lv_aload_n hx hb dX5_below_19 rfl (lv_at hl 0 rfl) ?_
  refine lv_iload_n hx hb dX5_below_20 rfl (lv_at hl 1 rfl) ?_
  refine lv_iconst (v := 3) hx hb dX5_below_21 (by decide) ?_
  refine kV C hw (c_X5_share E tt B F G hR hNK (ca) (wh := 3) (by omega)) vy_X5_share ml_X5_22 (rcv hw (hR.f rfl) rfl (by decide) (q2 := (RX5, TX5, 3)) rfl) rfl hl.1 (rest := [.int (nI (tlN F (ca) 2 nn)), .int (nI (tlN F ca 0 nn + tlN F ca 1 nn))]) rfl dX5_below_22 (Nat.le_of_ble_eq_true rfl) ⟨by decide, by decide⟩ ⟨Nat.le_of_ble_eq_true rfl, Nat.le_of_ble_eq_true rfl⟩ (fun v_22 ws_22 H locs hp_22 hq_22 => ?_)
  clear hw
  obtain ⟨rfl, rfl⟩ := hp_22
  have hw := hq_22
  refine W.eq (g2 := F0 m 25 ls [.int (nI (tlN F (ca) 3 nn)), .int (nI (tlN F (ca) 2 nn)), .int (nI (tlN F ca 0 nn + tlN F ca 1 nn))]) rfl ?_
  refine lv_iadd hx hb dX5_below_25 ?_
  refine tp_i (y := nI (tlN F ca 2 nn + tlN F ca 3 nn)) (nI_add _ _) ?_
  refine lv_imul hx hb dX5_below_26 ?_
  refine tp_i (y := nI (w_below F nn ca)) (pk_mul _ _) ?_
  exact r_i C hr hlk hw ⟨rfl, rfl⟩ dX5_below_27

set_option maxHeartbeats 4000000 in
set_option maxRecDepth 100000 in
theorem c_X5_isGreater (E : cE) (tt : Nat × Nat × Nat) {X : List Nat} (B : Nat → Nat) (F : tF) (G : tG) {P : tP} {nh : Nat → Nat} {nc no : Nat} {mt om : Nat → Nat} (hR : RC X P nh nc no mt om) {nn : Nat} (hNK : NK F nn) (ca cb : Int32)  : CT E tt yX5_isGreater cX5_isGreater 3 (some .boolean) 2 0 0 [.ref (B (76)), .int (ca), .int (cb)] (wl E X B F G P) (fun r w => ((w_gr F nn ca cb = true) ∧ r = some (.int 1) ∧ w = (wl E X B F G P)) ∨ (¬ (w_gr F nn ca cb = true) ∧ r = some (.int 0) ∧ w = (wl E X B F G P))) := by
  refine CT.mk (by decide +kernel) (Nat.le_of_ble_eq_true rfl) ?_
  intro l p e s m below meth c A ls C hr hlk hnm hw hl
  have hx := C.1
  have hb := C.2.1
  have hts := C.2.2.2.2
  have hown : s.vm.findClass RX5 = some m.cls := C.2.2.2.1
  have hl : lv_has ls 3 [(0, .ref (B (76))), (1, .int (ca)), (2, .int (cb))] := hl
  refine lv_aload_n hx hb dX5_isGreater_0 rfl (lv_at hl 0 rfl) ?_
  refine lv_iload_n hx hb dX5_isGreater_1 rfl (lv_at hl 1 rfl) ?_
  refine kV C hw (c_X5_above E tt B F G hR hNK (ca)) vy_X5_above ml_X5_26 (rcv hw (hR.f rfl) rfl (by decide) (q2 := (RX5, TX5, 3)) rfl) rfl hl.1 (rest := []) rfl dX5_isGreater_2 (Nat.le_of_ble_eq_true rfl) ⟨by decide, by decide⟩ ⟨Nat.le_of_ble_eq_true rfl, Nat.le_of_ble_eq_true rfl⟩ (fun v_2 ws_2 H locs hp_2 hq_2 => ?_)
  clear hw
  obtain ⟨rfl, rfl⟩ := hp_2
  have hw := hq_2
  refine W.eq (g2 := F0 m 5 ls [.int (w_above F nn (ca))]) rfl ?_
  refine lv_i2l hx hb dX5_isGreater_5 rfl ?_
  refine lv_aload_n hx hb dX5_isGreater_6 rfl (lv_at hl 0 rfl) ?_
  refine lv_iload_n hx hb dX5_isGreater_7 rfl (lv_at hl 2 rfl) ?_
  refine kV C hw (c_X5_below E tt B F G hR hNK (cb)) vy_X5_below ml_X5_30 (rcv hw (hR.f rfl) rfl (by decide) (q2 := (RX5, TX5, 3)) rfl) rfl hl.1 (rest := [.long ((w_above F nn (ca) : Int32).toInt64)]) rfl dX5_isGreater_8 (Nat.le_of_ble_eq_true rfl) ⟨by decide, by decide⟩ ⟨Nat.le_of_ble_eq_true rfl, Nat.le_of_ble_eq_true rfl⟩ (fun v_8 ws_8 H locs hp_8 hq_8 => ?_)
  clear hw
  obtain ⟨rfl, rfl⟩ := hp_8
  have hw := hq_8
  refine W.eq (g2 := F0 m 11 ls [.int (nI (w_below F nn (cb))), .long ((w_above F nn (ca) : Int32).toInt64)]) rfl ?_
  refine lv_i2l hx hb dX5_isGreater_11 rfl ?_
  refine lv_lmul hx hb dX5_isGreater_12 ?_
  refine lv_aload_n hx hb dX5_isGreater_13 rfl (lv_at hl 0 rfl) ?_
  refine lv_iload_n hx hb dX5_isGreater_14 rfl (lv_at hl 2 rfl) ?_
  refine kV C hw (c_X5_above E tt B F G hR hNK (cb)) vy_X5_above ml_X5_26 (rcv hw (hR.f rfl) rfl (by decide) (q2 := (RX5, TX5, 3)) rfl) rfl hl.1 (rest := [.long (((w_above F nn (ca) : Int32).toInt64 * (nI (w_below F nn (cb)) : Int32).toInt64))]) rfl dX5_isGreater_15 (Nat.le_of_ble_eq_true rfl) ⟨by decide, by decide⟩ ⟨Nat.le_of_ble_eq_true rfl, Nat.le_of_ble_eq_true rfl⟩ (fun v_15 ws_15 H locs hp_15 hq_15 => ?_)
  clear hw
  obtain ⟨rfl, rfl⟩ := hp_15
  have hw := hq_15
  refine W.eq (g2 := F0 m 18 ls [.int (w_above F nn (cb)), .long (((w_above F nn (ca) : Int32).toInt64 * (nI (w_below F nn (cb)) : Int32).toInt64))]) rfl ?_
  refine lv_i2l hx hb dX5_isGreater_18 rfl ?_
  refine lv_aload_n hx hb dX5_isGreater_19 rfl (lv_at hl 0 rfl) ?_
  refine lv_iload_n hx hb dX5_isGreater_20 rfl (lv_at hl 1 rfl) ?_
  refine kV C hw (c_X5_below E tt B F G hR hNK (ca)) vy_X5_below ml_X5_30 (rcv hw (hR.f rfl) rfl (by decide) (q2 := (RX5, TX5, 3)) rfl) rfl hl.1 (rest := [.long ((w_above F nn (cb) : Int32).toInt64), .long (((w_above F nn (ca) : Int32).toInt64 * (nI (w_below F nn (cb)) : Int32).toInt64))]) rfl dX5_isGreater_21 (Nat.le_of_ble_eq_true rfl) ⟨by decide, by decide⟩ ⟨Nat.le_of_ble_eq_true rfl, Nat.le_of_ble_eq_true rfl⟩ (fun v_21 ws_21 H locs hp_21 hq_21 => ?_)
  clear hw
  obtain ⟨rfl, rfl⟩ := hp_21
  have hw := hq_21
  refine W.eq (g2 := F0 m 24 ls [.int (nI (w_below F nn (ca))), .long ((w_above F nn (cb) : Int32).toInt64), .long (((w_above F nn (ca) : Int32).toInt64 * (nI (w_below F nn (cb)) : Int32).toInt64))]) rfl ?_
  refine lv_i2l hx hb dX5_isGreater_24 rfl ?_
  refine lv_lmul hx hb dX5_isGreater_25 ?_
  refine W.lcmp hx hb dX5_isGreater_26 ?_
  refine lv_if_le (tgt := 34) hx hb dX5_isGreater_27 (by decide) (fun c_27 => ?_) (fun c_27 => ?_)
  · rw [lg_le, ← Int64.not_lt] at c_27
    refine lv_iconst (v := 0) hx hb dX5_isGreater_34 (by decide) ?_
    exact r_z C hr hlk hw rfl (Or.inr ⟨fun h9 => c_27 (of_decide_eq_true h9), rfl, rfl⟩) dX5_isGreater_35
  · rw [lg_no] at c_27
    refine lv_iconst (v := 1) hx hb dX5_isGreater_30 (by decide) ?_
    refine lv_goto (tgt := 35) hx hb dX5_isGreater_31 (by decide) ?_
    exact r_z C hr hlk hw rfl (Or.inl ⟨decide_eq_true c_27, rfl, rfl⟩) dX5_isGreater_35

set_option maxHeartbeats 4000000 in
set_option maxRecDepth 100000 in
theorem c_X11_commonDivisor (E : cE) (tt : Nat × Nat × Nat) (ws : va_W) {x y : Nat} (hxl : x < 2 ^ 30) (hyl : y < 2 ^ 30)  : CT E tt yX11_commonDivisor cX11_commonDivisor 6 (some .int) 0 0 0 [.int (nI x), .int (nI y)] ws (fun r w => r = some (.int (nI (Nat.gcd x y))) ∧ w = ws) := by
  refine CT.mk (by decide +kernel) (Nat.le_of_ble_eq_true rfl) ?_
  intro l p e s m below meth c A ls C hr hlk hnm hw hl
  have hx := C.1
  have hb := C.2.1
  have hts := C.2.2.2.2
  have hown : s.vm.findClass RX11 = some m.cls := C.2.2.2.1
  have hl : lv_has ls 6 [(0, .int (nI x)), (1, .int (nI y))] := hl
  refine lv_iload_n hx hb dX11_commonDivisor_0 rfl (lv_at hl 0 rfl) ?_
  refine lv_istore_n (lv' := [(2, .int (nI x)), (0, .int (nI x)), (1, .int (nI y))]) hx hb dX11_commonDivisor_1 rfl hl (by decide) rfl (fun ls hl => ?_)
  refine lv_iload_n hx hb dX11_commonDivisor_2 rfl (lv_at hl 2 rfl) ?_
  refine lv_istore_n (lv' := [(3, .int (nI y)), (2, .int (nI x)), (0, .int (nI x)), (1, .int (nI y))]) hx hb dX11_commonDivisor_3 rfl hl (by decide) rfl (fun ls hl => ?_)
  refine lv_iconst (v := 0) hx hb dX11_commonDivisor_4 (by decide) ?_
  refine lv_istore (lv' := [(4, .int (0)), (3, .int (nI y)), (2, .int (nI x)), (0, .int (nI x)), (1, .int (nI y))]) hx hb dX11_commonDivisor_5 hl (by decide) rfl (fun ls hl => ?_)
  have lo_a : ∀ (n : Nat) (i : Nat) (u : Nat) (v : Nat) (H : Heap) (locs : List Loc) (ls : Array Slot), 64 - i < n → (i ≤ 64) → (eu_inv x y u v i) → Wd E tt A s ws H locs → lv_has ls 6 [(0, .int (nI x)), (1, .int (nI y)), (2, .int (nI u)), (3, .int (nI v)), (4, .int (nI i))] → W p l e (rmO 0 0 0) s m ([.int (nI x), .int (nI y)] : List Value).toArray below meth c H locs 0 0 (MQ below (Fin0 E (fun r w => r = some (.int (nI (Nat.gcd x y))) ∧ w = ws) A) ([.int (nI x), .int (nI y)] : List Value).toArray s 0 0 A) (F0 m 7 ls []) := by
    intro n
    induction n with
    | zero =>
      intro i u v H locs ls hi_2
      exact absurd hi_2 (Nat.not_lt_zero _)
    | succ n ih_a =>
      intro i u v H locs ls hj_a hi hiv hw hl
      refine lv_iload hx hb dX11_commonDivisor_7 (lv_at hl 4 rfl) ?_
      refine lv_bipush (v := 64) hx hb dX11_commonDivisor_9 (by decide) ?_
      refine lv_icmp_ge (tgt := 34) hx hb dX11_commonDivisor_11 (by decide) (fun c_11 => ?_) (fun c_11 => ?_)
      · have he : i = 64 := lp_eq (b := 64) (by decide) (by omega) c_11
        subst he
        have hv0 := eu_e hiv
        subst hv0
        refine lv_iload_n hx hb dX11_commonDivisor_34 rfl (lv_at hl 2 rfl) ?_
        exact r_i C hr hlk hw ⟨(by have := hiv.1; rw [Nat.gcd_zero_right] at this; rw [this]), rfl⟩ dX11_commonDivisor_35
      · have hlt : i < 64 := lp_lt (b := 64) (by decide) (by omega) c_11
        refine lv_iload_n hx hb dX11_commonDivisor_14 rfl (lv_at hl 3 rfl) ?_
        refine lv_if_eq (tgt := 34) hx hb dX11_commonDivisor_15 (by decide) (fun c_15 => ?_) (fun c_15 => ?_)
        · have hv0 : v = 0 := (nI_eq (by have := hiv.2.2.1; omega) (by decide)).mp c_15
          subst hv0
          refine lv_iload_n hx hb dX11_commonDivisor_34 rfl (lv_at hl 2 rfl) ?_
          exact r_i C hr hlk hw ⟨(by have := hiv.1; rw [Nat.gcd_zero_right] at this; rw [this]), rfl⟩ dX11_commonDivisor_35
        · have hv1 : 0 < v := Nat.pos_of_ne_zero (fun h9 => c_15 (by rw [h9]; rfl))
          refine lv_iload_n hx hb dX11_commonDivisor_18 rfl (lv_at hl 2 rfl) ?_
          refine lv_iload_n hx hb dX11_commonDivisor_19 rfl (lv_at hl 3 rfl) ?_
          refine lv_irem hx hb dX11_commonDivisor_20 (c_15) ?_
          refine tp_i (y := nI (u % v)) (pk_rem (by have := hiv.2.1; omega) (by omega) (by have := hiv.2.2.1; omega)) ?_
          refine lv_istore (lv' := [(5, .int (nI (u % v))), (0, .int (nI x)), (1, .int (nI y)), (2, .int (nI u)), (3, .int (nI v)), (4, .int (nI i))]) hx hb dX11_commonDivisor_21 hl (by decide) rfl (fun ls hl => ?_)
          refine lv_iload_n hx hb dX11_commonDivisor_23 rfl (lv_at hl 4 rfl) ?_
          refine lv_istore_n (lv' := [(2, .int (nI v)), (5, .int (nI (u % v))), (0, .int (nI x)), (1, .int (nI y)), (3, .int (nI v)), (4, .int (nI i))]) hx hb dX11_commonDivisor_24 rfl hl (by decide) rfl (fun ls hl => ?_)
          refine lv_iload hx hb dX11_commonDivisor_25 (lv_at hl 1 rfl) ?_
          refine lv_istore_n (lv' := [(3, .int (nI (u % v))), (2, .int (nI v)), (5, .int (nI (u % v))), (0, .int (nI x)), (1, .int (nI y)), (4, .int (nI i))]) hx hb dX11_commonDivisor_27 rfl hl (by decide) rfl (fun ls hl => ?_)
          refine lv_iinc (v := nI (i + 1)) (lv' := [(4, .int (nI (i + 1))), (3, .int (nI (u % v))), (2, .int (nI v)), (5, .int (nI (u % v))), (0, .int (nI x)), (1, .int (nI y))]) hx hb dX11_commonDivisor_28 hl (k := 5) rfl (nI_1 _) (by decide) rfl (fun ls hl => ?_)
          refine lv_goto (tgt := 7) hx hb dX11_commonDivisor_31 (by decide) ?_
          exact ih_a (i + 1) v (u % v) _ _ _ (by omega) (by omega) (eu_s hiv hv1) hw (lv_sub hl [4, 5, 2, 1, 0] rfl)
  exact lo_a _ 0 x y _ _ _ (Nat.lt_succ_self _) (by omega) (eu_0 hxl hyl) hw (lv_sub hl [3, 4, 2, 1, 0] rfl)
