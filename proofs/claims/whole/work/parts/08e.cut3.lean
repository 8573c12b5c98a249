/-! cuttings of the class: sought -/
def QH (F : tF) (G : tG) (nc no : Nat) (mt om : Nat → Nat) (q : CP) : Prop :=
  (∀ o, o < no → F (70 + o) 3 = nI (q.1 o)) ∧ (∀ o, no ≤ o → o < 6 → q.1 o = 0) ∧ (∀ c, c < nc → w_ft (G (53 + c) 3) (F (53 + c) 1) = nI (q.2.1 c) ∧ q.2.1 c < 2 ^ 31) ∧
  (∀ c, c < nc → ¬ w_ft (G (53 + c) 3) (F (53 + c) 1) = 0 → ∀ o, o < 6 → (opC F G mt om no c o = true ↔ q.2.2 c o = true ∧ q.1 o ≤ q.2.1 c)) ∧ (∀ c, c < nc → w_ft (G (53 + c) 3) (F (53 + c) 1) = 0 → ∀ o, o < 6 → ¬ q.2.2 c o = true) ∧ (∀ c, nc ≤ c → ∀ o, o < 6 → ¬ q.2.2 c o = true) ∧ ∀ t, t < 64 → fsS q t < 2 ^ 31
theorem opC_c {F F1 : tF} {G : tG} {mt om : Nat → Nat} {no c o : Nat} (h : ∀ k, k < 83 → F1 k = F k) (hc : c < 16) (ho : o < 6) : opC F1 G mt om no c o = opC F G mt om no c o := by
  unfold opC
  rw [h (70 + o) (by omega), h (53 + c) (by omega)]
def R0N (s : Nat) : Nat := if s = 0 then 24137568 else 2147483647
theorem R0_ok {q : CP} {s : Nat} (hs : s < 64) : BR (CH q 0 s) (R0N s) := by
  unfold R0N
  by_cases h : s = 0
  · rw [if_pos h, h]; exact CH_00 q
  · rw [if_neg h]; exact CH_0s hs h
def AG83 (F F1 : tF) : Prop := ∀ k, k < 83 ∨ 88 ≤ k → F1 k = F k
theorem AG83.v {F F1 : tF} (h : AG83 F F1) : vF F1 = vF F := vF_ag (fun k hk => h k (by omega))
theorem AG83.KC {F F1 : tF} (h : AG83 F F1) : KC F F1 := ⟨fun k hk => h k (by omega), fun i hi => by rw [h _ (by omega)], fun i hi => by rw [h _ (by omega)], h _ (by omega), h _ (by omega), h _ (by omega), h _ (by omega)⟩
set_option maxHeartbeats 4000000 in
set_option maxRecDepth 100000 in
theorem c_X1_seek (E : cE) (tt : Nat × Nat × Nat) {X : List Nat} (B : Nat → Nat) (F : tF) (G : tG) {P : tP} {nh : Nat → Nat} {nc no : Nat} {mt om : Nat → Nat} (hR : RC X P nh nc no mt om) (hCK : CK F G nc) {q : CP} (hQ : QH F G nc no mt om q)  : CT E tt yX1_seek cX1_seek 4 none 5 0 0 [.ref (B (83)), .ref (B (52)), .ref (B (69))] (wl E X B F G P) (fun r w => r = none ∧ ∃ (F1 : tF) (a : Nat → Nat), AG83 F F1 ∧ Opt q a ∧ F1 83 4 = nI (tf q.1 a 6) ∧ F1 83 5 = nI (rkA a) ∧ w = wl E X B F1 G P) := by
  refine CT.mk (by decide +kernel) (Nat.le_of_ble_eq_true rfl) ?_
  intro l p e s m below meth c A ls C hr hlk hnm hw hl
  have hx := C.1
  have hb := C.2.1
  have hts := C.2.2.2.2
  have hown : s.vm.findClass RX1 = some m.cls := C.2.2.2.1
  have hl : lv_has ls 4 [(0, .ref (B (83))), (1, .ref (B (52))), (2, .ref (B (69)))] := hl
  have hn16 := hR.nc16
  refine lv_aload_n hx hb dX1_seek_0 rfl (lv_at hl 0 rfl) ?_
  refine lv_aload_n hx hb dX1_seek_1 rfl (lv_at hl 2 rfl) ?_
  refine kV C hw (c_X1_measureSets E tt B F G hR (q := q) hQ.1 hQ.2.1) vy_X1_measureSets ml_X1_29 (rcv hw (hR.f rfl) rfl (by decide) (q2 := (RX1, TX1, 6)) rfl) rfl hl.1 (rest := []) rfl dX1_seek_2 (Nat.le_of_ble_eq_true rfl) ⟨by decide, by decide⟩ ⟨Nat.le_of_ble_eq_true rfl, Nat.le_of_ble_eq_true rfl⟩ (fun v_2 ws_2 H locs hp_2 hq_2 => ?_)
  clear hw
  obtain ⟨rfl, F_2, hA_2, hm_2, rfl⟩ := hp_2
  have hw := hq_2
  refine W.eq (g2 := F0 m 5 ls []) rfl ?_
  refine lv_iconst (v := 0) hx hb dX1_seek_5 (by decide) ?_
  refine lv_istore_n (lv' := [(3, .int (0)), (0, .ref (B (83))), (1, .ref (B (52))), (2, .ref (B (69)))]) hx hb dX1_seek_6 rfl hl (by decide) rfl (fun ls hl => ?_)
  have lo_a : ∀ (n : Nat) (s0 : Nat) (F1 : tF) (H : Heap) (locs : List Loc) (ls : Array Slot), 64 - s0 < n → (s0 ≤ 64) → (∀ k, k ≠ 86 → F1 k = F_2 k) → (∀ s, s < s0 → F1 86 s = nI (R0N s)) → Wd E tt A s (wl E X B F1 G P) H locs → lv_has ls 4 [(0, .ref (B (83))), (1, .ref (B (52))), (2, .ref (B (69))), (3, .int (nI s0))] → W p l e (rmO 5 0 0) s m ([.ref (B (83)), .ref (B (52)), .ref (B (69))] : List Value).toArray below meth c H locs 0 0 (MQ below (Fin0 E (fun r w => r = none ∧ ∃ (F1 : tF) (a : Nat → Nat), AG83 F F1 ∧ Opt q a ∧ F1 83 4 = nI (tf q.1 a 6) ∧ F1 83 5 = nI (rkA a) ∧ w = wl E X B F1 G P) A) ([.ref (B (83)), .ref (B (52)), .ref (B (69))] : List Value).toArray s 0 0 A) (F0 m 7 ls []) := by
    intro n
    induction n with
    | zero =>
      intro s0 F1 H locs ls hi_2
      exact absurd hi_2 (Nat.not_lt_zero _)
    | succ n ih_a =>
      intro s0 F1 H locs ls hj_a hs hc h861 hw hl
      refine lv_iload_n hx hb dX1_seek_7 rfl (lv_at hl 3 rfl) ?_
      refine lv_bipush (v := 64) hx hb dX1_seek_8 (by decide) ?_
      refine lv_icmp_ge (tgt := 36) hx hb dX1_seek_10 (by decide) (fun c_10 => ?_) (fun c_10 => ?_)
      · have hs6 : s0 = 64 := lp_eq (b := 64) (by decide) (by omega) c_10
        refine lv_iconst (v := 0) hx hb dX1_seek_36 (by decide) ?_
        refine lv_istore_n (lv' := [(3, .int (0)), (0, .ref (B (83))), (1, .ref (B (52))), (2, .ref (B (69)))]) hx hb dX1_seek_37 rfl hl (by decide) rfl (fun ls hl => ?_)
        have lo_b : ∀ (n : Nat) (i : Nat) (F3 : tF) (R : Nat → Nat) (H : Heap) (locs : List Loc) (ls : Array Slot), 16 - i < n → (i ≤ 16) → (∀ k, k ≠ 86 → k ≠ 87 → F3 k = F_2 k) → (∀ s, s < 64 → F3 86 s = nI (R s) ∧ BR (CH q i s) (R s)) → Wd E tt A s (wl E X B F3 G P) H locs → lv_has ls 4 [(0, .ref (B (83))), (1, .ref (B (52))), (2, .ref (B (69))), (3, .int (nI i))] → W p l e (rmO 5 0 0) s m ([.ref (B (83)), .ref (B (52)), .ref (B (69))] : List Value).toArray below meth c H locs 0 0 (MQ below (Fin0 E (fun r w => r = none ∧ ∃ (F1 : tF) (a : Nat → Nat), AG83 F F1 ∧ Opt q a ∧ F1 83 4 = nI (tf q.1 a 6) ∧ F1 83 5 = nI (rkA a) ∧ w = wl E X B F1 G P) A) ([.ref (B (83)), .ref (B (52)), .ref (B (69))] : List Value).toArray s 0 0 A) (F0 m 38 ls []) := by
          intro n
          induction n with
          | zero =>
            intro i F3 R H locs ls hi_2
            exact absurd hi_2 (Nat.not_lt_zero _)
          | succ n ih_b =>
            intro i F3 R H locs ls hj_b hi hc3 hB hw hl
            have hk3 : ∀ k, k < 83 → F3 k = F k := fun k hk => (hc3 k (by omega) (by omega)).trans (hA_2 k (by omega) (by omega))
            refine lv_iload_n hx hb dX1_seek_38 rfl (lv_at hl 3 rfl) ?_
            refine lv_aload_n hx hb dX1_seek_39 rfl (lv_at hl 1 rfl) ?_
            refine a_n (v := 16) C hw (hR.f rfl) (by decide) (by decide) rfl dX1_seek_40 ?_
            refine lv_icmp_ge (tgt := 74) hx hb dX1_seek_41 (by decide) (fun c_41 => ?_) (fun c_41 => ?_)
            · have hi16 : i = 16 := lp_eq (b := 16) (by decide) (by omega) c_41
              rw [hi16] at hB
              refine lv_aload_n hx hb dX1_seek_74 rfl (lv_at hl 0 rfl) ?_
              refine lv_iconst (v := 0) hx hb dX1_seek_75 (by decide) ?_
              refine p_i 4 C hw (hR.f rfl) rfl fl_X1_44 fc_1 fn_1_4 (fun h9 => by cases h9) rfl rfl rfl dX1_seek_76 (fun H locs hw => ?_)
              refine lv_aload_n hx hb dX1_seek_79 rfl (lv_at hl 0 rfl) ?_
              refine lv_ldc (v := 24137568) hx hb hown (hts _ kc_X1_24) dX1_seek_80 ?_
              refine p_i 5 C hw (hR.f rfl) rfl fl_X1_25 fc_1 fn_1_5 (fun h9 => by cases h9) rfl rfl rfl dX1_seek_82 (fun H locs hw => ?_)
              refine lv_iconst (v := 1) hx hb dX1_seek_85 (by decide) ?_
              refine lv_istore_n (lv' := [(3, .int (1)), (0, .ref (B (83))), (1, .ref (B (52))), (2, .ref (B (69)))]) hx hb dX1_seek_86 rfl hl (by decide) rfl (fun ls hl => ?_)
              have lo_d : ∀ (n : Nat) (mm : Nat) (F4 : tF) (ff : Nat) (rr : Nat) (H : Heap) (locs : List Loc) (ls : Array Slot), 64 - mm < n → (1 ≤ mm ∧ mm ≤ 64) → (∀ k, k ≠ 83 → F4 k = F3 k) → (F4 83 4 = nI ff) → (F4 83 5 = nI rr) → (BS q mm ff rr) → Wd E tt A s (wl E X B F4 G P) H locs → lv_has ls 4 [(0, .ref (B (83))), (1, .ref (B (52))), (2, .ref (B (69))), (3, .int (nI mm))] → W p l e (rmO 5 0 0) s m ([.ref (B (83)), .ref (B (52)), .ref (B (69))] : List Value).toArray below meth c H locs 0 0 (MQ below (Fin0 E (fun r w => r = none ∧ ∃ (F1 : tF) (a : Nat → Nat), AG83 F F1 ∧ Opt q a ∧ F1 83 4 = nI (tf q.1 a 6) ∧ F1 83 5 = nI (rkA a) ∧ w = wl E X B F1 G P) A) ([.ref (B (83)), .ref (B (52)), .ref (B (69))] : List Value).toArray s 0 0 A) (F0 m 87 ls []) := by
                intro n
                induction n with
                | zero =>
                  intro mm F4 ff rr H locs ls hi_2
                  exact absurd hi_2 (Nat.not_lt_zero _)
                | succ n ih_d =>
                  intro mm F4 ff rr H locs ls hj_d hm hc4 h4 h5 hBS hw hl
                  have hbb := BS_b hBS hQ.2.2.2.2.2.2
                  refine lv_iload_n hx hb dX1_seek_87 rfl (lv_at hl 3 rfl) ?_
                  refine lv_bipush (v := 64) hx hb dX1_seek_88 (by decide) ?_
                  refine lv_icmp_ge (tgt := 172) hx hb dX1_seek_90 (by decide) (fun c_90 => ?_) (fun c_90 => ?_)
                  · have hm6 : mm = 64 := lp_eq (b := 64) (by decide) (by omega) c_90
                    rw [hm6] at hBS
                    obtain ⟨a, ha1, ha2, ha3⟩ := BS_64 hBS
                    exact r_v C hr hlk hw ⟨rfl, F4, a, (fun k hk => (hc4 k (by omega)).trans ((hc3 k (by omega) (by omega)).trans (hA_2 k (by omega) (by omega)))), ha1, (by rw [h4, ha2]), (by rw [h5, ha3]), rfl⟩ dX1_seek_172
                  · have hm6 : mm < 64 := lp_lt (b := 64) (by decide) (by omega) c_90
                    have hBm := (hB mm hm6).2
                    have hRb := BR_b (q := q) (fun b hb => hb.1) hBm
                    have hfb := hQ.2.2.2.2.2.2 mm hm6
                    refine lv_aload_n hx hb dX1_seek_93 rfl (lv_at hl 0 rfl) ?_
                    refine g_r 2 (k2 := 86) C hw (hR.f rfl) rfl fl_X1_18 rfl (hR.q83 2 (by decide)) dX1_seek_94 ?_
                    refine lv_iload_n hx hb dX1_seek_97 rfl (lv_at hl 3 rfl) ?_
                    refine n_i mm C hw (hR.f rfl) rfl rfl (show _ < 64 by omega) dX1_seek_98 ?_
                    refine tp_i (y := nI (R mm)) ((congrFun (hc4 86 (by decide)) mm).trans (hB mm hm6).1) ?_
                    refine lv_ldc (v := 2147483647) hx hb hown (hts _ kc_X1_33) dX1_seek_99 ?_
                    refine lv_icmp_eq (tgt := 166) hx hb dX1_seek_101 (by decide) (fun c_101 => ?_) (fun c_101 => ?_)
                    · have hnv : R mm = 2147483647 := (nI_eq (b := 2147483647) (by omega) (by decide)).mp c_101
                      refine lv_iinc (v := nI (mm + 1)) (lv' := [(3, .int (nI (mm + 1))), (0, .ref (B (83))), (1, .ref (B (52))), (2, .ref (B (69)))]) hx hb dX1_seek_166 hl (k := 3) rfl (nI_1 _) (by decide) rfl (fun ls hl => ?_)
                      refine lv_goto (tgt := 87) hx hb dX1_seek_169 (by decide) ?_
                      exact ih_d (mm + 1) F4 ff rr _ _ _ (by omega) (by omega) hc4 h4 h5 (BS_n hm6 hBS (Or.inl (by rw [hnv] at hBm; exact hBm))) hw (lv_sub hl [1, 2, 3, 0] rfl)
                    · have hnv : ¬ R mm = 2147483647 := fun h9 => c_101 (by rw [h9]; rfl)
                      refine lv_aload_n hx hb dX1_seek_104 rfl (lv_at hl 0 rfl) ?_
                      refine g_r 0 (k2 := 84) C hw (hR.f rfl) rfl fl_X1_11 rfl (hR.q83 0 (by decide)) dX1_seek_105 ?_
                      refine lv_iload_n hx hb dX1_seek_108 rfl (lv_at hl 3 rfl) ?_
                      refine n_i mm C hw (hR.f rfl) rfl rfl (show _ < 64 by omega) dX1_seek_109 ?_
                      refine tp_i (y := nI (fsS q mm)) ((congrFun ((hc4 84 (by decide)).trans (hc3 84 (by decide) (by decide))) mm).trans (hm_2 mm hm6).1) ?_
                      refine lv_aload_n hx hb dX1_seek_110 rfl (lv_at hl 0 rfl) ?_
                      refine g_i 4 C hw (hR.f rfl) rfl fl_X1_44 rfl dX1_seek_111 ?_
                      refine tp_i (y := nI ff) (h4) ?_
                      refine lv_icmp_ge (tgt := 120) hx hb dX1_seek_114 (by decide) (fun c_114 => ?_) (fun c_114 => ?_)
                      · have hge : ¬ fsS q mm < ff := fun h9 => nI_ge h9 (by omega) c_114
                        refine lv_aload_n hx hb dX1_seek_120 rfl (lv_at hl 0 rfl) ?_
                        refine g_r 0 (k2 := 84) C hw (hR.f rfl) rfl fl_X1_11 rfl (hR.q83 0 (by decide)) dX1_seek_121 ?_
                        refine lv_iload_n hx hb dX1_seek_124 rfl (lv_at hl 3 rfl) ?_
                        refine n_i mm C hw (hR.f rfl) rfl rfl (show _ < 64 by omega) dX1_seek_125 ?_
                        refine tp_i (y := nI (fsS q mm)) ((congrFun ((hc4 84 (by decide)).trans (hc3 84 (by decide) (by decide))) mm).trans (hm_2 mm hm6).1) ?_
                        refine lv_aload_n hx hb dX1_seek_126 rfl (lv_at hl 0 rfl) ?_
                        refine g_i 4 C hw (hR.f rfl) rfl fl_X1_44 rfl dX1_seek_127 ?_
                        refine tp_i (y := nI ff) (h4) ?_
                        refine lv_icmp_gt (tgt := 146) hx hb dX1_seek_130 (by decide) (fun c_130 => ?_) (fun c_130 => ?_)
                        · have hgt : ff < fsS q mm := (nI_ltI (by omega) (by omega)).mp c_130
                          refine lv_aload_n hx hb dX1_seek_146 rfl (lv_at hl 0 rfl) ?_
                          refine lv_aload_n hx hb dX1_seek_147 rfl (lv_at hl 0 rfl) ?_
                          refine g_r 0 (k2 := 84) C hw (hR.f rfl) rfl fl_X1_11 rfl (hR.q83 0 (by decide)) dX1_seek_148 ?_
                          refine lv_iload_n hx hb dX1_seek_151 rfl (lv_at hl 3 rfl) ?_
                          refine n_i mm C hw (hR.f rfl) rfl rfl (show _ < 64 by omega) dX1_seek_152 ?_
                          refine tp_i (y := nI (fsS q mm)) ((congrFun ((hc4 84 (by decide)).trans (hc3 84 (by decide) (by decide))) mm).trans (hm_2 mm hm6).1) ?_
                          refine p_i 4 C hw (hR.f rfl) rfl fl_X1_44 fc_1 fn_1_4 (fun h9 => by cases h9) rfl rfl rfl dX1_seek_153 (fun H locs hw => ?_)
                          refine lv_aload_n hx hb dX1_seek_156 rfl (lv_at hl 0 rfl) ?_
                          refine lv_aload_n hx hb dX1_seek_157 rfl (lv_at hl 0 rfl) ?_
                          refine g_r 2 (k2 := 86) C hw (hR.f rfl) rfl fl_X1_18 rfl (hR.q83 2 (by decide)) dX1_seek_158 ?_
                          refine lv_iload_n hx hb dX1_seek_161 rfl (lv_at hl 3 rfl) ?_
                          refine n_i mm C hw (hR.f rfl) rfl rfl (show _ < 64 by omega) dX1_seek_162 ?_
                          refine tp_i (y := F4 86 mm) ((uF_n _ _ (Or.inl (by decide))).trans (rfl)) ?_
                          refine tp_i (y := nI (R mm)) ((congrFun (hc4 86 (by decide)) mm).trans (hB mm hm6).1) ?_
                          refine p_i 5 C hw (hR.f rfl) rfl fl_X1_25 fc_1 fn_1_5 (fun h9 => by cases h9) rfl rfl rfl dX1_seek_163 (fun H locs hw => ?_)
                          refine lv_iinc (v := nI (mm + 1)) (lv' := [(3, .int (nI (mm + 1))), (0, .ref (B (83))), (1, .ref (B (52))), (2, .ref (B (69)))]) hx hb dX1_seek_166 hl (k := 3) rfl (nI_1 _) (by decide) rfl (fun ls hl => ?_)
                          refine lv_goto (tgt := 87) hx hb dX1_seek_169 (by decide) ?_
                          exact ih_d (mm + 1) (uF (uF F4 83 4 (nI (fsS q mm))) 83 5 (nI (R mm))) (fsS q mm) (R mm) _ _ _ (by omega) (by omega) (fun k hk => (uF_o _ _ _ hk).trans ((uF_o _ _ _ hk).trans (hc4 k hk))) ((uF_n _ _ (Or.inr (by decide))).trans (uF_s _ _ _ _)) (uF_s _ _ _ _) (BS_y hm6 hBS hBm hnv hge (Or.inl hgt)) hw (lv_sub hl [1, 2, 3, 0] rfl)
                        · have hgt : ¬ ff < fsS q mm := fun h9 => c_130 (nI_lt h9 (by omega))
                          refine lv_aload_n hx hb dX1_seek_133 rfl (lv_at hl 0 rfl) ?_
                          refine g_r 2 (k2 := 86) C hw (hR.f rfl) rfl fl_X1_18 rfl (hR.q83 2 (by decide)) dX1_seek_134 ?_
                          refine lv_iload_n hx hb dX1_seek_137 rfl (lv_at hl 3 rfl) ?_
                          refine n_i mm C hw (hR.f rfl) rfl rfl (show _ < 64 by omega) dX1_seek_138 ?_
                          refine tp_i (y := nI (R mm)) ((congrFun (hc4 86 (by decide)) mm).trans (hB mm hm6).1) ?_
                          refine lv_aload_n hx hb dX1_seek_139 rfl (lv_at hl 0 rfl) ?_
                          refine g_i 5 C hw (hR.f rfl) rfl fl_X1_25 rfl dX1_seek_140 ?_
                          refine tp_i (y := nI rr) (h5) ?_
                          refine lv_icmp_ge (tgt := 166) hx hb dX1_seek_143 (by decide) (fun c_143 => ?_) (fun c_143 => ?_)
                          · have hlr : ¬ R mm < rr := fun h9 => nI_ge h9 (by omega) c_143
                            refine lv_iinc (v := nI (mm + 1)) (lv' := [(3, .int (nI (mm + 1))), (0, .ref (B (83))), (1, .ref (B (52))), (2, .ref (B (69)))]) hx hb dX1_seek_166 hl (k := 3) rfl (nI_1 _) (by decide) rfl (fun ls hl => ?_)
                            refine lv_goto (tgt := 87) hx hb dX1_seek_169 (by decide) ?_
                            exact ih_d (mm + 1) F4 ff rr _ _ _ (by omega) (by omega) hc4 h4 h5 (BS_k hm6 hBS hBm hge (fun h9 => h9.elim hgt hlr)) hw (lv_sub hl [1, 2, 3, 0] rfl)
                          · have hlr : R mm < rr := by rcases Nat.lt_or_ge (R mm) rr with h9 | h9; exact h9; exact absurd (nI_le h9 (by omega)) c_143
                            refine lv_aload_n hx hb dX1_seek_146 rfl (lv_at hl 0 rfl) ?_
                            refine lv_aload_n hx hb dX1_seek_147 rfl (lv_at hl 0 rfl) ?_
                            refine g_r 0 (k2 := 84) C hw (hR.f rfl) rfl fl_X1_11 rfl (hR.q83 0 (by decide)) dX1_seek_148 ?_
                            refine lv_iload_n hx hb dX1_seek_151 rfl (lv_at hl 3 rfl) ?_
                            refine n_i mm C hw (hR.f rfl) rfl rfl (show _ < 64 by omega) dX1_seek_152 ?_
                            refine tp_i (y := nI (fsS q mm)) ((congrFun ((hc4 84 (by decide)).trans (hc3 84 (by decide) (by decide))) mm).trans (hm_2 mm hm6).1) ?_
                            refine p_i 4 C hw (hR.f rfl) rfl fl_X1_44 fc_1 fn_1_4 (fun h9 => by cases h9) rfl rfl rfl dX1_seek_153 (fun H locs hw => ?_)
                            refine lv_aload_n hx hb dX1_seek_156 rfl (lv_at hl 0 rfl) ?_
                            refine lv_aload_n hx hb dX1_seek_157 rfl (lv_at hl 0 rfl) ?_
                            refine g_r 2 (k2 := 86) C hw (hR.f rfl) rfl fl_X1_18 rfl (hR.q83 2 (by decide)) dX1_seek_158 ?_
                            refine lv_iload_n hx hb dX1_seek_161 rfl (lv_at hl 3 rfl) ?_
                            refine n_i mm C hw (hR.f rfl) rfl rfl (show _ < 64 by omega) dX1_seek_162 ?_
                            refine tp_i (y := F4 86 mm) ((uF_n _ _ (Or.inl (by decide))).trans (rfl)) ?_
                            refine tp_i (y := nI (R mm)) ((congrFun (hc4 86 (by decide)) mm).trans (hB mm hm6).1) ?_
                            refine p_i 5 C hw (hR.f rfl) rfl fl_X1_25 fc_1 fn_1_5 (fun h9 => by cases h9) rfl rfl rfl dX1_seek_163 (fun H locs hw => ?_)
                            refine lv_iinc (v := nI (mm + 1)) (lv' := [(3, .int (nI (mm + 1))), (0, .ref (B (83))), (1, .ref (B (52))), (2, .ref (B (69)))]) hx hb dX1_seek_166 hl (k := 3) rfl (nI_1 _) (by decide) rfl (fun ls hl => ?_)
                            refine lv_goto (tgt := 87) hx hb dX1_seek_169 (by decide) ?_
                            exact ih_d (mm + 1) (uF (uF F4 83 4 (nI (fsS q mm))) 83 5 (nI (R mm))) (fsS q mm) (R mm) _ _ _ (by omega) (by omega) (fun k hk => (uF_o _ _ _ hk).trans ((uF_o _ _ _ hk).trans (hc4 k hk))) ((uF_n _ _ (Or.inr (by decide))).trans (uF_s _ _ _ _)) (uF_s _ _ _ _) (BS_y hm6 hBS hBm hnv hge (Or.inr hlr)) hw (lv_sub hl [1, 2, 3, 0] rfl)
                      · have hlt : fsS q mm < ff := by rcases Nat.lt_or_ge (fsS q mm) ff with h9 | h9; exact h9; exact absurd (nI_le h9 (by omega)) c_114
                        refine lv_goto (tgt := 166) hx hb dX1_seek_117 (by decide) ?_
                        refine lv_iinc (v := nI (mm + 1)) (lv' := [(3, .int (nI (mm + 1))), (0, .ref (B (83))), (1, .ref (B (52))), (2, .ref (B (69)))]) hx hb dX1_seek_166 hl (k := 3) rfl (nI_1 _) (by decide) rfl (fun ls hl => ?_)
                        refine lv_goto (tgt := 87) hx hb dX1_seek_169 (by decide) ?_
                        exact ih_d (mm + 1) F4 ff rr _ _ _ (by omega) (by omega) hc4 h4 h5 (BS_n hm6 hBS (Or.inr hlt)) hw (lv_sub hl [1, 2, 3, 0] rfl)
              exact lo_d _ 1 (uF (uF F3 83 4 0) 83 5 24137568) 0 24137568 _ _ _ (Nat.lt_succ_self _) (by omega) (fun k hk => (uF_o _ _ _ hk).trans (uF_o _ _ _ hk)) ((uF_n _ _ (Or.inr (by decide))).trans (uF_s _ _ _ _)) (uF_s _ _ _ _) BS_1 hw (lv_sub hl [1, 2, 3, 0] rfl)
            · have hlt16 : i < 16 := lp_lt (b := 16) (by decide) (by omega) c_41
              by_cases hin : i < nc
              · refine lv_aload_n hx hb dX1_seek_44 rfl (lv_at hl 1 rfl) ?_
                refine lv_iload_n hx hb dX1_seek_45 rfl (lv_at hl 3 rfl) ?_
                refine n_r i (k2 := 53 + i) (r := 16) C hw (hR.f rfl) rfl (by decide) rfl rfl (show _ < 16 by omega) ((hR.pc hlt16).trans (if_pos hin)) dX1_seek_46 ?_
                refine lv_ifnull hx hb dX1_seek_47 ?_
                refine lv_aload_n hx hb dX1_seek_50 rfl (lv_at hl 1 rfl) ?_
                refine lv_iload_n hx hb dX1_seek_51 rfl (lv_at hl 3 rfl) ?_
                refine n_r i (k2 := 53 + i) (r := 16) C hw (hR.f rfl) rfl (by decide) rfl rfl (show _ < 16 by omega) ((hR.pc hlt16).trans (if_pos hin)) dX1_seek_52 ?_
                refine kV C hw (c_X0_isGone E tt B F3 G P (hR.xc (by omega)) (kd_coil (by omega))  (by rw [hk3 _ (by omega)]; exact (hCK i hin).1)) vy_X0_isGone ml_X1_34 (rcv hw (hR.xc (by omega)) (kd_coil (by omega)) (by decide) (q2 := (RX0, TX0, 7)) rfl) rfl hl.1 (rest := []) rfl dX1_seek_53 (Nat.le_of_ble_eq_true rfl) ⟨by decide, by decide⟩ ⟨Nat.le_of_ble_eq_true rfl, Nat.le_of_ble_eq_true rfl⟩ (fun v_53 ws_53 H locs hp_53 hq_53 => ?_)
                clear hw
                rcases hp_53 with ⟨h_53, rfl, rfl⟩ | ⟨h_53, rfl, rfl⟩
                · have hw := hq_53
                  refine W.eq (g2 := F0 m 56 ls [.int (1)]) rfl ?_
                  refine lv_if_ne (tgt := 68) hx hb dX1_seek_56 (by decide) (fun _ => ?_) (fun h9 => False.elim (by revert h9; decide))
                  refine lv_iinc (v := nI (i + 1)) (lv' := [(3, .int (nI (i + 1))), (0, .ref (B (83))), (1, .ref (B (52))), (2, .ref (B (69)))]) hx hb dX1_seek_68 hl (k := 3) rfl (nI_1 _) (by decide) rfl (fun ls hl => ?_)
                  refine lv_goto (tgt := 38) hx hb dX1_seek_71 (by decide) ?_
                  exact ih_b (i + 1) F3 R _ _ _ (by omega) (by omega) hc3 (fun s hs => ⟨(hB s hs).1, (hB s hs).2.cg (CH_skip (hQ.2.2.2.2.1 i hin (by have h9 := h_53; rw [hk3 _ (by omega)] at h9; exact h9)))⟩) hw (lv_sub hl [1, 2, 3, 0] rfl)
                · have hw := hq_53
                  refine W.eq (g2 := F0 m 56 ls [.int (0)]) rfl ?_
                  refine lv_if_ne (tgt := 68) hx hb dX1_seek_56 (by decide) (fun h9 => False.elim (by revert h9; decide)) (fun _ => ?_)
                  refine lv_aload_n hx hb dX1_seek_59 rfl (lv_at hl 0 rfl) ?_
                  refine lv_aload_n hx hb dX1_seek_60 rfl (lv_at hl 1 rfl) ?_
                  refine lv_iload_n hx hb dX1_seek_61 rfl (lv_at hl 3 rfl) ?_
                  refine n_r i (k2 := 53 + i) (r := 16) C hw (hR.f rfl) rfl (by decide) rfl rfl (show _ < 16 by omega) ((hR.pc hlt16).trans (if_pos hin)) dX1_seek_62 ?_
                  refine lv_iload_n hx hb dX1_seek_63 rfl (lv_at hl 3 rfl) ?_
                  refine lv_aload_n hx hb dX1_seek_64 rfl (lv_at hl 2 rfl) ?_
                  refine kV C hw (c_X1_offer E tt B F3 G hR (c1 := i) hin (by rw [hk3 _ (by omega)]; exact (hCK i hin).1) (q := q) (by rw [hk3 _ (by omega)]; exact (hQ.2.2.1 i hin).1) (hQ.2.2.1 i hin).2 (fun o ho => by rw [opC_c hk3 (by omega) ho]; exact hQ.2.2.2.1 i hin (by have := h_53; rw [hk3 _ (by omega)] at this; exact this) o ho) (fun t ht => by rw [hc3 84 (by decide) (by decide), hc3 85 (by decide) (by decide)]; exact hm_2 t ht) hQ.2.2.2.2.2.2 (R := R) (fun s hs => (hB s hs).1) (fun s hs => (hB s hs).2)) vy_X1_offer ml_X1_40 (rcv hw (hR.f rfl) rfl (by decide) (q2 := (RX1, TX1, 6)) rfl) rfl hl.1 (rest := []) rfl dX1_seek_65 (Nat.le_of_ble_eq_true rfl) ⟨by decide, by decide⟩ ⟨Nat.le_of_ble_eq_true rfl, Nat.le_of_ble_eq_true rfl⟩ (fun v_65 ws_65 H locs hp_65 hq_65 => ?_)
                  clear hw
                  obtain ⟨rfl, F_65, R_65, hA_65, hB_65, rfl⟩ := hp_65
                  have hw := hq_65
                  refine W.eq (g2 := F0 m 68 ls []) rfl ?_
                  refine lv_iinc (v := nI (i + 1)) (lv' := [(3, .int (nI (i + 1))), (0, .ref (B (83))), (1, .ref (B (52))), (2, .ref (B (69)))]) hx hb dX1_seek_68 hl (k := 3) rfl (nI_1 _) (by decide) rfl (fun ls hl => ?_)
                  refine lv_goto (tgt := 38) hx hb dX1_seek_71 (by decide) ?_
                  exact ih_b (i + 1) F_65 R_65 _ _ _ (by omega) (by omega) (fun k h1 h2 => (hA_65 k h1 h2).trans (hc3 k h1 h2)) (fun s hs => hB_65 s hs) hw (lv_sub hl [1, 2, 3, 0] rfl)
              · refine lv_aload_n hx hb dX1_seek_44 rfl (lv_at hl 1 rfl) ?_
                refine lv_iload_n hx hb dX1_seek_45 rfl (lv_at hl 3 rfl) ?_
                refine n_q i (r := 16) C hw (hR.f rfl) rfl (by decide) rfl rfl (show _ < 16 by omega) dX1_seek_46 ?_
                rw [hR.pc hlt16, if_neg hin]
                refine W.eq (g2 := F0 m 47 ls [.null]) rfl ?_
                refine lv_ifnullN (tgt := 68) hx hb dX1_seek_47 (by decide) ?_
                refine lv_iinc (v := nI (i + 1)) (lv' := [(3, .int (nI (i + 1))), (0, .ref (B (83))), (1, .ref (B (52))), (2, .ref (B (69)))]) hx hb dX1_seek_68 hl (k := 3) rfl (nI_1 _) (by decide) rfl (fun ls hl => ?_)
                refine lv_goto (tgt := 38) hx hb dX1_seek_71 (by decide) ?_
                exact ih_b (i + 1) F3 R _ _ _ (by omega) (by omega) hc3 (fun s hs => ⟨(hB s hs).1, (hB s hs).2.cg (CH_skip (hQ.2.2.2.2.2.1 i (by omega)))⟩) hw (lv_sub hl [1, 2, 3, 0] rfl)
        exact lo_b _ 0 F1 R0N _ _ _ (Nat.lt_succ_self _) (by omega) (fun k h1 _ => hc k h1) (fun s hs9 => ⟨h861 s (by omega), R0_ok hs9⟩) hw (lv_sub hl [1, 2, 3, 0] rfl)
      · have hs6 : s0 < 64 := lp_lt (b := 64) (by decide) (by omega) c_10
        refine lv_aload_n hx hb dX1_seek_13 rfl (lv_at hl 0 rfl) ?_
        refine g_r 2 (k2 := 86) C hw (hR.f rfl) rfl fl_X1_18 rfl (hR.q83 2 (by decide)) dX1_seek_14 ?_
        refine lv_iload_n hx hb dX1_seek_17 rfl (lv_at hl 3 rfl) ?_
        refine lv_iload_n hx hb dX1_seek_18 rfl (lv_at hl 3 rfl) ?_
        refine lv_if_ne (tgt := 27) hx hb dX1_seek_19 (by decide) (fun c_19 => ?_) (fun c_19 => ?_)
        · have hz : ¬ s0 = 0 := fun h9 => c_19 (by rw [h9]; rfl)
          refine lv_ldc (v := 2147483647) hx hb hown (hts _ kc_X1_33) dX1_seek_27 ?_
          refine t_i s0 C hw (hR.f rfl) rfl rfl (show _ < 64 by omega) dX1_seek_29 (fun H locs hw => ?_)
          refine lv_iinc (v := nI (s0 + 1)) (lv' := [(3, .int (nI (s0 + 1))), (0, .ref (B (83))), (1, .ref (B (52))), (2, .ref (B (69)))]) hx hb dX1_seek_30 hl (k := 3) rfl (nI_1 _) (by decide) rfl (fun ls hl => ?_)
          refine lv_goto (tgt := 7) hx hb dX1_seek_33 (by decide) ?_
          exact ih_a (s0 + 1) (uF F1 86 s0 2147483647) _ _ _ (by omega) (by omega) (fun k hk => (uF_o _ _ _ hk).trans (hc k hk)) (fun s hs => by by_cases e : s = s0; rw [e, uF_s, R0N, if_neg hz]; first | done | rfl; rw [uF_n _ _ (Or.inr e)]; exact h861 s (by omega)) hw (lv_sub hl [1, 2, 3, 0] rfl)
        · have hz : s0 = 0 := (nI_eq (by omega) (by decide)).mp c_19
          refine lv_ldc (v := 24137568) hx hb hown (hts _ kc_X1_24) dX1_seek_22 ?_
          refine lv_goto (tgt := 29) hx hb dX1_seek_24 (by decide) ?_
          refine t_i s0 C hw (hR.f rfl) rfl rfl (show _ < 64 by omega) dX1_seek_29 (fun H locs hw => ?_)
          refine lv_iinc (v := nI (s0 + 1)) (lv' := [(3, .int (nI (s0 + 1))), (0, .ref (B (83))), (1, .ref (B (52))), (2, .ref (B (69)))]) hx hb dX1_seek_30 hl (k := 3) rfl (nI_1 _) (by decide) rfl (fun ls hl => ?_)
          refine lv_goto (tgt := 7) hx hb dX1_seek_33 (by decide) ?_
          exact ih_a (s0 + 1) (uF F1 86 s0 24137568) _ _ _ (by omega) (by omega) (fun k hk => (uF_o _ _ _ hk).trans (hc k hk)) (fun s hs => by by_cases e : s = s0; rw [e, uF_s, R0N, if_pos hz]; first | done | rfl; rw [uF_n _ _ (Or.inr e)]; exact h861 s (by omega)) hw (lv_sub hl [1, 2, 3, 0] rfl)
  exact lo_a _ 0 F_2 _ _ _ (Nat.lt_succ_self _) (by omega) (fun _ _ => rfl) (fun s hs => absurd hs (Nat.not_lt_zero s)) hw (lv_sub hl [1, 2, 3, 0] rfl)

set_option maxHeartbeats 4000000 in
set_option maxRecDepth 100000 in
theorem c_X11_cutting (E : cE) (tt : Nat × Nat × Nat) {X : List Nat} (B : Nat → Nat) (F : tF) (G : tG) {P : tP} {nh : Nat → Nat} {nc no : Nat} {mt om : Nat → Nat} (hR : RC X P nh nc no mt om) (hCK : CK F G nc) {q : CP} (hQ : QH F G nc no mt om q)  : CT E tt yX11_cutting cX11_cutting 1 (some .int) 6 0 0 [.ref (B (0))] (wl E X B F G P) (fun r w => ∃ (F1 : tF) (a : Nat → Nat), AG83 F F1 ∧ Opt q a ∧ r = some (.int (nI (tf q.1 a 6))) ∧ w = wl E X B F1 G P) := by
  refine CT.mk (by decide +kernel) (Nat.le_of_ble_eq_true rfl) ?_
  intro l p e s m below meth c A ls C hr hlk hnm hw hl
  have hx := C.1
  have hb := C.2.1
  have hts := C.2.2.2.2
  have hown : s.vm.findClass RX11 = some m.cls := C.2.2.2.1
  have hl : lv_has ls 1 [(0, .ref (B (0)))] := hl
  refine lv_aload_n hx hb dX11_cutting_0 rfl (lv_at hl 0 rfl) ?_
  refine g_r 9 (k2 := 83) C hw (hR.f rfl) rfl fl_X11_74 rfl (hR.p0 9 (by decide)) dX11_cutting_1 ?_
  refine lv_aload_n hx hb dX11_cutting_4 rfl (lv_at hl 0 rfl) ?_
  refine g_r 4 (k2 := 52) C hw (hR.f rfl) rfl fl_X11_36 rfl (hR.p0 4 (by decide)) dX11_cutting_5 ?_
  refine lv_aload_n hx hb dX11_cutting_8 rfl (lv_at hl 0 rfl) ?_
  refine g_r 5 (k2 := 69) C hw (hR.f rfl) rfl fl_X11_42 rfl (hR.p0 5 (by decide)) dX11_cutting_9 ?_
  refine kV C hw (c_X1_seek E tt B F G hR hCK (q := q) hQ) vy_X1_seek ml_X11_304 (rcv hw (hR.f rfl) rfl (by decide) (q2 := (RX1, TX1, 6)) rfl) rfl hl.1 (rest := []) rfl dX11_cutting_12 (Nat.le_of_ble_eq_true rfl) ⟨by decide, by decide⟩ ⟨Nat.le_of_ble_eq_true rfl, Nat.le_of_ble_eq_true rfl⟩ (fun v_12 ws_12 H locs hp_12 hq_12 => ?_)
  clear hw
  obtain ⟨rfl, F_12, a, hA_12, ha, hf_12, hr_12, rfl⟩ := hp_12
  have hw := hq_12
  refine W.eq (g2 := F0 m 15 ls []) rfl ?_
  refine lv_aload_n hx hb dX11_cutting_15 rfl (lv_at hl 0 rfl) ?_
  refine g_r 9 (k2 := 83) C hw (hR.f rfl) rfl fl_X11_74 rfl (hR.p0 9 (by decide)) dX11_cutting_16 ?_
  refine g_i 4 C hw (hR.f rfl) rfl fl_X11_308 rfl dX11_cutting_19 ?_
  refine tp_i (y := nI (tf q.1 a 6)) (hf_12) ?_
  exact r_i C hr hlk hw ⟨F_12, a, hA_12, ha, rfl, rfl⟩ dX11_cutting_22

set_option maxHeartbeats 4000000 in
set_option maxRecDepth 100000 in
theorem c_X11_from (E : cE) (tt : Nat × Nat × Nat) {X : List Nat} (B : Nat → Nat) (F : tF) (G : tG) {P : tP} {nh : Nat → Nat} {nc no : Nat} {mt om : Nat → Nat} (hR : RC X P nh nc no mt om) (hCK : CK F G nc) {q : CP} (hQ : QH F G nc no mt om q) (o0_ : Int32)  : CT E tt yX11_from cX11_from 2 (some .int) 6 0 0 [.ref (B (0)), .int (o0_)] (wl E X B F G P) (fun r w => ∃ F1 : tF, ((∃ o1 : Nat, o1 < no ∧ o0_ = nI o1 ∧ ∃ a : Nat → Nat, Opt q a ∧ r = some (.int (cNr (rkA a) o1))) ∨ ((∀ o1 : Nat, o1 < no → o0_ ≠ nI o1) ∧ r = some (.int (-2)))) ∧ AG83 F F1 ∧ w = wl E X B F1 G P) := by
  refine CT.mk (by decide +kernel) (Nat.le_of_ble_eq_true rfl) ?_
  intro l p e s m below meth c A ls C hr hlk hnm hw hl
  have hx := C.1
  have hb := C.2.1
  have hts := C.2.2.2.2
  have hown : s.vm.findClass RX11 = some m.cls := C.2.2.2.1
  have hl : lv_has ls 2 [(0, .ref (B (0))), (1, .int (o0_))] := hl
  have ho6 := hR.no6
  refine lv_aload_n hx hb dX11_from_0 rfl (lv_at hl 0 rfl) ?_
  refine lv_iload_n hx hb dX11_from_1 rfl (lv_at hl 1 rfl) ?_
  refine kV C hw (c_X11_orderAt E tt B F G hR (o0_)) vy_X11_orderAt ml_X11_310 (rcv hw (hR.f rfl) rfl (by decide) (q2 := (RX11, TX11, 19)) rfl) rfl hl.1 (rest := []) rfl dX11_from_2 (Nat.le_of_ble_eq_true rfl) ⟨by decide, by decide⟩ ⟨Nat.le_of_ble_eq_true rfl, Nat.le_of_ble_eq_true rfl⟩ (fun v_2 ws_2 H locs hp_2 hq_2 => ?_)
  clear hw
  rcases hp_2 with ⟨o1, hl_o1, rfl, rfl, rfl⟩ | ⟨h_2, rfl, rfl⟩
  · have hw := hq_2
    refine W.eq (g2 := F0 m 5 ls [.ref (B (70 + o1))]) rfl ?_
    have ho6 := hR.no6
    have hz_o1 := i4_cl (i := o1) (by omega)
    refine lv_ifnonnull (tgt := 11) hx hb dX11_from_5 (by decide) ?_
    refine lv_aload_n hx hb dX11_from_11 rfl (lv_at hl 0 rfl) ?_
    refine g_r 9 (k2 := 83) C hw (hR.f rfl) rfl fl_X11_74 rfl (hR.p0 9 (by decide)) dX11_from_12 ?_
    refine lv_aload_n hx hb dX11_from_15 rfl (lv_at hl 0 rfl) ?_
    refine g_r 4 (k2 := 52) C hw (hR.f rfl) rfl fl_X11_36 rfl (hR.p0 4 (by decide)) dX11_from_16 ?_
    refine lv_aload_n hx hb dX11_from_19 rfl (lv_at hl 0 rfl) ?_
    refine g_r 5 (k2 := 69) C hw (hR.f rfl) rfl fl_X11_42 rfl (hR.p0 5 (by decide)) dX11_from_20 ?_
    refine kV C hw (c_X1_seek E tt B F G hR hCK (q := q) hQ) vy_X1_seek ml_X11_304 (rcv hw (hR.f rfl) rfl (by decide) (q2 := (RX1, TX1, 6)) rfl) rfl hl.1 (rest := []) rfl dX11_from_23 (Nat.le_of_ble_eq_true rfl) ⟨by decide, by decide⟩ ⟨Nat.le_of_ble_eq_true rfl, Nat.le_of_ble_eq_true rfl⟩ (fun v_23 ws_23 H locs hp_23 hq_23 => ?_)
    clear hw
    obtain ⟨rfl, F_23, a, hA_23, ha, hf_23, hr_23, rfl⟩ := hp_23
    have hw := hq_23
    refine W.eq (g2 := F0 m 26 ls []) rfl ?_
    refine lv_aload_n hx hb dX11_from_26 rfl (lv_at hl 0 rfl) ?_
    refine g_r 9 (k2 := 83) C hw (hR.f rfl) rfl fl_X11_74 rfl (hR.p0 9 (by decide)) dX11_from_27 ?_
    refine lv_iload_n hx hb dX11_from_30 rfl (lv_at hl 1 rfl) ?_
    refine kV C hw (c_X1_coilOf E tt B F_23 G hR (rn := rkA a) hr_23 (by have := rkA_lt ha.1; omega) (nI o1)) vy_X1_coilOf ml_X11_314 (rcv hw (hR.f rfl) rfl (by decide) (q2 := (RX1, TX1, 6)) rfl) rfl hl.1 (rest := []) rfl dX11_from_31 (Nat.le_of_ble_eq_true rfl) ⟨by decide, by decide⟩ ⟨Nat.le_of_ble_eq_true rfl, Nat.le_of_ble_eq_true rfl⟩ (fun v_31 ws_31 H locs hp_31 hq_31 => ?_)
    clear hw
    obtain ⟨rfl, rfl⟩ := hp_31
    have hw := hq_31
    refine W.eq (g2 := F0 m 34 ls [.int (cOf (rkA a) (nI o1))]) rfl ?_
    exact r_i C hr hlk hw ⟨F_23, Or.inl ⟨o1, hl_o1, rfl, a, ha, (by rw [cOf_n (by omega)])⟩, hA_23, rfl⟩ dX11_from_34
  · have hw := hq_2
    refine W.eq (g2 := F0 m 5 ls [.null]) rfl ?_
    refine lv_ifnonnullN hx hb dX11_from_5 ?_
    refine lv_bipush (v := -2) hx hb dX11_from_8 (by decide) ?_
    exact r_i C hr hlk hw ⟨F, Or.inr ⟨h_2, rfl⟩, (fun _ _ => rfl), rfl⟩ dX11_from_10
