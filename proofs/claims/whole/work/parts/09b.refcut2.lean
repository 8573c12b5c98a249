/-! cuttings of the reference: findCutting -/
def fl (pp : Nat → Nat) (k : Nat) : Nat → Nat := fun o => if o < k then pp o else 16
theorem fl_l {pp : Nat → Nat} {k o : Nat} (h : o < k) : fl pp k o = pp o := if_pos h
theorem fl_g {pp : Nat → Nat} {k o : Nat} (h : k ≤ o) : fl pp k o = 16 := if_neg (by omega)
theorem sumN_tail {f : Nat → Nat} {k : Nat} (hk : k ≤ 6) (h : ∀ o, k ≤ o → o < 6 → f o = 0) : sumN f 6 = sumN f k := by
  have h3 : ∀ d, k + d ≤ 6 → sumN f (k + d) = sumN f k := by
    intro d
    induction d with
    | zero => intro _; rfl
    | succ d ih =>
      intro hd
      show sumN f (k + d) + f (k + d) = _
      rw [h _ (by omega) (by omega), Nat.add_zero]
      exact ih (by omega)
  have h4 := h3 (6 - k) (by omega)
  rwa [show k + (6 - k) = 6 by omega] at h4
theorem fl_cf {fe pp : Nat → Nat} {k x : Nat} (hk : k ≤ 6) (hx : x < 16) : cf fe (fl pp k) x 6 = cf fe pp x k := by
  rw [← cf_congr (a := fl pp k) (b := pp) (fun o ho => fl_l ho)]
  exact sumN_tail hk (fun o h1 h2 => by rw [fl_g h1, if_neg (by omega)])
theorem fl_tf {fe pp : Nat → Nat} {k : Nat} (hk : k ≤ 6) : tf fe (fl pp k) 6 = tf fe pp k := by
  rw [← tf_congr (a := fl pp k) (b := pp) (fun o ho => fl_l ho)]
  exact sumN_tail hk (fun o h1 h2 => by rw [fl_g h1, if_neg (by omega)])
theorem fl_cu {pp : Nat → Nat} {k : Nat} (hk : k ≤ 6) : cu (fl pp k) 6 = cu pp k := by
  refine sumN_congr 16 (fun x hx => ?_)
  have : uc (fl pp k) x 6 = uc pp x k := by
    rw [← uc_congr (a := fl pp k) (b := pp) (fun o ho => fl_l ho)]
    exact sumN_tail hk (fun o h1 h2 => by rw [fl_g h1, if_neg (by omega)])
  rw [this]
theorem fl_Dp {pp : Nat → Nat} {k : Nat} (hk : k ≤ 6) : Dp pp k ≤ Dp (fl pp k) 6 ∧ Dp (fl pp k) 6 < Dp pp k + pw k := by
  rcases (show k = 0 ∨ k = 1 ∨ k = 2 ∨ k = 3 ∨ k = 4 ∨ k = 5 ∨ k = 6 by omega) with h | h | h | h | h | h | h <;> subst h
  · simp only [Dp, sumN, pw, fl_g (pp := pp) (k := 0) (o := 0) (by decide), fl_g (pp := pp) (k := 0) (o := 1) (by decide), fl_g (pp := pp) (k := 0) (o := 2) (by decide), fl_g (pp := pp) (k := 0) (o := 3) (by decide), fl_g (pp := pp) (k := 0) (o := 4) (by decide), fl_g (pp := pp) (k := 0) (o := 5) (by decide)]
    omega
  · simp only [Dp, sumN, pw, fl_l (pp := pp) (k := 1) (o := 0) (by decide), fl_g (pp := pp) (k := 1) (o := 1) (by decide), fl_g (pp := pp) (k := 1) (o := 2) (by decide), fl_g (pp := pp) (k := 1) (o := 3) (by decide), fl_g (pp := pp) (k := 1) (o := 4) (by decide), fl_g (pp := pp) (k := 1) (o := 5) (by decide)]
    omega
  · simp only [Dp, sumN, pw, fl_l (pp := pp) (k := 2) (o := 0) (by decide), fl_l (pp := pp) (k := 2) (o := 1) (by decide), fl_g (pp := pp) (k := 2) (o := 2) (by decide), fl_g (pp := pp) (k := 2) (o := 3) (by decide), fl_g (pp := pp) (k := 2) (o := 4) (by decide), fl_g (pp := pp) (k := 2) (o := 5) (by decide)]
    omega
  · simp only [Dp, sumN, pw, fl_l (pp := pp) (k := 3) (o := 0) (by decide), fl_l (pp := pp) (k := 3) (o := 1) (by decide), fl_l (pp := pp) (k := 3) (o := 2) (by decide), fl_g (pp := pp) (k := 3) (o := 3) (by decide), fl_g (pp := pp) (k := 3) (o := 4) (by decide), fl_g (pp := pp) (k := 3) (o := 5) (by decide)]
    omega
  · simp only [Dp, sumN, pw, fl_l (pp := pp) (k := 4) (o := 0) (by decide), fl_l (pp := pp) (k := 4) (o := 1) (by decide), fl_l (pp := pp) (k := 4) (o := 2) (by decide), fl_l (pp := pp) (k := 4) (o := 3) (by decide), fl_g (pp := pp) (k := 4) (o := 4) (by decide), fl_g (pp := pp) (k := 4) (o := 5) (by decide)]
    omega
  · simp only [Dp, sumN, pw, fl_l (pp := pp) (k := 5) (o := 0) (by decide), fl_l (pp := pp) (k := 5) (o := 1) (by decide), fl_l (pp := pp) (k := 5) (o := 2) (by decide), fl_l (pp := pp) (k := 5) (o := 3) (by decide), fl_l (pp := pp) (k := 5) (o := 4) (by decide), fl_g (pp := pp) (k := 5) (o := 5) (by decide)]
    omega
  · simp only [Dp, sumN, pw, fl_l (pp := pp) (k := 6) (o := 0) (by decide), fl_l (pp := pp) (k := 6) (o := 1) (by decide), fl_l (pp := pp) (k := 6) (o := 2) (by decide), fl_l (pp := pp) (k := 6) (o := 3) (by decide), fl_l (pp := pp) (k := 6) (o := 4) (by decide), fl_l (pp := pp) (k := 6) (o := 5) (by decide)]
    omega
theorem fl_V {q : CP} {pp : Nat → Nat} {k : Nat} (hk : k ≤ 6) (h : PVd q pp k) : Vd q (fl pp k) := by
  refine ⟨fun o ho => ?_, fun x hx => ?_⟩
  · by_cases e : o < k
    · rw [fl_l e]; exact h.1 o e
    · rw [fl_g (by omega)]; exact ⟨Nat.le_refl _, fun h9 => absurd h9 (by omega)⟩
  · rw [fl_cf hk hx]; exact h.2 x hx
theorem fl_u {q : CP} {pp b : Nat → Nat} {k : Nat} (hk : k ≤ 6) (h : PVd q pp k) (hz : ∀ o, k ≤ o → o < 6 → ¬ b o < 16) (hb : Vd q b) (h1 : Dp pp k ≤ Dp b 6) (h2 : Dp b 6 < Dp pp k + pw k) : ∀ o, o < 6 → b o = fl pp k o := by
  intro o ho
  have e := Dp_rng hk hb.d (fun o ho => (h.1 o ho).1) h1 h2
  by_cases e1 : o < k
  · rw [fl_l e1, e o e1]
  · rw [fl_g (by omega)]
    have := hz o (by omega) ho
    have := hb.d o ho
    omega
def MSj (no : Nat) (F1 : tF) (pp : Nat → Nat) (k : Nat) : Prop := (∀ j, j < k → F1 143 j = nI (pp j)) ∧ ∀ j, k < j → j < no → F1 143 j = -1
theorem MSc.un {q : CP} {F1 F2 : tF} {pp : Nat → Nat} {k w0 : Nat} (h : MSc q F1 (ups pp k w0) (k + 1)) (e1 : F2 145 w0 = nI (q.2.1 w0 - cf q.1 pp w0 k)) (e2 : F2 146 w0 = nI (uc pp w0 k)) (ho : ∀ x, x ≠ w0 → F2 145 x = F1 145 x ∧ F2 146 x = F1 146 x) : MSc q F2 pp k := by
  intro x hx
  by_cases e : x = w0
  · subst e; exact ⟨e1, e2⟩
  · have h1 := h x hx
    rw [cf_ups, uc_ups, if_neg (Ne.symm e), if_neg (Ne.symm e)] at h1
    rw [(ho x e).1, (ho x e).2]
    exact h1
theorem MSc.u16 {q : CP} {F1 : tF} {pp : Nat → Nat} {k : Nat} (h : MSc q F1 (ups pp k 16) (k + 1)) : MSc q F1 pp k := by
  intro x hx
  have h1 := h x hx
  rwa [cf_ups, uc_ups, if_neg (by omega), if_neg (by omega)] at h1
theorem MSc.ps {q : CP} {F1 F2 : tF} {pp : Nat → Nat} {k w0 : Nat} (h : MSc q F1 pp k) (e1 : F2 145 w0 = nI (q.2.1 w0 - cf q.1 pp w0 k - q.1 k)) (e2 : F2 146 w0 = nI (uc pp w0 k + 1)) (ho : ∀ x, x ≠ w0 → F2 145 x = F1 145 x ∧ F2 146 x = F1 146 x) : MSc q F2 (ups pp k w0) (k + 1) := by
  intro x hx
  rw [cf_ups, uc_ups]
  by_cases e : x = w0
  · subst e
    rw [if_pos rfl, if_pos rfl, e1, e2, Nat.sub_sub]
    exact ⟨rfl, rfl⟩
  · rw [if_neg (Ne.symm e), if_neg (Ne.symm e), (ho x e).1, (ho x e).2]
    exact h x hx
theorem MSc.p16 {q : CP} {F1 F2 : tF} {pp : Nat → Nat} {k : Nat} (h : MSc q F1 pp k) (ho : F2 145 = F1 145 ∧ F2 146 = F1 146) : MSc q F2 (ups pp k 16) (k + 1) := by
  intro x hx
  rw [cf_ups, uc_ups, if_neg (by omega), if_neg (by omega), ho.1, ho.2]
  exact h x hx
theorem MSc.e {q : CP} {F1 F2 : tF} {pp : Nat → Nat} {k : Nat} (h : MSc q F1 pp k) (ho : F2 145 = F1 145 ∧ F2 146 = F1 146) : MSc q F2 pp k := by
  intro x hx
  rw [ho.1, ho.2]
  exact h x hx
theorem AGf.u {F F1 : tF} (h : AGf F F1) {a b : Nat} {v : Int32} (ha : a = 143 ∨ a = 144 ∨ a = 145 ∨ a = 146 ∨ (a = 100 ∧ (b = 46 ∨ b = 47))) : AGf F (uF F1 a b v) := by
  refine ⟨fun k h1 h2 h3 h4 h5 => (uF_o _ _ _ (by omega)).trans (h.1 k h1 h2 h3 h4 h5), fun j h1 h2 => (uF_n _ _ (by omega)).trans (h.2 j h1 h2)⟩
theorem AGf.rf {F : tF} : AGf F F := ⟨fun _ _ _ _ _ _ => rfl, fun _ _ _ => rfl⟩
theorem AGf.e {F F1 : tF} (h : AGf F F1) {k : Nat} (h1 : 101 ≤ k) (h2 : k < 143) : F1 k = F k := h.1 k (by omega) (by omega) (by omega) (by omega) (by omega)
theorem BSt.u {q : CP} {no : Nat} {F1 : tF} {bo : Option (Nat → Nat)} (h : BSt q no F1 bo) {a b : Nat} {v : Int32} (ha : a = 143 ∨ a = 145 ∨ a = 146) : BSt q no (uF F1 a b v) bo := by
  cases bo with
  | none => exact ⟨(uF_n _ _ (Or.inl (by omega))).trans h.1, (uF_n _ _ (Or.inl (by omega))).trans h.2⟩
  | some x => exact ⟨(uF_n _ _ (Or.inl (by omega))).trans h.1, (uF_n _ _ (Or.inl (by omega))).trans h.2.1, fun o ho => (uF_n _ _ (Or.inl (by omega))).trans (h.2.2 o ho)⟩
theorem w_feet_f {F F1 : tF} {G : tG} (h : AGf F F1) (x : Nat) : w_feet F1 G x = w_feet F G x := by
  unfold w_feet
  rw [h.e (k := 116) (by decide) (by decide)]
/-- how the leaf's answer stands in the cells -/
theorem BSt.leaf {q : CP} {no : Nat} {F3 : tF} {pp : Nat → Nat} {k : Nat} (hk : k = no) (hk6 : k ≤ 6) (h46 : F3 100 46 = nI (tf q.1 pp k)) (h47 : F3 100 47 = nI (cu pp k)) (h144 : ∀ j, j < k → F3 144 j = if pp j < 16 then nI (pp j) else -1) : BSt q no F3 (some (fl pp k)) := by
  refine ⟨by rw [h46, fl_tf hk6], by rw [h47, fl_cu hk6], fun o ho => ?_⟩
  rw [h144 o (by omega), fl_l (by omega)]
set_option maxHeartbeats 4000000 in
set_option maxRecDepth 100000 in
theorem c_X12_mayCut (E : cE) (tt : Nat × Nat × Nat) {X : List Nat} (B : Nat → Nat) (F : tF) (G : tG) {P : tP} (hM : RM X P) {nc : Nat} (hc13 : F 100 13 = nI nc) (hn16 : nc ≤ 16) {o1 x1 : Nat} (ho1 : o1 < 6) (hx1 : x1 < 16)  : CT E tt yX12_mayCut cX12_mayCut 3 (some .boolean) 2 0 0 [.ref (B (100)), .int (nI o1), .int (nI x1)] (wl E X B F G P) (fun r w => ((ok_coil G nc (nI x1) = true ∧ F 127 o1 = 0 ∧ F 115 x1 = F 123 o1 ∧ F 124 o1 ≤ F 116 x1 ∧ F 116 x1 ≤ F 125 o1 ∧ F 126 o1 ≤ F 145 x1) ∧ r = some (.int 1) ∧ w = (wl E X B F G P)) ∨ (¬ (ok_coil G nc (nI x1) = true ∧ F 127 o1 = 0 ∧ F 115 x1 = F 123 o1 ∧ F 124 o1 ≤ F 116 x1 ∧ F 116 x1 ≤ F 125 o1 ∧ F 126 o1 ≤ F 145 x1) ∧ r = some (.int 0) ∧ w = (wl E X B F G P))) := by
  refine CT.mk (by decide +kernel) (Nat.le_of_ble_eq_true rfl) ?_
  intro l p e s m below meth c A ls C hr hlk hnm hw hl
  have hx := C.1
  have hb := C.2.1
  have hts := C.2.2.2.2
  have hown : s.vm.findClass RX12 = some m.cls := C.2.2.2.1
  have hl : lv_has ls 3 [(0, .ref (B (100))), (1, .int (nI o1)), (2, .int (nI x1))] := hl
  refine lv_aload_n hx hb dX12_mayCut_0 rfl (lv_at hl 0 rfl) ?_
  refine lv_iload_n hx hb dX12_mayCut_1 rfl (lv_at hl 2 rfl) ?_
  refine kV C hw (c_X12_isCoil E tt B F G hM nc hc13 hn16 (nI x1)) vy_X12_isCoil ml_X12_173 (rcv hw (hM.m rfl) rfl (by decide) (q2 := (RX12, TX12, 49)) rfl) rfl hl.1 (rest := []) rfl dX12_mayCut_2 (Nat.le_of_ble_eq_true rfl) ⟨by decide, by decide⟩ ⟨Nat.le_of_ble_eq_true rfl, Nat.le_of_ble_eq_true rfl⟩ (fun v_2 ws_2 H locs hp_2 hq_2 => ?_)
  clear hw
  rcases hp_2 with ⟨h_2, rfl, rfl⟩ | ⟨h_2, rfl, rfl⟩
  · have hw := hq_2
    refine W.eq (g2 := F0 m 5 ls [.int (1)]) rfl ?_
    refine lv_if_eq (tgt := 81) hx hb dX12_mayCut_5 (by decide) (fun h9 => False.elim (by revert h9; decide)) (fun _ => ?_)
    refine lv_aload_n hx hb dX12_mayCut_8 rfl (lv_at hl 0 rfl) ?_
    refine g_r 26 (k2 := 127) C hw (hM.m rfl) rfl fl_X12_84 rfl (hM.p 26 rfl) dX12_mayCut_9 ?_
    refine lv_iload_n hx hb dX12_mayCut_12 rfl (lv_at hl 1 rfl) ?_
    refine n_z o1 C hw (hM.m rfl) rfl rfl (show _ < 6 by omega) dX12_mayCut_13 ?_
    refine lv_if_ne (tgt := 81) hx hb dX12_mayCut_14 (by decide) (fun c_14 => ?_) (fun c_14 => ?_)
    · refine lv_iconst (v := 0) hx hb dX12_mayCut_81 (by decide) ?_
      exact r_z C hr hlk hw rfl (Or.inr ⟨fun h9 => c_14 h9.2.1, rfl, rfl⟩) dX12_mayCut_82
    · refine lv_aload_n hx hb dX12_mayCut_17 rfl (lv_at hl 0 rfl) ?_
      refine g_r 14 (k2 := 115) C hw (hM.m rfl) rfl fl_X12_49 rfl (hM.p 14 rfl) dX12_mayCut_18 ?_
      refine lv_iload_n hx hb dX12_mayCut_21 rfl (lv_at hl 2 rfl) ?_
      refine n_i x1 C hw (hM.m rfl) rfl rfl (show _ < 16 by omega) dX12_mayCut_22 ?_
      refine lv_aload_n hx hb dX12_mayCut_23 rfl (lv_at hl 0 rfl) ?_
      refine g_r 22 (k2 := 123) C hw (hM.m rfl) rfl fl_X12_72 rfl (hM.p 22 rfl) dX12_mayCut_24 ?_
      refine lv_iload_n hx hb dX12_mayCut_27 rfl (lv_at hl 1 rfl) ?_
      refine n_i o1 C hw (hM.m rfl) rfl rfl (show _ < 6 by omega) dX12_mayCut_28 ?_
      refine lv_icmp_ne (tgt := 81) hx hb dX12_mayCut_29 (by decide) (fun c_29 => ?_) (fun c_29 => ?_)
      · refine lv_iconst (v := 0) hx hb dX12_mayCut_81 (by decide) ?_
        exact r_z C hr hlk hw rfl (Or.inr ⟨fun h9 => c_29 h9.2.2.1, rfl, rfl⟩) dX12_mayCut_82
      · refine lv_aload_n hx hb dX12_mayCut_32 rfl (lv_at hl 0 rfl) ?_
        refine g_r 15 (k2 := 116) C hw (hM.m rfl) rfl fl_X12_52 rfl (hM.p 15 rfl) dX12_mayCut_33 ?_
        refine lv_iload_n hx hb dX12_mayCut_36 rfl (lv_at hl 2 rfl) ?_
        refine n_i x1 C hw (hM.m rfl) rfl rfl (show _ < 16 by omega) dX12_mayCut_37 ?_
        refine lv_aload_n hx hb dX12_mayCut_38 rfl (lv_at hl 0 rfl) ?_
        refine g_r 23 (k2 := 124) C hw (hM.m rfl) rfl fl_X12_75 rfl (hM.p 23 rfl) dX12_mayCut_39 ?_
        refine lv_iload_n hx hb dX12_mayCut_42 rfl (lv_at hl 1 rfl) ?_
        refine n_i o1 C hw (hM.m rfl) rfl rfl (show _ < 6 by omega) dX12_mayCut_43 ?_
        refine lv_icmp_lt (tgt := 81) hx hb dX12_mayCut_44 (by decide) (fun c_44 => ?_) (fun c_44 => ?_)
        · refine lv_iconst (v := 0) hx hb dX12_mayCut_81 (by decide) ?_
          exact r_z C hr hlk hw rfl (Or.inr ⟨fun h9 => absurd c_44 (Int32.not_lt.mpr h9.2.2.2.1), rfl, rfl⟩) dX12_mayCut_82
        · refine lv_aload_n hx hb dX12_mayCut_47 rfl (lv_at hl 0 rfl) ?_
          refine g_r 15 (k2 := 116) C hw (hM.m rfl) rfl fl_X12_52 rfl (hM.p 15 rfl) dX12_mayCut_48 ?_
          refine lv_iload_n hx hb dX12_mayCut_51 rfl (lv_at hl 2 rfl) ?_
          refine n_i x1 C hw (hM.m rfl) rfl rfl (show _ < 16 by omega) dX12_mayCut_52 ?_
          refine lv_aload_n hx hb dX12_mayCut_53 rfl (lv_at hl 0 rfl) ?_
          refine g_r 24 (k2 := 125) C hw (hM.m rfl) rfl fl_X12_78 rfl (hM.p 24 rfl) dX12_mayCut_54 ?_
          refine lv_iload_n hx hb dX12_mayCut_57 rfl (lv_at hl 1 rfl) ?_
          refine n_i o1 C hw (hM.m rfl) rfl rfl (show _ < 6 by omega) dX12_mayCut_58 ?_
          refine lv_icmp_gt (tgt := 81) hx hb dX12_mayCut_59 (by decide) (fun c_59 => ?_) (fun c_59 => ?_)
          · refine lv_iconst (v := 0) hx hb dX12_mayCut_81 (by decide) ?_
            exact r_z C hr hlk hw rfl (Or.inr ⟨fun h9 => absurd c_59 (Int32.not_lt.mpr h9.2.2.2.2.1), rfl, rfl⟩) dX12_mayCut_82
          · refine lv_aload_n hx hb dX12_mayCut_62 rfl (lv_at hl 0 rfl) ?_
            refine g_r 44 (k2 := 145) C hw (hM.m rfl) rfl fl_X12_114 rfl (hM.p 44 rfl) dX12_mayCut_63 ?_
            refine lv_iload_n hx hb dX12_mayCut_66 rfl (lv_at hl 2 rfl) ?_
            refine n_i x1 C hw (hM.m rfl) rfl rfl (show _ < 16 by omega) dX12_mayCut_67 ?_
            refine lv_aload_n hx hb dX12_mayCut_68 rfl (lv_at hl 0 rfl) ?_
            refine g_r 25 (k2 := 126) C hw (hM.m rfl) rfl fl_X12_81 rfl (hM.p 25 rfl) dX12_mayCut_69 ?_
            refine lv_iload_n hx hb dX12_mayCut_72 rfl (lv_at hl 1 rfl) ?_
            refine n_i o1 C hw (hM.m rfl) rfl rfl (show _ < 6 by omega) dX12_mayCut_73 ?_
            refine lv_icmp_lt (tgt := 81) hx hb dX12_mayCut_74 (by decide) (fun c_74 => ?_) (fun c_74 => ?_)
            · refine lv_iconst (v := 0) hx hb dX12_mayCut_81 (by decide) ?_
              exact r_z C hr hlk hw rfl (Or.inr ⟨fun h9 => absurd c_74 (Int32.not_lt.mpr h9.2.2.2.2.2), rfl, rfl⟩) dX12_mayCut_82
            · refine lv_iconst (v := 1) hx hb dX12_mayCut_77 (by decide) ?_
              refine lv_goto (tgt := 82) hx hb dX12_mayCut_78 (by decide) ?_
              exact r_z C hr hlk hw rfl (Or.inl ⟨⟨h_2, c_14, c_29, Int32.not_lt.mp c_44, Int32.not_lt.mp c_59, Int32.not_lt.mp c_74⟩, rfl, rfl⟩) dX12_mayCut_82
  · have hw := hq_2
    refine W.eq (g2 := F0 m 5 ls [.int (0)]) rfl ?_
    refine lv_if_eq (tgt := 81) hx hb dX12_mayCut_5 (by decide) (fun _ => ?_) (fun h9 => False.elim (by revert h9; decide))
    refine lv_iconst (v := 0) hx hb dX12_mayCut_81 (by decide) ?_
    exact r_z C hr hlk hw rfl (Or.inr ⟨fun h9 => h_2 h9.1, rfl, rfl⟩) dX12_mayCut_82

set_option maxHeartbeats 4000000 in
set_option maxRecDepth 100000 in
theorem c_X12_findCutting (E : cE) (tt : Nat × Nat × Nat) {X : List Nat} (B : Nat → Nat) (F : tF) (G : tG) {P : tP} (hM : RM X P) (nc : Nat) (mt : Nat → Nat) (hC : CO F nc mt) {no : Nat} (hO : ON F no) {q : CP} (hQ : QR F G nc no q)  : CT E tt yX12_findCutting cX12_findCutting 9 none 3 0 0 [.ref (B (100))] (wl E X B F G P) (fun r w => r = none ∧ ∃ (F1 : tF) (a : Nat → Nat), AGf F F1 ∧ Opt q a ∧ F1 100 46 = nI (tf q.1 a 6) ∧ (∀ o, o < no → F1 144 o = if a o < 16 then nI (a o) else -1) ∧ w = wl E X B F1 G P) := by
  refine CT.mk (by decide +kernel) (Nat.le_of_ble_eq_true rfl) ?_
  intro l p e s m below meth c A ls C hr hlk hnm hw hl
  have hx := C.1
  have hb := C.2.1
  have hts := C.2.2.2.2
  have hown : s.vm.findClass RX12 = some m.cls := C.2.2.2.1
  have hl : lv_has ls 9 [(0, .ref (B (100)))] := hl
  have ho6 := hO.2
  have hn16 := hC.2.1
  refine lv_iconst (v := 0) hx hb dX12_findCutting_0 (by decide) ?_
  refine lv_istore_n (lv' := [(1, .int (0)), (0, .ref (B (100)))]) hx hb dX12_findCutting_1 rfl hl (by decide) rfl (fun ls hl => ?_)
  refine lv_iconst (v := 0) hx hb dX12_findCutting_2 (by decide) ?_
  refine lv_istore_n (lv' := [(2, .int (0)), (1, .int (0)), (0, .ref (B (100)))]) hx hb dX12_findCutting_3 rfl hl (by decide) rfl (fun ls hl => ?_)
  have lo_a : ∀ (n : Nat) (i : Nat) (F1 : tF) (H : Heap) (locs : List Loc) (ls : Array Slot), no - i < n → (i ≤ no) → (AGf F F1) → (∀ j, j < i → F1 143 j = -1) → Wd E tt A s (wl E X B F1 G P) H locs → lv_has ls 9 [(0, .ref (B (100))), (1, .int (nI (sumN (ufN F q) i))), (2, .int (nI i))] → W p l e (rmO 3 0 0) s m ([.ref (B (100))] : List Value).toArray below meth c H locs 0 0 (MQ below (Fin0 E (fun r w => r = none ∧ ∃ (F1 : tF) (a : Nat → Nat), AGf F F1 ∧ Opt q a ∧ F1 100 46 = nI (tf q.1 a 6) ∧ (∀ o, o < no → F1 144 o = if a o < 16 then nI (a o) else -1) ∧ w = wl E X B F1 G P) A) ([.ref (B (100))] : List Value).toArray s 0 0 A) (F0 m 4 ls []) := by
    intro n
    induction n with
    | zero =>
      intro i F1 H locs ls hi_2
      exact absurd hi_2 (Nat.not_lt_zero _)
    | succ n ih_a =>
      intro i F1 H locs ls hj_a hi hAG hch hw hl
      refine lv_iload_n hx hb dX12_findCutting_4 rfl (lv_at hl 2 rfl) ?_
      refine lv_aload_n hx hb dX12_findCutting_5 rfl (lv_at hl 0 rfl) ?_
      refine g_i 21 C hw (hM.m rfl) rfl fl_X12_246 rfl dX12_findCutting_6 ?_
      refine tp_i (y := nI no) ((hAG.2 21 (by decide) (by decide)).trans hO.1) ?_
      refine lv_icmp_ge (tgt := 54) hx hb dX12_findCutting_9 (by decide) (fun c_9 => ?_) (fun c_9 => ?_)
      · have hie : i = no := lp_eq (by omega) hi c_9
        rw [hie] at hl
        refine lv_iconst (v := 0) hx hb dX12_findCutting_54 (by decide) ?_
        refine lv_istore_n (lv' := [(2, .int (0)), (0, .ref (B (100))), (1, .int (nI (sumN (ufN F q) no)))]) hx hb dX12_findCutting_55 rfl hl (by decide) rfl (fun ls hl => ?_)
        have lo_b : ∀ (n : Nat) (i : Nat) (F2 : tF) (H : Heap) (locs : List Loc) (ls : Array Slot), 16 - i < n → (i ≤ 16) → (AGf F F2) → (∀ j, j < no → F2 143 j = -1) → (∀ x, x < i → F2 145 x = nI (q.2.1 x) ∧ F2 146 x = 0) → Wd E tt A s (wl E X B F2 G P) H locs → lv_has ls 9 [(0, .ref (B (100))), (1, .int (nI (sumN (ufN F q) no))), (2, .int (nI i))] → W p l e (rmO 3 0 0) s m ([.ref (B (100))] : List Value).toArray below meth c H locs 0 0 (MQ below (Fin0 E (fun r w => r = none ∧ ∃ (F1 : tF) (a : Nat → Nat), AGf F F1 ∧ Opt q a ∧ F1 100 46 = nI (tf q.1 a 6) ∧ (∀ o, o < no → F1 144 o = if a o < 16 then nI (a o) else -1) ∧ w = wl E X B F1 G P) A) ([.ref (B (100))] : List Value).toArray s 0 0 A) (F0 m 56 ls []) := by
          intro n
          induction n with
          | zero =>
            intro i F2 H locs ls hi_2
            exact absurd hi_2 (Nat.not_lt_zero _)
          | succ n ih_b =>
            intro i F2 H locs ls hj_b hi2 hAG2 hch2 hlu hw hl
            refine lv_iload_n hx hb dX12_findCutting_56 rfl (lv_at hl 2 rfl) ?_
            refine lv_bipush (v := 16) hx hb dX12_findCutting_57 (by decide) ?_
            refine lv_icmp_ge (tgt := 109) hx hb dX12_findCutting_59 (by decide) (fun c_59 => ?_) (fun c_59 => ?_)
            · have hie : i = 16 := lp_eq (b := 16) (by decide) (by omega) c_59
              refine lv_aload_n hx hb dX12_findCutting_109 rfl (lv_at hl 0 rfl) ?_
              refine lv_iconst (v := -1) hx hb dX12_findCutting_110 (by decide) ?_
              refine p_i 46 C hw (hM.m rfl) rfl fl_X12_249 fc_12 fn_12_46 (fun h9 => by cases h9) rfl rfl rfl dX12_findCutting_111 (fun H locs hw => ?_)
              refine lv_aload_n hx hb dX12_findCutting_114 rfl (lv_at hl 0 rfl) ?_
              refine lv_iconst (v := 0) hx hb dX12_findCutting_115 (by decide) ?_
              refine p_i 47 C hw (hM.m rfl) rfl fl_X12_252 fc_12 fn_12_47 (fun h9 => by cases h9) rfl rfl rfl dX12_findCutting_116 (fun H locs hw => ?_)
              refine lv_iconst (v := 0) hx hb dX12_findCutting_119 (by decide) ?_
              refine lv_istore_n (lv' := [(2, .int (0)), (0, .ref (B (100))), (1, .int (nI (sumN (ufN F q) no)))]) hx hb dX12_findCutting_120 rfl hl (by decide) rfl (fun ls hl => ?_)
              refine lv_iconst (v := 0) hx hb dX12_findCutting_121 (by decide) ?_
              refine lv_istore_n (lv' := [(3, .int (0)), (2, .int (0)), (0, .ref (B (100))), (1, .int (nI (sumN (ufN F q) no)))]) hx hb dX12_findCutting_122 rfl hl (by decide) rfl (fun ls hl => ?_)
              refine lv_iconst (v := 0) hx hb dX12_findCutting_123 (by decide) ?_
              refine lv_istore (lv' := [(4, .int (0)), (3, .int (0)), (2, .int (0)), (0, .ref (B (100))), (1, .int (nI (sumN (ufN F q) no)))]) hx hb dX12_findCutting_124 hl (by decide) rfl (fun ls hl => ?_)
              have hMc0 : MSc q (uF (uF F2 100 46 (-1)) 100 47 0) (fun _ => 16) 0 := fun x hx => ⟨(uF_n _ _ (Or.inl (by decide))).trans ((uF_n _ _ (Or.inl (by decide))).trans ((hlu x (by omega)).1.trans (by rw [show cf q.1 (fun _ => 16) x 0 = 0 from rfl, Nat.sub_zero]))), (uF_n _ _ (Or.inl (by decide))).trans ((uF_n _ _ (Or.inl (by decide))).trans (hlu x (by omega)).2)⟩
              have hMh0 : MSh no (uF (uF F2 100 46 (-1)) 100 47 0) (fun _ => 16) 0 := ⟨fun j hj => absurd hj (Nat.not_lt_zero j), fun j _ h2 => (uF_n _ _ (Or.inl (by decide))).trans ((uF_n _ _ (Or.inl (by decide))).trans (hch2 j h2))⟩
              have hAG0 : AGf F (uF (uF F2 100 46 (-1)) 100 47 0) := (hAG2.u (by omega)).u (by omega)
              have hBS0 : BSt q no (uF (uF F2 100 46 (-1)) 100 47 0) none := ⟨(uF_n _ _ (Or.inr (by decide))).trans (uF_s _ _ _ _), uF_s _ _ _ _⟩
              have e_rs : rsN F q no 0 = sumN (ufN F q) no := Nat.sub_zero _
              have e_cu : cu (fun _ => 16) 0 = 0 := rfl
              have LEV : ∀ (n k : Nat) (pp : Nat → Nat) (bo : Option (Nat → Nat)) (F1 : tF) (H : Heap) (locs : List Loc) (ls : Array Slot), k + n = no → PVd q pp k → MSc q F1 pp k → MSh no F1 pp k → AGf F F1 → BSt q no F1 bo → IVb q bo (Dp pp k) → (∀ (bo9 : Option (Nat → Nat)) (F2 : tF) (H : Heap) (locs : List Loc) (ls : Array Slot), MSc q F2 pp k → MSh no F2 pp k → AGf F F2 → BSt q no F2 bo9 → IVb q bo9 (Dp pp k + pw k) → Wd E tt A s (wl E X B F2 G P) H locs → lv_has ls 9 [(0, .ref (B (100))), (1, .int (nI (rsN F q no k))), (2, .int (nI (tf q.1 pp k))), (3, .int (nI (cu pp k))), (4, .int (nI k - 1))] → W p l e (rmO 3 0 0) s m ([.ref (B (100))] : List Value).toArray below meth c H locs 0 0 (MQ below (Fin0 E (fun r w => r = none ∧ ∃ (F1 : tF) (a : Nat → Nat), AGf F F1 ∧ Opt q a ∧ F1 100 46 = nI (tf q.1 a 6) ∧ (∀ o, o < no → F1 144 o = if a o < 16 then nI (a o) else -1) ∧ w = wl E X B F1 G P) A) ([.ref (B (100))] : List Value).toArray s 0 0 A) (F0 m 126 ls [])) → Wd E tt A s (wl E X B F1 G P) H locs → lv_has ls 9 [(0, .ref (B (100))), (1, .int (nI (rsN F q no k))), (2, .int (nI (tf q.1 pp k))), (3, .int (nI (cu pp k))), (4, .int (nI k))] → W p l e (rmO 3 0 0) s m ([.ref (B (100))] : List Value).toArray below meth c H locs 0 0 (MQ below (Fin0 E (fun r w => r = none ∧ ∃ (F1 : tF) (a : Nat → Nat), AGf F F1 ∧ Opt q a ∧ F1 100 46 = nI (tf q.1 a 6) ∧ (∀ o, o < no → F1 144 o = if a o < 16 then nI (a o) else -1) ∧ w = wl E X B F1 G P) A) ([.ref (B (100))] : List Value).toArray s 0 0 A) (F0 m 126 ls []) := by
                intro n
                induction n with
                | zero =>
                  intro k pp bo F1 H locs ls hkn hPV hMc hMh hAG hBS hIV kk hw hl
                  have hkk : k = no := by omega
                  have hk6 : k ≤ 6 := by omega
                  have hb1 := hQ.b ho6 (a := pp) (k := k) (by omega)
                  refine lv_iload hx hb dX12_findCutting_126 (lv_at hl 4 rfl) ?_
                  refine lv_if_lt (tgt := 577) hx hb dX12_findCutting_128 (by decide) (fun c_128 => ?_) (fun c_128 => ?_)
                  · exact absurd c_128 (nI_pos (by omega))
                  · refine lv_iload hx hb dX12_findCutting_131 (lv_at hl 4 rfl) ?_
                    refine lv_aload_n hx hb dX12_findCutting_133 rfl (lv_at hl 0 rfl) ?_
                    refine g_i 21 C hw (hM.m rfl) rfl fl_X12_246 rfl dX12_findCutting_134 ?_
                    refine tp_i (y := nI no) ((hAG.2 21 (by decide) (by decide)).trans hO.1) ?_
                    refine lv_icmp_ne (tgt := 144) hx hb dX12_findCutting_137 (by decide) (fun c_137 => ?_) (fun c_137 => ?_)
                    · exact absurd (by rw [hkk]) c_137
                    · refine lv_iconst (v := 1) hx hb dX12_findCutting_140 (by decide) ?_
                      refine lv_goto (tgt := 145) hx hb dX12_findCutting_141 (by decide) ?_
                      refine lv_istore (lv' := [(5, .int (1)), (0, .ref (B (100))), (1, .int (nI (rsN F q no k))), (2, .int (nI (tf q.1 pp k))), (3, .int (nI (cu pp k))), (4, .int (nI k))]) hx hb dX12_findCutting_145 hl (by decide) rfl (fun ls hl => ?_)
                      refine lv_iload hx hb dX12_findCutting_147 (lv_at hl 0 rfl) ?_
                      refine lv_if_eq (tgt := 237) hx hb dX12_findCutting_149 (by decide) (fun h9 => False.elim (by revert h9; decide)) (fun _ => ?_)
                      rcases bo with _ | a
                      · have hB9 := hBS
                        obtain ⟨h46, h47⟩ := hB9
                        refine lv_iload_n hx hb dX12_findCutting_152 rfl (lv_at hl 3 rfl) ?_
                        refine lv_aload_n hx hb dX12_findCutting_153 rfl (lv_at hl 1 rfl) ?_
                        refine g_i 46 C hw (hM.m rfl) rfl fl_X12_249 rfl dX12_findCutting_154 ?_
                        refine tp_i (y := -1) (h46) ?_
                        refine lv_icmp_gt (tgt := 176) hx hb dX12_findCutting_157 (by decide) (fun c_157 => ?_) (fun c_157 => ?_)
                        · refine lv_aload_n hx hb dX12_findCutting_176 rfl (lv_at hl 1 rfl) ?_
                          refine lv_iload_n hx hb dX12_findCutting_177 rfl (lv_at hl 3 rfl) ?_
                          refine p_i 46 C hw (hM.m rfl) rfl fl_X12_249 fc_12 fn_12_46 (fun h9 => by cases h9) rfl rfl rfl dX12_findCutting_178 (fun H locs hw => ?_)
                          refine lv_aload_n hx hb dX12_findCutting_181 rfl (lv_at hl 1 rfl) ?_
                          refine lv_iload_n hx hb dX12_findCutting_182 rfl (lv_at hl 4 rfl) ?_
                          refine p_i 47 C hw (hM.m rfl) rfl fl_X12_252 fc_12 fn_12_47 (fun h9 => by cases h9) rfl rfl rfl dX12_findCutting_183 (fun H locs hw => ?_)
                          refine lv_iconst (v := 0) hx hb dX12_findCutting_186 (by decide) ?_
                          refine lv_istore (lv' := [(6, .int (0)), (5, .int (1)), (0, .ref (B (100))), (1, .int (nI (rsN F q no k))), (2, .int (nI (tf q.1 pp k))), (3, .int (nI (cu pp k))), (4, .int (nI k))]) hx hb dX12_findCutting_187 hl (by decide) rfl (fun ls hl => ?_)
                          have lo_f : ∀ (n : Nat) (j : Nat) (F3 : tF) (H : Heap) (locs : List Loc) (ls : Array Slot), k - j < n → (j ≤ k) → (∀ z, z ≠ 100 → z ≠ 144 → F3 z = F1 z) → (AGf F F3) → (F3 100 46 = nI (tf q.1 pp k)) → (F3 100 47 = nI (cu pp k)) → (∀ t, t < j → F3 144 t = if pp t < 16 then nI (pp t) else -1) → Wd E tt A s (wl E X B F3 G P) H locs → lv_has ls 9 [(0, .ref (B (100))), (1, .int (nI (rsN F q no k))), (2, .int (nI (tf q.1 pp k))), (3, .int (nI (cu pp k))), (4, .int (nI k)), (5, .int (1)), (6, .int (nI j))] → W p l e (rmO 3 0 0) s m ([.ref (B (100))] : List Value).toArray below meth c H locs 0 0 (MQ below (Fin0 E (fun r w => r = none ∧ ∃ (F1 : tF) (a : Nat → Nat), AGf F F1 ∧ Opt q a ∧ F1 100 46 = nI (tf q.1 a 6) ∧ (∀ o, o < no → F1 144 o = if a o < 16 then nI (a o) else -1) ∧ w = wl E X B F1 G P) A) ([.ref (B (100))] : List Value).toArray s 0 0 A) (F0 m 189 ls []) := by
                            intro n
                            induction n with
                            | zero =>
                              intro j F3 H locs ls hi_2
                              exact absurd hi_2 (Nat.not_lt_zero _)
                            | succ n ih_f =>
                              intro j F3 H locs ls hj_f hj hc3 hAG3 h463 h473 h443 hw hl
                              refine lv_iload hx hb dX12_findCutting_189 (lv_at hl 6 rfl) ?_
                              refine lv_aload_n hx hb dX12_findCutting_191 rfl (lv_at hl 0 rfl) ?_
                              refine g_i 21 C hw (hM.m rfl) rfl fl_X12_246 rfl dX12_findCutting_192 ?_
                              refine tp_i (y := nI k) ((hAG3.2 21 (by decide) (by decide)).trans (hO.1.trans (by rw [hkk]))) ?_
                              refine lv_icmp_ge (tgt := 234) hx hb dX12_findCutting_195 (by decide) (fun c_195 => ?_) (fun c_195 => ?_)
                              · have hje : j = k := lp_eq (by omega) hj c_195
                                rw [hje] at h443
                                refine lv_goto (tgt := 559) hx hb dX12_findCutting_234 (by decide) ?_
                                refine lv_iload hx hb dX12_findCutting_559 (lv_at hl 4 rfl) ?_
                                refine lv_iload hx hb dX12_findCutting_561 (lv_at hl 5 rfl) ?_
                                refine lv_if_eq (tgt := 570) hx hb dX12_findCutting_563 (by decide) (fun h9 => False.elim (by revert h9; decide)) (fun _ => ?_)
                                refine lv_iconst (v := 1) hx hb dX12_findCutting_566 (by decide) ?_
                                refine lv_goto (tgt := 571) hx hb dX12_findCutting_567 (by decide) ?_
                                refine lv_isub hx hb dX12_findCutting_571 ?_
                                refine lv_istore (lv' := [(4, .int ((nI k - 1))), (0, .ref (B (100))), (1, .int (nI (rsN F q no k))), (2, .int (nI (tf q.1 pp k))), (3, .int (nI (cu pp k))), (5, .int (1)), (6, .int (nI j))]) hx hb dX12_findCutting_572 hl (by decide) rfl (fun ls hl => ?_)
                                refine lv_goto (tgt := 126) hx hb dX12_findCutting_574 (by decide) ?_
                                exact kk (some (fl pp k)) F3 _ _ _ (hMc.e ⟨(hc3 145 (by decide) (by decide)), (hc3 146 (by decide) (by decide))⟩) (by have e9 := hc3 143 (by decide) (by decide); exact ⟨fun j hj => by rw [e9]; exact hMh.1 j hj, fun j h1 h2 => by rw [e9]; exact hMh.2 j h1 h2⟩) hAG3 (BSt.leaf hkk hk6 h463 h473 (fun j hj => h443 j (by omega))) (hIV.leaf (fl_V hk6 hPV) (fl_Dp hk6).1 (fl_Dp hk6).2 (fun b hb h1 h2 => fl_u hk6 hPV (fun o z1 z2 => hQ.z hb o (by omega) z2) hb h1 h2) (fun a h9 => by cases h9)) hw (lv_sub hl [1, 2, 3, 4, 0] rfl)
                              · have hjk : j < k := lp_lt (by omega) hj c_195
                                have hpj := (hPV.1 j hjk).1
                                refine lv_aload_n hx hb dX12_findCutting_198 rfl (lv_at hl 0 rfl) ?_
                                refine g_r 43 (k2 := 144) C hw (hM.m rfl) rfl fl_X12_111 rfl (hM.p 43 rfl) dX12_findCutting_199 ?_
                                refine lv_iload hx hb dX12_findCutting_202 (lv_at hl 6 rfl) ?_
                                refine lv_aload_n hx hb dX12_findCutting_204 rfl (lv_at hl 0 rfl) ?_
                                refine g_r 42 (k2 := 143) C hw (hM.m rfl) rfl fl_X12_108 rfl (hM.p 42 rfl) dX12_findCutting_205 ?_
                                refine lv_iload hx hb dX12_findCutting_208 (lv_at hl 6 rfl) ?_
                                refine n_i j C hw (hM.m rfl) rfl rfl (show _ < 7 by omega) dX12_findCutting_210 ?_
                                refine tp_i (y := nI (pp j)) ((congrFun (hc3 143 (by decide) (by decide)) j).trans (hMh.1 j hjk)) ?_
                                refine lv_bipush (v := 16) hx hb dX12_findCutting_211 (by decide) ?_
                                refine lv_icmp_ne (tgt := 220) hx hb dX12_findCutting_213 (by decide) (fun c_213 => ?_) (fun c_213 => ?_)
                                · have hp16 : ¬ pp j = 16 := fun h9 => c_213 (by rw [h9]; rfl)
                                  refine lv_aload_n hx hb dX12_findCutting_220 rfl (lv_at hl 0 rfl) ?_
                                  refine g_r 42 (k2 := 143) C hw (hM.m rfl) rfl fl_X12_108 rfl (hM.p 42 rfl) dX12_findCutting_221 ?_
                                  refine lv_iload hx hb dX12_findCutting_224 (lv_at hl 6 rfl) ?_
                                  refine n_i j C hw (hM.m rfl) rfl rfl (show _ < 7 by omega) dX12_findCutting_226 ?_
                                  refine tp_i (y := nI (pp j)) ((congrFun (hc3 143 (by decide) (by decide)) j).trans (hMh.1 j hjk)) ?_
                                  refine t_i j C hw (hM.m rfl) rfl rfl (show _ < 6 by omega) dX12_findCutting_227 (fun H locs hw => ?_)
                                  refine lv_iinc (v := nI (j + 1)) (lv' := [(6, .int (nI (j + 1))), (0, .ref (B (100))), (1, .int (nI (rsN F q no k))), (2, .int (nI (tf q.1 pp k))), (3, .int (nI (cu pp k))), (4, .int (nI k)), (5, .int (1))]) hx hb dX12_findCutting_228 hl (k := 6) rfl (nI_1 _) (by decide) rfl (fun ls hl => ?_)
                                  refine lv_goto (tgt := 189) hx hb dX12_findCutting_231 (by decide) ?_
                                  exact ih_f (j + 1) (uF F3 144 j (nI (pp j))) _ _ _ (by omega) (by omega) (fun z h1 h2 => (uF_o _ _ _ h2).trans (hc3 z h1 h2)) (hAG3.u (by omega)) ((uF_n _ _ (Or.inl (by decide))).trans h463) ((uF_n _ _ (Or.inl (by decide))).trans h473) (fun t ht => by by_cases e9 : t = j; rw [e9, uF_s, if_pos (by omega)]; rw [uF_n _ _ (Or.inr e9)]; exact h443 t (by omega)) hw (lv_sub hl [1, 2, 3, 4, 5, 6, 0] rfl)
                                · have hp16 : pp j = 16 := (nI_eq (b := 16) (by omega) (by decide)).mp c_213
                                  refine lv_iconst (v := -1) hx hb dX12_findCutting_216 (by decide) ?_
                                  refine lv_goto (tgt := 227) hx hb dX12_findCutting_217 (by decide) ?_
                                  refine t_i j C hw (hM.m rfl) rfl rfl (show _ < 6 by omega) dX12_findCutting_227 (fun H locs hw => ?_)
                                  refine lv_iinc (v := nI (j + 1)) (lv' := [(6, .int (nI (j + 1))), (0, .ref (B (100))), (1, .int (nI (rsN F q no k))), (2, .int (nI (tf q.1 pp k))), (3, .int (nI (cu pp k))), (4, .int (nI k)), (5, .int (1))]) hx hb dX12_findCutting_228 hl (k := 6) rfl (nI_1 _) (by decide) rfl (fun ls hl => ?_)
                                  refine lv_goto (tgt := 189) hx hb dX12_findCutting_231 (by decide) ?_
                                  exact ih_f (j + 1) (uF F3 144 j (-1)) _ _ _ (by omega) (by omega) (fun z h1 h2 => (uF_o _ _ _ h2).trans (hc3 z h1 h2)) (hAG3.u (by omega)) ((uF_n _ _ (Or.inl (by decide))).trans h463) ((uF_n _ _ (Or.inl (by decide))).trans h473) (fun t ht => by by_cases e9 : t = j; rw [e9, uF_s, if_neg (by omega)]; rw [uF_n _ _ (Or.inr e9)]; exact h443 t (by omega)) hw (lv_sub hl [1, 2, 3, 4, 5, 6, 0] rfl)
                          exact lo_f _ 0 (uF (uF F1 100 46 (nI (tf q.1 pp k))) 100 47 (nI (cu pp k))) _ _ _ (Nat.lt_succ_self _) (Nat.zero_le _) (fun z h1 _ => (uF_o _ _ _ h1).trans (uF_o _ _ _ h1)) ((hAG.u (by omega)).u (by omega)) ((uF_n _ _ (Or.inr (by decide))).trans (uF_s _ _ _ _)) (uF_s _ _ _ _) (fun t ht => absurd ht (Nat.not_lt_zero t)) hw (lv_sub hl [2, 3, 4, 5, 6, 1, 0] rfl)
                        · exact absurd (Int32.lt_of_lt_of_le (by decide) (nI_pos' (by omega))) c_157
                      · have hB9 := hBS
                        obtain ⟨h46, h47, h44⟩ := hB9
                        have hba := hQ.b ho6 (a := a) (k := no) (Nat.le_refl _)
                        have hta := hQ.tf6 ho6 hIV.1
                        have hca := cu_le a 6
                        refine lv_iload_n hx hb dX12_findCutting_152 rfl (lv_at hl 3 rfl) ?_
                        refine lv_aload_n hx hb dX12_findCutting_153 rfl (lv_at hl 1 rfl) ?_
                        refine g_i 46 C hw (hM.m rfl) rfl fl_X12_249 rfl dX12_findCutting_154 ?_
                        refine tp_i (y := nI (tf q.1 a 6)) (h46) ?_
                        refine lv_icmp_gt (tgt := 176) hx hb dX12_findCutting_157 (by decide) (fun c_157 => ?_) (fun c_157 => ?_)
                        · have hg : tf q.1 a 6 < tf q.1 pp k := (nI_ltI (by omega) (by omega)).mp c_157
                          refine lv_aload_n hx hb dX12_findCutting_176 rfl (lv_at hl 1 rfl) ?_
                          refine lv_iload_n hx hb dX12_findCutting_177 rfl (lv_at hl 3 rfl) ?_
                          refine p_i 46 C hw (hM.m rfl) rfl fl_X12_249 fc_12 fn_12_46 (fun h9 => by cases h9) rfl rfl rfl dX12_findCutting_178 (fun H locs hw => ?_)
                          refine lv_aload_n hx hb dX12_findCutting_181 rfl (lv_at hl 1 rfl) ?_
                          refine lv_iload_n hx hb dX12_findCutting_182 rfl (lv_at hl 4 rfl) ?_
                          refine p_i 47 C hw (hM.m rfl) rfl fl_X12_252 fc_12 fn_12_47 (fun h9 => by cases h9) rfl rfl rfl dX12_findCutting_183 (fun H locs hw => ?_)
                          refine lv_iconst (v := 0) hx hb dX12_findCutting_186 (by decide) ?_
                          refine lv_istore (lv' := [(6, .int (0)), (5, .int (1)), (0, .ref (B (100))), (1, .int (nI (rsN F q no k))), (2, .int (nI (tf q.1 pp k))), (3, .int (nI (cu pp k))), (4, .int (nI k))]) hx hb dX12_findCutting_187 hl (by decide) rfl (fun ls hl => ?_)
                          have lo_f : ∀ (n : Nat) (j : Nat) (F3 : tF) (H : Heap) (locs : List Loc) (ls : Array Slot), k - j < n → (j ≤ k) → (∀ z, z ≠ 100 → z ≠ 144 → F3 z = F1 z) → (AGf F F3) → (F3 100 46 = nI (tf q.1 pp k)) → (F3 100 47 = nI (cu pp k)) → (∀ t, t < j → F3 144 t = if pp t < 16 then nI (pp t) else -1) → Wd E tt A s (wl E X B F3 G P) H locs → lv_has ls 9 [(0, .ref (B (100))), (1, .int (nI (rsN F q no k))), (2, .int (nI (tf q.1 pp k))), (3, .int (nI (cu pp k))), (4, .int (nI k)), (5, .int (1)), (6, .int (nI j))] → W p l e (rmO 3 0 0) s m ([.ref (B (100))] : List Value).toArray below meth c H locs 0 0 (MQ below (Fin0 E (fun r w => r = none ∧ ∃ (F1 : tF) (a : Nat → Nat), AGf F F1 ∧ Opt q a ∧ F1 100 46 = nI (tf q.1 a 6) ∧ (∀ o, o < no → F1 144 o = if a o < 16 then nI (a o) else -1) ∧ w = wl E X B F1 G P) A) ([.ref (B (100))] : List Value).toArray s 0 0 A) (F0 m 189 ls []) := by
                            intro n
                            induction n with
                            | zero =>
                              intro j F3 H locs ls hi_2
                              exact absurd hi_2 (Nat.not_lt_zero _)
                            | succ n ih_f =>
                              intro j F3 H locs ls hj_f hj hc3 hAG3 h463 h473 h443 hw hl
                              refine lv_iload hx hb dX12_findCutting_189 (lv_at hl 6 rfl) ?_
                              refine lv_aload_n hx hb dX12_findCutting_191 rfl (lv_at hl 0 rfl) ?_
                              refine g_i 21 C hw (hM.m rfl) rfl fl_X12_246 rfl dX12_findCutting_192 ?_
                              refine tp_i (y := nI k) ((hAG3.2 21 (by decide) (by decide)).trans (hO.1.trans (by rw [hkk]))) ?_
                              refine lv_icmp_ge (tgt := 234) hx hb dX12_findCutting_195 (by decide) (fun c_195 => ?_) (fun c_195 => ?_)
                              · have hje : j = k := lp_eq (by omega) hj c_195
                                rw [hje] at h443
                                refine lv_goto (tgt := 559) hx hb dX12_findCutting_234 (by decide) ?_
                                refine lv_iload hx hb dX12_findCutting_559 (lv_at hl 4 rfl) ?_
                                refine lv_iload hx hb dX12_findCutting_561 (lv_at hl 5 rfl) ?_
                                refine lv_if_eq (tgt := 570) hx hb dX12_findCutting_563 (by decide) (fun h9 => False.elim (by revert h9; decide)) (fun _ => ?_)
                                refine lv_iconst (v := 1) hx hb dX12_findCutting_566 (by decide) ?_
                                refine lv_goto (tgt := 571) hx hb dX12_findCutting_567 (by decide) ?_
                                refine lv_isub hx hb dX12_findCutting_571 ?_
                                refine lv_istore (lv' := [(4, .int ((nI k - 1))), (0, .ref (B (100))), (1, .int (nI (rsN F q no k))), (2, .int (nI (tf q.1 pp k))), (3, .int (nI (cu pp k))), (5, .int (1)), (6, .int (nI j))]) hx hb dX12_findCutting_572 hl (by decide) rfl (fun ls hl => ?_)
                                refine lv_goto (tgt := 126) hx hb dX12_findCutting_574 (by decide) ?_
                                exact kk (some (fl pp k)) F3 _ _ _ (hMc.e ⟨(hc3 145 (by decide) (by decide)), (hc3 146 (by decide) (by decide))⟩) (by have e9 := hc3 143 (by decide) (by decide); exact ⟨fun j hj => by rw [e9]; exact hMh.1 j hj, fun j h1 h2 => by rw [e9]; exact hMh.2 j h1 h2⟩) hAG3 (BSt.leaf hkk hk6 h463 h473 (fun j hj => h443 j (by omega))) (hIV.leaf (fl_V hk6 hPV) (fl_Dp hk6).1 (fl_Dp hk6).2 (fun b hb h1 h2 => fl_u hk6 hPV (fun o z1 z2 => hQ.z hb o (by omega) z2) hb h1 h2) (fun a9 h9 => by cases h9; rw [fl_tf hk6, fl_cu hk6]; omega)) hw (lv_sub hl [1, 2, 3, 4, 0] rfl)
                              · have hjk : j < k := lp_lt (by omega) hj c_195
                                have hpj := (hPV.1 j hjk).1
                                refine lv_aload_n hx hb dX12_findCutting_198 rfl (lv_at hl 0 rfl) ?_
                                refine g_r 43 (k2 := 144) C hw (hM.m rfl) rfl fl_X12_111 rfl (hM.p 43 rfl) dX12_findCutting_199 ?_
                                refine lv_iload hx hb dX12_findCutting_202 (lv_at hl 6 rfl) ?_
                                refine lv_aload_n hx hb dX12_findCutting_204 rfl (lv_at hl 0 rfl) ?_
                                refine g_r 42 (k2 := 143) C hw (hM.m rfl) rfl fl_X12_108 rfl (hM.p 42 rfl) dX12_findCutting_205 ?_
                                refine lv_iload hx hb dX12_findCutting_208 (lv_at hl 6 rfl) ?_
                                refine n_i j C hw (hM.m rfl) rfl rfl (show _ < 7 by omega) dX12_findCutting_210 ?_
                                refine tp_i (y := nI (pp j)) ((congrFun (hc3 143 (by decide) (by decide)) j).trans (hMh.1 j hjk)) ?_
                                refine lv_bipush (v := 16) hx hb dX12_findCutting_211 (by decide) ?_
                                refine lv_icmp_ne (tgt := 220) hx hb dX12_findCutting_213 (by decide) (fun c_213 => ?_) (fun c_213 => ?_)
                                · have hp16 : ¬ pp j = 16 := fun h9 => c_213 (by rw [h9]; rfl)
                                  refine lv_aload_n hx hb dX12_findCutting_220 rfl (lv_at hl 0 rfl) ?_
                                  refine g_r 42 (k2 := 143) C hw (hM.m rfl) rfl fl_X12_108 rfl (hM.p 42 rfl) dX12_findCutting_221 ?_
                                  refine lv_iload hx hb dX12_findCutting_224 (lv_at hl 6 rfl) ?_
                                  refine n_i j C hw (hM.m rfl) rfl rfl (show _ < 7 by omega) dX12_findCutting_226 ?_
                                  refine tp_i (y := nI (pp j)) ((congrFun (hc3 143 (by decide) (by decide)) j).trans (hMh.1 j hjk)) ?_
                                  refine t_i j C hw (hM.m rfl) rfl rfl (show _ < 6 by omega) dX12_findCutting_227 (fun H locs hw => ?_)
                                  refine lv_iinc (v := nI (j + 1)) (lv' := [(6, .int (nI (j + 1))), (0, .ref (B (100))), (1, .int (nI (rsN F q no k))), (2, .int (nI (tf q.1 pp k))), (3, .int (nI (cu pp k))), (4, .int (nI k)), (5, .int (1))]) hx hb dX12_findCutting_228 hl (k := 6) rfl (nI_1 _) (by decide) rfl (fun ls hl => ?_)
                                  refine lv_goto (tgt := 189) hx hb dX12_findCutting_231 (by decide) ?_
                                  exact ih_f (j + 1) (uF F3 144 j (nI (pp j))) _ _ _ (by omega) (by omega) (fun z h1 h2 => (uF_o _ _ _ h2).trans (hc3 z h1 h2)) (hAG3.u (by omega)) ((uF_n _ _ (Or.inl (by decide))).trans h463) ((uF_n _ _ (Or.inl (by decide))).trans h473) (fun t ht => by by_cases e9 : t = j; rw [e9, uF_s, if_pos (by omega)]; rw [uF_n _ _ (Or.inr e9)]; exact h443 t (by omega)) hw (lv_sub hl [1, 2, 3, 4, 5, 6, 0] rfl)
                                · have hp16 : pp j = 16 := (nI_eq (b := 16) (by omega) (by decide)).mp c_213
                                  refine lv_iconst (v := -1) hx hb dX12_findCutting_216 (by decide) ?_
                                  refine lv_goto (tgt := 227) hx hb dX12_findCutting_217 (by decide) ?_
                                  refine t_i j C hw (hM.m rfl) rfl rfl (show _ < 6 by omega) dX12_findCutting_227 (fun H locs hw => ?_)
                                  refine lv_iinc (v := nI (j + 1)) (lv' := [(6, .int (nI (j + 1))), (0, .ref (B (100))), (1, .int (nI (rsN F q no k))), (2, .int (nI (tf q.1 pp k))), (3, .int (nI (cu pp k))), (4, .int (nI k)), (5, .int (1))]) hx hb dX12_findCutting_228 hl (k := 6) rfl (nI_1 _) (by decide) rfl (fun ls hl => ?_)
                                  refine lv_goto (tgt := 189) hx hb dX12_findCutting_231 (by decide) ?_
                                  exact ih_f (j + 1) (uF F3 144 j (-1)) _ _ _ (by omega) (by omega) (fun z h1 h2 => (uF_o _ _ _ h2).trans (hc3 z h1 h2)) (hAG3.u (by omega)) ((uF_n _ _ (Or.inl (by decide))).trans h463) ((uF_n _ _ (Or.inl (by decide))).trans h473) (fun t ht => by by_cases e9 : t = j; rw [e9, uF_s, if_neg (by omega)]; rw [uF_n _ _ (Or.inr e9)]; exact h443 t (by omega)) hw (lv_sub hl [1, 2, 3, 4, 5, 6, 0] rfl)
                          exact lo_f _ 0 (uF (uF F1 100 46 (nI (tf q.1 pp k))) 100 47 (nI (cu pp k))) _ _ _ (Nat.lt_succ_self _) (Nat.zero_le _) (fun z h1 _ => (uF_o _ _ _ h1).trans (uF_o _ _ _ h1)) ((hAG.u (by omega)).u (by omega)) ((uF_n _ _ (Or.inr (by decide))).trans (uF_s _ _ _ _)) (uF_s _ _ _ _) (fun t ht => absurd ht (Nat.not_lt_zero t)) hw (lv_sub hl [2, 3, 4, 5, 6, 1, 0] rfl)
                        · have hg : ¬ tf q.1 a 6 < tf q.1 pp k := fun h9 => c_157 (nI_lt h9 (by omega))
                          refine lv_iload_n hx hb dX12_findCutting_160 rfl (lv_at hl 3 rfl) ?_
                          refine lv_aload_n hx hb dX12_findCutting_161 rfl (lv_at hl 1 rfl) ?_
                          refine g_i 46 C hw (hM.m rfl) rfl fl_X12_249 rfl dX12_findCutting_162 ?_
                          refine tp_i (y := nI (tf q.1 a 6)) (h46) ?_
                          refine lv_icmp_ne (tgt := 559) hx hb dX12_findCutting_165 (by decide) (fun c_165 => ?_) (fun c_165 => ?_)
                          · have hg2 : ¬ tf q.1 pp k = tf q.1 a 6 := fun h9 => c_165 (by rw [h9])
                            refine lv_iload hx hb dX12_findCutting_559 (lv_at hl 5 rfl) ?_
                            refine lv_iload hx hb dX12_findCutting_561 (lv_at hl 0 rfl) ?_
                            refine lv_if_eq (tgt := 570) hx hb dX12_findCutting_563 (by decide) (fun h9 => False.elim (by revert h9; decide)) (fun _ => ?_)
                            refine lv_iconst (v := 1) hx hb dX12_findCutting_566 (by decide) ?_
                            refine lv_goto (tgt := 571) hx hb dX12_findCutting_567 (by decide) ?_
                            refine lv_isub hx hb dX12_findCutting_571 ?_
                            refine lv_istore (lv' := [(4, .int ((nI k - 1))), (5, .int (1)), (0, .ref (B (100))), (1, .int (nI (rsN F q no k))), (2, .int (nI (tf q.1 pp k))), (3, .int (nI (cu pp k)))]) hx hb dX12_findCutting_572 hl (by decide) rfl (fun ls hl => ?_)
                            refine lv_goto (tgt := 126) hx hb dX12_findCutting_574 (by decide) ?_
                            exact kk (some a) F1 _ _ _ hMc hMh hAG ⟨h46, h47, h44⟩ (IVb.leaf0 (p := fl pp k) hIV (by omega) (fun b hb h1 h2 => fl_u hk6 hPV (fun o z1 z2 => hQ.z hb o (by omega) z2) hb h1 h2) (by rw [fl_tf hk6, fl_cu hk6]; omega)) hw (lv_sub hl [2, 3, 4, 5, 0] rfl)
                          · have hg2 : tf q.1 pp k = tf q.1 a 6 := (nI_eq (by omega) (by omega)).mp c_165
                            refine lv_iload_n hx hb dX12_findCutting_168 rfl (lv_at hl 4 rfl) ?_
                            refine lv_aload_n hx hb dX12_findCutting_169 rfl (lv_at hl 1 rfl) ?_
                            refine g_i 47 C hw (hM.m rfl) rfl fl_X12_252 rfl dX12_findCutting_170 ?_
                            refine tp_i (y := nI (cu a 6)) (h47) ?_
                            refine lv_icmp_ge (tgt := 559) hx hb dX12_findCutting_173 (by decide) (fun c_173 => ?_) (fun c_173 => ?_)
                            · have hg3 : ¬ cu pp k < cu a 6 := fun h9 => nI_ge h9 (by omega) c_173
                              refine lv_iload hx hb dX12_findCutting_559 (lv_at hl 5 rfl) ?_
                              refine lv_iload hx hb dX12_findCutting_561 (lv_at hl 0 rfl) ?_
                              refine lv_if_eq (tgt := 570) hx hb dX12_findCutting_563 (by decide) (fun h9 => False.elim (by revert h9; decide)) (fun _ => ?_)
                              refine lv_iconst (v := 1) hx hb dX12_findCutting_566 (by decide) ?_
                              refine lv_goto (tgt := 571) hx hb dX12_findCutting_567 (by decide) ?_
                              refine lv_isub hx hb dX12_findCutting_571 ?_
                              refine lv_istore (lv' := [(4, .int ((nI k - 1))), (5, .int (1)), (0, .ref (B (100))), (1, .int (nI (rsN F q no k))), (2, .int (nI (tf q.1 pp k))), (3, .int (nI (cu pp k)))]) hx hb dX12_findCutting_572 hl (by decide) rfl (fun ls hl => ?_)
                              refine lv_goto (tgt := 126) hx hb dX12_findCutting_574 (by decide) ?_
                              exact kk (some a) F1 _ _ _ hMc hMh hAG ⟨h46, h47, h44⟩ (IVb.leaf0 (p := fl pp k) hIV (by omega) (fun b hb h1 h2 => fl_u hk6 hPV (fun o z1 z2 => hQ.z hb o (by omega) z2) hb h1 h2) (by rw [fl_tf hk6, fl_cu hk6]; omega)) hw (lv_sub hl [2, 3, 4, 5, 0] rfl)
                            · have hg3 : cu pp k < cu a 6 := by rcases Nat.lt_or_ge (cu pp k) (cu a 6) with h9 | h9; exact h9; exact absurd (nI_le h9 (by omega)) c_173
                              refine lv_aload_n hx hb dX12_findCutting_176 rfl (lv_at hl 1 rfl) ?_
                              refine lv_iload_n hx hb dX12_findCutting_177 rfl (lv_at hl 3 rfl) ?_
                              refine p_i 46 C hw (hM.m rfl) rfl fl_X12_249 fc_12 fn_12_46 (fun h9 => by cases h9) rfl rfl rfl dX12_findCutting_178 (fun H locs hw => ?_)
                              refine lv_aload_n hx hb dX12_findCutting_181 rfl (lv_at hl 1 rfl) ?_
                              refine lv_iload_n hx hb dX12_findCutting_182 rfl (lv_at hl 4 rfl) ?_
                              refine p_i 47 C hw (hM.m rfl) rfl fl_X12_252 fc_12 fn_12_47 (fun h9 => by cases h9) rfl rfl rfl dX12_findCutting_183 (fun H locs hw => ?_)
                              refine lv_iconst (v := 0) hx hb dX12_findCutting_186 (by decide) ?_
                              refine lv_istore (lv' := [(6, .int (0)), (5, .int (1)), (0, .ref (B (100))), (1, .int (nI (rsN F q no k))), (2, .int (nI (tf q.1 pp k))), (3, .int (nI (cu pp k))), (4, .int (nI k))]) hx hb dX12_findCutting_187 hl (by decide) rfl (fun ls hl => ?_)
                              have lo_f : ∀ (n : Nat) (j : Nat) (F3 : tF) (H : Heap) (locs : List Loc) (ls : Array Slot), k - j < n → (j ≤ k) → (∀ z, z ≠ 100 → z ≠ 144 → F3 z = F1 z) → (AGf F F3) → (F3 100 46 = nI (tf q.1 pp k)) → (F3 100 47 = nI (cu pp k)) → (∀ t, t < j → F3 144 t = if pp t < 16 then nI (pp t) else -1) → Wd E tt A s (wl E X B F3 G P) H locs → lv_has ls 9 [(0, .ref (B (100))), (1, .int (nI (rsN F q no k))), (2, .int (nI (tf q.1 pp k))), (3, .int (nI (cu pp k))), (4, .int (nI k)), (5, .int (1)), (6, .int (nI j))] → W p l e (rmO 3 0 0) s m ([.ref (B (100))] : List Value).toArray below meth c H locs 0 0 (MQ below (Fin0 E (fun r w => r = none ∧ ∃ (F1 : tF) (a : Nat → Nat), AGf F F1 ∧ Opt q a ∧ F1 100 46 = nI (tf q.1 a 6) ∧ (∀ o, o < no → F1 144 o = if a o < 16 then nI (a o) else -1) ∧ w = wl E X B F1 G P) A) ([.ref (B (100))] : List Value).toArray s 0 0 A) (F0 m 189 ls []) := by
                                intro n
                                induction n with
                                | zero =>
                                  intro j F3 H locs ls hi_2
                                  exact absurd hi_2 (Nat.not_lt_zero _)
                                | succ n ih_f =>
                                  intro j F3 H locs ls hj_f hj hc3 hAG3 h463 h473 h443 hw hl
                                  refine lv_iload hx hb dX12_findCutting_189 (lv_at hl 6 rfl) ?_
                                  refine lv_aload_n hx hb dX12_findCutting_191 rfl (lv_at hl 0 rfl) ?_
                                  refine g_i 21 C hw (hM.m rfl) rfl fl_X12_246 rfl dX12_findCutting_192 ?_
                                  refine tp_i (y := nI k) ((hAG3.2 21 (by decide) (by decide)).trans (hO.1.trans (by rw [hkk]))) ?_
                                  refine lv_icmp_ge (tgt := 234) hx hb dX12_findCutting_195 (by decide) (fun c_195 => ?_) (fun c_195 => ?_)
                                  · have hje : j = k := lp_eq (by omega) hj c_195
                                    rw [hje] at h443
                                    refine lv_goto (tgt := 559) hx hb dX12_findCutting_234 (by decide) ?_
                                    refine lv_iload hx hb dX12_findCutting_559 (lv_at hl 4 rfl) ?_
                                    refine lv_iload hx hb dX12_findCutting_561 (lv_at hl 5 rfl) ?_
                                    refine lv_if_eq (tgt := 570) hx hb dX12_findCutting_563 (by decide) (fun h9 => False.elim (by revert h9; decide)) (fun _ => ?_)
                                    refine lv_iconst (v := 1) hx hb dX12_findCutting_566 (by decide) ?_
                                    refine lv_goto (tgt := 571) hx hb dX12_findCutting_567 (by decide) ?_
                                    refine lv_isub hx hb dX12_findCutting_571 ?_
                                    refine lv_istore (lv' := [(4, .int ((nI k - 1))), (0, .ref (B (100))), (1, .int (nI (rsN F q no k))), (2, .int (nI (tf q.1 pp k))), (3, .int (nI (cu pp k))), (5, .int (1)), (6, .int (nI j))]) hx hb dX12_findCutting_572 hl (by decide) rfl (fun ls hl => ?_)
                                    refine lv_goto (tgt := 126) hx hb dX12_findCutting_574 (by decide) ?_
                                    exact kk (some (fl pp k)) F3 _ _ _ (hMc.e ⟨(hc3 145 (by decide) (by decide)), (hc3 146 (by decide) (by decide))⟩) (by have e9 := hc3 143 (by decide) (by decide); exact ⟨fun j hj => by rw [e9]; exact hMh.1 j hj, fun j h1 h2 => by rw [e9]; exact hMh.2 j h1 h2⟩) hAG3 (BSt.leaf hkk hk6 h463 h473 (fun j hj => h443 j (by omega))) (hIV.leaf (fl_V hk6 hPV) (fl_Dp hk6).1 (fl_Dp hk6).2 (fun b hb h1 h2 => fl_u hk6 hPV (fun o z1 z2 => hQ.z hb o (by omega) z2) hb h1 h2) (fun a9 h9 => by cases h9; rw [fl_tf hk6, fl_cu hk6]; omega)) hw (lv_sub hl [1, 2, 3, 4, 0] rfl)
                                  · have hjk : j < k := lp_lt (by omega) hj c_195
                                    have hpj := (hPV.1 j hjk).1
                                    refine lv_aload_n hx hb dX12_findCutting_198 rfl (lv_at hl 0 rfl) ?_
                                    refine g_r 43 (k2 := 144) C hw (hM.m rfl) rfl fl_X12_111 rfl (hM.p 43 rfl) dX12_findCutting_199 ?_
                                    refine lv_iload hx hb dX12_findCutting_202 (lv_at hl 6 rfl) ?_
                                    refine lv_aload_n hx hb dX12_findCutting_204 rfl (lv_at hl 0 rfl) ?_
                                    refine g_r 42 (k2 := 143) C hw (hM.m rfl) rfl fl_X12_108 rfl (hM.p 42 rfl) dX12_findCutting_205 ?_
                                    refine lv_iload hx hb dX12_findCutting_208 (lv_at hl 6 rfl) ?_
                                    refine n_i j C hw (hM.m rfl) rfl rfl (show _ < 7 by omega) dX12_findCutting_210 ?_
                                    refine tp_i (y := nI (pp j)) ((congrFun (hc3 143 (by decide) (by decide)) j).trans (hMh.1 j hjk)) ?_
                                    refine lv_bipush (v := 16) hx hb dX12_findCutting_211 (by decide) ?_
                                    refine lv_icmp_ne (tgt := 220) hx hb dX12_findCutting_213 (by decide) (fun c_213 => ?_) (fun c_213 => ?_)
                                    · have hp16 : ¬ pp j = 16 := fun h9 => c_213 (by rw [h9]; rfl)
                                      refine lv_aload_n hx hb dX12_findCutting_220 rfl (lv_at hl 0 rfl) ?_
                                      refine g_r 42 (k2 := 143) C hw (hM.m rfl) rfl fl_X12_108 rfl (hM.p 42 rfl) dX12_findCutting_221 ?_
                                      refine lv_iload hx hb dX12_findCutting_224 (lv_at hl 6 rfl) ?_
                                      refine n_i j C hw (hM.m rfl) rfl rfl (show _ < 7 by omega) dX12_findCutting_226 ?_
                                      refine tp_i (y := nI (pp j)) ((congrFun (hc3 143 (by decide) (by decide)) j).trans (hMh.1 j hjk)) ?_
                                      refine t_i j C hw (hM.m rfl) rfl rfl (show _ < 6 by omega) dX12_findCutting_227 (fun H locs hw => ?_)
                                      refine lv_iinc (v := nI (j + 1)) (lv' := [(6, .int (nI (j + 1))), (0, .ref (B (100))), (1, .int (nI (rsN F q no k))), (2, .int (nI (tf q.1 pp k))), (3, .int (nI (cu pp k))), (4, .int (nI k)), (5, .int (1))]) hx hb dX12_findCutting_228 hl (k := 6) rfl (nI_1 _) (by decide) rfl (fun ls hl => ?_)
                                      refine lv_goto (tgt := 189) hx hb dX12_findCutting_231 (by decide) ?_
                                      exact ih_f (j + 1) (uF F3 144 j (nI (pp j))) _ _ _ (by omega) (by omega) (fun z h1 h2 => (uF_o _ _ _ h2).trans (hc3 z h1 h2)) (hAG3.u (by omega)) ((uF_n _ _ (Or.inl (by decide))).trans h463) ((uF_n _ _ (Or.inl (by decide))).trans h473) (fun t ht => by by_cases e9 : t = j; rw [e9, uF_s, if_pos (by omega)]; rw [uF_n _ _ (Or.inr e9)]; exact h443 t (by omega)) hw (lv_sub hl [1, 2, 3, 4, 5, 6, 0] rfl)
                                    · have hp16 : pp j = 16 := (nI_eq (b := 16) (by omega) (by decide)).mp c_213
                                      refine lv_iconst (v := -1) hx hb dX12_findCutting_216 (by decide) ?_
                                      refine lv_goto (tgt := 227) hx hb dX12_findCutting_217 (by decide) ?_
                                      refine t_i j C hw (hM.m rfl) rfl rfl (show _ < 6 by omega) dX12_findCutting_227 (fun H locs hw => ?_)
                                      refine lv_iinc (v := nI (j + 1)) (lv' := [(6, .int (nI (j + 1))), (0, .ref (B (100))), (1, .int (nI (rsN F q no k))), (2, .int (nI (tf q.1 pp k))), (3, .int (nI (cu pp k))), (4, .int (nI k)), (5, .int (1))]) hx hb dX12_findCutting_228 hl (k := 6) rfl (nI_1 _) (by decide) rfl (fun ls hl => ?_)
                                      refine lv_goto (tgt := 189) hx hb dX12_findCutting_231 (by decide) ?_
                                      exact ih_f (j + 1) (uF F3 144 j (-1)) _ _ _ (by omega) (by omega) (fun z h1 h2 => (uF_o _ _ _ h2).trans (hc3 z h1 h2)) (hAG3.u (by omega)) ((uF_n _ _ (Or.inl (by decide))).trans h463) ((uF_n _ _ (Or.inl (by decide))).trans h473) (fun t ht => by by_cases e9 : t = j; rw [e9, uF_s, if_neg (by omega)]; rw [uF_n _ _ (Or.inr e9)]; exact h443 t (by omega)) hw (lv_sub hl [1, 2, 3, 4, 5, 6, 0] rfl)
                              exact lo_f _ 0 (uF (uF F1 100 46 (nI (tf q.1 pp k))) 100 47 (nI (cu pp k))) _ _ _ (Nat.lt_succ_self _) (Nat.zero_le _) (fun z h1 _ => (uF_o _ _ _ h1).trans (uF_o _ _ _ h1)) ((hAG.u (by omega)).u (by omega)) ((uF_n _ _ (Or.inr (by decide))).trans (uF_s _ _ _ _)) (uF_s _ _ _ _) (fun t ht => absurd ht (Nat.not_lt_zero t)) hw (lv_sub hl [2, 3, 4, 5, 6, 1, 0] rfl)
                | succ n ih_L =>
                  intro k pp bo F1 H locs ls hkn hPV hMc hMh hAG hBS hIV kk hw hl
                  have hkno : k < no := by omega
                  have hk6 : k < 6 := by omega
                  have hpp : ∀ o, o < k → pp o ≤ 16 := fun o ho => (hPV.1 o ho).1
                  have hb1 := hQ.b ho6 (a := pp) (k := k) (by omega)
                  have hrs := rsN_s (F := F) (q := q) hkno
                  have h17 := pw_s hk6
                  have hqk := hQ.1 k hkno
                  have CAND : ∀ (mz x0 : Nat) (bo : Option (Nat → Nat)) (F1 : tF) (H : Heap) (locs : List Loc) (ls : Array Slot), 17 - x0 < mz → x0 ≤ 17 → ((x0 = 0 ∧ MSc q F1 pp k ∧ MSh no F1 pp k ∧ lv_has ls 9 [(0, .ref (B (100))), (1, .int (nI (rsN F q no k))), (2, .int (nI (tf q.1 pp k))), (3, .int (nI (cu pp k))), (4, .int (nI k))]) ∨ (∃ w0 : Nat, x0 = w0 + 1 ∧ w0 ≤ 16 ∧ PVd q (ups pp k w0) (k + 1) ∧ MSc q F1 (ups pp k w0) (k + 1) ∧ MSh no F1 (ups pp k w0) (k + 1) ∧ lv_has ls 9 [(0, .ref (B (100))), (1, .int (nI (rsN F q no (k + 1)))), (2, .int (nI (tf q.1 (ups pp k w0) (k + 1)))), (3, .int (nI (cu (ups pp k w0) (k + 1)))), (4, .int (nI k))])) → AGf F F1 → BSt q no F1 bo → IVb q bo (Dp pp k + x0 * pw (k + 1)) → Wd E tt A s (wl E X B F1 G P) H locs → W p l e (rmO 3 0 0) s m ([.ref (B (100))] : List Value).toArray below meth c H locs 0 0 (MQ below (Fin0 E (fun r w => r = none ∧ ∃ (F1 : tF) (a : Nat → Nat), AGf F F1 ∧ Opt q a ∧ F1 100 46 = nI (tf q.1 a 6) ∧ (∀ o, o < no → F1 144 o = if a o < 16 then nI (a o) else -1) ∧ w = wl E X B F1 G P) A) ([.ref (B (100))] : List Value).toArray s 0 0 A) (F0 m 126 ls []) := by
                    intro mz
                    induction mz with
                    | zero =>
                      intro x0 bo F1 H locs ls h9
                      exact absurd h9 (Nat.not_lt_zero _)
                    | succ mz ih_C =>
                      intro x0 bo F1 H locs ls hmz hx17 hst hAG hBS hIV hw
                      have jn_h : ∀ (x1 : Nat) (F2 : tF) (hz : Int32) (H : Heap) (locs : List Loc) (ls : Array Slot), (x0 ≤ x1 ∧ x1 ≤ 17) → (MSc q F2 pp k) → (MSj no F2 pp k) → (AGf F F2) → (BSt q no F2 bo) → (IVb q bo (Dp pp k + x1 * pw (k + 1))) → (x1 < 16 → q.2.2 x1 k = true ∧ cf q.1 pp x1 k + q.1 k ≤ q.2.1 x1) → ((hz = 1 ∧ IVb q bo (Dp pp k + pw k)) ∨ hz = 0) → Wd E tt A s (wl E X B F2 G P) H locs → lv_has ls 9 [(0, .ref (B (100))), (1, .int (nI (rsN F q no k))), (2, .int (nI (tf q.1 pp k))), (3, .int (nI (cu pp k))), (4, .int (nI k)), (7, .int (nI x1))] → W p l e (rmO 3 0 0) s m ([.ref (B (100))] : List Value).toArray below meth c H locs 0 0 (MQ below (Fin0 E (fun r w => r = none ∧ ∃ (F1 : tF) (a : Nat → Nat), AGf F F1 ∧ Opt q a ∧ F1 100 46 = nI (tf q.1 a 6) ∧ (∀ o, o < no → F1 144 o = if a o < 16 then nI (a o) else -1) ∧ w = wl E X B F1 G P) A) ([.ref (B (100))] : List Value).toArray s 0 0 A) (F0 m 425 ls [.int (hz)]) := by
                        intro x1 F2 hz H locs ls hx1 hMc2 hMj hAG2 hBS2 hIV2 hmc hhz hw hl
                        clear hst
                        refine lv_istore (lv' := [(8, .int (hz)), (0, .ref (B (100))), (1, .int (nI (rsN F q no k))), (2, .int (nI (tf q.1 pp k))), (3, .int (nI (cu pp k))), (4, .int (nI k)), (7, .int (nI x1))]) hx hb dX12_findCutting_425 hl (by decide) rfl (fun ls hl => ?_)
                        refine lv_iload hx hb dX12_findCutting_427 (lv_at hl 6 rfl) ?_
                        refine lv_bipush (v := 16) hx hb dX12_findCutting_429 (by decide) ?_
                        refine lv_icmp_gt (tgt := 439) hx hb dX12_findCutting_431 (by decide) (fun c_431 => ?_) (fun c_431 => ?_)
                        · have hxe : x1 = 17 := by have := (nI_ltI (a := 16) (by decide) (by omega)).mp c_431; omega
                          refine lv_iconst (v := 1) hx hb dX12_findCutting_439 (by decide) ?_
                          refine lv_goto (tgt := 444) hx hb dX12_findCutting_440 (by decide) ?_
                          refine lv_istore (lv' := [(5, .int (1)), (8, .int (hz)), (0, .ref (B (100))), (1, .int (nI (rsN F q no k))), (2, .int (nI (tf q.1 pp k))), (3, .int (nI (cu pp k))), (4, .int (nI k)), (7, .int (nI x1))]) hx hb dX12_findCutting_444 hl (by decide) rfl (fun ls hl => ?_)
                          refine lv_aload_n hx hb dX12_findCutting_446 rfl (lv_at hl 2 rfl) ?_
                          refine g_r 42 (k2 := 143) C hw (hM.m rfl) rfl fl_X12_108 rfl (hM.p 42 rfl) dX12_findCutting_447 ?_
                          refine lv_iload hx hb dX12_findCutting_450 (lv_at hl 6 rfl) ?_
                          refine lv_iload hx hb dX12_findCutting_452 (lv_at hl 0 rfl) ?_
                          refine lv_if_eq (tgt := 461) hx hb dX12_findCutting_454 (by decide) (fun h9 => False.elim (by revert h9; decide)) (fun _ => ?_)
                          refine lv_iconst (v := -1) hx hb dX12_findCutting_457 (by decide) ?_
                          refine lv_goto (tgt := 463) hx hb dX12_findCutting_458 (by decide) ?_
                          refine t_i k C hw (hM.m rfl) rfl rfl (show _ < 7 by omega) dX12_findCutting_463 (fun H locs hw => ?_)
                          refine lv_iload hx hb dX12_findCutting_464 (lv_at hl 0 rfl) ?_
                          refine lv_if_ne (tgt := 559) hx hb dX12_findCutting_466 (by decide) (fun _ => ?_) (fun h9 => False.elim (by revert h9; decide))
                          refine lv_iload hx hb dX12_findCutting_559 (lv_at hl 6 rfl) ?_
                          refine lv_iload hx hb dX12_findCutting_561 (lv_at hl 0 rfl) ?_
                          refine lv_if_eq (tgt := 570) hx hb dX12_findCutting_563 (by decide) (fun h9 => False.elim (by revert h9; decide)) (fun _ => ?_)
                          refine lv_iconst (v := 1) hx hb dX12_findCutting_566 (by decide) ?_
                          refine lv_goto (tgt := 571) hx hb dX12_findCutting_567 (by decide) ?_
                          refine lv_isub hx hb dX12_findCutting_571 ?_
                          refine lv_istore (lv' := [(4, .int ((nI k - 1))), (5, .int (1)), (8, .int (hz)), (0, .ref (B (100))), (1, .int (nI (rsN F q no k))), (2, .int (nI (tf q.1 pp k))), (3, .int (nI (cu pp k))), (7, .int (nI x1))]) hx hb dX12_findCutting_572 hl (by decide) rfl (fun ls hl => ?_)
                          refine lv_goto (tgt := 126) hx hb dX12_findCutting_574 (by decide) ?_
                          exact kk bo (uF F2 143 k (-1)) _ _ _ (hMc2.e ⟨uF_o _ _ _ (by decide), uF_o _ _ _ (by decide)⟩) ⟨fun j hj => (uF_n _ _ (Or.inr (by omega))).trans (hMj.1 j hj), fun j h1 h2 => by by_cases e9 : j = k; rw [e9, uF_s]; rw [uF_n _ _ (Or.inr e9)]; exact hMj.2 j (by omega) h2⟩ (hAG2.u (by omega)) (hBS2.u (by omega)) (by have h9 := hIV2; rw [show x1 = 17 by omega, ← h17] at h9; exact h9) hw (lv_sub hl [3, 4, 5, 6, 0] rfl)
                        · have hxl : x1 ≤ 16 := by rcases Nat.lt_or_ge 16 x1 with h9 | h9; exact absurd (nI_lt h9 (by omega)) c_431; exact h9
                          refine lv_iload hx hb dX12_findCutting_434 (lv_at hl 0 rfl) ?_
                          refine lv_if_eq (tgt := 443) hx hb dX12_findCutting_436 (by decide) (fun c_436 => ?_) (fun c_436 => ?_)
                          · have hPVx : PVd q (ups pp k x1) (k + 1) := hPV.ps hxl hmc
                            have huf0 : F 127 k = 0 ∨ ¬ F 127 k = 0 := Classical.em _
                            refine lv_iconst (v := 0) hx hb dX12_findCutting_443 (by decide) ?_
                            refine lv_istore (lv' := [(5, .int (0)), (8, .int (hz)), (0, .ref (B (100))), (1, .int (nI (rsN F q no k))), (2, .int (nI (tf q.1 pp k))), (3, .int (nI (cu pp k))), (4, .int (nI k)), (7, .int (nI x1))]) hx hb dX12_findCutting_444 hl (by decide) rfl (fun ls hl => ?_)
                            refine lv_aload_n hx hb dX12_findCutting_446 rfl (lv_at hl 2 rfl) ?_
                            refine g_r 42 (k2 := 143) C hw (hM.m rfl) rfl fl_X12_108 rfl (hM.p 42 rfl) dX12_findCutting_447 ?_
                            refine lv_iload hx hb dX12_findCutting_450 (lv_at hl 6 rfl) ?_
                            refine lv_iload hx hb dX12_findCutting_452 (lv_at hl 0 rfl) ?_
                            refine lv_if_eq (tgt := 461) hx hb dX12_findCutting_454 (by decide) (fun _ => ?_) (fun h9 => False.elim (by revert h9; decide))
                            refine lv_iload hx hb dX12_findCutting_461 (lv_at hl 7 rfl) ?_
                            refine t_i k C hw (hM.m rfl) rfl rfl (show _ < 7 by omega) dX12_findCutting_463 (fun H locs hw => ?_)
                            refine lv_iload hx hb dX12_findCutting_464 (lv_at hl 0 rfl) ?_
                            refine lv_if_ne (tgt := 559) hx hb dX12_findCutting_466 (by decide) (fun h9 => False.elim (by revert h9; decide)) (fun _ => ?_)
                            refine lv_iload_n hx hb dX12_findCutting_469 rfl (lv_at hl 3 rfl) ?_
                            refine lv_aload_n hx hb dX12_findCutting_470 rfl (lv_at hl 2 rfl) ?_
                            refine g_r 26 (k2 := 127) C hw (hM.m rfl) rfl fl_X12_84 rfl (hM.p 26 rfl) dX12_findCutting_471 ?_
                            refine lv_iload hx hb dX12_findCutting_474 (lv_at hl 6 rfl) ?_
                            refine n_z k C hw (hM.m rfl) rfl rfl (show _ < 6 by omega) dX12_findCutting_476 ?_
                            refine tp_i (y := F2 127 k) ((uF_n _ _ (Or.inl (by decide))).trans (rfl)) ?_
                            refine lv_if_eq (tgt := 484) hx hb dX12_findCutting_477 (by decide) (fun c_477 => ?_) (fun c_477 => ?_)
                            · have hfz : F 127 k = 0 := by rw [← congrFun (hAG2.e (k := 127) (by decide) (by decide)) k]; exact c_477
                              have huf : ufN F q k = q.1 k := if_pos hfz
                              refine lv_aload_n hx hb dX12_findCutting_484 rfl (lv_at hl 2 rfl) ?_
                              refine g_r 25 (k2 := 126) C hw (hM.m rfl) rfl fl_X12_81 rfl (hM.p 25 rfl) dX12_findCutting_485 ?_
                              refine lv_iload hx hb dX12_findCutting_488 (lv_at hl 6 rfl) ?_
                              refine n_i k C hw (hM.m rfl) rfl rfl (show _ < 6 by omega) dX12_findCutting_490 ?_
                              refine tp_i (y := F2 126 k) ((uF_n _ _ (Or.inl (by decide))).trans (rfl)) ?_
                              refine tp_i (y := nI (q.1 k)) ((congrFun (hAG2.e (by decide) (by decide)) k).trans hqk.1) ?_
                              refine lv_isub hx hb dX12_findCutting_491 ?_
                              refine tp_i (y := nI (rsN F q no (k + 1))) (by rw [hrs, huf]; exact (pk_sub (by omega)).trans (by rw [Nat.add_sub_cancel])) ?_
                              refine lv_istore_n (lv' := [(1, .int (nI (rsN F q no (k + 1)))), (5, .int (0)), (8, .int (hz)), (0, .ref (B (100))), (2, .int (nI (tf q.1 pp k))), (3, .int (nI (cu pp k))), (4, .int (nI k)), (7, .int (nI x1))]) hx hb dX12_findCutting_492 rfl hl (by decide) rfl (fun ls hl => ?_)
                              refine lv_iload hx hb dX12_findCutting_493 (lv_at hl 7 rfl) ?_
                              refine lv_bipush (v := 16) hx hb dX12_findCutting_495 (by decide) ?_
                              refine lv_icmp_ge (tgt := 556) hx hb dX12_findCutting_497 (by decide) (fun c_497 => ?_) (fun c_497 => ?_)
                              · have hxe : x1 = 16 := by have := (nI_leI (a := 16) (by decide) (by omega)).mp c_497; omega
                                have hl : lv_has ls 9 [(1, .int (nI (rsN F q no (k + 1)))), (5, .int (0)), (8, .int (hz)), (0, .ref (B (100))), (2, .int (nI (tf q.1 (ups pp k x1) (k + 1)))), (3, .int (nI (cu (ups pp k x1) (k + 1)))), (4, .int (nI k)), (7, .int (nI x1))] := by rw [tf_ups, cu_ups, if_neg (by omega), if_neg (by omega)]; exact hl
                                refine lv_iinc (v := nI (k + 1)) (lv' := [(4, .int (nI (k + 1))), (1, .int (nI (rsN F q no (k + 1)))), (5, .int (0)), (8, .int (hz)), (0, .ref (B (100))), (2, .int (nI (tf q.1 (ups pp k x1) (k + 1)))), (3, .int (nI (cu (ups pp k x1) (k + 1)))), (7, .int (nI x1))]) hx hb dX12_findCutting_556 hl (k := 6) rfl (nI_1 _) (by decide) rfl (fun ls hl => ?_)
                                refine lv_iload hx hb dX12_findCutting_559 (lv_at hl 0 rfl) ?_
                                refine lv_iload hx hb dX12_findCutting_561 (lv_at hl 2 rfl) ?_
                                refine lv_if_eq (tgt := 570) hx hb dX12_findCutting_563 (by decide) (fun _ => ?_) (fun h9 => False.elim (by revert h9; decide))
                                refine lv_iconst (v := 0) hx hb dX12_findCutting_570 (by decide) ?_
                                refine lv_isub hx hb dX12_findCutting_571 ?_
                                refine tp_i (y := nI (k + 1)) (Int32.sub_zero _) ?_
                                refine lv_istore (lv' := [(4, .int (nI (k + 1))), (1, .int (nI (rsN F q no (k + 1)))), (5, .int (0)), (8, .int (hz)), (0, .ref (B (100))), (2, .int (nI (tf q.1 (ups pp k x1) (k + 1)))), (3, .int (nI (cu (ups pp k x1) (k + 1)))), (7, .int (nI x1))]) hx hb dX12_findCutting_572 hl (by decide) rfl (fun ls hl => ?_)
                                refine lv_goto (tgt := 126) hx hb dX12_findCutting_574 (by decide) ?_
                                exact ih_L (k + 1) (ups pp k x1) bo (uF F2 143 k (nI x1)) _ _ _ (by omega) hPVx (by rw [hxe]; exact hMc2.p16 ⟨uF_o _ _ _ (by decide), uF_o _ _ _ (by decide)⟩) ⟨fun j hj => by by_cases e9 : j = k; rw [e9, uF_s, ups_s]; rw [uF_n _ _ (Or.inr e9), ups_n e9]; exact hMj.1 j (by omega), fun j h1 h2 => (uF_n _ _ (Or.inr (by omega))).trans (hMj.2 j (by omega) h2)⟩ (hAG2.u (by omega)) (hBS2.u (by omega)) (by rw [Dp_ups]; exact hIV2) (fun bo9 F9 H locs ls a1 a2 a3 a4 a5 hw hl => ih_C (x1 + 1) bo9 F9 _ _ _ (by omega) (by omega) (Or.inr ⟨x1, rfl, by omega, hPVx, a1, a2, (by rw [nI_pred] at hl; exact hl)⟩) a3 a4 (by rw [Dp_ups, Nat.add_assoc, ← Nat.succ_mul] at a5; exact a5) hw) hw (lv_sub hl [4, 1, 5, 6, 0] rfl)
                              · have hlt16 : x1 < 16 := by rcases Nat.lt_or_ge x1 16 with h9 | h9; exact h9; exact absurd ((nI_leI (a := 16) (by decide) (by omega)).mpr h9) c_497
                                obtain ⟨hmo, hmf⟩ := hmc hlt16
                                have hq3 := hQ.2.2.1 x1 hlt16
                                have hMx := hMc2 x1 hlt16
                                have htfu := tf_ups q.1 pp k x1
                                rw [if_pos hlt16] at htfu
                                have hcuu := cu_ups pp k x1
                                refine lv_aload_n hx hb dX12_findCutting_500 rfl (lv_at hl 3 rfl) ?_
                                refine g_r 44 (k2 := 145) C hw (hM.m rfl) rfl fl_X12_114 rfl (hM.p 44 rfl) dX12_findCutting_501 ?_
                                refine lv_iload hx hb dX12_findCutting_504 (lv_at hl 7 rfl) ?_
                                refine lv_dup2_11 hx hb dX12_findCutting_506 rfl rfl ?_
                                refine n_i x1 C hw (hM.m rfl) rfl rfl (show _ < 16 by omega) dX12_findCutting_507 ?_
                                refine tp_i (y := F2 145 x1) ((uF_n _ _ (Or.inl (by decide))).trans (rfl)) ?_
                                refine tp_i (y := nI (q.2.1 x1 - cf q.1 pp x1 k)) (hMx.1) ?_
                                refine lv_aload_n hx hb dX12_findCutting_508 rfl (lv_at hl 3 rfl) ?_
                                refine g_r 25 (k2 := 126) C hw (hM.m rfl) rfl fl_X12_81 rfl (hM.p 25 rfl) dX12_findCutting_509 ?_
                                refine lv_iload hx hb dX12_findCutting_512 (lv_at hl 6 rfl) ?_
                                refine n_i k C hw (hM.m rfl) rfl rfl (show _ < 6 by omega) dX12_findCutting_514 ?_
                                refine tp_i (y := F2 126 k) ((uF_n _ _ (Or.inl (by decide))).trans (rfl)) ?_
                                refine tp_i (y := nI (q.1 k)) ((congrFun (hAG2.e (by decide) (by decide)) k).trans hqk.1) ?_
                                refine lv_isub hx hb dX12_findCutting_515 ?_
                                refine tp_i (y := nI (q.2.1 x1 - cf q.1 pp x1 k - q.1 k)) (pk_sub (by omega)) ?_
                                refine t_i x1 C hw (hM.m rfl) rfl rfl (show _ < 16 by omega) dX12_findCutting_516 (fun H locs hw => ?_)
                                refine lv_iload_n hx hb dX12_findCutting_517 rfl (lv_at hl 5 rfl) ?_
                                refine lv_aload_n hx hb dX12_findCutting_518 rfl (lv_at hl 3 rfl) ?_
                                refine g_r 45 (k2 := 146) C hw (hM.m rfl) rfl fl_X12_117 rfl (hM.p 45 rfl) dX12_findCutting_519 ?_
                                refine lv_iload hx hb dX12_findCutting_522 (lv_at hl 7 rfl) ?_
                                refine n_i x1 C hw (hM.m rfl) rfl rfl (show _ < 17 by omega) dX12_findCutting_524 ?_
                                refine tp_i (y := F2 146 x1) ((uF_n _ _ (Or.inl (by decide))).trans ((uF_n _ _ (Or.inl (by decide))).trans (rfl))) ?_
                                refine tp_i (y := nI (uc pp x1 k)) (hMx.2) ?_
                                refine lv_if_ne (tgt := 532) hx hb dX12_findCutting_525 (by decide) (fun c_525 => ?_) (fun c_525 => ?_)
                                · have hucb : uc pp x1 k < 2 ^ 31 := by have h9 := sumN_le (f := fun o => if pp o = x1 then 1 else 0) (g := fun _ => 1) k (fun j _ => by show (if pp j = x1 then 1 else 0) ≤ 1; split <;> omega); have h8 : ∀ n, sumN (fun _ => 1) n = n := (fun n => by induction n with | zero => rfl | succ n ih => simp only [sumN, ih]); rw [h8] at h9; exact Nat.lt_of_le_of_lt h9 (by omega)
                                  refine lv_iconst (v := 0) hx hb dX12_findCutting_532 (by decide) ?_
                                  refine lv_iadd hx hb dX12_findCutting_533 ?_
                                  refine tp_i (y := nI (cu (ups pp k x1) (k + 1))) (by rw [hcuu, if_neg (fun h9 => c_525 (by rw [h9.2]; rfl)), Nat.add_zero]; exact Int32.add_zero _) ?_
                                  refine lv_istore_n (lv' := [(3, .int (nI (cu (ups pp k x1) (k + 1)))), (1, .int (nI (rsN F q no (k + 1)))), (5, .int (0)), (8, .int (hz)), (0, .ref (B (100))), (2, .int (nI (tf q.1 pp k))), (4, .int (nI k)), (7, .int (nI x1))]) hx hb dX12_findCutting_534 rfl hl (by decide) rfl (fun ls hl => ?_)
                                  refine lv_aload_n hx hb dX12_findCutting_535 rfl (lv_at hl 4 rfl) ?_
                                  refine g_r 45 (k2 := 146) C hw (hM.m rfl) rfl fl_X12_117 rfl (hM.p 45 rfl) dX12_findCutting_536 ?_
                                  refine lv_iload hx hb dX12_findCutting_539 (lv_at hl 7 rfl) ?_
                                  refine lv_dup2_11 hx hb dX12_findCutting_541 rfl rfl ?_
                                  refine n_i x1 C hw (hM.m rfl) rfl rfl (show _ < 17 by omega) dX12_findCutting_542 ?_
                                  refine tp_i (y := F2 146 x1) ((uF_n _ _ (Or.inl (by decide))).trans ((uF_n _ _ (Or.inl (by decide))).trans (rfl))) ?_
                                  refine tp_i (y := nI (uc pp x1 k)) (hMx.2) ?_
                                  refine lv_iconst (v := 1) hx hb dX12_findCutting_543 (by decide) ?_
                                  refine lv_iadd hx hb dX12_findCutting_544 ?_
                                  refine tp_i (y := nI (uc pp x1 k + 1)) (nI_1 _) ?_
                                  refine t_i x1 C hw (hM.m rfl) rfl rfl (show _ < 17 by omega) dX12_findCutting_545 (fun H locs hw => ?_)
                                  refine lv_iload_n hx hb dX12_findCutting_546 rfl (lv_at hl 5 rfl) ?_
                                  refine lv_aload_n hx hb dX12_findCutting_547 rfl (lv_at hl 4 rfl) ?_
                                  refine g_r 25 (k2 := 126) C hw (hM.m rfl) rfl fl_X12_81 rfl (hM.p 25 rfl) dX12_findCutting_548 ?_
                                  refine lv_iload hx hb dX12_findCutting_551 (lv_at hl 6 rfl) ?_
                                  refine n_i k C hw (hM.m rfl) rfl rfl (show _ < 6 by omega) dX12_findCutting_553 ?_
                                  refine tp_i (y := F2 126 k) ((uF_n _ _ (Or.inl (by decide))).trans ((uF_n _ _ (Or.inl (by decide))).trans ((uF_n _ _ (Or.inl (by decide))).trans (rfl)))) ?_
                                  refine tp_i (y := nI (q.1 k)) ((congrFun (hAG2.e (by decide) (by decide)) k).trans hqk.1) ?_
                                  refine lv_iadd hx hb dX12_findCutting_554 ?_
                                  refine tp_i (y := nI (tf q.1 (ups pp k x1) (k + 1))) (by rw [htfu]; exact nI_add _ _) ?_
                                  refine lv_istore_n (lv' := [(2, .int (nI (tf q.1 (ups pp k x1) (k + 1)))), (3, .int (nI (cu (ups pp k x1) (k + 1)))), (1, .int (nI (rsN F q no (k + 1)))), (5, .int (0)), (8, .int (hz)), (0, .ref (B (100))), (4, .int (nI k)), (7, .int (nI x1))]) hx hb dX12_findCutting_555 rfl hl (by decide) rfl (fun ls hl => ?_)
                                  refine lv_iinc (v := nI (k + 1)) (lv' := [(4, .int (nI (k + 1))), (2, .int (nI (tf q.1 (ups pp k x1) (k + 1)))), (3, .int (nI (cu (ups pp k x1) (k + 1)))), (1, .int (nI (rsN F q no (k + 1)))), (5, .int (0)), (8, .int (hz)), (0, .ref (B (100))), (7, .int (nI x1))]) hx hb dX12_findCutting_556 hl (k := 6) rfl (nI_1 _) (by decide) rfl (fun ls hl => ?_)
                                  refine lv_iload hx hb dX12_findCutting_559 (lv_at hl 0 rfl) ?_
                                  refine lv_iload hx hb dX12_findCutting_561 (lv_at hl 4 rfl) ?_
                                  refine lv_if_eq (tgt := 570) hx hb dX12_findCutting_563 (by decide) (fun _ => ?_) (fun h9 => False.elim (by revert h9; decide))
                                  refine lv_iconst (v := 0) hx hb dX12_findCutting_570 (by decide) ?_
                                  refine lv_isub hx hb dX12_findCutting_571 ?_
                                  refine tp_i (y := nI (k + 1)) (Int32.sub_zero _) ?_
                                  refine lv_istore (lv' := [(4, .int (nI (k + 1))), (2, .int (nI (tf q.1 (ups pp k x1) (k + 1)))), (3, .int (nI (cu (ups pp k x1) (k + 1)))), (1, .int (nI (rsN F q no (k + 1)))), (5, .int (0)), (8, .int (hz)), (0, .ref (B (100))), (7, .int (nI x1))]) hx hb dX12_findCutting_572 hl (by decide) rfl (fun ls hl => ?_)
                                  refine lv_goto (tgt := 126) hx hb dX12_findCutting_574 (by decide) ?_
                                  exact ih_L (k + 1) (ups pp k x1) bo (uF (uF (uF F2 143 k (nI x1)) 145 x1 (nI (q.2.1 x1 - cf q.1 pp x1 k - q.1 k))) 146 x1 (nI (uc pp x1 k + 1))) _ _ _ (by omega) hPVx (hMc2.ps ((uF_n _ _ (Or.inl (by decide))).trans (uF_s _ _ _ _)) (uF_s _ _ _ _) (fun x hx => ⟨(uF_n _ _ (Or.inl (by decide))).trans ((uF_n _ _ (Or.inr hx)).trans (uF_n _ _ (Or.inl (by decide)))), (uF_n _ _ (Or.inr hx)).trans ((uF_n _ _ (Or.inl (by decide))).trans (uF_n _ _ (Or.inl (by decide))))⟩)) ⟨fun j hj => (uF_n _ _ (Or.inl (by decide))).trans ((uF_n _ _ (Or.inl (by decide))).trans (by by_cases e9 : j = k; rw [e9, uF_s, ups_s]; rw [uF_n _ _ (Or.inr e9), ups_n e9]; exact hMj.1 j (by omega))), fun j h1 h2 => (uF_n _ _ (Or.inl (by decide))).trans ((uF_n _ _ (Or.inl (by decide))).trans ((uF_n _ _ (Or.inr (by omega))).trans (hMj.2 j (by omega) h2)))⟩ (((hAG2.u (by omega)).u (by omega)).u (by omega)) (((hBS2.u (by omega)).u (by omega)).u (by omega)) (by rw [Dp_ups]; exact hIV2) (fun bo9 F9 H locs ls a1 a2 a3 a4 a5 hw hl => ih_C (x1 + 1) bo9 F9 _ _ _ (by omega) (by omega) (Or.inr ⟨x1, rfl, by omega, hPVx, a1, a2, (by rw [nI_pred] at hl; exact hl)⟩) a3 a4 (by rw [Dp_ups, Nat.add_assoc, ← Nat.succ_mul] at a5; exact a5) hw) hw (lv_sub hl [6, 3, 1, 2, 0] rfl)
                                · have hucb : uc pp x1 k < 2 ^ 31 := by have h9 := sumN_le (f := fun o => if pp o = x1 then 1 else 0) (g := fun _ => 1) k (fun j _ => by show (if pp j = x1 then 1 else 0) ≤ 1; split <;> omega); have h8 : ∀ n, sumN (fun _ => 1) n = n := (fun n => by induction n with | zero => rfl | succ n ih => simp only [sumN, ih]); rw [h8] at h9; exact Nat.lt_of_le_of_lt h9 (by omega)
                                  refine lv_iconst (v := 1) hx hb dX12_findCutting_528 (by decide) ?_
                                  refine lv_goto (tgt := 533) hx hb dX12_findCutting_529 (by decide) ?_
                                  refine lv_iadd hx hb dX12_findCutting_533 ?_
                                  refine tp_i (y := nI (cu (ups pp k x1) (k + 1))) (by rw [hcuu, if_pos ⟨hlt16, (nI_eq (b := 0) hucb (by decide)).mp c_525⟩]; exact nI_1 _) ?_
                                  refine lv_istore_n (lv' := [(3, .int (nI (cu (ups pp k x1) (k + 1)))), (1, .int (nI (rsN F q no (k + 1)))), (5, .int (0)), (8, .int (hz)), (0, .ref (B (100))), (2, .int (nI (tf q.1 pp k))), (4, .int (nI k)), (7, .int (nI x1))]) hx hb dX12_findCutting_534 rfl hl (by decide) rfl (fun ls hl => ?_)
                                  refine lv_aload_n hx hb dX12_findCutting_535 rfl (lv_at hl 4 rfl) ?_
                                  refine g_r 45 (k2 := 146) C hw (hM.m rfl) rfl fl_X12_117 rfl (hM.p 45 rfl) dX12_findCutting_536 ?_
                                  refine lv_iload hx hb dX12_findCutting_539 (lv_at hl 7 rfl) ?_
                                  refine lv_dup2_11 hx hb dX12_findCutting_541 rfl rfl ?_
                                  refine n_i x1 C hw (hM.m rfl) rfl rfl (show _ < 17 by omega) dX12_findCutting_542 ?_
                                  refine tp_i (y := F2 146 x1) ((uF_n _ _ (Or.inl (by decide))).trans ((uF_n _ _ (Or.inl (by decide))).trans (rfl))) ?_
                                  refine tp_i (y := nI (uc pp x1 k)) (hMx.2) ?_
                                  refine lv_iconst (v := 1) hx hb dX12_findCutting_543 (by decide) ?_
                                  refine lv_iadd hx hb dX12_findCutting_544 ?_
                                  refine tp_i (y := nI (uc pp x1 k + 1)) (nI_1 _) ?_
                                  refine t_i x1 C hw (hM.m rfl) rfl rfl (show _ < 17 by omega) dX12_findCutting_545 (fun H locs hw => ?_)
                                  refine lv_iload_n hx hb dX12_findCutting_546 rfl (lv_at hl 5 rfl) ?_
                                  refine lv_aload_n hx hb dX12_findCutting_547 rfl (lv_at hl 4 rfl) ?_
                                  refine g_r 25 (k2 := 126) C hw (hM.m rfl) rfl fl_X12_81 rfl (hM.p 25 rfl) dX12_findCutting_548 ?_
                                  refine lv_iload hx hb dX12_findCutting_551 (lv_at hl 6 rfl) ?_
                                  refine n_i k C hw (hM.m rfl) rfl rfl (show _ < 6 by omega) dX12_findCutting_553 ?_
                                  refine tp_i (y := F2 126 k) ((uF_n _ _ (Or.inl (by decide))).trans ((uF_n _ _ (Or.inl (by decide))).trans ((uF_n _ _ (Or.inl (by decide))).trans (rfl)))) ?_
                                  refine tp_i (y := nI (q.1 k)) ((congrFun (hAG2.e (by decide) (by decide)) k).trans hqk.1) ?_
                                  refine lv_iadd hx hb dX12_findCutting_554 ?_
                                  refine tp_i (y := nI (tf q.1 (ups pp k x1) (k + 1))) (by rw [htfu]; exact nI_add _ _) ?_
                                  refine lv_istore_n (lv' := [(2, .int (nI (tf q.1 (ups pp k x1) (k + 1)))), (3, .int (nI (cu (ups pp k x1) (k + 1)))), (1, .int (nI (rsN F q no (k + 1)))), (5, .int (0)), (8, .int (hz)), (0, .ref (B (100))), (4, .int (nI k)), (7, .int (nI x1))]) hx hb dX12_findCutting_555 rfl hl (by decide) rfl (fun ls hl => ?_)
                                  refine lv_iinc (v := nI (k + 1)) (lv' := [(4, .int (nI (k + 1))), (2, .int (nI (tf q.1 (ups pp k x1) (k + 1)))), (3, .int (nI (cu (ups pp k x1) (k + 1)))), (1, .int (nI (rsN F q no (k + 1)))), (5, .int (0)), (8, .int (hz)), (0, .ref (B (100))), (7, .int (nI x1))]) hx hb dX12_findCutting_556 hl (k := 6) rfl (nI_1 _) (by decide) rfl (fun ls hl => ?_)
                                  refine lv_iload hx hb dX12_findCutting_559 (lv_at hl 0 rfl) ?_
                                  refine lv_iload hx hb dX12_findCutting_561 (lv_at hl 4 rfl) ?_
                                  refine lv_if_eq (tgt := 570) hx hb dX12_findCutting_563 (by decide) (fun _ => ?_) (fun h9 => False.elim (by revert h9; decide))
                                  refine lv_iconst (v := 0) hx hb dX12_findCutting_570 (by decide) ?_
                                  refine lv_isub hx hb dX12_findCutting_571 ?_
                                  refine tp_i (y := nI (k + 1)) (Int32.sub_zero _) ?_
                                  refine lv_istore (lv' := [(4, .int (nI (k + 1))), (2, .int (nI (tf q.1 (ups pp k x1) (k + 1)))), (3, .int (nI (cu (ups pp k x1) (k + 1)))), (1, .int (nI (rsN F q no (k + 1)))), (5, .int (0)), (8, .int (hz)), (0, .ref (B (100))), (7, .int (nI x1))]) hx hb dX12_findCutting_572 hl (by decide) rfl (fun ls hl => ?_)
                                  refine lv_goto (tgt := 126) hx hb dX12_findCutting_574 (by decide) ?_
                                  exact ih_L (k + 1) (ups pp k x1) bo (uF (uF (uF F2 143 k (nI x1)) 145 x1 (nI (q.2.1 x1 - cf q.1 pp x1 k - q.1 k))) 146 x1 (nI (uc pp x1 k + 1))) _ _ _ (by omega) hPVx (hMc2.ps ((uF_n _ _ (Or.inl (by decide))).trans (uF_s _ _ _ _)) (uF_s _ _ _ _) (fun x hx => ⟨(uF_n _ _ (Or.inl (by decide))).trans ((uF_n _ _ (Or.inr hx)).trans (uF_n _ _ (Or.inl (by decide)))), (uF_n _ _ (Or.inr hx)).trans ((uF_n _ _ (Or.inl (by decide))).trans (uF_n _ _ (Or.inl (by decide))))⟩)) ⟨fun j hj => (uF_n _ _ (Or.inl (by decide))).trans ((uF_n _ _ (Or.inl (by decide))).trans (by by_cases e9 : j = k; rw [e9, uF_s, ups_s]; rw [uF_n _ _ (Or.inr e9), ups_n e9]; exact hMj.1 j (by omega))), fun j h1 h2 => (uF_n _ _ (Or.inl (by decide))).trans ((uF_n _ _ (Or.inl (by decide))).trans ((uF_n _ _ (Or.inr (by omega))).trans (hMj.2 j (by omega) h2)))⟩ (((hAG2.u (by omega)).u (by omega)).u (by omega)) (((hBS2.u (by omega)).u (by omega)).u (by omega)) (by rw [Dp_ups]; exact hIV2) (fun bo9 F9 H locs ls a1 a2 a3 a4 a5 hw hl => ih_C (x1 + 1) bo9 F9 _ _ _ (by omega) (by omega) (Or.inr ⟨x1, rfl, by omega, hPVx, a1, a2, (by rw [nI_pred] at hl; exact hl)⟩) a3 a4 (by rw [Dp_ups, Nat.add_assoc, ← Nat.succ_mul] at a5; exact a5) hw) hw (lv_sub hl [6, 3, 1, 2, 0] rfl)
                            · have hfz : ¬ F 127 k = 0 := by rw [← congrFun (hAG2.e (k := 127) (by decide) (by decide)) k]; exact c_477
                              have huf : ufN F q k = 0 := if_neg hfz
                              refine lv_iconst (v := 0) hx hb dX12_findCutting_480 (by decide) ?_
                              refine lv_goto (tgt := 491) hx hb dX12_findCutting_481 (by decide) ?_
                              refine lv_isub hx hb dX12_findCutting_491 ?_
                              refine tp_i (y := nI (rsN F q no (k + 1))) (by rw [hrs, huf, Nat.add_zero]; exact Int32.sub_zero _) ?_
                              refine lv_istore_n (lv' := [(1, .int (nI (rsN F q no (k + 1)))), (5, .int (0)), (8, .int (hz)), (0, .ref (B (100))), (2, .int (nI (tf q.1 pp k))), (3, .int (nI (cu pp k))), (4, .int (nI k)), (7, .int (nI x1))]) hx hb dX12_findCutting_492 rfl hl (by decide) rfl (fun ls hl => ?_)
                              refine lv_iload hx hb dX12_findCutting_493 (lv_at hl 7 rfl) ?_
                              refine lv_bipush (v := 16) hx hb dX12_findCutting_495 (by decide) ?_
                              refine lv_icmp_ge (tgt := 556) hx hb dX12_findCutting_497 (by decide) (fun c_497 => ?_) (fun c_497 => ?_)
                              · have hxe : x1 = 16 := by have := (nI_leI (a := 16) (by decide) (by omega)).mp c_497; omega
                                have hl : lv_has ls 9 [(1, .int (nI (rsN F q no (k + 1)))), (5, .int (0)), (8, .int (hz)), (0, .ref (B (100))), (2, .int (nI (tf q.1 (ups pp k x1) (k + 1)))), (3, .int (nI (cu (ups pp k x1) (k + 1)))), (4, .int (nI k)), (7, .int (nI x1))] := by rw [tf_ups, cu_ups, if_neg (by omega), if_neg (by omega)]; exact hl
                                refine lv_iinc (v := nI (k + 1)) (lv' := [(4, .int (nI (k + 1))), (1, .int (nI (rsN F q no (k + 1)))), (5, .int (0)), (8, .int (hz)), (0, .ref (B (100))), (2, .int (nI (tf q.1 (ups pp k x1) (k + 1)))), (3, .int (nI (cu (ups pp k x1) (k + 1)))), (7, .int (nI x1))]) hx hb dX12_findCutting_556 hl (k := 6) rfl (nI_1 _) (by decide) rfl (fun ls hl => ?_)
                                refine lv_iload hx hb dX12_findCutting_559 (lv_at hl 0 rfl) ?_
                                refine lv_iload hx hb dX12_findCutting_561 (lv_at hl 2 rfl) ?_
                                refine lv_if_eq (tgt := 570) hx hb dX12_findCutting_563 (by decide) (fun _ => ?_) (fun h9 => False.elim (by revert h9; decide))
                                refine lv_iconst (v := 0) hx hb dX12_findCutting_570 (by decide) ?_
                                refine lv_isub hx hb dX12_findCutting_571 ?_
                                refine tp_i (y := nI (k + 1)) (Int32.sub_zero _) ?_
                                refine lv_istore (lv' := [(4, .int (nI (k + 1))), (1, .int (nI (rsN F q no (k + 1)))), (5, .int (0)), (8, .int (hz)), (0, .ref (B (100))), (2, .int (nI (tf q.1 (ups pp k x1) (k + 1)))), (3, .int (nI (cu (ups pp k x1) (k + 1)))), (7, .int (nI x1))]) hx hb dX12_findCutting_572 hl (by decide) rfl (fun ls hl => ?_)
                                refine lv_goto (tgt := 126) hx hb dX12_findCutting_574 (by decide) ?_
                                exact ih_L (k + 1) (ups pp k x1) bo (uF F2 143 k (nI x1)) _ _ _ (by omega) hPVx (by rw [hxe]; exact hMc2.p16 ⟨uF_o _ _ _ (by decide), uF_o _ _ _ (by decide)⟩) ⟨fun j hj => by by_cases e9 : j = k; rw [e9, uF_s, ups_s]; rw [uF_n _ _ (Or.inr e9), ups_n e9]; exact hMj.1 j (by omega), fun j h1 h2 => (uF_n _ _ (Or.inr (by omega))).trans (hMj.2 j (by omega) h2)⟩ (hAG2.u (by omega)) (hBS2.u (by omega)) (by rw [Dp_ups]; exact hIV2) (fun bo9 F9 H locs ls a1 a2 a3 a4 a5 hw hl => ih_C (x1 + 1) bo9 F9 _ _ _ (by omega) (by omega) (Or.inr ⟨x1, rfl, by omega, hPVx, a1, a2, (by rw [nI_pred] at hl; exact hl)⟩) a3 a4 (by rw [Dp_ups, Nat.add_assoc, ← Nat.succ_mul] at a5; exact a5) hw) hw (lv_sub hl [4, 1, 5, 6, 0] rfl)
                              · have hlt16 : x1 < 16 := by rcases Nat.lt_or_ge x1 16 with h9 | h9; exact h9; exact absurd ((nI_leI (a := 16) (by decide) (by omega)).mpr h9) c_497
                                obtain ⟨hmo, hmf⟩ := hmc hlt16
                                have hq3 := hQ.2.2.1 x1 hlt16
                                have hMx := hMc2 x1 hlt16
                                have htfu := tf_ups q.1 pp k x1
                                rw [if_pos hlt16] at htfu
                                have hcuu := cu_ups pp k x1
                                refine lv_aload_n hx hb dX12_findCutting_500 rfl (lv_at hl 3 rfl) ?_
                                refine g_r 44 (k2 := 145) C hw (hM.m rfl) rfl fl_X12_114 rfl (hM.p 44 rfl) dX12_findCutting_501 ?_
                                refine lv_iload hx hb dX12_findCutting_504 (lv_at hl 7 rfl) ?_
                                refine lv_dup2_11 hx hb dX12_findCutting_506 rfl rfl ?_
                                refine n_i x1 C hw (hM.m rfl) rfl rfl (show _ < 16 by omega) dX12_findCutting_507 ?_
                                refine tp_i (y := F2 145 x1) ((uF_n _ _ (Or.inl (by decide))).trans (rfl)) ?_
                                refine tp_i (y := nI (q.2.1 x1 - cf q.1 pp x1 k)) (hMx.1) ?_
                                refine lv_aload_n hx hb dX12_findCutting_508 rfl (lv_at hl 3 rfl) ?_
                                refine g_r 25 (k2 := 126) C hw (hM.m rfl) rfl fl_X12_81 rfl (hM.p 25 rfl) dX12_findCutting_509 ?_
                                refine lv_iload hx hb dX12_findCutting_512 (lv_at hl 6 rfl) ?_
                                refine n_i k C hw (hM.m rfl) rfl rfl (show _ < 6 by omega) dX12_findCutting_514 ?_
                                refine tp_i (y := F2 126 k) ((uF_n _ _ (Or.inl (by decide))).trans (rfl)) ?_
                                refine tp_i (y := nI (q.1 k)) ((congrFun (hAG2.e (by decide) (by decide)) k).trans hqk.1) ?_
                                refine lv_isub hx hb dX12_findCutting_515 ?_
                                refine tp_i (y := nI (q.2.1 x1 - cf q.1 pp x1 k - q.1 k)) (pk_sub (by omega)) ?_
                                refine t_i x1 C hw (hM.m rfl) rfl rfl (show _ < 16 by omega) dX12_findCutting_516 (fun H locs hw => ?_)
                                refine lv_iload_n hx hb dX12_findCutting_517 rfl (lv_at hl 5 rfl) ?_
                                refine lv_aload_n hx hb dX12_findCutting_518 rfl (lv_at hl 3 rfl) ?_
                                refine g_r 45 (k2 := 146) C hw (hM.m rfl) rfl fl_X12_117 rfl (hM.p 45 rfl) dX12_findCutting_519 ?_
                                refine lv_iload hx hb dX12_findCutting_522 (lv_at hl 7 rfl) ?_
                                refine n_i x1 C hw (hM.m rfl) rfl rfl (show _ < 17 by omega) dX12_findCutting_524 ?_
                                refine tp_i (y := F2 146 x1) ((uF_n _ _ (Or.inl (by decide))).trans ((uF_n _ _ (Or.inl (by decide))).trans (rfl))) ?_
                                refine tp_i (y := nI (uc pp x1 k)) (hMx.2) ?_
                                refine lv_if_ne (tgt := 532) hx hb dX12_findCutting_525 (by decide) (fun c_525 => ?_) (fun c_525 => ?_)
                                · have hucb : uc pp x1 k < 2 ^ 31 := by have h9 := sumN_le (f := fun o => if pp o = x1 then 1 else 0) (g := fun _ => 1) k (fun j _ => by show (if pp j = x1 then 1 else 0) ≤ 1; split <;> omega); have h8 : ∀ n, sumN (fun _ => 1) n = n := (fun n => by induction n with | zero => rfl | succ n ih => simp only [sumN, ih]); rw [h8] at h9; exact Nat.lt_of_le_of_lt h9 (by omega)
                                  refine lv_iconst (v := 0) hx hb dX12_findCutting_532 (by decide) ?_
                                  refine lv_iadd hx hb dX12_findCutting_533 ?_
                                  refine tp_i (y := nI (cu (ups pp k x1) (k + 1))) (by rw [hcuu, if_neg (fun h9 => c_525 (by rw [h9.2]; rfl)), Nat.add_zero]; exact Int32.add_zero _) ?_
                                  refine lv_istore_n (lv' := [(3, .int (nI (cu (ups pp k x1) (k + 1)))), (1, .int (nI (rsN F q no (k + 1)))), (5, .int (0)), (8, .int (hz)), (0, .ref (B (100))), (2, .int (nI (tf q.1 pp k))), (4, .int (nI k)), (7, .int (nI x1))]) hx hb dX12_findCutting_534 rfl hl (by decide) rfl (fun ls hl => ?_)
                                  refine lv_aload_n hx hb dX12_findCutting_535 rfl (lv_at hl 4 rfl) ?_
                                  refine g_r 45 (k2 := 146) C hw (hM.m rfl) rfl fl_X12_117 rfl (hM.p 45 rfl) dX12_findCutting_536 ?_
                                  refine lv_iload hx hb dX12_findCutting_539 (lv_at hl 7 rfl) ?_
                                  refine lv_dup2_11 hx hb dX12_findCutting_541 rfl rfl ?_
                                  refine n_i x1 C hw (hM.m rfl) rfl rfl (show _ < 17 by omega) dX12_findCutting_542 ?_
                                  refine tp_i (y := F2 146 x1) ((uF_n _ _ (Or.inl (by decide))).trans ((uF_n _ _ (Or.inl (by decide))).trans (rfl))) ?_
                                  refine tp_i (y := nI (uc pp x1 k)) (hMx.2) ?_
                                  refine lv_iconst (v := 1) hx hb dX12_findCutting_543 (by decide) ?_
                                  refine lv_iadd hx hb dX12_findCutting_544 ?_
                                  refine tp_i (y := nI (uc pp x1 k + 1)) (nI_1 _) ?_
                                  refine t_i x1 C hw (hM.m rfl) rfl rfl (show _ < 17 by omega) dX12_findCutting_545 (fun H locs hw => ?_)
                                  refine lv_iload_n hx hb dX12_findCutting_546 rfl (lv_at hl 5 rfl) ?_
                                  refine lv_aload_n hx hb dX12_findCutting_547 rfl (lv_at hl 4 rfl) ?_
                                  refine g_r 25 (k2 := 126) C hw (hM.m rfl) rfl fl_X12_81 rfl (hM.p 25 rfl) dX12_findCutting_548 ?_
                                  refine lv_iload hx hb dX12_findCutting_551 (lv_at hl 6 rfl) ?_
                                  refine n_i k C hw (hM.m rfl) rfl rfl (show _ < 6 by omega) dX12_findCutting_553 ?_
                                  refine tp_i (y := F2 126 k) ((uF_n _ _ (Or.inl (by decide))).trans ((uF_n _ _ (Or.inl (by decide))).trans ((uF_n _ _ (Or.inl (by decide))).trans (rfl)))) ?_
                                  refine tp_i (y := nI (q.1 k)) ((congrFun (hAG2.e (by decide) (by decide)) k).trans hqk.1) ?_
                                  refine lv_iadd hx hb dX12_findCutting_554 ?_
                                  refine tp_i (y := nI (tf q.1 (ups pp k x1) (k + 1))) (by rw [htfu]; exact nI_add _ _) ?_
                                  refine lv_istore_n (lv' := [(2, .int (nI (tf q.1 (ups pp k x1) (k + 1)))), (3, .int (nI (cu (ups pp k x1) (k + 1)))), (1, .int (nI (rsN F q no (k + 1)))), (5, .int (0)), (8, .int (hz)), (0, .ref (B (100))), (4, .int (nI k)), (7, .int (nI x1))]) hx hb dX12_findCutting_555 rfl hl (by decide) rfl (fun ls hl => ?_)
                                  refine lv_iinc (v := nI (k + 1)) (lv' := [(4, .int (nI (k + 1))), (2, .int (nI (tf q.1 (ups pp k x1) (k + 1)))), (3, .int (nI (cu (ups pp k x1) (k + 1)))), (1, .int (nI (rsN F q no (k + 1)))), (5, .int (0)), (8, .int (hz)), (0, .ref (B (100))), (7, .int (nI x1))]) hx hb dX12_findCutting_556 hl (k := 6) rfl (nI_1 _) (by decide) rfl (fun ls hl => ?_)
                                  refine lv_iload hx hb dX12_findCutting_559 (lv_at hl 0 rfl) ?_
                                  refine lv_iload hx hb dX12_findCutting_561 (lv_at hl 4 rfl) ?_
                                  refine lv_if_eq (tgt := 570) hx hb dX12_findCutting_563 (by decide) (fun _ => ?_) (fun h9 => False.elim (by revert h9; decide))
                                  refine lv_iconst (v := 0) hx hb dX12_findCutting_570 (by decide) ?_
                                  refine lv_isub hx hb dX12_findCutting_571 ?_
                                  refine tp_i (y := nI (k + 1)) (Int32.sub_zero _) ?_
                                  refine lv_istore (lv' := [(4, .int (nI (k + 1))), (2, .int (nI (tf q.1 (ups pp k x1) (k + 1)))), (3, .int (nI (cu (ups pp k x1) (k + 1)))), (1, .int (nI (rsN F q no (k + 1)))), (5, .int (0)), (8, .int (hz)), (0, .ref (B (100))), (7, .int (nI x1))]) hx hb dX12_findCutting_572 hl (by decide) rfl (fun ls hl => ?_)
                                  refine lv_goto (tgt := 126) hx hb dX12_findCutting_574 (by decide) ?_
                                  exact ih_L (k + 1) (ups pp k x1) bo (uF (uF (uF F2 143 k (nI x1)) 145 x1 (nI (q.2.1 x1 - cf q.1 pp x1 k - q.1 k))) 146 x1 (nI (uc pp x1 k + 1))) _ _ _ (by omega) hPVx (hMc2.ps ((uF_n _ _ (Or.inl (by decide))).trans (uF_s _ _ _ _)) (uF_s _ _ _ _) (fun x hx => ⟨(uF_n _ _ (Or.inl (by decide))).trans ((uF_n _ _ (Or.inr hx)).trans (uF_n _ _ (Or.inl (by decide)))), (uF_n _ _ (Or.inr hx)).trans ((uF_n _ _ (Or.inl (by decide))).trans (uF_n _ _ (Or.inl (by decide))))⟩)) ⟨fun j hj => (uF_n _ _ (Or.inl (by decide))).trans ((uF_n _ _ (Or.inl (by decide))).trans (by by_cases e9 : j = k; rw [e9, uF_s, ups_s]; rw [uF_n _ _ (Or.inr e9), ups_n e9]; exact hMj.1 j (by omega))), fun j h1 h2 => (uF_n _ _ (Or.inl (by decide))).trans ((uF_n _ _ (Or.inl (by decide))).trans ((uF_n _ _ (Or.inr (by omega))).trans (hMj.2 j (by omega) h2)))⟩ (((hAG2.u (by omega)).u (by omega)).u (by omega)) (((hBS2.u (by omega)).u (by omega)).u (by omega)) (by rw [Dp_ups]; exact hIV2) (fun bo9 F9 H locs ls a1 a2 a3 a4 a5 hw hl => ih_C (x1 + 1) bo9 F9 _ _ _ (by omega) (by omega) (Or.inr ⟨x1, rfl, by omega, hPVx, a1, a2, (by rw [nI_pred] at hl; exact hl)⟩) a3 a4 (by rw [Dp_ups, Nat.add_assoc, ← Nat.succ_mul] at a5; exact a5) hw) hw (lv_sub hl [6, 3, 1, 2, 0] rfl)
                                · have hucb : uc pp x1 k < 2 ^ 31 := by have h9 := sumN_le (f := fun o => if pp o = x1 then 1 else 0) (g := fun _ => 1) k (fun j _ => by show (if pp j = x1 then 1 else 0) ≤ 1; split <;> omega); have h8 : ∀ n, sumN (fun _ => 1) n = n := (fun n => by induction n with | zero => rfl | succ n ih => simp only [sumN, ih]); rw [h8] at h9; exact Nat.lt_of_le_of_lt h9 (by omega)
                                  refine lv_iconst (v := 1) hx hb dX12_findCutting_528 (by decide) ?_
                                  refine lv_goto (tgt := 533) hx hb dX12_findCutting_529 (by decide) ?_
                                  refine lv_iadd hx hb dX12_findCutting_533 ?_
                                  refine tp_i (y := nI (cu (ups pp k x1) (k + 1))) (by rw [hcuu, if_pos ⟨hlt16, (nI_eq (b := 0) hucb (by decide)).mp c_525⟩]; exact nI_1 _) ?_
                                  refine lv_istore_n (lv' := [(3, .int (nI (cu (ups pp k x1) (k + 1)))), (1, .int (nI (rsN F q no (k + 1)))), (5, .int (0)), (8, .int (hz)), (0, .ref (B (100))), (2, .int (nI (tf q.1 pp k))), (4, .int (nI k)), (7, .int (nI x1))]) hx hb dX12_findCutting_534 rfl hl (by decide) rfl (fun ls hl => ?_)
                                  refine lv_aload_n hx hb dX12_findCutting_535 rfl (lv_at hl 4 rfl) ?_
                                  refine g_r 45 (k2 := 146) C hw (hM.m rfl) rfl fl_X12_117 rfl (hM.p 45 rfl) dX12_findCutting_536 ?_
                                  refine lv_iload hx hb dX12_findCutting_539 (lv_at hl 7 rfl) ?_
                                  refine lv_dup2_11 hx hb dX12_findCutting_541 rfl rfl ?_
                                  refine n_i x1 C hw (hM.m rfl) rfl rfl (show _ < 17 by omega) dX12_findCutting_542 ?_
                                  refine tp_i (y := F2 146 x1) ((uF_n _ _ (Or.inl (by decide))).trans ((uF_n _ _ (Or.inl (by decide))).trans (rfl))) ?_
                                  refine tp_i (y := nI (uc pp x1 k)) (hMx.2) ?_
                                  refine lv_iconst (v := 1) hx hb dX12_findCutting_543 (by decide) ?_
                                  refine lv_iadd hx hb dX12_findCutting_544 ?_
                                  refine tp_i (y := nI (uc pp x1 k + 1)) (nI_1 _) ?_
                                  refine t_i x1 C hw (hM.m rfl) rfl rfl (show _ < 17 by omega) dX12_findCutting_545 (fun H locs hw => ?_)
                                  refine lv_iload_n hx hb dX12_findCutting_546 rfl (lv_at hl 5 rfl) ?_
                                  refine lv_aload_n hx hb dX12_findCutting_547 rfl (lv_at hl 4 rfl) ?_
                                  refine g_r 25 (k2 := 126) C hw (hM.m rfl) rfl fl_X12_81 rfl (hM.p 25 rfl) dX12_findCutting_548 ?_
                                  refine lv_iload hx hb dX12_findCutting_551 (lv_at hl 6 rfl) ?_
                                  refine n_i k C hw (hM.m rfl) rfl rfl (show _ < 6 by omega) dX12_findCutting_553 ?_
                                  refine tp_i (y := F2 126 k) ((uF_n _ _ (Or.inl (by decide))).trans ((uF_n _ _ (Or.inl (by decide))).trans ((uF_n _ _ (Or.inl (by decide))).trans (rfl)))) ?_
                                  refine tp_i (y := nI (q.1 k)) ((congrFun (hAG2.e (by decide) (by decide)) k).trans hqk.1) ?_
                                  refine lv_iadd hx hb dX12_findCutting_554 ?_
                                  refine tp_i (y := nI (tf q.1 (ups pp k x1) (k + 1))) (by rw [htfu]; exact nI_add _ _) ?_
                                  refine lv_istore_n (lv' := [(2, .int (nI (tf q.1 (ups pp k x1) (k + 1)))), (3, .int (nI (cu (ups pp k x1) (k + 1)))), (1, .int (nI (rsN F q no (k + 1)))), (5, .int (0)), (8, .int (hz)), (0, .ref (B (100))), (4, .int (nI k)), (7, .int (nI x1))]) hx hb dX12_findCutting_555 rfl hl (by decide) rfl (fun ls hl => ?_)
                                  refine lv_iinc (v := nI (k + 1)) (lv' := [(4, .int (nI (k + 1))), (2, .int (nI (tf q.1 (ups pp k x1) (k + 1)))), (3, .int (nI (cu (ups pp k x1) (k + 1)))), (1, .int (nI (rsN F q no (k + 1)))), (5, .int (0)), (8, .int (hz)), (0, .ref (B (100))), (7, .int (nI x1))]) hx hb dX12_findCutting_556 hl (k := 6) rfl (nI_1 _) (by decide) rfl (fun ls hl => ?_)
                                  refine lv_iload hx hb dX12_findCutting_559 (lv_at hl 0 rfl) ?_
                                  refine lv_iload hx hb dX12_findCutting_561 (lv_at hl 4 rfl) ?_
                                  refine lv_if_eq (tgt := 570) hx hb dX12_findCutting_563 (by decide) (fun _ => ?_) (fun h9 => False.elim (by revert h9; decide))
                                  refine lv_iconst (v := 0) hx hb dX12_findCutting_570 (by decide) ?_
                                  refine lv_isub hx hb dX12_findCutting_571 ?_
                                  refine tp_i (y := nI (k + 1)) (Int32.sub_zero _) ?_
                                  refine lv_istore (lv' := [(4, .int (nI (k + 1))), (2, .int (nI (tf q.1 (ups pp k x1) (k + 1)))), (3, .int (nI (cu (ups pp k x1) (k + 1)))), (1, .int (nI (rsN F q no (k + 1)))), (5, .int (0)), (8, .int (hz)), (0, .ref (B (100))), (7, .int (nI x1))]) hx hb dX12_findCutting_572 hl (by decide) rfl (fun ls hl => ?_)
                                  refine lv_goto (tgt := 126) hx hb dX12_findCutting_574 (by decide) ?_
                                  exact ih_L (k + 1) (ups pp k x1) bo (uF (uF (uF F2 143 k (nI x1)) 145 x1 (nI (q.2.1 x1 - cf q.1 pp x1 k - q.1 k))) 146 x1 (nI (uc pp x1 k + 1))) _ _ _ (by omega) hPVx (hMc2.ps ((uF_n _ _ (Or.inl (by decide))).trans (uF_s _ _ _ _)) (uF_s _ _ _ _) (fun x hx => ⟨(uF_n _ _ (Or.inl (by decide))).trans ((uF_n _ _ (Or.inr hx)).trans (uF_n _ _ (Or.inl (by decide)))), (uF_n _ _ (Or.inr hx)).trans ((uF_n _ _ (Or.inl (by decide))).trans (uF_n _ _ (Or.inl (by decide))))⟩)) ⟨fun j hj => (uF_n _ _ (Or.inl (by decide))).trans ((uF_n _ _ (Or.inl (by decide))).trans (by by_cases e9 : j = k; rw [e9, uF_s, ups_s]; rw [uF_n _ _ (Or.inr e9), ups_n e9]; exact hMj.1 j (by omega))), fun j h1 h2 => (uF_n _ _ (Or.inl (by decide))).trans ((uF_n _ _ (Or.inl (by decide))).trans ((uF_n _ _ (Or.inr (by omega))).trans (hMj.2 j (by omega) h2)))⟩ (((hAG2.u (by omega)).u (by omega)).u (by omega)) (((hBS2.u (by omega)).u (by omega)).u (by omega)) (by rw [Dp_ups]; exact hIV2) (fun bo9 F9 H locs ls a1 a2 a3 a4 a5 hw hl => ih_C (x1 + 1) bo9 F9 _ _ _ (by omega) (by omega) (Or.inr ⟨x1, rfl, by omega, hPVx, a1, a2, (by rw [nI_pred] at hl; exact hl)⟩) a3 a4 (by rw [Dp_ups, Nat.add_assoc, ← Nat.succ_mul] at a5; exact a5) hw) hw (lv_sub hl [6, 3, 1, 2, 0] rfl)
                          · refine lv_iconst (v := 1) hx hb dX12_findCutting_439 (by decide) ?_
                            refine lv_goto (tgt := 444) hx hb dX12_findCutting_440 (by decide) ?_
                            refine lv_istore (lv' := [(5, .int (1)), (8, .int (hz)), (0, .ref (B (100))), (1, .int (nI (rsN F q no k))), (2, .int (nI (tf q.1 pp k))), (3, .int (nI (cu pp k))), (4, .int (nI k)), (7, .int (nI x1))]) hx hb dX12_findCutting_444 hl (by decide) rfl (fun ls hl => ?_)
                            refine lv_aload_n hx hb dX12_findCutting_446 rfl (lv_at hl 2 rfl) ?_
                            refine g_r 42 (k2 := 143) C hw (hM.m rfl) rfl fl_X12_108 rfl (hM.p 42 rfl) dX12_findCutting_447 ?_
                            refine lv_iload hx hb dX12_findCutting_450 (lv_at hl 6 rfl) ?_
                            refine lv_iload hx hb dX12_findCutting_452 (lv_at hl 0 rfl) ?_
                            refine lv_if_eq (tgt := 461) hx hb dX12_findCutting_454 (by decide) (fun h9 => False.elim (by revert h9; decide)) (fun _ => ?_)
                            refine lv_iconst (v := -1) hx hb dX12_findCutting_457 (by decide) ?_
                            refine lv_goto (tgt := 463) hx hb dX12_findCutting_458 (by decide) ?_
                            refine t_i k C hw (hM.m rfl) rfl rfl (show _ < 7 by omega) dX12_findCutting_463 (fun H locs hw => ?_)
                            refine lv_iload hx hb dX12_findCutting_464 (lv_at hl 0 rfl) ?_
                            refine lv_if_ne (tgt := 559) hx hb dX12_findCutting_466 (by decide) (fun _ => ?_) (fun h9 => False.elim (by revert h9; decide))
                            refine lv_iload hx hb dX12_findCutting_559 (lv_at hl 6 rfl) ?_
                            refine lv_iload hx hb dX12_findCutting_561 (lv_at hl 0 rfl) ?_
                            refine lv_if_eq (tgt := 570) hx hb dX12_findCutting_563 (by decide) (fun h9 => False.elim (by revert h9; decide)) (fun _ => ?_)
                            refine lv_iconst (v := 1) hx hb dX12_findCutting_566 (by decide) ?_
                            refine lv_goto (tgt := 571) hx hb dX12_findCutting_567 (by decide) ?_
                            refine lv_isub hx hb dX12_findCutting_571 ?_
                            refine lv_istore (lv' := [(4, .int ((nI k - 1))), (5, .int (1)), (8, .int (hz)), (0, .ref (B (100))), (1, .int (nI (rsN F q no k))), (2, .int (nI (tf q.1 pp k))), (3, .int (nI (cu pp k))), (7, .int (nI x1))]) hx hb dX12_findCutting_572 hl (by decide) rfl (fun ls hl => ?_)
                            refine lv_goto (tgt := 126) hx hb dX12_findCutting_574 (by decide) ?_
                            exact kk bo (uF F2 143 k (-1)) _ _ _ (hMc2.e ⟨uF_o _ _ _ (by decide), uF_o _ _ _ (by decide)⟩) ⟨fun j hj => (uF_n _ _ (Or.inr (by omega))).trans (hMj.1 j hj), fun j h1 h2 => by by_cases e9 : j = k; rw [e9, uF_s]; rw [uF_n _ _ (Or.inr e9)]; exact hMj.2 j (by omega) h2⟩ (hAG2.u (by omega)) (hBS2.u (by omega)) (hhz.elim (fun h9 => h9.2) (fun h9 => absurd h9 c_436)) hw (lv_sub hl [3, 4, 5, 6, 0] rfl)
                      have jn_e : ∀ (x1 : Nat) (F2 : tF) (H : Heap) (locs : List Loc) (ls : Array Slot), (x0 ≤ x1 ∧ x1 ≤ 17) → (MSc q F2 pp k) → (MSj no F2 pp k) → (AGf F F2) → (BSt q no F2 bo) → (IVb q bo (Dp pp k + x1 * pw (k + 1))) → (x1 < 16 → q.2.2 x1 k = true ∧ cf q.1 pp x1 k + q.1 k ≤ q.2.1 x1) → Wd E tt A s (wl E X B F2 G P) H locs → lv_has ls 9 [(0, .ref (B (100))), (1, .int (nI (rsN F q no k))), (2, .int (nI (tf q.1 pp k))), (3, .int (nI (cu pp k))), (4, .int (nI k)), (7, .int (nI x1))] → W p l e (rmO 3 0 0) s m ([.ref (B (100))] : List Value).toArray below meth c H locs 0 0 (MQ below (Fin0 E (fun r w => r = none ∧ ∃ (F1 : tF) (a : Nat → Nat), AGf F F1 ∧ Opt q a ∧ F1 100 46 = nI (tf q.1 a 6) ∧ (∀ o, o < no → F1 144 o = if a o < 16 then nI (a o) else -1) ∧ w = wl E X B F1 G P) A) ([.ref (B (100))] : List Value).toArray s 0 0 A) (F0 m 385 ls []) := by
                        intro x1 F2 H locs ls hx1 hMc2 hMj hAG2 hBS2 hIV2 hmc hw hl
                        clear hst
                        rcases bo with _ | a
                        · have hB9 := hBS2
                          obtain ⟨h46, h47⟩ := hB9
                          refine lv_iload_n hx hb dX12_findCutting_385 rfl (lv_at hl 2 rfl) ?_
                          refine lv_iload_n hx hb dX12_findCutting_386 rfl (lv_at hl 1 rfl) ?_
                          refine lv_iadd hx hb dX12_findCutting_387 ?_
                          refine tp_i (y := nI (tf q.1 pp k + rsN F q no k)) (nI_add _ _) ?_
                          refine lv_aload_n hx hb dX12_findCutting_388 rfl (lv_at hl 0 rfl) ?_
                          refine g_i 46 C hw (hM.m rfl) rfl fl_X12_249 rfl dX12_findCutting_389 ?_
                          refine tp_i (y := -1) (h46) ?_
                          refine lv_icmp_lt (tgt := 420) hx hb dX12_findCutting_392 (by decide) (fun c_392 => ?_) (fun c_392 => ?_)
                          · exact absurd c_392 (Int32.not_lt.mpr (Int32.le_trans (by decide) (nI_pos' (by omega))))
                          · refine lv_iload_n hx hb dX12_findCutting_395 rfl (lv_at hl 2 rfl) ?_
                            refine lv_iload_n hx hb dX12_findCutting_396 rfl (lv_at hl 1 rfl) ?_
                            refine lv_iadd hx hb dX12_findCutting_397 ?_
                            refine tp_i (y := nI (tf q.1 pp k + rsN F q no k)) (nI_add _ _) ?_
                            refine lv_aload_n hx hb dX12_findCutting_398 rfl (lv_at hl 0 rfl) ?_
                            refine g_i 46 C hw (hM.m rfl) rfl fl_X12_249 rfl dX12_findCutting_399 ?_
                            refine tp_i (y := -1) (h46) ?_
                            refine lv_icmp_ne (tgt := 424) hx hb dX12_findCutting_402 (by decide) (fun c_402 => ?_) (fun c_402 => ?_)
                            · refine lv_iconst (v := 0) hx hb dX12_findCutting_424 (by decide) ?_
                              exact jn_h x1 F2 (0) _ _ _ hx1 hMc2 hMj hAG2 hBS2 hIV2 hmc (Or.inr rfl) hw (lv_sub hl [0, 1, 2, 3, 4, 5] rfl)
                            · exact absurd c_402 (nI_m1 (by omega))
                        · have hB9 := hBS2
                          obtain ⟨h46, h47, h44⟩ := hB9
                          have hba := hQ.b ho6 (a := a) (k := no) (Nat.le_refl _)
                          have hta := hQ.tf6 ho6 hIV2.1
                          have hca := cu_le a 6
                          refine lv_iload_n hx hb dX12_findCutting_385 rfl (lv_at hl 2 rfl) ?_
                          refine lv_iload_n hx hb dX12_findCutting_386 rfl (lv_at hl 1 rfl) ?_
                          refine lv_iadd hx hb dX12_findCutting_387 ?_
                          refine tp_i (y := nI (tf q.1 pp k + rsN F q no k)) (nI_add _ _) ?_
                          refine lv_aload_n hx hb dX12_findCutting_388 rfl (lv_at hl 0 rfl) ?_
                          refine g_i 46 C hw (hM.m rfl) rfl fl_X12_249 rfl dX12_findCutting_389 ?_
                          refine tp_i (y := nI (tf q.1 a 6)) (h46) ?_
                          refine lv_icmp_lt (tgt := 420) hx hb dX12_findCutting_392 (by decide) (fun c_392 => ?_) (fun c_392 => ?_)
                          · have hh : tf q.1 pp k + rsN F q no k < tf q.1 a 6 := (nI_ltI (by omega) (by omega)).mp c_392
                            have hIVe : IVb q (some a) (Dp pp k + pw k) := hIV2.cut (rest := rsN F q no k) (no := no) hk6 hpp hx1.2 (fun b hb he => tf_rest (by omega) ho6 he (hQ.z hb) (fun o z1 z2 => by have h8 := (hb.1 o (by omega)).2 z2; have h7 := (hQ.2.2.2.2.1 o (b o) z1 z2).mp h8; rw [ufN, if_pos h7.2.1]; exact Nat.le_refl _)) (Or.inl hh)
                            refine lv_iconst (v := 1) hx hb dX12_findCutting_420 (by decide) ?_
                            refine lv_goto (tgt := 425) hx hb dX12_findCutting_421 (by decide) ?_
                            exact jn_h x1 F2 (1) _ _ _ hx1 hMc2 hMj hAG2 hBS2 hIV2 hmc (Or.inl ⟨rfl, hIVe⟩) hw (lv_sub hl [0, 1, 2, 3, 4, 5] rfl)
                          · refine lv_iload_n hx hb dX12_findCutting_395 rfl (lv_at hl 2 rfl) ?_
                            refine lv_iload_n hx hb dX12_findCutting_396 rfl (lv_at hl 1 rfl) ?_
                            refine lv_iadd hx hb dX12_findCutting_397 ?_
                            refine tp_i (y := nI (tf q.1 pp k + rsN F q no k)) (nI_add _ _) ?_
                            refine lv_aload_n hx hb dX12_findCutting_398 rfl (lv_at hl 0 rfl) ?_
                            refine g_i 46 C hw (hM.m rfl) rfl fl_X12_249 rfl dX12_findCutting_399 ?_
                            refine tp_i (y := nI (tf q.1 a 6)) (h46) ?_
                            refine lv_icmp_ne (tgt := 424) hx hb dX12_findCutting_402 (by decide) (fun c_402 => ?_) (fun c_402 => ?_)
                            · refine lv_iconst (v := 0) hx hb dX12_findCutting_424 (by decide) ?_
                              exact jn_h x1 F2 (0) _ _ _ hx1 hMc2 hMj hAG2 hBS2 hIV2 hmc (Or.inr rfl) hw (lv_sub hl [0, 1, 2, 3, 4, 5] rfl)
                            · have hh : tf q.1 pp k + rsN F q no k = tf q.1 a 6 := (nI_eq (by omega) (by omega)).mp c_402
                              refine lv_iload_n hx hb dX12_findCutting_405 rfl (lv_at hl 3 rfl) ?_
                              refine lv_aload_n hx hb dX12_findCutting_406 rfl (lv_at hl 0 rfl) ?_
                              refine g_i 47 C hw (hM.m rfl) rfl fl_X12_252 rfl dX12_findCutting_407 ?_
                              refine tp_i (y := nI (cu a 6)) (h47) ?_
                              refine lv_icmp_lt (tgt := 424) hx hb dX12_findCutting_410 (by decide) (fun c_410 => ?_) (fun c_410 => ?_)
                              · refine lv_iconst (v := 0) hx hb dX12_findCutting_424 (by decide) ?_
                                exact jn_h x1 F2 (0) _ _ _ hx1 hMc2 hMj hAG2 hBS2 hIV2 hmc (Or.inr rfl) hw (lv_sub hl [0, 1, 2, 3, 4, 5] rfl)
                              · have hh2 : cu a 6 ≤ cu pp k := by rcases Nat.lt_or_ge (cu pp k) (cu a 6) with h9 | h9; exact absurd (nI_lt h9 (by omega)) c_410; exact h9
                                refine lv_aload_n hx hb dX12_findCutting_413 rfl (lv_at hl 0 rfl) ?_
                                refine g_i 46 C hw (hM.m rfl) rfl fl_X12_249 rfl dX12_findCutting_414 ?_
                                refine tp_i (y := nI (tf q.1 a 6)) (h46) ?_
                                refine lv_if_lt (tgt := 424) hx hb dX12_findCutting_417 (by decide) (fun c_417 => ?_) (fun c_417 => ?_)
                                · exact absurd c_417 (nI_pos (by omega))
                                · have hIVe : IVb q (some a) (Dp pp k + pw k) := hIV2.cut (rest := rsN F q no k) (no := no) hk6 hpp hx1.2 (fun b hb he => tf_rest (by omega) ho6 he (hQ.z hb) (fun o z1 z2 => by have h8 := (hb.1 o (by omega)).2 z2; have h7 := (hQ.2.2.2.2.1 o (b o) z1 z2).mp h8; rw [ufN, if_pos h7.2.1]; exact Nat.le_refl _)) (Or.inr ⟨hh, hh2⟩)
                                  refine lv_iconst (v := 1) hx hb dX12_findCutting_420 (by decide) ?_
                                  refine lv_goto (tgt := 425) hx hb dX12_findCutting_421 (by decide) ?_
                                  exact jn_h x1 F2 (1) _ _ _ hx1 hMc2 hMj hAG2 hBS2 hIV2 hmc (Or.inl ⟨rfl, hIVe⟩) hw (lv_sub hl [0, 1, 2, 3, 4, 5] rfl)
                      have lo_s : ∀ (n : Nat) (x1 : Nat) (F2 : tF) (H : Heap) (locs : List Loc) (ls : Array Slot), 17 - x1 < n → (x0 ≤ x1 ∧ x1 ≤ 17) → (MSc q F2 pp k) → (MSj no F2 pp k) → (AGf F F2) → (BSt q no F2 bo) → (IVb q bo (Dp pp k + x1 * pw (k + 1))) → Wd E tt A s (wl E X B F2 G P) H locs → lv_has ls 9 [(0, .ref (B (100))), (1, .int (nI (rsN F q no k))), (2, .int (nI (tf q.1 pp k))), (3, .int (nI (cu pp k))), (4, .int (nI k)), (7, .int (nI x1))] → W p l e (rmO 3 0 0) s m ([.ref (B (100))] : List Value).toArray below meth c H locs 0 0 (MQ below (Fin0 E (fun r w => r = none ∧ ∃ (F1 : tF) (a : Nat → Nat), AGf F F1 ∧ Opt q a ∧ F1 100 46 = nI (tf q.1 a 6) ∧ (∀ o, o < no → F1 144 o = if a o < 16 then nI (a o) else -1) ∧ w = wl E X B F1 G P) A) ([.ref (B (100))] : List Value).toArray s 0 0 A) (F0 m 361 ls []) := by
                        intro n
                        induction n with
                        | zero =>
                          intro x1 F2 H locs ls hi_2
                          exact absurd hi_2 (Nat.not_lt_zero _)
                        | succ n ih_s =>
                          intro x1 F2 H locs ls hj_s hx1 hMc2 hMj hAG2 hBS2 hIV2 hw hl
                          clear hst
                          refine lv_iload hx hb dX12_findCutting_361 (lv_at hl 5 rfl) ?_
                          refine lv_bipush (v := 16) hx hb dX12_findCutting_363 (by decide) ?_
                          refine lv_icmp_ge (tgt := 385) hx hb dX12_findCutting_365 (by decide) (fun c_365 => ?_) (fun c_365 => ?_)
                          · have hx16 : 16 ≤ x1 := (nI_leI (a := 16) (by decide) (by omega)).mp c_365
                            exact jn_e x1 F2 _ _ _ hx1 hMc2 hMj hAG2 hBS2 hIV2 (fun h9 => absurd h9 (by omega)) hw (lv_sub hl [0, 1, 2, 3, 4, 5] rfl)
                          · have hlt16 : x1 < 16 := by rcases Nat.lt_or_ge x1 16 with h9 | h9; exact h9; exact absurd ((nI_leI (a := 16) (by decide) (by omega)).mpr h9) c_365
                            refine lv_aload_n hx hb dX12_findCutting_368 rfl (lv_at hl 0 rfl) ?_
                            refine lv_iload hx hb dX12_findCutting_369 (lv_at hl 4 rfl) ?_
                            refine lv_iload hx hb dX12_findCutting_371 (lv_at hl 5 rfl) ?_
                            refine kV C hw (c_X12_mayCut E tt B F2 G hM (nc := nc) ((hAG2.2 13 (by decide) (by decide)).trans hC.1) hC.2.1 (o1 := k) (x1 := x1) hk6 hlt16) vy_X12_mayCut ml_X12_255 (rcv hw (hM.m rfl) rfl (by decide) (q2 := (RX12, TX12, 49)) rfl) rfl hl.1 (rest := []) rfl dX12_findCutting_373 (Nat.le_of_ble_eq_true rfl) ⟨by decide, by decide⟩ ⟨Nat.le_of_ble_eq_true rfl, Nat.le_of_ble_eq_true rfl⟩ (fun v_373 ws_373 H locs hp_373 hq_373 => ?_)
                            clear hw
                            rcases hp_373 with ⟨h_373, rfl, rfl⟩ | ⟨h_373, rfl, rfl⟩
                            · have hw := hq_373
                              refine W.eq (g2 := F0 m 376 ls [.int (1)]) rfl ?_
                              rw [hAG2.e (k := 127) (by decide) (by decide), hAG2.e (k := 115) (by decide) (by decide), hAG2.e (k := 123) (by decide) (by decide), hAG2.e (k := 124) (by decide) (by decide), hAG2.e (k := 116) (by decide) (by decide), hAG2.e (k := 125) (by decide) (by decide), hAG2.e (k := 126) (by decide) (by decide), (hMc2 x1 hlt16).1, hqk.1] at h_373
                              have hq5 := hQ.2.2.2.2.1 k x1 hkno hlt16
                              have hq3 := hQ.2.2.1 x1 hlt16
                              have hcf := hPV.2 x1 hlt16
                              have hmq : q.2.2 x1 k = true ∧ cf q.1 pp x1 k + q.1 k ≤ q.2.1 x1 := ⟨hq5.mpr ⟨h_373.1, h_373.2.1, h_373.2.2.1, h_373.2.2.2.1, h_373.2.2.2.2.1⟩, by have := (nI_leI (by omega) (by omega)).mp h_373.2.2.2.2.2; omega⟩
                              refine lv_if_ne (tgt := 385) hx hb dX12_findCutting_376 (by decide) (fun _ => ?_) (fun h9 => False.elim (by revert h9; decide))
                              exact jn_e x1 F2 _ _ _ hx1 hMc2 hMj hAG2 hBS2 hIV2 (fun _ => hmq) hw (lv_sub hl [0, 1, 2, 3, 4, 5] rfl)
                            · have hw := hq_373
                              refine W.eq (g2 := F0 m 376 ls [.int (0)]) rfl ?_
                              rw [hAG2.e (k := 127) (by decide) (by decide), hAG2.e (k := 115) (by decide) (by decide), hAG2.e (k := 123) (by decide) (by decide), hAG2.e (k := 124) (by decide) (by decide), hAG2.e (k := 116) (by decide) (by decide), hAG2.e (k := 125) (by decide) (by decide), hAG2.e (k := 126) (by decide) (by decide), (hMc2 x1 hlt16).1, hqk.1] at h_373
                              have hq5 := hQ.2.2.2.2.1 k x1 hkno hlt16
                              have hq3 := hQ.2.2.1 x1 hlt16
                              have hcf := hPV.2 x1 hlt16
                              have hmn : ¬ (q.2.2 x1 k = true ∧ cf q.1 pp x1 k + q.1 k ≤ q.2.1 x1) := fun h9 => by obtain ⟨z1, z2, z3, z4, z5⟩ := hq5.mp h9.1; exact h_373 ⟨z1, z2, z3, z4, z5, nI_le (by omega) (by omega)⟩
                              refine lv_if_ne (tgt := 385) hx hb dX12_findCutting_376 (by decide) (fun h9 => False.elim (by revert h9; decide)) (fun _ => ?_)
                              refine lv_iinc (v := nI (x1 + 1)) (lv' := [(7, .int (nI (x1 + 1))), (0, .ref (B (100))), (1, .int (nI (rsN F q no k))), (2, .int (nI (tf q.1 pp k))), (3, .int (nI (cu pp k))), (4, .int (nI k))]) hx hb dX12_findCutting_379 hl (k := 5) rfl (nI_1 _) (by decide) rfl (fun ls hl => ?_)
                              refine lv_goto (tgt := 361) hx hb dX12_findCutting_382 (by decide) ?_
                              exact ih_s (x1 + 1) F2 _ _ _ (by omega) (by omega) hMc2 hMj hAG2 hBS2 (hIV2.skip hk6 hpp hlt16 hmn) hw (lv_sub hl [1, 2, 3, 4, 5, 0] rfl)
                      rcases hst with ⟨hx0, hMc, hMh, hl⟩ | ⟨w0, hx0, hw16, hPV1, hMc, hMh, hl⟩
                      · refine lv_iload hx hb dX12_findCutting_126 (lv_at hl 4 rfl) ?_
                        refine lv_if_lt (tgt := 577) hx hb dX12_findCutting_128 (by decide) (fun c_128 => ?_) (fun c_128 => ?_)
                        · exact absurd c_128 (nI_pos (by omega))
                        · refine lv_iload hx hb dX12_findCutting_131 (lv_at hl 4 rfl) ?_
                          refine lv_aload_n hx hb dX12_findCutting_133 rfl (lv_at hl 0 rfl) ?_
                          refine g_i 21 C hw (hM.m rfl) rfl fl_X12_246 rfl dX12_findCutting_134 ?_
                          refine tp_i (y := nI no) ((hAG.2 21 (by decide) (by decide)).trans hO.1) ?_
                          refine lv_icmp_ne (tgt := 144) hx hb dX12_findCutting_137 (by decide) (fun c_137 => ?_) (fun c_137 => ?_)
                          · refine lv_iconst (v := 0) hx hb dX12_findCutting_144 (by decide) ?_
                            refine lv_istore (lv' := [(5, .int (0)), (0, .ref (B (100))), (1, .int (nI (rsN F q no k))), (2, .int (nI (tf q.1 pp k))), (3, .int (nI (cu pp k))), (4, .int (nI k))]) hx hb dX12_findCutting_145 hl (by decide) rfl (fun ls hl => ?_)
                            refine lv_iload hx hb dX12_findCutting_147 (lv_at hl 0 rfl) ?_
                            refine lv_if_eq (tgt := 237) hx hb dX12_findCutting_149 (by decide) (fun _ => ?_) (fun h9 => False.elim (by revert h9; decide))
                            refine lv_aload_n hx hb dX12_findCutting_237 rfl (lv_at hl 1 rfl) ?_
                            refine g_r 42 (k2 := 143) C hw (hM.m rfl) rfl fl_X12_108 rfl (hM.p 42 rfl) dX12_findCutting_238 ?_
                            refine lv_iload hx hb dX12_findCutting_241 (lv_at hl 5 rfl) ?_
                            refine n_i k C hw (hM.m rfl) rfl rfl (show _ < 7 by omega) dX12_findCutting_243 ?_
                            refine tp_i (y := -1) (hMh.2 k (Nat.le_refl _) hkno) ?_
                            refine lv_istore (lv' := [(6, .int (-1)), (5, .int (0)), (0, .ref (B (100))), (1, .int (nI (rsN F q no k))), (2, .int (nI (tf q.1 pp k))), (3, .int (nI (cu pp k))), (4, .int (nI k))]) hx hb dX12_findCutting_244 hl (by decide) rfl (fun ls hl => ?_)
                            refine lv_iload hx hb dX12_findCutting_246 (lv_at hl 0 rfl) ?_
                            refine lv_if_lt (tgt := 324) hx hb dX12_findCutting_248 (by decide) (fun _ => ?_) (fun h9 => False.elim (by revert h9; decide))
                            refine lv_iload hx hb dX12_findCutting_324 (lv_at hl 0 rfl) ?_
                            refine lv_bipush (v := 16) hx hb dX12_findCutting_326 (by decide) ?_
                            refine lv_icmp_ne (tgt := 355) hx hb dX12_findCutting_328 (by decide) (fun _ => ?_) (fun h9 => False.elim (by revert h9; decide))
                            refine lv_iload hx hb dX12_findCutting_355 (lv_at hl 0 rfl) ?_
                            refine lv_iconst (v := 1) hx hb dX12_findCutting_357 (by decide) ?_
                            refine lv_iadd hx hb dX12_findCutting_358 ?_
                            refine tp_i (y := nI x0) (by rw [hx0]; decide) ?_
                            refine lv_istore (lv' := [(7, .int (nI x0)), (6, .int (-1)), (5, .int (0)), (0, .ref (B (100))), (1, .int (nI (rsN F q no k))), (2, .int (nI (tf q.1 pp k))), (3, .int (nI (cu pp k))), (4, .int (nI k))]) hx hb dX12_findCutting_359 hl (by decide) rfl (fun ls hl => ?_)
                            exact lo_s _ x0 F1 _ _ _ (Nat.lt_succ_self _) ⟨Nat.le_refl _, hx17⟩ hMc ⟨hMh.1, fun j h1 h2 => hMh.2 j (by omega) h2⟩ hAG hBS hIV hw (lv_sub hl [3, 4, 5, 6, 7, 0] rfl)
                          · exact absurd ((nI_eq (by omega) (by omega)).mp c_137) (by omega)
                      · obtain ⟨hPV2, -, hPV3⟩ := hPV1.un
                        have hb2 := hQ.b ho6 (a := (ups pp k w0)) (k := k + 1) (by omega)
                        refine lv_iload hx hb dX12_findCutting_126 (lv_at hl 4 rfl) ?_
                        refine lv_if_lt (tgt := 577) hx hb dX12_findCutting_128 (by decide) (fun c_128 => ?_) (fun c_128 => ?_)
                        · exact absurd c_128 (nI_pos (by omega))
                        · refine lv_iload hx hb dX12_findCutting_131 (lv_at hl 4 rfl) ?_
                          refine lv_aload_n hx hb dX12_findCutting_133 rfl (lv_at hl 0 rfl) ?_
                          refine g_i 21 C hw (hM.m rfl) rfl fl_X12_246 rfl dX12_findCutting_134 ?_
                          refine tp_i (y := nI no) ((hAG.2 21 (by decide) (by decide)).trans hO.1) ?_
                          refine lv_icmp_ne (tgt := 144) hx hb dX12_findCutting_137 (by decide) (fun c_137 => ?_) (fun c_137 => ?_)
                          · refine lv_iconst (v := 0) hx hb dX12_findCutting_144 (by decide) ?_
                            refine lv_istore (lv' := [(5, .int (0)), (0, .ref (B (100))), (1, .int (nI (rsN F q no (k + 1)))), (2, .int (nI (tf q.1 (ups pp k w0) (k + 1)))), (3, .int (nI (cu (ups pp k w0) (k + 1)))), (4, .int (nI k))]) hx hb dX12_findCutting_145 hl (by decide) rfl (fun ls hl => ?_)
                            refine lv_iload hx hb dX12_findCutting_147 (lv_at hl 0 rfl) ?_
                            refine lv_if_eq (tgt := 237) hx hb dX12_findCutting_149 (by decide) (fun _ => ?_) (fun h9 => False.elim (by revert h9; decide))
                            refine lv_aload_n hx hb dX12_findCutting_237 rfl (lv_at hl 1 rfl) ?_
                            refine g_r 42 (k2 := 143) C hw (hM.m rfl) rfl fl_X12_108 rfl (hM.p 42 rfl) dX12_findCutting_238 ?_
                            refine lv_iload hx hb dX12_findCutting_241 (lv_at hl 5 rfl) ?_
                            refine n_i k C hw (hM.m rfl) rfl rfl (show _ < 7 by omega) dX12_findCutting_243 ?_
                            refine tp_i (y := nI w0) ((hMh.1 k (by omega)).trans (by rw [ups_s])) ?_
                            refine lv_istore (lv' := [(6, .int (nI w0)), (5, .int (0)), (0, .ref (B (100))), (1, .int (nI (rsN F q no (k + 1)))), (2, .int (nI (tf q.1 (ups pp k w0) (k + 1)))), (3, .int (nI (cu (ups pp k w0) (k + 1)))), (4, .int (nI k))]) hx hb dX12_findCutting_244 hl (by decide) rfl (fun ls hl => ?_)
                            refine lv_iload hx hb dX12_findCutting_246 (lv_at hl 0 rfl) ?_
                            refine lv_if_lt (tgt := 324) hx hb dX12_findCutting_248 (by decide) (fun c_248 => ?_) (fun c_248 => ?_)
                            · exact absurd c_248 (nI_pos (by omega))
                            · refine lv_iload hx hb dX12_findCutting_251 (lv_at hl 0 rfl) ?_
                              refine lv_bipush (v := 16) hx hb dX12_findCutting_253 (by decide) ?_
                              refine lv_icmp_ge (tgt := 324) hx hb dX12_findCutting_255 (by decide) (fun c_255 => ?_) (fun c_255 => ?_)
                              · have hwe : w0 = 16 := by have := (nI_leI (a := 16) (by decide) (by omega)).mp c_255; omega
                                refine lv_iload hx hb dX12_findCutting_324 (lv_at hl 0 rfl) ?_
                                refine lv_bipush (v := 16) hx hb dX12_findCutting_326 (by decide) ?_
                                refine lv_icmp_ne (tgt := 355) hx hb dX12_findCutting_328 (by decide) (fun c_328 => ?_) (fun c_328 => ?_)
                                · exact absurd (by rw [hwe]; rfl) c_328
                                · refine lv_iload_n hx hb dX12_findCutting_331 rfl (lv_at hl 3 rfl) ?_
                                  refine lv_aload_n hx hb dX12_findCutting_332 rfl (lv_at hl 2 rfl) ?_
                                  refine g_r 26 (k2 := 127) C hw (hM.m rfl) rfl fl_X12_84 rfl (hM.p 26 rfl) dX12_findCutting_333 ?_
                                  refine lv_iload hx hb dX12_findCutting_336 (lv_at hl 6 rfl) ?_
                                  refine n_z k C hw (hM.m rfl) rfl rfl (show _ < 6 by omega) dX12_findCutting_338 ?_
                                  refine lv_if_eq (tgt := 346) hx hb dX12_findCutting_339 (by decide) (fun c_339 => ?_) (fun c_339 => ?_)
                                  · refine lv_aload_n hx hb dX12_findCutting_346 rfl (lv_at hl 2 rfl) ?_
                                    refine g_r 25 (k2 := 126) C hw (hM.m rfl) rfl fl_X12_81 rfl (hM.p 25 rfl) dX12_findCutting_347 ?_
                                    refine lv_iload hx hb dX12_findCutting_350 (lv_at hl 6 rfl) ?_
                                    refine n_i k C hw (hM.m rfl) rfl rfl (show _ < 6 by omega) dX12_findCutting_352 ?_
                                    refine tp_i (y := nI (q.1 k)) ((congrFun (hAG.e (by decide) (by decide)) k).trans hqk.1) ?_
                                    refine lv_iadd hx hb dX12_findCutting_353 ?_
                                    refine tp_i (y := nI (rsN F q no k)) (by rw [nI_add, hrs, show ufN F q k = q.1 k from if_pos (by rw [← congrFun (hAG.e (k := 127) (by decide) (by decide)) k]; exact c_339)]) ?_
                                    refine lv_istore_n (lv' := [(1, .int (nI (rsN F q no k))), (6, .int (nI w0)), (5, .int (0)), (0, .ref (B (100))), (2, .int (nI (tf q.1 (ups pp k w0) (k + 1)))), (3, .int (nI (cu (ups pp k w0) (k + 1)))), (4, .int (nI k))]) hx hb dX12_findCutting_354 rfl hl (by decide) rfl (fun ls hl => ?_)
                                    refine lv_iload hx hb dX12_findCutting_355 (lv_at hl 1 rfl) ?_
                                    refine lv_iconst (v := 1) hx hb dX12_findCutting_357 (by decide) ?_
                                    refine lv_iadd hx hb dX12_findCutting_358 ?_
                                    refine tp_i (y := nI x0) (by rw [hx0]; exact nI_1 _) ?_
                                    refine lv_istore (lv' := [(7, .int (nI x0)), (1, .int (nI (rsN F q no k))), (6, .int (nI w0)), (5, .int (0)), (0, .ref (B (100))), (2, .int (nI (tf q.1 (ups pp k w0) (k + 1)))), (3, .int (nI (cu (ups pp k w0) (k + 1)))), (4, .int (nI k))]) hx hb dX12_findCutting_359 hl (by decide) rfl (fun ls hl => ?_)
                                    rw [tf_ups, cu_ups, if_neg (by omega), if_neg (by omega)] at hl
                                    have hl : lv_has ls 9 [(7, .int (nI x0)), (1, .int (nI (rsN F q no k))), (6, .int (nI w0)), (5, .int (0)), (0, .ref (B (100))), (2, .int (nI (tf q.1 pp k))), (3, .int (nI (cu pp k))), (4, .int (nI k))] := hl
                                    exact lo_s _ x0 F1 _ _ _ (Nat.lt_succ_self _) ⟨Nat.le_refl _, hx17⟩ (by rw [hwe] at hMc; exact hMc.u16) ⟨fun j hj => by rw [hMh.1 j (by omega), ups_n (by omega)], fun j h1 h2 => hMh.2 j (by omega) h2⟩ hAG hBS hIV hw (lv_sub hl [4, 1, 5, 6, 7, 0] rfl)
                                  · refine lv_iconst (v := 0) hx hb dX12_findCutting_342 (by decide) ?_
                                    refine lv_goto (tgt := 353) hx hb dX12_findCutting_343 (by decide) ?_
                                    refine lv_iadd hx hb dX12_findCutting_353 ?_
                                    refine tp_i (y := nI (rsN F q no k)) (by rw [hrs, show ufN F q k = 0 from if_neg (by rw [← congrFun (hAG.e (k := 127) (by decide) (by decide)) k]; exact c_339)]; exact Int32.add_zero _) ?_
                                    refine lv_istore_n (lv' := [(1, .int (nI (rsN F q no k))), (6, .int (nI w0)), (5, .int (0)), (0, .ref (B (100))), (2, .int (nI (tf q.1 (ups pp k w0) (k + 1)))), (3, .int (nI (cu (ups pp k w0) (k + 1)))), (4, .int (nI k))]) hx hb dX12_findCutting_354 rfl hl (by decide) rfl (fun ls hl => ?_)
                                    refine lv_iload hx hb dX12_findCutting_355 (lv_at hl 1 rfl) ?_
                                    refine lv_iconst (v := 1) hx hb dX12_findCutting_357 (by decide) ?_
                                    refine lv_iadd hx hb dX12_findCutting_358 ?_
                                    refine tp_i (y := nI x0) (by rw [hx0]; exact nI_1 _) ?_
                                    refine lv_istore (lv' := [(7, .int (nI x0)), (1, .int (nI (rsN F q no k))), (6, .int (nI w0)), (5, .int (0)), (0, .ref (B (100))), (2, .int (nI (tf q.1 (ups pp k w0) (k + 1)))), (3, .int (nI (cu (ups pp k w0) (k + 1)))), (4, .int (nI k))]) hx hb dX12_findCutting_359 hl (by decide) rfl (fun ls hl => ?_)
                                    rw [tf_ups, cu_ups, if_neg (by omega), if_neg (by omega)] at hl
                                    have hl : lv_has ls 9 [(7, .int (nI x0)), (1, .int (nI (rsN F q no k))), (6, .int (nI w0)), (5, .int (0)), (0, .ref (B (100))), (2, .int (nI (tf q.1 pp k))), (3, .int (nI (cu pp k))), (4, .int (nI k))] := hl
                                    exact lo_s _ x0 F1 _ _ _ (Nat.lt_succ_self _) ⟨Nat.le_refl _, hx17⟩ (by rw [hwe] at hMc; exact hMc.u16) ⟨fun j hj => by rw [hMh.1 j (by omega), ups_n (by omega)], fun j h1 h2 => hMh.2 j (by omega) h2⟩ hAG hBS hIV hw (lv_sub hl [4, 1, 5, 6, 7, 0] rfl)
                              · have hwl : w0 < 16 := by rcases Nat.lt_or_ge w0 16 with h9 | h9; exact h9; exact absurd ((nI_leI (a := 16) (by decide) (by omega)).mpr h9) c_255
                                obtain ⟨hqo, hqc⟩ := hPV3 hwl
                                have hunf := (hQ.2.2.2.2.1 k w0 hkno hwl).mp hqo
                                have huf : ufN F q k = q.1 k := if_pos hunf.2.1
                                have hq3 := hQ.2.2.1 w0 hwl
                                have hMw := hMc w0 hwl
                                have hcfu := cf_ups q.1 pp k w0 w0
                                rw [if_pos rfl] at hcfu
                                have hucu := uc_ups pp k w0 w0
                                rw [if_pos rfl] at hucu
                                have htfu := tf_ups q.1 pp k w0
                                rw [if_pos hwl] at htfu
                                have hcuu := cu_ups pp k w0
                                refine lv_aload_n hx hb dX12_findCutting_258 rfl (lv_at hl 2 rfl) ?_
                                refine g_r 44 (k2 := 145) C hw (hM.m rfl) rfl fl_X12_114 rfl (hM.p 44 rfl) dX12_findCutting_259 ?_
                                refine lv_iload hx hb dX12_findCutting_262 (lv_at hl 0 rfl) ?_
                                refine lv_dup2_11 hx hb dX12_findCutting_264 rfl rfl ?_
                                refine n_i w0 C hw (hM.m rfl) rfl rfl (show _ < 16 by omega) dX12_findCutting_265 ?_
                                refine tp_i (y := nI (q.2.1 w0 - cf q.1 (ups pp k w0) w0 (k + 1))) (hMw.1) ?_
                                refine lv_aload_n hx hb dX12_findCutting_266 rfl (lv_at hl 2 rfl) ?_
                                refine g_r 25 (k2 := 126) C hw (hM.m rfl) rfl fl_X12_81 rfl (hM.p 25 rfl) dX12_findCutting_267 ?_
                                refine lv_iload hx hb dX12_findCutting_270 (lv_at hl 6 rfl) ?_
                                refine n_i k C hw (hM.m rfl) rfl rfl (show _ < 6 by omega) dX12_findCutting_272 ?_
                                refine tp_i (y := nI (q.1 k)) ((congrFun (hAG.e (by decide) (by decide)) k).trans hqk.1) ?_
                                refine lv_iadd hx hb dX12_findCutting_273 ?_
                                refine tp_i (y := nI (q.2.1 w0 - cf q.1 pp w0 k)) (by rw [nI_add, hcfu]; congr 1; omega) ?_
                                refine t_i w0 C hw (hM.m rfl) rfl rfl (show _ < 16 by omega) dX12_findCutting_274 (fun H locs hw => ?_)
                                refine lv_aload_n hx hb dX12_findCutting_275 rfl (lv_at hl 2 rfl) ?_
                                refine g_r 45 (k2 := 146) C hw (hM.m rfl) rfl fl_X12_117 rfl (hM.p 45 rfl) dX12_findCutting_276 ?_
                                refine lv_iload hx hb dX12_findCutting_279 (lv_at hl 0 rfl) ?_
                                refine lv_dup2_11 hx hb dX12_findCutting_281 rfl rfl ?_
                                refine n_i w0 C hw (hM.m rfl) rfl rfl (show _ < 17 by omega) dX12_findCutting_282 ?_
                                refine tp_i (y := F1 146 w0) ((uF_n _ _ (Or.inl (by decide))).trans (rfl)) ?_
                                refine tp_i (y := nI (uc (ups pp k w0) w0 (k + 1))) (hMw.2) ?_
                                refine lv_iconst (v := 1) hx hb dX12_findCutting_283 (by decide) ?_
                                refine lv_isub hx hb dX12_findCutting_284 ?_
                                refine tp_i (y := nI (uc pp w0 k)) (by rw [hucu]; exact nI_pred _) ?_
                                refine t_i w0 C hw (hM.m rfl) rfl rfl (show _ < 17 by omega) dX12_findCutting_285 (fun H locs hw => ?_)
                                refine lv_iload_n hx hb dX12_findCutting_286 rfl (lv_at hl 5 rfl) ?_
                                refine lv_aload_n hx hb dX12_findCutting_287 rfl (lv_at hl 2 rfl) ?_
                                refine g_r 45 (k2 := 146) C hw (hM.m rfl) rfl fl_X12_117 rfl (hM.p 45 rfl) dX12_findCutting_288 ?_
                                refine lv_iload hx hb dX12_findCutting_291 (lv_at hl 0 rfl) ?_
                                refine n_i w0 C hw (hM.m rfl) rfl rfl (show _ < 17 by omega) dX12_findCutting_293 ?_
                                refine tp_i (y := nI (uc pp w0 k)) (uF_s _ _ _ _) ?_
                                refine lv_if_ne (tgt := 301) hx hb dX12_findCutting_294 (by decide) (fun c_294 => ?_) (fun c_294 => ?_)
                                · have hucb : uc pp w0 k < 2 ^ 31 := by have h9 := sumN_le (f := fun o => if pp o = w0 then 1 else 0) (g := fun _ => 1) k (fun j _ => by show (if pp j = w0 then 1 else 0) ≤ 1; split <;> omega); have h8 : ∀ n, sumN (fun _ => 1) n = n := (fun n => by induction n with | zero => rfl | succ n ih => simp only [sumN, ih]); rw [h8] at h9; exact Nat.lt_of_le_of_lt h9 (by omega)
                                  refine lv_iconst (v := 0) hx hb dX12_findCutting_301 (by decide) ?_
                                  refine lv_isub hx hb dX12_findCutting_302 ?_
                                  refine tp_i (y := nI (cu pp k)) (by rw [hcuu, if_neg (fun h9 => c_294 (by rw [h9.2]; rfl)), Nat.add_zero]; exact Int32.sub_zero _) ?_
                                  refine lv_istore_n (lv' := [(3, .int (nI (cu pp k))), (6, .int (nI w0)), (5, .int (0)), (0, .ref (B (100))), (1, .int (nI (rsN F q no (k + 1)))), (2, .int (nI (tf q.1 (ups pp k w0) (k + 1)))), (4, .int (nI k))]) hx hb dX12_findCutting_303 rfl hl (by decide) rfl (fun ls hl => ?_)
                                  refine lv_iload_n hx hb dX12_findCutting_304 rfl (lv_at hl 5 rfl) ?_
                                  refine lv_aload_n hx hb dX12_findCutting_305 rfl (lv_at hl 3 rfl) ?_
                                  refine g_r 25 (k2 := 126) C hw (hM.m rfl) rfl fl_X12_81 rfl (hM.p 25 rfl) dX12_findCutting_306 ?_
                                  refine lv_iload hx hb dX12_findCutting_309 (lv_at hl 6 rfl) ?_
                                  refine n_i k C hw (hM.m rfl) rfl rfl (show _ < 6 by omega) dX12_findCutting_311 ?_
                                  refine tp_i (y := F1 126 k) ((uF_n _ _ (Or.inl (by decide))).trans ((uF_n _ _ (Or.inl (by decide))).trans (rfl))) ?_
                                  refine tp_i (y := nI (q.1 k)) ((congrFun (hAG.e (by decide) (by decide)) k).trans hqk.1) ?_
                                  refine lv_isub hx hb dX12_findCutting_312 ?_
                                  refine tp_i (y := nI (tf q.1 pp k)) (by rw [htfu]; exact (pk_sub (by omega)).trans (by rw [Nat.add_sub_cancel])) ?_
                                  refine lv_istore_n (lv' := [(2, .int (nI (tf q.1 pp k))), (3, .int (nI (cu pp k))), (6, .int (nI w0)), (5, .int (0)), (0, .ref (B (100))), (1, .int (nI (rsN F q no (k + 1)))), (4, .int (nI k))]) hx hb dX12_findCutting_313 rfl hl (by decide) rfl (fun ls hl => ?_)
                                  refine lv_iload_n hx hb dX12_findCutting_314 rfl (lv_at hl 5 rfl) ?_
                                  refine lv_aload_n hx hb dX12_findCutting_315 rfl (lv_at hl 4 rfl) ?_
                                  refine g_r 25 (k2 := 126) C hw (hM.m rfl) rfl fl_X12_81 rfl (hM.p 25 rfl) dX12_findCutting_316 ?_
                                  refine lv_iload hx hb dX12_findCutting_319 (lv_at hl 6 rfl) ?_
                                  refine n_i k C hw (hM.m rfl) rfl rfl (show _ < 6 by omega) dX12_findCutting_321 ?_
                                  refine tp_i (y := F1 126 k) ((uF_n _ _ (Or.inl (by decide))).trans ((uF_n _ _ (Or.inl (by decide))).trans (rfl))) ?_
                                  refine tp_i (y := nI (q.1 k)) ((congrFun (hAG.e (by decide) (by decide)) k).trans hqk.1) ?_
                                  refine lv_iadd hx hb dX12_findCutting_322 ?_
                                  refine tp_i (y := nI (rsN F q no k)) (by rw [nI_add, hrs, huf]) ?_
                                  refine lv_istore_n (lv' := [(1, .int (nI (rsN F q no k))), (2, .int (nI (tf q.1 pp k))), (3, .int (nI (cu pp k))), (6, .int (nI w0)), (5, .int (0)), (0, .ref (B (100))), (4, .int (nI k))]) hx hb dX12_findCutting_323 rfl hl (by decide) rfl (fun ls hl => ?_)
                                  refine lv_iload hx hb dX12_findCutting_324 (lv_at hl 3 rfl) ?_
                                  refine lv_bipush (v := 16) hx hb dX12_findCutting_326 (by decide) ?_
                                  refine lv_icmp_ne (tgt := 355) hx hb dX12_findCutting_328 (by decide) (fun c_328 => ?_) (fun c_328 => ?_)
                                  · refine lv_iload hx hb dX12_findCutting_355 (lv_at hl 3 rfl) ?_
                                    refine lv_iconst (v := 1) hx hb dX12_findCutting_357 (by decide) ?_
                                    refine lv_iadd hx hb dX12_findCutting_358 ?_
                                    refine tp_i (y := nI x0) (by rw [hx0]; exact nI_1 _) ?_
                                    refine lv_istore (lv' := [(7, .int (nI x0)), (1, .int (nI (rsN F q no k))), (2, .int (nI (tf q.1 pp k))), (3, .int (nI (cu pp k))), (6, .int (nI w0)), (5, .int (0)), (0, .ref (B (100))), (4, .int (nI k))]) hx hb dX12_findCutting_359 hl (by decide) rfl (fun ls hl => ?_)
                                    exact lo_s _ x0 (uF (uF F1 145 w0 (nI (q.2.1 w0 - cf q.1 pp w0 k))) 146 w0 (nI (uc pp w0 k))) _ _ _ (Nat.lt_succ_self _) ⟨Nat.le_refl _, hx17⟩ (hMc.un ((uF_n _ _ (Or.inl (by decide))).trans (uF_s _ _ _ _)) (uF_s _ _ _ _) (fun x hx => ⟨(uF_n _ _ (Or.inl (by decide))).trans (uF_n _ _ (Or.inr hx)), (uF_n _ _ (Or.inr hx)).trans (uF_n _ _ (Or.inl (by decide)))⟩)) ⟨fun j hj => (uF_n _ _ (Or.inl (by decide))).trans ((uF_n _ _ (Or.inl (by decide))).trans (by rw [hMh.1 j (by omega), ups_n (by omega)])), fun j h1 h2 => (uF_n _ _ (Or.inl (by decide))).trans ((uF_n _ _ (Or.inl (by decide))).trans (hMh.2 j (by omega) h2))⟩ ((hAG.u (by omega)).u (by omega)) ((hBS.u (by omega)).u (by omega)) hIV hw (lv_sub hl [6, 1, 2, 3, 7, 0] rfl)
                                  · exact absurd ((nI_eq (b := 16) (by omega) (by decide)).mp c_328) (by omega)
                                · have hucb : uc pp w0 k < 2 ^ 31 := by have h9 := sumN_le (f := fun o => if pp o = w0 then 1 else 0) (g := fun _ => 1) k (fun j _ => by show (if pp j = w0 then 1 else 0) ≤ 1; split <;> omega); have h8 : ∀ n, sumN (fun _ => 1) n = n := (fun n => by induction n with | zero => rfl | succ n ih => simp only [sumN, ih]); rw [h8] at h9; exact Nat.lt_of_le_of_lt h9 (by omega)
                                  refine lv_iconst (v := 1) hx hb dX12_findCutting_297 (by decide) ?_
                                  refine lv_goto (tgt := 302) hx hb dX12_findCutting_298 (by decide) ?_
                                  refine lv_isub hx hb dX12_findCutting_302 ?_
                                  refine tp_i (y := nI (cu pp k)) (by rw [hcuu, if_pos ⟨hwl, (nI_eq (b := 0) hucb (by decide)).mp c_294⟩]; exact nI_pred _) ?_
                                  refine lv_istore_n (lv' := [(3, .int (nI (cu pp k))), (6, .int (nI w0)), (5, .int (0)), (0, .ref (B (100))), (1, .int (nI (rsN F q no (k + 1)))), (2, .int (nI (tf q.1 (ups pp k w0) (k + 1)))), (4, .int (nI k))]) hx hb dX12_findCutting_303 rfl hl (by decide) rfl (fun ls hl => ?_)
                                  refine lv_iload_n hx hb dX12_findCutting_304 rfl (lv_at hl 5 rfl) ?_
                                  refine lv_aload_n hx hb dX12_findCutting_305 rfl (lv_at hl 3 rfl) ?_
                                  refine g_r 25 (k2 := 126) C hw (hM.m rfl) rfl fl_X12_81 rfl (hM.p 25 rfl) dX12_findCutting_306 ?_
                                  refine lv_iload hx hb dX12_findCutting_309 (lv_at hl 6 rfl) ?_
                                  refine n_i k C hw (hM.m rfl) rfl rfl (show _ < 6 by omega) dX12_findCutting_311 ?_
                                  refine tp_i (y := F1 126 k) ((uF_n _ _ (Or.inl (by decide))).trans ((uF_n _ _ (Or.inl (by decide))).trans (rfl))) ?_
                                  refine tp_i (y := nI (q.1 k)) ((congrFun (hAG.e (by decide) (by decide)) k).trans hqk.1) ?_
                                  refine lv_isub hx hb dX12_findCutting_312 ?_
                                  refine tp_i (y := nI (tf q.1 pp k)) (by rw [htfu]; exact (pk_sub (by omega)).trans (by rw [Nat.add_sub_cancel])) ?_
                                  refine lv_istore_n (lv' := [(2, .int (nI (tf q.1 pp k))), (3, .int (nI (cu pp k))), (6, .int (nI w0)), (5, .int (0)), (0, .ref (B (100))), (1, .int (nI (rsN F q no (k + 1)))), (4, .int (nI k))]) hx hb dX12_findCutting_313 rfl hl (by decide) rfl (fun ls hl => ?_)
                                  refine lv_iload_n hx hb dX12_findCutting_314 rfl (lv_at hl 5 rfl) ?_
                                  refine lv_aload_n hx hb dX12_findCutting_315 rfl (lv_at hl 4 rfl) ?_
                                  refine g_r 25 (k2 := 126) C hw (hM.m rfl) rfl fl_X12_81 rfl (hM.p 25 rfl) dX12_findCutting_316 ?_
                                  refine lv_iload hx hb dX12_findCutting_319 (lv_at hl 6 rfl) ?_
                                  refine n_i k C hw (hM.m rfl) rfl rfl (show _ < 6 by omega) dX12_findCutting_321 ?_
                                  refine tp_i (y := F1 126 k) ((uF_n _ _ (Or.inl (by decide))).trans ((uF_n _ _ (Or.inl (by decide))).trans (rfl))) ?_
                                  refine tp_i (y := nI (q.1 k)) ((congrFun (hAG.e (by decide) (by decide)) k).trans hqk.1) ?_
                                  refine lv_iadd hx hb dX12_findCutting_322 ?_
                                  refine tp_i (y := nI (rsN F q no k)) (by rw [nI_add, hrs, huf]) ?_
                                  refine lv_istore_n (lv' := [(1, .int (nI (rsN F q no k))), (2, .int (nI (tf q.1 pp k))), (3, .int (nI (cu pp k))), (6, .int (nI w0)), (5, .int (0)), (0, .ref (B (100))), (4, .int (nI k))]) hx hb dX12_findCutting_323 rfl hl (by decide) rfl (fun ls hl => ?_)
                                  refine lv_iload hx hb dX12_findCutting_324 (lv_at hl 3 rfl) ?_
                                  refine lv_bipush (v := 16) hx hb dX12_findCutting_326 (by decide) ?_
                                  refine lv_icmp_ne (tgt := 355) hx hb dX12_findCutting_328 (by decide) (fun c_328 => ?_) (fun c_328 => ?_)
                                  · refine lv_iload hx hb dX12_findCutting_355 (lv_at hl 3 rfl) ?_
                                    refine lv_iconst (v := 1) hx hb dX12_findCutting_357 (by decide) ?_
                                    refine lv_iadd hx hb dX12_findCutting_358 ?_
                                    refine tp_i (y := nI x0) (by rw [hx0]; exact nI_1 _) ?_
                                    refine lv_istore (lv' := [(7, .int (nI x0)), (1, .int (nI (rsN F q no k))), (2, .int (nI (tf q.1 pp k))), (3, .int (nI (cu pp k))), (6, .int (nI w0)), (5, .int (0)), (0, .ref (B (100))), (4, .int (nI k))]) hx hb dX12_findCutting_359 hl (by decide) rfl (fun ls hl => ?_)
                                    exact lo_s _ x0 (uF (uF F1 145 w0 (nI (q.2.1 w0 - cf q.1 pp w0 k))) 146 w0 (nI (uc pp w0 k))) _ _ _ (Nat.lt_succ_self _) ⟨Nat.le_refl _, hx17⟩ (hMc.un ((uF_n _ _ (Or.inl (by decide))).trans (uF_s _ _ _ _)) (uF_s _ _ _ _) (fun x hx => ⟨(uF_n _ _ (Or.inl (by decide))).trans (uF_n _ _ (Or.inr hx)), (uF_n _ _ (Or.inr hx)).trans (uF_n _ _ (Or.inl (by decide)))⟩)) ⟨fun j hj => (uF_n _ _ (Or.inl (by decide))).trans ((uF_n _ _ (Or.inl (by decide))).trans (by rw [hMh.1 j (by omega), ups_n (by omega)])), fun j h1 h2 => (uF_n _ _ (Or.inl (by decide))).trans ((uF_n _ _ (Or.inl (by decide))).trans (hMh.2 j (by omega) h2))⟩ ((hAG.u (by omega)).u (by omega)) ((hBS.u (by omega)).u (by omega)) hIV hw (lv_sub hl [6, 1, 2, 3, 7, 0] rfl)
                                  · exact absurd ((nI_eq (b := 16) (by omega) (by decide)).mp c_328) (by omega)
                          · exact absurd ((nI_eq (by omega) (by omega)).mp c_137) (by omega)
                  exact CAND 18 0 bo F1 _ _ _ (by omega) (by omega) (Or.inl ⟨rfl, hMc, hMh, hl⟩) hAG hBS (by rw [Nat.zero_mul, Nat.add_zero]; exact hIV) hw
              have hl : lv_has ls 9 [(0, .ref (B (100))), (1, .int (nI (rsN F q no 0))), (2, .int (nI (tf q.1 (fun _ => 16) 0))), (3, .int (nI (cu (fun _ => 16) 0))), (4, .int (nI 0))] := by rw [e_rs, e_cu]; exact lv_sub hl [3, 4, 2, 1, 0] rfl
              refine LEV no 0 (fun _ => 16) none (uF (uF F2 100 46 (-1)) 100 47 0) _ _ _ (by omega) ⟨fun o ho => absurd ho (Nat.not_lt_zero o), fun x _ => Nat.zero_le _⟩ hMc0 hMh0 hAG0 hBS0 (IVb_0 q) (fun bo9 F2 H locs ls hMc hMh hAG hBS hIV hw hl => ?_) hw (lv_sub hl [0, 1, 2, 3, 4] rfl)
              refine lv_iload hx hb dX12_findCutting_126 (lv_at hl 4 rfl) ?_
              refine lv_if_lt (tgt := 577) hx hb dX12_findCutting_128 (by decide) (fun c_128 => ?_) (fun c_128 => ?_)
              · rw [show Dp (fun _ => 16) 0 + pw 0 = 24137569 from rfl] at hIV
                obtain ⟨a, rfl, ha⟩ := hIV.opt (by rcases CH_00 q with ⟨h9, -⟩ | ⟨b, h9, -⟩; exact absurd h9 (by decide); exact ⟨b, h9.1⟩)
                exact r_v C hr hlk hw ⟨rfl, F2, a, hAG, ha, hBS.1, hBS.2.2, rfl⟩ dX12_findCutting_577
              · exact absurd (by decide) c_128
            · have hlt : i < 16 := lp_lt (b := 16) (by decide) (by omega) c_59
              refine lv_aload_n hx hb dX12_findCutting_62 rfl (lv_at hl 0 rfl) ?_
              refine g_r 44 (k2 := 145) C hw (hM.m rfl) rfl fl_X12_114 rfl (hM.p 44 rfl) dX12_findCutting_63 ?_
              refine lv_iload_n hx hb dX12_findCutting_66 rfl (lv_at hl 2 rfl) ?_
              refine lv_iload_n hx hb dX12_findCutting_67 rfl (lv_at hl 2 rfl) ?_
              refine lv_aload_n hx hb dX12_findCutting_68 rfl (lv_at hl 0 rfl) ?_
              refine g_i 13 C hw (hM.m rfl) rfl fl_X12_127 rfl dX12_findCutting_69 ?_
              refine tp_i (y := nI nc) ((hAG2.2 13 (by decide) (by decide)).trans hC.1) ?_
              refine lv_icmp_ge (tgt := 94) hx hb dX12_findCutting_72 (by decide) (fun c_72 => ?_) (fun c_72 => ?_)
              · have hzz : ¬ (i < nc ∧ 0 < G 118 i) := fun h9 => absurd ((nI_leI (by omega) (by omega)).mp c_72) (by omega)
                refine lv_iconst (v := 0) hx hb dX12_findCutting_94 (by decide) ?_
                refine t_i i C hw (hM.m rfl) rfl rfl (show _ < 16 by omega) dX12_findCutting_95 (fun H locs hw => ?_)
                refine lv_aload_n hx hb dX12_findCutting_96 rfl (lv_at hl 0 rfl) ?_
                refine g_r 45 (k2 := 146) C hw (hM.m rfl) rfl fl_X12_117 rfl (hM.p 45 rfl) dX12_findCutting_97 ?_
                refine lv_iload_n hx hb dX12_findCutting_100 rfl (lv_at hl 2 rfl) ?_
                refine lv_iconst (v := 0) hx hb dX12_findCutting_101 (by decide) ?_
                refine t_i i C hw (hM.m rfl) rfl rfl (show _ < 17 by omega) dX12_findCutting_102 (fun H locs hw => ?_)
                refine lv_iinc (v := nI (i + 1)) (lv' := [(2, .int (nI (i + 1))), (0, .ref (B (100))), (1, .int (nI (sumN (ufN F q) no)))]) hx hb dX12_findCutting_103 hl (k := 2) rfl (nI_1 _) (by decide) rfl (fun ls hl => ?_)
                refine lv_goto (tgt := 56) hx hb dX12_findCutting_106 (by decide) ?_
                exact ih_b (i + 1) (uF (uF F2 145 i 0) 146 i 0) _ _ _ (by omega) (by omega) ((hAG2.u (by omega)).u (by omega)) (fun j hj => (uF_n _ _ (Or.inl (by decide))).trans ((uF_n _ _ (Or.inl (by decide))).trans (hch2 j hj))) (fun x hx => by by_cases e9 : x = i; rw [e9]; exact ⟨(uF_n _ _ (Or.inl (by decide))).trans ((uF_s _ _ _ _).trans (by rw [hQ.2.2.2.1 i hlt (fun h9 => hzz h9)]; rfl)), uF_s _ _ _ _⟩; exact ⟨(uF_n _ _ (Or.inl (by decide))).trans ((uF_n _ _ (Or.inr e9)).trans (hlu x (by omega)).1), (uF_n _ _ (Or.inr e9)).trans ((uF_n _ _ (Or.inl (by decide))).trans (hlu x (by omega)).2)⟩) hw (lv_sub hl [1, 2, 0] rfl)
              · have hin : i < nc := by rcases Nat.lt_or_ge i nc with h9 | h9; exact h9; exact absurd (nI_le h9 (by omega)) c_72
                refine lv_aload_n hx hb dX12_findCutting_75 rfl (lv_at hl 0 rfl) ?_
                refine g_r 17 (k2 := 118) C hw (hM.m rfl) rfl fl_X12_58 rfl (hM.p 17 rfl) dX12_findCutting_76 ?_
                refine lv_iload_n hx hb dX12_findCutting_79 rfl (lv_at hl 2 rfl) ?_
                refine n_l i C hw (hM.m rfl) rfl rfl (show _ < 16 by omega) dX12_findCutting_80 ?_
                refine lv_lconst (v := 0) hx hb dX12_findCutting_81 (by decide) ?_
                refine W.lcmp hx hb dX12_findCutting_82 ?_
                refine lv_if_le (tgt := 94) hx hb dX12_findCutting_83 (by decide) (fun c_83 => ?_) (fun c_83 => ?_)
                · rw [lg_le] at c_83
                  have hzz : ¬ (i < nc ∧ 0 < G 118 i) := fun h9 => absurd c_83 (Int64.not_le.mpr h9.2)
                  refine lv_iconst (v := 0) hx hb dX12_findCutting_94 (by decide) ?_
                  refine t_i i C hw (hM.m rfl) rfl rfl (show _ < 16 by omega) dX12_findCutting_95 (fun H locs hw => ?_)
                  refine lv_aload_n hx hb dX12_findCutting_96 rfl (lv_at hl 0 rfl) ?_
                  refine g_r 45 (k2 := 146) C hw (hM.m rfl) rfl fl_X12_117 rfl (hM.p 45 rfl) dX12_findCutting_97 ?_
                  refine lv_iload_n hx hb dX12_findCutting_100 rfl (lv_at hl 2 rfl) ?_
                  refine lv_iconst (v := 0) hx hb dX12_findCutting_101 (by decide) ?_
                  refine t_i i C hw (hM.m rfl) rfl rfl (show _ < 17 by omega) dX12_findCutting_102 (fun H locs hw => ?_)
                  refine lv_iinc (v := nI (i + 1)) (lv' := [(2, .int (nI (i + 1))), (0, .ref (B (100))), (1, .int (nI (sumN (ufN F q) no)))]) hx hb dX12_findCutting_103 hl (k := 2) rfl (nI_1 _) (by decide) rfl (fun ls hl => ?_)
                  refine lv_goto (tgt := 56) hx hb dX12_findCutting_106 (by decide) ?_
                  exact ih_b (i + 1) (uF (uF F2 145 i 0) 146 i 0) _ _ _ (by omega) (by omega) ((hAG2.u (by omega)).u (by omega)) (fun j hj => (uF_n _ _ (Or.inl (by decide))).trans ((uF_n _ _ (Or.inl (by decide))).trans (hch2 j hj))) (fun x hx => by by_cases e9 : x = i; rw [e9]; exact ⟨(uF_n _ _ (Or.inl (by decide))).trans ((uF_s _ _ _ _).trans (by rw [hQ.2.2.2.1 i hlt (fun h9 => hzz h9)]; rfl)), uF_s _ _ _ _⟩; exact ⟨(uF_n _ _ (Or.inl (by decide))).trans ((uF_n _ _ (Or.inr e9)).trans (hlu x (by omega)).1), (uF_n _ _ (Or.inr e9)).trans ((uF_n _ _ (Or.inl (by decide))).trans (hlu x (by omega)).2)⟩) hw (lv_sub hl [1, 2, 0] rfl)
                · rw [lg_no] at c_83
                  have hst : 0 < G 118 i := c_83
                  refine lv_aload_n hx hb dX12_findCutting_86 rfl (lv_at hl 0 rfl) ?_
                  refine lv_iload_n hx hb dX12_findCutting_87 rfl (lv_at hl 2 rfl) ?_
                  refine kV C hw (c_X12_feetOf E tt B F2 G hM (q := i) (by omega) (by rw [hAG2.e (k := 116) (by decide) (by decide)]; exact (hC.2.2 i hin).2.2)) vy_X12_feetOf ml_X12_167 (rcv hw (hM.m rfl) rfl (by decide) (q2 := (RX12, TX12, 49)) rfl) rfl hl.1 (rest := [.int (nI i), .ref (B (145))]) rfl dX12_findCutting_88 (Nat.le_of_ble_eq_true rfl) ⟨by decide, by decide⟩ ⟨Nat.le_of_ble_eq_true rfl, Nat.le_of_ble_eq_true rfl⟩ (fun v_88 ws_88 H locs hp_88 hq_88 => ?_)
                  clear hw
                  obtain ⟨rfl, rfl⟩ := hp_88
                  have hw := hq_88
                  refine W.eq (g2 := F0 m 91 ls [.int (w_feet F2 G (i)), .int (nI i), .ref (B (145))]) rfl ?_
                  refine tp_i (y := nI (q.2.1 i)) ((w_feet_f hAG2 i).trans (hQ.2.1 i hin hst)) ?_
                  refine lv_goto (tgt := 95) hx hb dX12_findCutting_91 (by decide) ?_
                  refine t_i i C hw (hM.m rfl) rfl rfl (show _ < 16 by omega) dX12_findCutting_95 (fun H locs hw => ?_)
                  refine lv_aload_n hx hb dX12_findCutting_96 rfl (lv_at hl 0 rfl) ?_
                  refine g_r 45 (k2 := 146) C hw (hM.m rfl) rfl fl_X12_117 rfl (hM.p 45 rfl) dX12_findCutting_97 ?_
                  refine lv_iload_n hx hb dX12_findCutting_100 rfl (lv_at hl 2 rfl) ?_
                  refine lv_iconst (v := 0) hx hb dX12_findCutting_101 (by decide) ?_
                  refine t_i i C hw (hM.m rfl) rfl rfl (show _ < 17 by omega) dX12_findCutting_102 (fun H locs hw => ?_)
                  refine lv_iinc (v := nI (i + 1)) (lv' := [(2, .int (nI (i + 1))), (0, .ref (B (100))), (1, .int (nI (sumN (ufN F q) no)))]) hx hb dX12_findCutting_103 hl (k := 2) rfl (nI_1 _) (by decide) rfl (fun ls hl => ?_)
                  refine lv_goto (tgt := 56) hx hb dX12_findCutting_106 (by decide) ?_
                  exact ih_b (i + 1) (uF (uF F2 145 i (nI (q.2.1 i))) 146 i 0) _ _ _ (by omega) (by omega) ((hAG2.u (by omega)).u (by omega)) (fun j hj => (uF_n _ _ (Or.inl (by decide))).trans ((uF_n _ _ (Or.inl (by decide))).trans (hch2 j hj))) (fun x hx => by by_cases e9 : x = i; rw [e9]; exact ⟨(uF_n _ _ (Or.inl (by decide))).trans ((uF_s _ _ _ _).trans rfl), uF_s _ _ _ _⟩; exact ⟨(uF_n _ _ (Or.inl (by decide))).trans ((uF_n _ _ (Or.inr e9)).trans (hlu x (by omega)).1), (uF_n _ _ (Or.inr e9)).trans ((uF_n _ _ (Or.inl (by decide))).trans (hlu x (by omega)).2)⟩) hw (lv_sub hl [1, 2, 0] rfl)
        exact lo_b _ 0 F1 _ _ _ (Nat.lt_succ_self _) (by omega) hAG (fun j hj => hch j (by omega)) (fun x hx => absurd hx (Nat.not_lt_zero x)) hw (lv_sub hl [1, 2, 0] rfl)
      · have hil : i < no := lp_lt (by omega) hi c_9
        refine lv_aload_n hx hb dX12_findCutting_12 rfl (lv_at hl 0 rfl) ?_
        refine g_r 43 (k2 := 144) C hw (hM.m rfl) rfl fl_X12_111 rfl (hM.p 43 rfl) dX12_findCutting_13 ?_
        refine lv_iload_n hx hb dX12_findCutting_16 rfl (lv_at hl 2 rfl) ?_
        refine lv_iconst (v := -1) hx hb dX12_findCutting_17 (by decide) ?_
        refine t_i i C hw (hM.m rfl) rfl rfl (show _ < 6 by omega) dX12_findCutting_18 (fun H locs hw => ?_)
        refine lv_iload_n hx hb dX12_findCutting_19 rfl (lv_at hl 1 rfl) ?_
        refine lv_aload_n hx hb dX12_findCutting_20 rfl (lv_at hl 0 rfl) ?_
        refine g_r 26 (k2 := 127) C hw (hM.m rfl) rfl fl_X12_84 rfl (hM.p 26 rfl) dX12_findCutting_21 ?_
        refine lv_iload_n hx hb dX12_findCutting_24 rfl (lv_at hl 2 rfl) ?_
        refine n_z i C hw (hM.m rfl) rfl rfl (show _ < 6 by omega) dX12_findCutting_25 ?_
        refine tp_i (y := F1 127 i) ((uF_n _ _ (Or.inl (by decide))).trans (rfl)) ?_
        refine lv_if_eq (tgt := 33) hx hb dX12_findCutting_26 (by decide) (fun c_26 => ?_) (fun c_26 => ?_)
        · refine lv_aload_n hx hb dX12_findCutting_33 rfl (lv_at hl 0 rfl) ?_
          refine g_r 25 (k2 := 126) C hw (hM.m rfl) rfl fl_X12_81 rfl (hM.p 25 rfl) dX12_findCutting_34 ?_
          refine lv_iload_n hx hb dX12_findCutting_37 rfl (lv_at hl 2 rfl) ?_
          refine n_i i C hw (hM.m rfl) rfl rfl (show _ < 6 by omega) dX12_findCutting_38 ?_
          refine tp_i (y := F1 126 i) ((uF_n _ _ (Or.inl (by decide))).trans (rfl)) ?_
          refine tp_i (y := nI (q.1 i)) ((congrFun (hAG.e (by decide) (by decide)) i).trans (hQ.1 i hil).1) ?_
          refine lv_iadd hx hb dX12_findCutting_39 ?_
          refine tp_i (y := nI (sumN (ufN F q) (i + 1))) (by have h9 : ufN F q i = q.1 i := if_pos (by rw [← congrFun (hAG.e (k := 127) (by decide) (by decide)) i]; exact c_26); show _ = nI (sumN (ufN F q) i + ufN F q i); rw [h9]; exact nI_add _ _) ?_
          refine lv_istore_n (lv' := [(1, .int (nI (sumN (ufN F q) (i + 1)))), (0, .ref (B (100))), (2, .int (nI i))]) hx hb dX12_findCutting_40 rfl hl (by decide) rfl (fun ls hl => ?_)
          refine lv_aload_n hx hb dX12_findCutting_41 rfl (lv_at hl 1 rfl) ?_
          refine g_r 42 (k2 := 143) C hw (hM.m rfl) rfl fl_X12_108 rfl (hM.p 42 rfl) dX12_findCutting_42 ?_
          refine lv_iload_n hx hb dX12_findCutting_45 rfl (lv_at hl 2 rfl) ?_
          refine lv_iconst (v := -1) hx hb dX12_findCutting_46 (by decide) ?_
          refine t_i i C hw (hM.m rfl) rfl rfl (show _ < 7 by omega) dX12_findCutting_47 (fun H locs hw => ?_)
          refine lv_iinc (v := nI (i + 1)) (lv' := [(2, .int (nI (i + 1))), (1, .int (nI (sumN (ufN F q) (i + 1)))), (0, .ref (B (100)))]) hx hb dX12_findCutting_48 hl (k := 2) rfl (nI_1 _) (by decide) rfl (fun ls hl => ?_)
          refine lv_goto (tgt := 4) hx hb dX12_findCutting_51 (by decide) ?_
          exact ih_a (i + 1) (uF (uF F1 144 i (-1)) 143 i (-1)) _ _ _ (by omega) (by omega) ((hAG.u (by omega)).u (by omega)) (fun j hj => by by_cases e9 : j = i; rw [e9, uF_s]; rw [uF_n _ _ (Or.inr e9), uF_n _ _ (Or.inl (by decide))]; exact hch j (by omega)) hw (lv_sub hl [2, 1, 0] rfl)
        · refine lv_iconst (v := 0) hx hb dX12_findCutting_29 (by decide) ?_
          refine lv_goto (tgt := 39) hx hb dX12_findCutting_30 (by decide) ?_
          refine lv_iadd hx hb dX12_findCutting_39 ?_
          refine tp_i (y := nI (sumN (ufN F q) (i + 1))) (by have h9 : ufN F q i = 0 := if_neg (by rw [← congrFun (hAG.e (k := 127) (by decide) (by decide)) i]; exact c_26); show _ = nI (sumN (ufN F q) i + ufN F q i); rw [h9]; exact Int32.add_zero _) ?_
          refine lv_istore_n (lv' := [(1, .int (nI (sumN (ufN F q) (i + 1)))), (0, .ref (B (100))), (2, .int (nI i))]) hx hb dX12_findCutting_40 rfl hl (by decide) rfl (fun ls hl => ?_)
          refine lv_aload_n hx hb dX12_findCutting_41 rfl (lv_at hl 1 rfl) ?_
          refine g_r 42 (k2 := 143) C hw (hM.m rfl) rfl fl_X12_108 rfl (hM.p 42 rfl) dX12_findCutting_42 ?_
          refine lv_iload_n hx hb dX12_findCutting_45 rfl (lv_at hl 2 rfl) ?_
          refine lv_iconst (v := -1) hx hb dX12_findCutting_46 (by decide) ?_
          refine t_i i C hw (hM.m rfl) rfl rfl (show _ < 7 by omega) dX12_findCutting_47 (fun H locs hw => ?_)
          refine lv_iinc (v := nI (i + 1)) (lv' := [(2, .int (nI (i + 1))), (1, .int (nI (sumN (ufN F q) (i + 1)))), (0, .ref (B (100)))]) hx hb dX12_findCutting_48 hl (k := 2) rfl (nI_1 _) (by decide) rfl (fun ls hl => ?_)
          refine lv_goto (tgt := 4) hx hb dX12_findCutting_51 (by decide) ?_
          exact ih_a (i + 1) (uF (uF F1 144 i (-1)) 143 i (-1)) _ _ _ (by omega) (by omega) ((hAG.u (by omega)).u (by omega)) (fun j hj => by by_cases e9 : j = i; rw [e9, uF_s]; rw [uF_n _ _ (Or.inr e9), uF_n _ _ (Or.inl (by decide))]; exact hch j (by omega)) hw (lv_sub hl [2, 1, 0] rfl)
  exact lo_a _ 0 F _ _ _ (Nat.lt_succ_self _) (Nat.zero_le _) AGf.rf (fun j hj => absurd hj (Nat.not_lt_zero j)) hw (lv_sub hl [2, 1, 0] rfl)
