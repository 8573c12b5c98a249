/-! ways of the reference: prices of a place -/
theorem w_wide_c {F F1 : tF} (h : ∀ k, k < 137 → F1 k = F k) (q : Nat) : w_wide F1 q = w_wide F q := by
  unfold w_wide
  rw [h 111 (by decide), h 112 (by decide)]
theorem w_hard_c {F F1 : tF} (h : ∀ k, k < 137 → F1 k = F k) (m : Nat) (s x w : Int32) : w_hard F1 m s x w = w_hard F m s x w := by
  unfold w_hard
  rw [h 102 (by decide)]
theorem w_ag_c {F F1 : tF} (h : ∀ k, k < 137 → F1 k = F k) (m : Nat) (j s x : Int32) (q p : Nat) : w_ag F1 m j s x q p = w_ag F m j s x q p := by
  unfold w_ag w_asks w_ask1 w_bears w_bear1 w_pull w_hard w_wide
  rw [h 111 (by decide), h 112 (by decide), h 103 (by decide), h 102 (by decide), h 101 (by decide), h 106 (by decide), h 107 (by decide)]
theorem w_ag_w {F : tF} {m : Nat} {j s x : Int32} {q p : Nat} (h : w_ag F m j s x q p = 1) : w_wide F q < s := by
  apply Classical.byContradiction
  intro h9
  rw [w_ag, if_pos (Or.inr h9)] at h
  exact absurd h (by decide)
/-- what the reference's search of prices leaves as it was -/
def AGc (F F1 : tF) : Prop := ∀ k, k ≠ 137 → k ≠ 138 → F1 k = F k
theorem AGc.l {F F1 : tF} (h : AGc F F1) : ∀ k, k < 137 → F1 k = F k := fun k hk => h k (by omega) (by omega)
/-- a row of prices -/
def TB (wt : wT) (F : tF) (pl ii n : Nat) : Prop := ∀ h, h < n → F 137 (101 * ii + h) = nI (fi (pr wt pl h)) ∧ F 138 (101 * ii + h) = nxI wt pl h
/-- what the search finds at a place, as the reference looks it up -/
def LKR (F : tF) (c1 i1 u m N : Nat) (s0 lo hi : Int32) (wt : wT) (pl : Nat) : Prop :=
  (∀ h k, h ≤ 100 → k < N → (w_ag F m (F 119 c1) s0 (nI h) (8 * i1 + k) u = 1 ↔ wt.1 pl h k = true) ∧ (wt.1 pl h k = true → w_hard F m s0 (nI h) (w_wide F (8 * i1 + k)) = nI (wt.2.1 pl h k))) ∧ (¬ s0.toInt64 * s0.toInt64 = 0) ∧ (wt.2.2 pl = true ↔ lo ≤ s0 ∧ s0 ≤ hi)
def thI (wt : wT) (pl : Nat) : Int32 := if wt.2.2 pl = true then 1 else 0
theorem th_1 {wt : wT} {pl : Nat} (h : wt.2.2 pl = true) : thI wt pl = 1 := if_pos h
theorem th_0 {wt : wT} {pl : Nat} (h : ¬ wt.2.2 pl = true) : thI wt pl = 0 := if_neg h
theorem fi_i1 {p : Nat} (h : p % 100 ≤ 17) : 1 + nI (fi p) = nI (fi (p + 1)) := by
  rw [show (1 : Int32) = nI 1 from rfl, nI_add, fi_1 h]
theorem fi_i100 (p : Nat) : 1000 + nI (fi p) = nI (fi (p + 100)) := by
  rw [show (1000 : Int32) = nI 1000 from rfl, nI_add, fi_100]
theorem TB.nx {wt : wT} {F1 : tF} {pl ii h : Nat} {a b : Int32} (hT : TB wt F1 pl ii h) (ha : a = nI (fi (pr wt pl h))) (hb : b = nxI wt pl h) : TB wt (uF (uF F1 137 (101 * ii + h) a) 138 (101 * ii + h) b) pl ii (h + 1) := by
  intro h' hh
  by_cases e : h' = h
  · subst e
    exact ⟨(uF_n _ _ (Or.inl (by decide))).trans ((uF_s _ _ _ _).trans ha), (uF_s _ _ _ _).trans hb⟩
  · have := hT h' (by omega)
    exact ⟨(uF_n _ _ (Or.inl (by decide))).trans ((uF_n _ _ (Or.inr (by omega))).trans this.1), (uF_n _ _ (Or.inr (by omega))).trans ((uF_n _ _ (Or.inl (by decide))).trans this.2)⟩
theorem AGc.nx {F F1 : tF} {a b : Nat} {x y : Int32} (h : AGc F F1) : AGc F (uF (uF F1 137 a x) 138 b y) := fun k h1 h2 => (uF_o _ _ _ h2).trans ((uF_o _ _ _ h1).trans (h k h1 h2))
def OT (F F1 : tF) (ii n : Nat) : Prop := ∀ j, (j < 101 * ii ∨ 101 * ii + n ≤ j) → F1 137 j = F 137 j ∧ F1 138 j = F 138 j
theorem OT.nx {F F1 : tF} {ii h : Nat} {x y : Int32} (hO : OT F F1 ii h) : OT F (uF (uF F1 137 (101 * ii + h) x) 138 (101 * ii + h) y) ii (h + 1) := by
  intro j hj
  have := hO j (by omega)
  exact ⟨(uF_n _ _ (Or.inl (by decide))).trans ((uF_n _ _ (Or.inr (by omega))).trans this.1), (uF_n _ _ (Or.inr (by omega))).trans ((uF_n _ _ (Or.inl (by decide))).trans this.2)⟩
theorem bs_0 (wt : wT) (pl h : Nat) : nI (fi (lsH wt (pr wt) pl h 0 / 9)) = 1000000 ∧ sI (lsH wt (pr wt) pl h 0) = -1 := by
  have e0 : lsH wt (pr wt) pl h 0 = 900000 := by simp only [lsH]
  rw [e0]
  constructor
  · have e : fi (900000 / 9) = 1000000 := by unfold fi; omega
    rw [e]
    rfl
  · rw [sI, if_neg (by omega)]
set_option maxHeartbeats 4000000 in
set_option maxRecDepth 100000 in
theorem c_X12_findCost (E : cE) (tt : Nat × Nat × Nat) {X : List Nat} (B : Nat → Nat) (F : tF) (G : tG) {P : tP} (hM : RM X P) {c1 i1 u mm ii N pl : Nat} {lo hi s0 : Int32} {wt : wT} {rk : Nat → Nat → Nat} (hc : c1 < 16) (hi1 : i1 < 4) (hu : u < 3) (hm : F 115 c1 = nI mm) (hm4 : mm < 4) (hN : F 110 i1 = nI N) (hN8 : N ≤ 8) (hii : ii < 9) (hS : WS wt rk N) (hp : pl ≤ N) (hs : F 139 ii = s0) (hwd : ∀ k, k < N → F 139 k = w_wide F (8 * i1 + k)) (hLK : LKR F c1 i1 u mm N s0 lo hi wt pl) (hdn : ∀ h k, h ≤ 100 → wt.1 pl h k = true → k ≠ ii ∧ F 137 (101 * k + wt.2.1 pl h k) = nI (fi (pr wt (k + 1) (wt.2.1 pl h k))))  : CT E tt yX12_findCost cX12_findCost 14 none 4 0 0 [.ref (B (100)), .int (nI c1), .int (nI i1), .int (nI u), .int (nI ii), .int (lo), .int (hi)] (wl E X B F G P) (fun r w => r = none ∧ ∃ F1 : tF, AGc F F1 ∧ OT F F1 ii 101 ∧ TB wt F1 pl ii 101 ∧ w = wl E X B F1 G P) := by
  refine CT.mk (by decide +kernel) (Nat.le_of_ble_eq_true rfl) ?_
  intro l p e s m below meth c A ls C hr hlk hnm hw hl
  have hx := C.1
  have hb := C.2.1
  have hts := C.2.2.2.2
  have hown : s.vm.findClass RX12 = some m.cls := C.2.2.2.1
  have hl : lv_has ls 14 [(0, .ref (B (100))), (1, .int (nI c1)), (2, .int (nI i1)), (3, .int (nI u)), (4, .int (nI ii)), (5, .int (lo)), (6, .int (hi))] := hl
  have jn_a : ∀  (H : Heap) (locs : List Loc) (ls : Array Slot), Wd E tt A s (wl E X B F G P) H locs → lv_has ls 14 [(0, .ref (B (100))), (1, .int (nI c1)), (2, .int (nI i1)), (3, .int (nI u)), (4, .int (nI ii)), (5, .int (lo)), (6, .int (hi)), (7, .int (thI wt pl))] → W p l e (rmO 4 0 0) s m ([.ref (B (100)), .int (nI c1), .int (nI i1), .int (nI u), .int (nI ii), .int (lo), .int (hi)] : List Value).toArray below meth c H locs 0 0 (MQ below (Fin0 E (fun r w => r = none ∧ ∃ F1 : tF, AGc F F1 ∧ OT F F1 ii 101 ∧ TB wt F1 pl ii 101 ∧ w = wl E X B F1 G P) A) ([.ref (B (100)), .int (nI c1), .int (nI i1), .int (nI u), .int (nI ii), .int (lo), .int (hi)] : List Value).toArray s 0 0 A) (F0 m 31 ls []) := by
    intro  H locs ls  hw hl
    refine lv_iconst (v := 0) hx hb dX12_findCost_31 (by decide) ?_
    refine lv_istore (lv' := [(8, .int (0)), (0, .ref (B (100))), (1, .int (nI c1)), (2, .int (nI i1)), (3, .int (nI u)), (4, .int (nI ii)), (5, .int (lo)), (6, .int (hi)), (7, .int (thI wt pl))]) hx hb dX12_findCost_32 hl (by decide) rfl (fun ls hl => ?_)
    have lo_a : ∀ (n : Nat) (h : Nat) (F1 : tF) (H : Heap) (locs : List Loc) (ls : Array Slot), 101 - h < n → (h ≤ 101) → (AGc F F1) → (OT F F1 ii h) → (TB wt F1 pl ii h) → Wd E tt A s (wl E X B F1 G P) H locs → lv_has ls 14 [(0, .ref (B (100))), (1, .int (nI c1)), (2, .int (nI i1)), (3, .int (nI u)), (4, .int (nI ii)), (5, .int (lo)), (6, .int (hi)), (7, .int (thI wt pl)), (8, .int (nI h))] → W p l e (rmO 4 0 0) s m ([.ref (B (100)), .int (nI c1), .int (nI i1), .int (nI u), .int (nI ii), .int (lo), .int (hi)] : List Value).toArray below meth c H locs 0 0 (MQ below (Fin0 E (fun r w => r = none ∧ ∃ F1 : tF, AGc F F1 ∧ OT F F1 ii 101 ∧ TB wt F1 pl ii 101 ∧ w = wl E X B F1 G P) A) ([.ref (B (100)), .int (nI c1), .int (nI i1), .int (nI u), .int (nI ii), .int (lo), .int (hi)] : List Value).toArray s 0 0 A) (F0 m 34 ls []) := by
      intro n
      induction n with
      | zero =>
        intro h F1 H locs ls hi_2
        exact absurd hi_2 (Nat.not_lt_zero _)
      | succ n ih_a =>
        intro h F1 H locs ls hj_a hh hA hO hT hw hl
        refine lv_iload hx hb dX12_findCost_34 (lv_at hl 8 rfl) ?_
        refine lv_bipush (v := 100) hx hb dX12_findCost_36 (by decide) ?_
        refine lv_icmp_gt (tgt := 270) hx hb dX12_findCost_38 (by decide) (fun c_38 => ?_) (fun c_38 => ?_)
        · have hh1 : h = 101 := by have := (nI_ltI (a := 100) (by decide) (by omega)).mp c_38; omega
          subst hh1
          exact r_v C hr hlk hw ⟨rfl, F1, hA, hO, hT, rfl⟩ dX12_findCost_270
        · have hh1 : h ≤ 100 := by rcases Nat.lt_or_ge 100 h with h9 | h9; exact absurd ((nI_ltI (a := 100) (by decide) (by omega)).mpr h9) c_38; exact h9
          refine lv_iload hx hb dX12_findCost_41 (lv_at hl 7 rfl) ?_
          refine lv_if_eq (tgt := 50) hx hb dX12_findCost_43 (by decide) (fun c_43 => ?_) (fun c_43 => ?_)
          · have ht : ¬ wt.2.2 pl = true := fun h9 => absurd ((th_1 h9).symm.trans c_43) (by decide)
            refine lv_ldc (v := 1000000) hx hb hown (hts _ kc_X12_225) dX12_findCost_50 ?_
            refine lv_istore (lv' := [(9, .int (1000000)), (0, .ref (B (100))), (1, .int (nI c1)), (2, .int (nI i1)), (3, .int (nI u)), (4, .int (nI ii)), (5, .int (lo)), (6, .int (hi)), (7, .int (thI wt pl)), (8, .int (nI h))]) hx hb dX12_findCost_52 hl (by decide) rfl (fun ls hl => ?_)
            refine lv_iconst (v := -1) hx hb dX12_findCost_54 (by decide) ?_
            refine lv_istore (lv' := [(10, .int (-1)), (9, .int (1000000)), (0, .ref (B (100))), (1, .int (nI c1)), (2, .int (nI i1)), (3, .int (nI u)), (4, .int (nI ii)), (5, .int (lo)), (6, .int (hi)), (7, .int (thI wt pl)), (8, .int (nI h))]) hx hb dX12_findCost_55 hl (by decide) rfl (fun ls hl => ?_)
            have hl : lv_has ls 14 [(10, .int (sI (lsH wt (pr wt) pl h 0))), (9, .int (nI (fi (lsH wt (pr wt) pl h 0 / 9)))), (0, .ref (B (100))), (1, .int (nI c1)), (2, .int (nI i1)), (3, .int (nI u)), (4, .int (nI ii)), (5, .int (lo)), (6, .int (hi)), (7, .int (thI wt pl)), (8, .int (nI h))] := by rw [(bs_0 wt pl h).1, (bs_0 wt pl h).2]; exact hl
            refine lv_iconst (v := 0) hx hb dX12_findCost_57 (by decide) ?_
            refine lv_istore (lv' := [(11, .int (0)), (10, .int (sI (lsH wt (pr wt) pl h 0))), (9, .int (nI (fi (lsH wt (pr wt) pl h 0 / 9)))), (0, .ref (B (100))), (1, .int (nI c1)), (2, .int (nI i1)), (3, .int (nI u)), (4, .int (nI ii)), (5, .int (lo)), (6, .int (hi)), (7, .int (thI wt pl)), (8, .int (nI h))]) hx hb dX12_findCost_58 hl (by decide) rfl (fun ls hl => ?_)
            have lo_b : ∀ (n : Nat) (k : Nat) (H : Heap) (locs : List Loc) (ls : Array Slot), N - k < n → (k ≤ N) → Wd E tt A s (wl E X B F1 G P) H locs → lv_has ls 14 [(0, .ref (B (100))), (1, .int (nI c1)), (2, .int (nI i1)), (3, .int (nI u)), (4, .int (nI ii)), (5, .int (lo)), (6, .int (hi)), (7, .int (thI wt pl)), (8, .int (nI h)), (9, .int (nI (fi (lsH wt (pr wt) pl h k / 9)))), (10, .int (sI (lsH wt (pr wt) pl h k))), (11, .int (nI k))] → W p l e (rmO 4 0 0) s m ([.ref (B (100)), .int (nI c1), .int (nI i1), .int (nI u), .int (nI ii), .int (lo), .int (hi)] : List Value).toArray below meth c H locs 0 0 (MQ below (Fin0 E (fun r w => r = none ∧ ∃ F1 : tF, AGc F F1 ∧ OT F F1 ii 101 ∧ TB wt F1 pl ii 101 ∧ w = wl E X B F1 G P) A) ([.ref (B (100)), .int (nI c1), .int (nI i1), .int (nI u), .int (nI ii), .int (lo), .int (hi)] : List Value).toArray s 0 0 A) (F0 m 60 ls []) := by
              intro n
              induction n with
              | zero =>
                intro k H locs ls hi_2
                exact absurd hi_2 (Nat.not_lt_zero _)
              | succ n ih_b =>
                intro k H locs ls hj_b hk hw hl
                refine lv_iload hx hb dX12_findCost_60 (lv_at hl 11 rfl) ?_
                refine lv_aload_n hx hb dX12_findCost_62 rfl (lv_at hl 0 rfl) ?_
                refine g_r 9 (k2 := 110) C hw (hM.m rfl) rfl fl_X12_37 rfl (hM.p 9 rfl) dX12_findCost_63 ?_
                refine lv_iload_n hx hb dX12_findCost_66 rfl (lv_at hl 2 rfl) ?_
                refine n_i i1 C hw (hM.m rfl) rfl rfl (show _ < 4 by omega) dX12_findCost_67 ?_
                refine tp_i (y := nI N) ((congrFun (hA 110 (by decide) (by decide)) i1).trans hN) ?_
                refine lv_icmp_ge (tgt := 185) hx hb dX12_findCost_68 (by decide) (fun c_68 => ?_) (fun c_68 => ?_)
                · have hkN : k = N := by have := (nI_leI (by omega) (by omega)).mp c_68; omega
                  rw [hkN] at hl
                  have he8 : lsH wt (pr wt) pl h N = lsH wt (pr wt) pl h 8 := by have h9 := lsH_all (w := wt) (g := pr wt) (pl := pl) (h := h) (N := N) (fun q hq hw9 => by have := (hS.2.1 pl h q hp (by omega) hw9).1; omega) (8 - N); rw [show N + (8 - N) = 8 by omega] at h9; exact h9.symm
                  refine lv_iload hx hb dX12_findCost_185 (lv_at hl 8 rfl) ?_
                  refine lv_if_le (tgt := 234) hx hb dX12_findCost_187 (by decide) (fun c_187 => ?_) (fun c_187 => ?_)
                  · have hh0 : ¬ 0 < h := fun h9 => nI_nle h9 (by omega) c_187
                    have hpe := pr_nt hS hp (show h ≤ 100 by omega) ht
                    have hne : nxI wt pl h = sI (lsA wt (pr wt) pl h) := if_neg ht
                    have hl : lv_has ls 14 [(0, .ref (B (100))), (1, .int (nI c1)), (2, .int (nI i1)), (3, .int (nI u)), (4, .int (nI ii)), (5, .int (lo)), (6, .int (hi)), (7, .int (thI wt pl)), (8, .int (nI h)), (9, .int (nI (fi (pr wt pl h)))), (10, .int (nxI wt pl h)), (11, .int (nI N))] := by rw [hpe, hne, lsA_0 hh0, ← he8]; exact hl
                    refine lv_aload_n hx hb dX12_findCost_234 rfl (lv_at hl 0 rfl) ?_
                    refine g_r 36 (k2 := 137) C hw (hM.m rfl) rfl fl_X12_93 rfl (hM.p 36 rfl) dX12_findCost_235 ?_
                    refine lv_bipush (v := 101) hx hb dX12_findCost_238 (by decide) ?_
                    refine lv_iload hx hb dX12_findCost_240 (lv_at hl 4 rfl) ?_
                    refine lv_imul hx hb dX12_findCost_242 ?_
                    refine tp_i (y := nI (101 * ii)) (pk_mul 101 _) ?_
                    refine lv_iload hx hb dX12_findCost_243 (lv_at hl 8 rfl) ?_
                    refine lv_iadd hx hb dX12_findCost_245 ?_
                    refine tp_i (y := nI (101 * ii + h)) (nI_add _ _) ?_
                    refine lv_iload hx hb dX12_findCost_246 (lv_at hl 9 rfl) ?_
                    refine t_i (101 * ii + h) C hw (hM.m rfl) rfl rfl (show _ < 909 by omega) dX12_findCost_248 (fun H locs hw => ?_)
                    refine lv_aload_n hx hb dX12_findCost_249 rfl (lv_at hl 0 rfl) ?_
                    refine g_r 37 (k2 := 138) C hw (hM.m rfl) rfl fl_X12_96 rfl (hM.p 37 rfl) dX12_findCost_250 ?_
                    refine lv_bipush (v := 101) hx hb dX12_findCost_253 (by decide) ?_
                    refine lv_iload hx hb dX12_findCost_255 (lv_at hl 4 rfl) ?_
                    refine lv_imul hx hb dX12_findCost_257 ?_
                    refine tp_i (y := nI (101 * ii)) (pk_mul 101 _) ?_
                    refine lv_iload hx hb dX12_findCost_258 (lv_at hl 8 rfl) ?_
                    refine lv_iadd hx hb dX12_findCost_260 ?_
                    refine tp_i (y := nI (101 * ii + h)) (nI_add _ _) ?_
                    refine lv_iload hx hb dX12_findCost_261 (lv_at hl 10 rfl) ?_
                    refine t_i (101 * ii + h) C hw (hM.m rfl) rfl rfl (show _ < 909 by omega) dX12_findCost_263 (fun H locs hw => ?_)
                    refine lv_iinc (v := nI (h + 1)) (lv' := [(8, .int (nI (h + 1))), (0, .ref (B (100))), (1, .int (nI c1)), (2, .int (nI i1)), (3, .int (nI u)), (4, .int (nI ii)), (5, .int (lo)), (6, .int (hi)), (7, .int (thI wt pl)), (9, .int (nI (fi (pr wt pl h)))), (10, .int (nxI wt pl h)), (11, .int (nI N))]) hx hb dX12_findCost_264 hl (k := 8) rfl (nI_1 _) (by decide) rfl (fun ls hl => ?_)
                    refine lv_goto (tgt := 34) hx hb dX12_findCost_267 (by decide) ?_
                    exact ih_a (h + 1) (uF (uF F1 137 (101 * ii + h) (nI (fi (pr wt pl h)))) 138 (101 * ii + h) (nxI wt pl h)) _ _ _ (by omega) (by omega) hA.nx hO.nx (hT.nx rfl rfl) hw (lv_sub hl [1, 2, 3, 4, 5, 6, 7, 8, 0] rfl)
                  · have hh0 : 0 < h := Nat.pos_of_ne_zero (fun h9 => c_187 (by rw [h9]; exact Int32.le_refl 0))
                    have hT0 := (hT 0 hh0).1
                    have hp0 := (pr_b hS hp (show 0 ≤ 100 by omega)).1
                    have hl8 := (lsH_cases wt (pr wt) pl h 8).1
                    refine lv_iload hx hb dX12_findCost_190 (lv_at hl 7 rfl) ?_
                    refine lv_if_ne (tgt := 234) hx hb dX12_findCost_192 (by decide) (fun c_192 => ?_) (fun c_192 => ?_)
                    · exact absurd (th_0 ht) c_192
                    · refine lv_sipush (v := 1000) hx hb dX12_findCost_195 (by decide) ?_
                      refine lv_aload_n hx hb dX12_findCost_198 rfl (lv_at hl 0 rfl) ?_
                      refine g_r 36 (k2 := 137) C hw (hM.m rfl) rfl fl_X12_93 rfl (hM.p 36 rfl) dX12_findCost_199 ?_
                      refine lv_bipush (v := 101) hx hb dX12_findCost_202 (by decide) ?_
                      refine lv_iload hx hb dX12_findCost_204 (lv_at hl 4 rfl) ?_
                      refine lv_imul hx hb dX12_findCost_206 ?_
                      refine tp_i (y := nI (101 * ii)) (pk_mul 101 _) ?_
                      refine n_i (101 * ii) C hw (hM.m rfl) rfl rfl (show _ < 909 by omega) dX12_findCost_207 ?_
                      refine tp_i (y := nI (fi (pr wt pl 0))) (hT0) ?_
                      refine lv_iadd hx hb dX12_findCost_208 ?_
                      refine tp_i (y := nI (fi (pr wt pl 0 + 100))) (fi_i100 _) ?_
                      refine lv_iload hx hb dX12_findCost_209 (lv_at hl 9 rfl) ?_
                      refine lv_icmp_ge (tgt := 234) hx hb dX12_findCost_211 (by decide) (fun c_211 => ?_) (fun c_211 => ?_)
                      · have hlf : ¬ fi (pr wt pl 0 + 100) < fi (lsH wt (pr wt) pl h 8 / 9) := by rw [← he8]; exact fun h9 => nI_ge h9 (by rw [he8]; have := fi_b (p := lsH wt (pr wt) pl h 8 / 9) (by omega); omega) c_211
                        have hpe := pr_nt hS hp (show h ≤ 100 by omega) ht
                        have hne : nxI wt pl h = sI (lsA wt (pr wt) pl h) := if_neg ht
                        have hl : lv_has ls 14 [(0, .ref (B (100))), (1, .int (nI c1)), (2, .int (nI i1)), (3, .int (nI u)), (4, .int (nI ii)), (5, .int (lo)), (6, .int (hi)), (7, .int (thI wt pl)), (8, .int (nI h)), (9, .int (nI (fi (pr wt pl h)))), (10, .int (nxI wt pl h)), (11, .int (nI N))] := by rw [hpe, hne, lsA_n hh0 hlf, ← he8]; exact hl
                        refine lv_aload_n hx hb dX12_findCost_234 rfl (lv_at hl 0 rfl) ?_
                        refine g_r 36 (k2 := 137) C hw (hM.m rfl) rfl fl_X12_93 rfl (hM.p 36 rfl) dX12_findCost_235 ?_
                        refine lv_bipush (v := 101) hx hb dX12_findCost_238 (by decide) ?_
                        refine lv_iload hx hb dX12_findCost_240 (lv_at hl 4 rfl) ?_
                        refine lv_imul hx hb dX12_findCost_242 ?_
                        refine tp_i (y := nI (101 * ii)) (pk_mul 101 _) ?_
                        refine lv_iload hx hb dX12_findCost_243 (lv_at hl 8 rfl) ?_
                        refine lv_iadd hx hb dX12_findCost_245 ?_
                        refine tp_i (y := nI (101 * ii + h)) (nI_add _ _) ?_
                        refine lv_iload hx hb dX12_findCost_246 (lv_at hl 9 rfl) ?_
                        refine t_i (101 * ii + h) C hw (hM.m rfl) rfl rfl (show _ < 909 by omega) dX12_findCost_248 (fun H locs hw => ?_)
                        refine lv_aload_n hx hb dX12_findCost_249 rfl (lv_at hl 0 rfl) ?_
                        refine g_r 37 (k2 := 138) C hw (hM.m rfl) rfl fl_X12_96 rfl (hM.p 37 rfl) dX12_findCost_250 ?_
                        refine lv_bipush (v := 101) hx hb dX12_findCost_253 (by decide) ?_
                        refine lv_iload hx hb dX12_findCost_255 (lv_at hl 4 rfl) ?_
                        refine lv_imul hx hb dX12_findCost_257 ?_
                        refine tp_i (y := nI (101 * ii)) (pk_mul 101 _) ?_
                        refine lv_iload hx hb dX12_findCost_258 (lv_at hl 8 rfl) ?_
                        refine lv_iadd hx hb dX12_findCost_260 ?_
                        refine tp_i (y := nI (101 * ii + h)) (nI_add _ _) ?_
                        refine lv_iload hx hb dX12_findCost_261 (lv_at hl 10 rfl) ?_
                        refine t_i (101 * ii + h) C hw (hM.m rfl) rfl rfl (show _ < 909 by omega) dX12_findCost_263 (fun H locs hw => ?_)
                        refine lv_iinc (v := nI (h + 1)) (lv' := [(8, .int (nI (h + 1))), (0, .ref (B (100))), (1, .int (nI c1)), (2, .int (nI i1)), (3, .int (nI u)), (4, .int (nI ii)), (5, .int (lo)), (6, .int (hi)), (7, .int (thI wt pl)), (9, .int (nI (fi (pr wt pl h)))), (10, .int (nxI wt pl h)), (11, .int (nI N))]) hx hb dX12_findCost_264 hl (k := 8) rfl (nI_1 _) (by decide) rfl (fun ls hl => ?_)
                        refine lv_goto (tgt := 34) hx hb dX12_findCost_267 (by decide) ?_
                        exact ih_a (h + 1) (uF (uF F1 137 (101 * ii + h) (nI (fi (pr wt pl h)))) 138 (101 * ii + h) (nxI wt pl h)) _ _ _ (by omega) (by omega) hA.nx hO.nx (hT.nx rfl rfl) hw (lv_sub hl [1, 2, 3, 4, 5, 6, 7, 8, 0] rfl)
                      · have hlf : fi (pr wt pl 0 + 100) < fi (lsH wt (pr wt) pl h 8 / 9) := by rw [← he8]; rcases Nat.lt_or_ge (fi (pr wt pl 0 + 100)) (fi (lsH wt (pr wt) pl h N / 9)) with h9 | h9; exact h9; exact absurd (nI_le h9 (by have := fi_b (p := pr wt pl 0 + 100) (by omega); omega)) c_211
                        refine lv_sipush (v := 1000) hx hb dX12_findCost_214 (by decide) ?_
                        refine lv_aload_n hx hb dX12_findCost_217 rfl (lv_at hl 0 rfl) ?_
                        refine g_r 36 (k2 := 137) C hw (hM.m rfl) rfl fl_X12_93 rfl (hM.p 36 rfl) dX12_findCost_218 ?_
                        refine lv_bipush (v := 101) hx hb dX12_findCost_221 (by decide) ?_
                        refine lv_iload hx hb dX12_findCost_223 (lv_at hl 4 rfl) ?_
                        refine lv_imul hx hb dX12_findCost_225 ?_
                        refine tp_i (y := nI (101 * ii)) (pk_mul 101 _) ?_
                        refine n_i (101 * ii) C hw (hM.m rfl) rfl rfl (show _ < 909 by omega) dX12_findCost_226 ?_
                        refine tp_i (y := nI (fi (pr wt pl 0))) (hT0) ?_
                        refine lv_iadd hx hb dX12_findCost_227 ?_
                        refine tp_i (y := nI (fi (pr wt pl 0 + 100))) (fi_i100 _) ?_
                        refine lv_istore (lv' := [(9, .int (nI (fi (pr wt pl 0 + 100)))), (0, .ref (B (100))), (1, .int (nI c1)), (2, .int (nI i1)), (3, .int (nI u)), (4, .int (nI ii)), (5, .int (lo)), (6, .int (hi)), (7, .int (thI wt pl)), (8, .int (nI h)), (10, .int (sI (lsH wt (pr wt) pl h N))), (11, .int (nI N))]) hx hb dX12_findCost_228 hl (by decide) rfl (fun ls hl => ?_)
                        refine lv_bipush (v := 8) hx hb dX12_findCost_230 (by decide) ?_
                        refine lv_istore (lv' := [(10, .int (8)), (9, .int (nI (fi (pr wt pl 0 + 100)))), (0, .ref (B (100))), (1, .int (nI c1)), (2, .int (nI i1)), (3, .int (nI u)), (4, .int (nI ii)), (5, .int (lo)), (6, .int (hi)), (7, .int (thI wt pl)), (8, .int (nI h)), (11, .int (nI N))]) hx hb dX12_findCost_232 hl (by decide) rfl (fun ls hl => ?_)
                        have hpe := pr_nt hS hp (show h ≤ 100 by omega) ht
                        have hne : nxI wt pl h = sI (lsA wt (pr wt) pl h) := if_neg ht
                        have hl : lv_has ls 14 [(10, .int (nxI wt pl h)), (9, .int (nI (fi (pr wt pl h)))), (0, .ref (B (100))), (1, .int (nI c1)), (2, .int (nI i1)), (3, .int (nI u)), (4, .int (nI ii)), (5, .int (lo)), (6, .int (hi)), (7, .int (thI wt pl)), (8, .int (nI h)), (11, .int (nI N))] := by rw [hpe, hne, (lsA_f hh0 hlf).1, (lsA_f hh0 hlf).2]; exact hl
                        refine lv_aload_n hx hb dX12_findCost_234 rfl (lv_at hl 2 rfl) ?_
                        refine g_r 36 (k2 := 137) C hw (hM.m rfl) rfl fl_X12_93 rfl (hM.p 36 rfl) dX12_findCost_235 ?_
                        refine lv_bipush (v := 101) hx hb dX12_findCost_238 (by decide) ?_
                        refine lv_iload hx hb dX12_findCost_240 (lv_at hl 6 rfl) ?_
                        refine lv_imul hx hb dX12_findCost_242 ?_
                        refine tp_i (y := nI (101 * ii)) (pk_mul 101 _) ?_
                        refine lv_iload hx hb dX12_findCost_243 (lv_at hl 10 rfl) ?_
                        refine lv_iadd hx hb dX12_findCost_245 ?_
                        refine tp_i (y := nI (101 * ii + h)) (nI_add _ _) ?_
                        refine lv_iload hx hb dX12_findCost_246 (lv_at hl 1 rfl) ?_
                        refine t_i (101 * ii + h) C hw (hM.m rfl) rfl rfl (show _ < 909 by omega) dX12_findCost_248 (fun H locs hw => ?_)
                        refine lv_aload_n hx hb dX12_findCost_249 rfl (lv_at hl 2 rfl) ?_
                        refine g_r 37 (k2 := 138) C hw (hM.m rfl) rfl fl_X12_96 rfl (hM.p 37 rfl) dX12_findCost_250 ?_
                        refine lv_bipush (v := 101) hx hb dX12_findCost_253 (by decide) ?_
                        refine lv_iload hx hb dX12_findCost_255 (lv_at hl 6 rfl) ?_
                        refine lv_imul hx hb dX12_findCost_257 ?_
                        refine tp_i (y := nI (101 * ii)) (pk_mul 101 _) ?_
                        refine lv_iload hx hb dX12_findCost_258 (lv_at hl 10 rfl) ?_
                        refine lv_iadd hx hb dX12_findCost_260 ?_
                        refine tp_i (y := nI (101 * ii + h)) (nI_add _ _) ?_
                        refine lv_iload hx hb dX12_findCost_261 (lv_at hl 0 rfl) ?_
                        refine t_i (101 * ii + h) C hw (hM.m rfl) rfl rfl (show _ < 909 by omega) dX12_findCost_263 (fun H locs hw => ?_)
                        refine lv_iinc (v := nI (h + 1)) (lv' := [(8, .int (nI (h + 1))), (10, .int (nxI wt pl h)), (9, .int (nI (fi (pr wt pl h)))), (0, .ref (B (100))), (1, .int (nI c1)), (2, .int (nI i1)), (3, .int (nI u)), (4, .int (nI ii)), (5, .int (lo)), (6, .int (hi)), (7, .int (thI wt pl)), (11, .int (nI N))]) hx hb dX12_findCost_264 hl (k := 10) rfl (nI_1 _) (by decide) rfl (fun ls hl => ?_)
                        refine lv_goto (tgt := 34) hx hb dX12_findCost_267 (by decide) ?_
                        exact ih_a (h + 1) (uF (uF F1 137 (101 * ii + h) (nI (fi (pr wt pl h)))) 138 (101 * ii + h) (nxI wt pl h)) _ _ _ (by omega) (by omega) hA.nx hO.nx (hT.nx rfl rfl) hw (lv_sub hl [3, 4, 5, 6, 7, 8, 9, 10, 0] rfl)
                · have hkl : k < N := by rcases Nat.lt_or_ge k N with h9 | h9; exact h9; exact absurd ((nI_leI (by omega) (by omega)).mpr h9) c_68
                  refine lv_iload hx hb dX12_findCost_71 (lv_at hl 7 rfl) ?_
                  refine lv_if_ne (tgt := 185) hx hb dX12_findCost_73 (by decide) (fun c_73 => ?_) (fun c_73 => ?_)
                  · exact absurd (th_0 ht) c_73
                  · refine lv_bipush (v := 8) hx hb dX12_findCost_76 (by decide) ?_
                    refine lv_iload_n hx hb dX12_findCost_78 rfl (lv_at hl 2 rfl) ?_
                    refine lv_imul hx hb dX12_findCost_79 ?_
                    refine lv_iload hx hb dX12_findCost_80 (lv_at hl 11 rfl) ?_
                    refine lv_iadd hx hb dX12_findCost_82 ?_
                    refine tp_i (y := nI (8 * i1 + k)) (at8 _ _) ?_
                    refine lv_istore (lv' := [(12, .int (nI (8 * i1 + k))), (0, .ref (B (100))), (1, .int (nI c1)), (2, .int (nI i1)), (3, .int (nI u)), (4, .int (nI ii)), (5, .int (lo)), (6, .int (hi)), (7, .int (thI wt pl)), (8, .int (nI h)), (9, .int (nI (fi (lsH wt (pr wt) pl h k / 9)))), (10, .int (sI (lsH wt (pr wt) pl h k))), (11, .int (nI k))]) hx hb dX12_findCost_83 hl (by decide) rfl (fun ls hl => ?_)
                    refine lv_aload_n hx hb dX12_findCost_85 rfl (lv_at hl 1 rfl) ?_
                    refine lv_iload_n hx hb dX12_findCost_86 rfl (lv_at hl 2 rfl) ?_
                    refine lv_aload_n hx hb dX12_findCost_87 rfl (lv_at hl 1 rfl) ?_
                    refine g_r 38 (k2 := 139) C hw (hM.m rfl) rfl fl_X12_99 rfl (hM.p 38 rfl) dX12_findCost_88 ?_
                    refine lv_iload hx hb dX12_findCost_91 (lv_at hl 5 rfl) ?_
                    refine n_i ii C hw (hM.m rfl) rfl rfl (show _ < 9 by omega) dX12_findCost_93 ?_
                    refine tp_i (y := s0) ((congrFun (hA 139 (by decide) (by decide)) ii).trans hs) ?_
                    refine lv_iload hx hb dX12_findCost_94 (lv_at hl 9 rfl) ?_
                    refine lv_iload hx hb dX12_findCost_96 (lv_at hl 0 rfl) ?_
                    refine lv_iload_n hx hb dX12_findCost_98 rfl (lv_at hl 4 rfl) ?_
                    refine kV C hw (c_X12_against E tt B F1 G hM (c1 := c1) (q := 8 * i1 + k) (u := u) (mt := mm) hc ((congrFun (hA 115 (by decide) (by decide)) c1).trans hm) hm4 (by omega) hu (s0) (nI h) hLK.2.1) vy_X12_against ml_X12_206 (rcv hw (hM.m rfl) rfl (by decide) (q2 := (RX12, TX12, 49)) rfl) rfl hl.1 (rest := []) rfl dX12_findCost_99 (Nat.le_of_ble_eq_true rfl) ⟨by decide, by decide⟩ ⟨Nat.le_of_ble_eq_true rfl, Nat.le_of_ble_eq_true rfl⟩ (fun v_99 ws_99 H locs hp_99 hq_99 => ?_)
                    clear hw
                    obtain ⟨rfl, rfl⟩ := hp_99
                    have hw := hq_99
                    refine W.eq (g2 := F0 m 102 ls [.int (w_ag F1 (mm) (F1 119 c1) (s0) (nI h) (8 * i1 + k) (u))]) rfl ?_
                    refine lv_iconst (v := 1) hx hb dX12_findCost_102 (by decide) ?_
                    refine lv_icmp_ne (tgt := 179) hx hb dX12_findCost_103 (by decide) (fun c_103 => ?_) (fun c_103 => ?_)
                    · have hwk : ¬ wt.1 pl h k = true := fun h9 => c_103 (by rw [congrFun (hA 119 (by decide) (by decide)) c1, w_ag_c hA.l]; exact (hLK.1 h k (by omega) hkl).1.mpr h9)
                      have hl : lv_has ls 14 [(12, .int (nI (8 * i1 + k))), (0, .ref (B (100))), (1, .int (nI c1)), (2, .int (nI i1)), (3, .int (nI u)), (4, .int (nI ii)), (5, .int (lo)), (6, .int (hi)), (7, .int (thI wt pl)), (8, .int (nI h)), (9, .int (nI (fi (lsH wt (pr wt) pl h (k + 1) / 9)))), (10, .int (sI (lsH wt (pr wt) pl h (k + 1)))), (11, .int (nI k))] := by rw [lsH_z hwk]; exact hl
                      refine lv_iinc (v := nI (k + 1)) (lv' := [(11, .int (nI (k + 1))), (12, .int (nI (8 * i1 + k))), (0, .ref (B (100))), (1, .int (nI c1)), (2, .int (nI i1)), (3, .int (nI u)), (4, .int (nI ii)), (5, .int (lo)), (6, .int (hi)), (7, .int (thI wt pl)), (8, .int (nI h)), (9, .int (nI (fi (lsH wt (pr wt) pl h (k + 1) / 9)))), (10, .int (sI (lsH wt (pr wt) pl h (k + 1))))]) hx hb dX12_findCost_179 hl (k := 12) rfl (nI_1 _) (by decide) rfl (fun ls hl => ?_)
                      refine lv_goto (tgt := 60) hx hb dX12_findCost_182 (by decide) ?_
                      exact ih_b (k + 1) _ _ _ (by omega) (by omega) hw (lv_sub hl [2, 3, 4, 5, 6, 7, 8, 9, 10, 11, 12, 0] rfl)
                    · have hwk : wt.1 pl h k = true := (hLK.1 h k (by omega) hkl).1.mp ((w_ag_c hA.l _ _ _ _ _ _).symm.trans (by rw [← congrFun (hA 119 (by decide) (by decide)) c1]; exact c_103))
                      have hqk := hS.2.1 pl h k hp (by omega) hwk
                      have hpk := pr_b hS (pl := k + 1) (by omega) hqk.2.1
                      have hlk := (lsH_cases wt (pr wt) pl h k).1
                      refine lv_iconst (v := 1) hx hb dX12_findCost_106 (by decide) ?_
                      refine lv_aload_n hx hb dX12_findCost_107 rfl (lv_at hl 1 rfl) ?_
                      refine g_r 36 (k2 := 137) C hw (hM.m rfl) rfl fl_X12_93 rfl (hM.p 36 rfl) dX12_findCost_108 ?_
                      refine lv_bipush (v := 101) hx hb dX12_findCost_111 (by decide) ?_
                      refine lv_iload hx hb dX12_findCost_113 (lv_at hl 12 rfl) ?_
                      refine lv_imul hx hb dX12_findCost_115 ?_
                      refine tp_i (y := nI (101 * k)) (pk_mul 101 _) ?_
                      refine lv_aload_n hx hb dX12_findCost_116 rfl (lv_at hl 1 rfl) ?_
                      refine lv_aload_n hx hb dX12_findCost_117 rfl (lv_at hl 1 rfl) ?_
                      refine g_r 14 (k2 := 115) C hw (hM.m rfl) rfl fl_X12_49 rfl (hM.p 14 rfl) dX12_findCost_118 ?_
                      refine lv_iload_n hx hb dX12_findCost_121 rfl (lv_at hl 2 rfl) ?_
                      refine n_i c1 C hw (hM.m rfl) rfl rfl (show _ < 16 by omega) dX12_findCost_122 ?_
                      refine tp_i (y := nI mm) ((congrFun (hA 115 (by decide) (by decide)) c1).trans hm) ?_
                      refine lv_aload_n hx hb dX12_findCost_123 rfl (lv_at hl 1 rfl) ?_
                      refine g_r 38 (k2 := 139) C hw (hM.m rfl) rfl fl_X12_99 rfl (hM.p 38 rfl) dX12_findCost_124 ?_
                      refine lv_iload hx hb dX12_findCost_127 (lv_at hl 5 rfl) ?_
                      refine n_i ii C hw (hM.m rfl) rfl rfl (show _ < 9 by omega) dX12_findCost_129 ?_
                      refine tp_i (y := s0) ((congrFun (hA 139 (by decide) (by decide)) ii).trans hs) ?_
                      refine lv_iload hx hb dX12_findCost_130 (lv_at hl 9 rfl) ?_
                      refine lv_aload_n hx hb dX12_findCost_132 rfl (lv_at hl 1 rfl) ?_
                      refine g_r 38 (k2 := 139) C hw (hM.m rfl) rfl fl_X12_99 rfl (hM.p 38 rfl) dX12_findCost_133 ?_
                      refine lv_iload hx hb dX12_findCost_136 (lv_at hl 12 rfl) ?_
                      refine n_i k C hw (hM.m rfl) rfl rfl (show _ < 9 by omega) dX12_findCost_138 ?_
                      refine tp_i (y := w_wide F (8 * i1 + k)) ((congrFun (hA 139 (by decide) (by decide)) k).trans (hwd k hkl)) ?_
                      refine kV C hw (c_X12_harder E tt B F1 G hM (mt := mm) hm4 (s0) (nI h) (w_wide F (8 * i1 + k)) (hLK.2.1)) vy_X12_harder ml_X12_186 (rcv hw (hM.m rfl) rfl (by decide) (q2 := (RX12, TX12, 49)) rfl) rfl hl.1 (rest := [.int (nI (101 * k)), .ref (B (137)), .int (1)]) rfl dX12_findCost_139 (Nat.le_of_ble_eq_true rfl) ⟨by decide, by decide⟩ ⟨Nat.le_of_ble_eq_true rfl, Nat.le_of_ble_eq_true rfl⟩ (fun v_139 ws_139 H locs hp_139 hq_139 => ?_)
                      clear hw
                      obtain ⟨rfl, rfl⟩ := hp_139
                      have hw := hq_139
                      refine W.eq (g2 := F0 m 142 ls [.int (w_hard F1 (mm) (s0) (nI h) (w_wide F (8 * i1 + k))), .int (nI (101 * k)), .ref (B (137)), .int (1)]) rfl ?_
                      refine tp_i (y := nI (wt.2.1 pl h k)) ((w_hard_c hA.l _ _ _ _).trans ((hLK.1 h k (by omega) hkl).2 hwk)) ?_
                      refine lv_iadd hx hb dX12_findCost_142 ?_
                      refine tp_i (y := nI (101 * k + wt.2.1 pl h k)) (nI_add _ _) ?_
                      refine n_i (101 * k + wt.2.1 pl h k) C hw (hM.m rfl) rfl rfl (show _ < 909 by omega) dX12_findCost_143 ?_
                      refine tp_i (y := nI (fi (pr wt (k + 1) (wt.2.1 pl h k)))) ((hO _ (by have := (hdn h k (by omega) hwk).1; omega)).1.trans (hdn h k (by omega) hwk).2) ?_
                      refine lv_iadd hx hb dX12_findCost_144 ?_
                      refine tp_i (y := nI (fi (pr wt (k + 1) (wt.2.1 pl h k) + 1))) (fi_i1 hpk.2.2) ?_
                      refine lv_istore (lv' := [(13, .int (nI (fi (pr wt (k + 1) (wt.2.1 pl h k) + 1)))), (12, .int (nI (8 * i1 + k))), (0, .ref (B (100))), (1, .int (nI c1)), (2, .int (nI i1)), (3, .int (nI u)), (4, .int (nI ii)), (5, .int (lo)), (6, .int (hi)), (7, .int (thI wt pl)), (8, .int (nI h)), (9, .int (nI (fi (lsH wt (pr wt) pl h k / 9)))), (10, .int (sI (lsH wt (pr wt) pl h k))), (11, .int (nI k))]) hx hb dX12_findCost_145 hl (by decide) rfl (fun ls hl => ?_)
                      refine lv_iload hx hb dX12_findCost_147 (lv_at hl 0 rfl) ?_
                      refine lv_iload hx hb dX12_findCost_149 (lv_at hl 11 rfl) ?_
                      refine lv_icmp_ge (tgt := 159) hx hb dX12_findCost_151 (by decide) (fun c_151 => ?_) (fun c_151 => ?_)
                      · have hlt : ¬ fi (pr wt (k + 1) (wt.2.1 pl h k) + 1) < fi (lsH wt (pr wt) pl h k / 9) := fun h9 => nI_ge h9 (by have := fi_b (p := lsH wt (pr wt) pl h k / 9) (by omega); omega) c_151
                        refine lv_iload hx hb dX12_findCost_159 (lv_at hl 12 rfl) ?_
                        refine lv_istore (lv' := [(10, .int (sI (lsH wt (pr wt) pl h k))), (13, .int (nI (fi (pr wt (k + 1) (wt.2.1 pl h k) + 1)))), (12, .int (nI (8 * i1 + k))), (0, .ref (B (100))), (1, .int (nI c1)), (2, .int (nI i1)), (3, .int (nI u)), (4, .int (nI ii)), (5, .int (lo)), (6, .int (hi)), (7, .int (thI wt pl)), (8, .int (nI h)), (9, .int (nI (fi (lsH wt (pr wt) pl h k / 9)))), (11, .int (nI k))]) hx hb dX12_findCost_161 hl (by decide) rfl (fun ls hl => ?_)
                        refine lv_iload hx hb dX12_findCost_163 (lv_at hl 1 rfl) ?_
                        refine lv_iload hx hb dX12_findCost_165 (lv_at hl 12 rfl) ?_
                        refine lv_icmp_ge (tgt := 175) hx hb dX12_findCost_167 (by decide) (fun c_167 => ?_) (fun c_167 => ?_)
                        · refine lv_iload hx hb dX12_findCost_175 (lv_at hl 12 rfl) ?_
                          refine lv_istore (lv' := [(9, .int (nI (fi (lsH wt (pr wt) pl h k / 9)))), (10, .int (sI (lsH wt (pr wt) pl h k))), (13, .int (nI (fi (pr wt (k + 1) (wt.2.1 pl h k) + 1)))), (12, .int (nI (8 * i1 + k))), (0, .ref (B (100))), (1, .int (nI c1)), (2, .int (nI i1)), (3, .int (nI u)), (4, .int (nI ii)), (5, .int (lo)), (6, .int (hi)), (7, .int (thI wt pl)), (8, .int (nI h)), (11, .int (nI k))]) hx hb dX12_findCost_177 hl (by decide) rfl (fun ls hl => ?_)
                          have hl : lv_has ls 14 [(9, .int (nI (fi (lsH wt (pr wt) pl h (k + 1) / 9)))), (10, .int (sI (lsH wt (pr wt) pl h (k + 1)))), (13, .int (nI (fi (pr wt (k + 1) (wt.2.1 pl h k) + 1)))), (12, .int (nI (8 * i1 + k))), (0, .ref (B (100))), (1, .int (nI c1)), (2, .int (nI i1)), (3, .int (nI u)), (4, .int (nI ii)), (5, .int (lo)), (6, .int (hi)), (7, .int (thI wt pl)), (8, .int (nI h)), (11, .int (nI k))] := by rw [lsH_n (by omega) hwk hlt]; exact hl
                          refine lv_iinc (v := nI (k + 1)) (lv' := [(11, .int (nI (k + 1))), (9, .int (nI (fi (lsH wt (pr wt) pl h (k + 1) / 9)))), (10, .int (sI (lsH wt (pr wt) pl h (k + 1)))), (13, .int (nI (fi (pr wt (k + 1) (wt.2.1 pl h k) + 1)))), (12, .int (nI (8 * i1 + k))), (0, .ref (B (100))), (1, .int (nI c1)), (2, .int (nI i1)), (3, .int (nI u)), (4, .int (nI ii)), (5, .int (lo)), (6, .int (hi)), (7, .int (thI wt pl)), (8, .int (nI h))]) hx hb dX12_findCost_179 hl (k := 13) rfl (nI_1 _) (by decide) rfl (fun ls hl => ?_)
                          refine lv_goto (tgt := 60) hx hb dX12_findCost_182 (by decide) ?_
                          exact ih_b (k + 1) _ _ _ (by omega) (by omega) hw (lv_sub hl [5, 6, 7, 8, 9, 10, 11, 12, 13, 1, 2, 0] rfl)
                        · exact absurd c_151 c_167
                      · have hlt : fi (pr wt (k + 1) (wt.2.1 pl h k) + 1) < fi (lsH wt (pr wt) pl h k / 9) := by rcases Nat.lt_or_ge (fi (pr wt (k + 1) (wt.2.1 pl h k) + 1)) (fi (lsH wt (pr wt) pl h k / 9)) with h9 | h9; exact h9; exact absurd (nI_le h9 (by have := fi_b (p := pr wt (k + 1) (wt.2.1 pl h k) + 1) (by omega); omega)) c_151
                        refine lv_iload hx hb dX12_findCost_154 (lv_at hl 13 rfl) ?_
                        refine lv_goto (tgt := 161) hx hb dX12_findCost_156 (by decide) ?_
                        refine lv_istore (lv' := [(10, .int (nI k)), (13, .int (nI (fi (pr wt (k + 1) (wt.2.1 pl h k) + 1)))), (12, .int (nI (8 * i1 + k))), (0, .ref (B (100))), (1, .int (nI c1)), (2, .int (nI i1)), (3, .int (nI u)), (4, .int (nI ii)), (5, .int (lo)), (6, .int (hi)), (7, .int (thI wt pl)), (8, .int (nI h)), (9, .int (nI (fi (lsH wt (pr wt) pl h k / 9)))), (11, .int (nI k))]) hx hb dX12_findCost_161 hl (by decide) rfl (fun ls hl => ?_)
                        refine lv_iload hx hb dX12_findCost_163 (lv_at hl 1 rfl) ?_
                        refine lv_iload hx hb dX12_findCost_165 (lv_at hl 12 rfl) ?_
                        refine lv_icmp_ge (tgt := 175) hx hb dX12_findCost_167 (by decide) (fun c_167 => ?_) (fun c_167 => ?_)
                        · exact absurd c_167 c_151
                        · refine lv_iload hx hb dX12_findCost_170 (lv_at hl 1 rfl) ?_
                          refine lv_goto (tgt := 177) hx hb dX12_findCost_172 (by decide) ?_
                          refine lv_istore (lv' := [(9, .int (nI (fi (pr wt (k + 1) (wt.2.1 pl h k) + 1)))), (10, .int (nI k)), (13, .int (nI (fi (pr wt (k + 1) (wt.2.1 pl h k) + 1)))), (12, .int (nI (8 * i1 + k))), (0, .ref (B (100))), (1, .int (nI c1)), (2, .int (nI i1)), (3, .int (nI u)), (4, .int (nI ii)), (5, .int (lo)), (6, .int (hi)), (7, .int (thI wt pl)), (8, .int (nI h)), (11, .int (nI k))]) hx hb dX12_findCost_177 hl (by decide) rfl (fun ls hl => ?_)
                          have hl : lv_has ls 14 [(9, .int (nI (fi (lsH wt (pr wt) pl h (k + 1) / 9)))), (10, .int (sI (lsH wt (pr wt) pl h (k + 1)))), (13, .int (nI (fi (pr wt (k + 1) (wt.2.1 pl h k) + 1)))), (12, .int (nI (8 * i1 + k))), (0, .ref (B (100))), (1, .int (nI c1)), (2, .int (nI i1)), (3, .int (nI u)), (4, .int (nI ii)), (5, .int (lo)), (6, .int (hi)), (7, .int (thI wt pl)), (8, .int (nI h)), (11, .int (nI k))] := by rw [(lsH_y (by omega) hwk hlt).1, (lsH_y (by omega) hwk hlt).2]; exact hl
                          refine lv_iinc (v := nI (k + 1)) (lv' := [(11, .int (nI (k + 1))), (9, .int (nI (fi (lsH wt (pr wt) pl h (k + 1) / 9)))), (10, .int (sI (lsH wt (pr wt) pl h (k + 1)))), (13, .int (nI (fi (pr wt (k + 1) (wt.2.1 pl h k) + 1)))), (12, .int (nI (8 * i1 + k))), (0, .ref (B (100))), (1, .int (nI c1)), (2, .int (nI i1)), (3, .int (nI u)), (4, .int (nI ii)), (5, .int (lo)), (6, .int (hi)), (7, .int (thI wt pl)), (8, .int (nI h))]) hx hb dX12_findCost_179 hl (k := 13) rfl (nI_1 _) (by decide) rfl (fun ls hl => ?_)
                          refine lv_goto (tgt := 60) hx hb dX12_findCost_182 (by decide) ?_
                          exact ih_b (k + 1) _ _ _ (by omega) (by omega) hw (lv_sub hl [5, 6, 7, 8, 9, 10, 11, 12, 13, 1, 2, 0] rfl)
            exact lo_b _ 0 _ _ _ (Nat.lt_succ_self _) (Nat.zero_le _) hw (lv_sub hl [3, 4, 5, 6, 7, 8, 9, 10, 11, 2, 1, 0] rfl)
          · have ht : wt.2.2 pl = true := Classical.byContradiction (fun h9 => c_43 (th_0 h9))
            refine lv_iconst (v := 0) hx hb dX12_findCost_46 (by decide) ?_
            refine lv_goto (tgt := 52) hx hb dX12_findCost_47 (by decide) ?_
            refine lv_istore (lv' := [(9, .int (0)), (0, .ref (B (100))), (1, .int (nI c1)), (2, .int (nI i1)), (3, .int (nI u)), (4, .int (nI ii)), (5, .int (lo)), (6, .int (hi)), (7, .int (thI wt pl)), (8, .int (nI h))]) hx hb dX12_findCost_52 hl (by decide) rfl (fun ls hl => ?_)
            refine lv_iconst (v := -1) hx hb dX12_findCost_54 (by decide) ?_
            refine lv_istore (lv' := [(10, .int (-1)), (9, .int (0)), (0, .ref (B (100))), (1, .int (nI c1)), (2, .int (nI i1)), (3, .int (nI u)), (4, .int (nI ii)), (5, .int (lo)), (6, .int (hi)), (7, .int (thI wt pl)), (8, .int (nI h))]) hx hb dX12_findCost_55 hl (by decide) rfl (fun ls hl => ?_)
            refine lv_iconst (v := 0) hx hb dX12_findCost_57 (by decide) ?_
            refine lv_istore (lv' := [(11, .int (0)), (10, .int (-1)), (9, .int (0)), (0, .ref (B (100))), (1, .int (nI c1)), (2, .int (nI i1)), (3, .int (nI u)), (4, .int (nI ii)), (5, .int (lo)), (6, .int (hi)), (7, .int (thI wt pl)), (8, .int (nI h))]) hx hb dX12_findCost_58 hl (by decide) rfl (fun ls hl => ?_)
            refine lv_iload hx hb dX12_findCost_60 (lv_at hl 0 rfl) ?_
            refine lv_aload_n hx hb dX12_findCost_62 rfl (lv_at hl 3 rfl) ?_
            refine g_r 9 (k2 := 110) C hw (hM.m rfl) rfl fl_X12_37 rfl (hM.p 9 rfl) dX12_findCost_63 ?_
            refine lv_iload_n hx hb dX12_findCost_66 rfl (lv_at hl 5 rfl) ?_
            refine n_i i1 C hw (hM.m rfl) rfl rfl (show _ < 4 by omega) dX12_findCost_67 ?_
            refine tp_i (y := nI N) ((congrFun (hA 110 (by decide) (by decide)) i1).trans hN) ?_
            refine lv_icmp_ge (tgt := 185) hx hb dX12_findCost_68 (by decide) (fun c_68 => ?_) (fun c_68 => ?_)
            · refine lv_iload hx hb dX12_findCost_185 (lv_at hl 11 rfl) ?_
              refine lv_if_le (tgt := 234) hx hb dX12_findCost_187 (by decide) (fun c_187 => ?_) (fun c_187 => ?_)
              · have hh0 : ¬ 0 < h := fun h9 => nI_nle h9 (by omega) c_187
                refine lv_aload_n hx hb dX12_findCost_234 rfl (lv_at hl 3 rfl) ?_
                refine g_r 36 (k2 := 137) C hw (hM.m rfl) rfl fl_X12_93 rfl (hM.p 36 rfl) dX12_findCost_235 ?_
                refine lv_bipush (v := 101) hx hb dX12_findCost_238 (by decide) ?_
                refine lv_iload hx hb dX12_findCost_240 (lv_at hl 7 rfl) ?_
                refine lv_imul hx hb dX12_findCost_242 ?_
                refine tp_i (y := nI (101 * ii)) (pk_mul 101 _) ?_
                refine lv_iload hx hb dX12_findCost_243 (lv_at hl 11 rfl) ?_
                refine lv_iadd hx hb dX12_findCost_245 ?_
                refine tp_i (y := nI (101 * ii + h)) (nI_add _ _) ?_
                refine lv_iload hx hb dX12_findCost_246 (lv_at hl 2 rfl) ?_
                refine t_i (101 * ii + h) C hw (hM.m rfl) rfl rfl (show _ < 909 by omega) dX12_findCost_248 (fun H locs hw => ?_)
                refine lv_aload_n hx hb dX12_findCost_249 rfl (lv_at hl 3 rfl) ?_
                refine g_r 37 (k2 := 138) C hw (hM.m rfl) rfl fl_X12_96 rfl (hM.p 37 rfl) dX12_findCost_250 ?_
                refine lv_bipush (v := 101) hx hb dX12_findCost_253 (by decide) ?_
                refine lv_iload hx hb dX12_findCost_255 (lv_at hl 7 rfl) ?_
                refine lv_imul hx hb dX12_findCost_257 ?_
                refine tp_i (y := nI (101 * ii)) (pk_mul 101 _) ?_
                refine lv_iload hx hb dX12_findCost_258 (lv_at hl 11 rfl) ?_
                refine lv_iadd hx hb dX12_findCost_260 ?_
                refine tp_i (y := nI (101 * ii + h)) (nI_add _ _) ?_
                refine lv_iload hx hb dX12_findCost_261 (lv_at hl 1 rfl) ?_
                refine t_i (101 * ii + h) C hw (hM.m rfl) rfl rfl (show _ < 909 by omega) dX12_findCost_263 (fun H locs hw => ?_)
                refine lv_iinc (v := nI (h + 1)) (lv' := [(8, .int (nI (h + 1))), (11, .int (0)), (10, .int (-1)), (9, .int (0)), (0, .ref (B (100))), (1, .int (nI c1)), (2, .int (nI i1)), (3, .int (nI u)), (4, .int (nI ii)), (5, .int (lo)), (6, .int (hi)), (7, .int (thI wt pl))]) hx hb dX12_findCost_264 hl (k := 11) rfl (nI_1 _) (by decide) rfl (fun ls hl => ?_)
                refine lv_goto (tgt := 34) hx hb dX12_findCost_267 (by decide) ?_
                exact ih_a (h + 1) (uF (uF F1 137 (101 * ii + h) 0) 138 (101 * ii + h) (-1)) _ _ _ (by omega) (by omega) hA.nx hO.nx (hT.nx (by rw [pr_th hS hp (by omega) ht]; rfl) (by rw [nxI, if_pos ht])) hw (lv_sub hl [4, 5, 6, 7, 8, 9, 10, 11, 0] rfl)
              · have hh0 : 0 < h := Nat.pos_of_ne_zero (fun h9 => c_187 (by rw [h9]; exact Int32.le_refl 0))
                have hT0 := (hT 0 hh0).1
                have hp0 := (pr_b hS hp (show 0 ≤ 100 by omega)).1
                have hl8 := (lsH_cases wt (pr wt) pl h 8).1
                refine lv_iload hx hb dX12_findCost_190 (lv_at hl 10 rfl) ?_
                refine lv_if_ne (tgt := 234) hx hb dX12_findCost_192 (by decide) (fun c_192 => ?_) (fun c_192 => ?_)
                · refine lv_aload_n hx hb dX12_findCost_234 rfl (lv_at hl 3 rfl) ?_
                  refine g_r 36 (k2 := 137) C hw (hM.m rfl) rfl fl_X12_93 rfl (hM.p 36 rfl) dX12_findCost_235 ?_
                  refine lv_bipush (v := 101) hx hb dX12_findCost_238 (by decide) ?_
                  refine lv_iload hx hb dX12_findCost_240 (lv_at hl 7 rfl) ?_
                  refine lv_imul hx hb dX12_findCost_242 ?_
                  refine tp_i (y := nI (101 * ii)) (pk_mul 101 _) ?_
                  refine lv_iload hx hb dX12_findCost_243 (lv_at hl 11 rfl) ?_
                  refine lv_iadd hx hb dX12_findCost_245 ?_
                  refine tp_i (y := nI (101 * ii + h)) (nI_add _ _) ?_
                  refine lv_iload hx hb dX12_findCost_246 (lv_at hl 2 rfl) ?_
                  refine t_i (101 * ii + h) C hw (hM.m rfl) rfl rfl (show _ < 909 by omega) dX12_findCost_248 (fun H locs hw => ?_)
                  refine lv_aload_n hx hb dX12_findCost_249 rfl (lv_at hl 3 rfl) ?_
                  refine g_r 37 (k2 := 138) C hw (hM.m rfl) rfl fl_X12_96 rfl (hM.p 37 rfl) dX12_findCost_250 ?_
                  refine lv_bipush (v := 101) hx hb dX12_findCost_253 (by decide) ?_
                  refine lv_iload hx hb dX12_findCost_255 (lv_at hl 7 rfl) ?_
                  refine lv_imul hx hb dX12_findCost_257 ?_
                  refine tp_i (y := nI (101 * ii)) (pk_mul 101 _) ?_
                  refine lv_iload hx hb dX12_findCost_258 (lv_at hl 11 rfl) ?_
                  refine lv_iadd hx hb dX12_findCost_260 ?_
                  refine tp_i (y := nI (101 * ii + h)) (nI_add _ _) ?_
                  refine lv_iload hx hb dX12_findCost_261 (lv_at hl 1 rfl) ?_
                  refine t_i (101 * ii + h) C hw (hM.m rfl) rfl rfl (show _ < 909 by omega) dX12_findCost_263 (fun H locs hw => ?_)
                  refine lv_iinc (v := nI (h + 1)) (lv' := [(8, .int (nI (h + 1))), (11, .int (0)), (10, .int (-1)), (9, .int (0)), (0, .ref (B (100))), (1, .int (nI c1)), (2, .int (nI i1)), (3, .int (nI u)), (4, .int (nI ii)), (5, .int (lo)), (6, .int (hi)), (7, .int (thI wt pl))]) hx hb dX12_findCost_264 hl (k := 11) rfl (nI_1 _) (by decide) rfl (fun ls hl => ?_)
                  refine lv_goto (tgt := 34) hx hb dX12_findCost_267 (by decide) ?_
                  exact ih_a (h + 1) (uF (uF F1 137 (101 * ii + h) 0) 138 (101 * ii + h) (-1)) _ _ _ (by omega) (by omega) hA.nx hO.nx (hT.nx (by rw [pr_th hS hp (by omega) ht]; rfl) (by rw [nxI, if_pos ht])) hw (lv_sub hl [4, 5, 6, 7, 8, 9, 10, 11, 0] rfl)
                · exact absurd ((th_1 ht).symm.trans c_192) (by decide)
            · refine lv_iload hx hb dX12_findCost_71 (lv_at hl 10 rfl) ?_
              refine lv_if_ne (tgt := 185) hx hb dX12_findCost_73 (by decide) (fun c_73 => ?_) (fun c_73 => ?_)
              · refine lv_iload hx hb dX12_findCost_185 (lv_at hl 11 rfl) ?_
                refine lv_if_le (tgt := 234) hx hb dX12_findCost_187 (by decide) (fun c_187 => ?_) (fun c_187 => ?_)
                · have hh0 : ¬ 0 < h := fun h9 => nI_nle h9 (by omega) c_187
                  refine lv_aload_n hx hb dX12_findCost_234 rfl (lv_at hl 3 rfl) ?_
                  refine g_r 36 (k2 := 137) C hw (hM.m rfl) rfl fl_X12_93 rfl (hM.p 36 rfl) dX12_findCost_235 ?_
                  refine lv_bipush (v := 101) hx hb dX12_findCost_238 (by decide) ?_
                  refine lv_iload hx hb dX12_findCost_240 (lv_at hl 7 rfl) ?_
                  refine lv_imul hx hb dX12_findCost_242 ?_
                  refine tp_i (y := nI (101 * ii)) (pk_mul 101 _) ?_
                  refine lv_iload hx hb dX12_findCost_243 (lv_at hl 11 rfl) ?_
                  refine lv_iadd hx hb dX12_findCost_245 ?_
                  refine tp_i (y := nI (101 * ii + h)) (nI_add _ _) ?_
                  refine lv_iload hx hb dX12_findCost_246 (lv_at hl 2 rfl) ?_
                  refine t_i (101 * ii + h) C hw (hM.m rfl) rfl rfl (show _ < 909 by omega) dX12_findCost_248 (fun H locs hw => ?_)
                  refine lv_aload_n hx hb dX12_findCost_249 rfl (lv_at hl 3 rfl) ?_
                  refine g_r 37 (k2 := 138) C hw (hM.m rfl) rfl fl_X12_96 rfl (hM.p 37 rfl) dX12_findCost_250 ?_
                  refine lv_bipush (v := 101) hx hb dX12_findCost_253 (by decide) ?_
                  refine lv_iload hx hb dX12_findCost_255 (lv_at hl 7 rfl) ?_
                  refine lv_imul hx hb dX12_findCost_257 ?_
                  refine tp_i (y := nI (101 * ii)) (pk_mul 101 _) ?_
                  refine lv_iload hx hb dX12_findCost_258 (lv_at hl 11 rfl) ?_
                  refine lv_iadd hx hb dX12_findCost_260 ?_
                  refine tp_i (y := nI (101 * ii + h)) (nI_add _ _) ?_
                  refine lv_iload hx hb dX12_findCost_261 (lv_at hl 1 rfl) ?_
                  refine t_i (101 * ii + h) C hw (hM.m rfl) rfl rfl (show _ < 909 by omega) dX12_findCost_263 (fun H locs hw => ?_)
                  refine lv_iinc (v := nI (h + 1)) (lv' := [(8, .int (nI (h + 1))), (11, .int (0)), (10, .int (-1)), (9, .int (0)), (0, .ref (B (100))), (1, .int (nI c1)), (2, .int (nI i1)), (3, .int (nI u)), (4, .int (nI ii)), (5, .int (lo)), (6, .int (hi)), (7, .int (thI wt pl))]) hx hb dX12_findCost_264 hl (k := 11) rfl (nI_1 _) (by decide) rfl (fun ls hl => ?_)
                  refine lv_goto (tgt := 34) hx hb dX12_findCost_267 (by decide) ?_
                  exact ih_a (h + 1) (uF (uF F1 137 (101 * ii + h) 0) 138 (101 * ii + h) (-1)) _ _ _ (by omega) (by omega) hA.nx hO.nx (hT.nx (by rw [pr_th hS hp (by omega) ht]; rfl) (by rw [nxI, if_pos ht])) hw (lv_sub hl [4, 5, 6, 7, 8, 9, 10, 11, 0] rfl)
                · have hh0 : 0 < h := Nat.pos_of_ne_zero (fun h9 => c_187 (by rw [h9]; exact Int32.le_refl 0))
                  have hT0 := (hT 0 hh0).1
                  have hp0 := (pr_b hS hp (show 0 ≤ 100 by omega)).1
                  have hl8 := (lsH_cases wt (pr wt) pl h 8).1
                  refine lv_iload hx hb dX12_findCost_190 (lv_at hl 10 rfl) ?_
                  refine lv_if_ne (tgt := 234) hx hb dX12_findCost_192 (by decide) (fun c_192 => ?_) (fun c_192 => ?_)
                  · refine lv_aload_n hx hb dX12_findCost_234 rfl (lv_at hl 3 rfl) ?_
                    refine g_r 36 (k2 := 137) C hw (hM.m rfl) rfl fl_X12_93 rfl (hM.p 36 rfl) dX12_findCost_235 ?_
                    refine lv_bipush (v := 101) hx hb dX12_findCost_238 (by decide) ?_
                    refine lv_iload hx hb dX12_findCost_240 (lv_at hl 7 rfl) ?_
                    refine lv_imul hx hb dX12_findCost_242 ?_
                    refine tp_i (y := nI (101 * ii)) (pk_mul 101 _) ?_
                    refine lv_iload hx hb dX12_findCost_243 (lv_at hl 11 rfl) ?_
                    refine lv_iadd hx hb dX12_findCost_245 ?_
                    refine tp_i (y := nI (101 * ii + h)) (nI_add _ _) ?_
                    refine lv_iload hx hb dX12_findCost_246 (lv_at hl 2 rfl) ?_
                    refine t_i (101 * ii + h) C hw (hM.m rfl) rfl rfl (show _ < 909 by omega) dX12_findCost_248 (fun H locs hw => ?_)
                    refine lv_aload_n hx hb dX12_findCost_249 rfl (lv_at hl 3 rfl) ?_
                    refine g_r 37 (k2 := 138) C hw (hM.m rfl) rfl fl_X12_96 rfl (hM.p 37 rfl) dX12_findCost_250 ?_
                    refine lv_bipush (v := 101) hx hb dX12_findCost_253 (by decide) ?_
                    refine lv_iload hx hb dX12_findCost_255 (lv_at hl 7 rfl) ?_
                    refine lv_imul hx hb dX12_findCost_257 ?_
                    refine tp_i (y := nI (101 * ii)) (pk_mul 101 _) ?_
                    refine lv_iload hx hb dX12_findCost_258 (lv_at hl 11 rfl) ?_
                    refine lv_iadd hx hb dX12_findCost_260 ?_
                    refine tp_i (y := nI (101 * ii + h)) (nI_add _ _) ?_
                    refine lv_iload hx hb dX12_findCost_261 (lv_at hl 1 rfl) ?_
                    refine t_i (101 * ii + h) C hw (hM.m rfl) rfl rfl (show _ < 909 by omega) dX12_findCost_263 (fun H locs hw => ?_)
                    refine lv_iinc (v := nI (h + 1)) (lv' := [(8, .int (nI (h + 1))), (11, .int (0)), (10, .int (-1)), (9, .int (0)), (0, .ref (B (100))), (1, .int (nI c1)), (2, .int (nI i1)), (3, .int (nI u)), (4, .int (nI ii)), (5, .int (lo)), (6, .int (hi)), (7, .int (thI wt pl))]) hx hb dX12_findCost_264 hl (k := 11) rfl (nI_1 _) (by decide) rfl (fun ls hl => ?_)
                    refine lv_goto (tgt := 34) hx hb dX12_findCost_267 (by decide) ?_
                    exact ih_a (h + 1) (uF (uF F1 137 (101 * ii + h) 0) 138 (101 * ii + h) (-1)) _ _ _ (by omega) (by omega) hA.nx hO.nx (hT.nx (by rw [pr_th hS hp (by omega) ht]; rfl) (by rw [nxI, if_pos ht])) hw (lv_sub hl [4, 5, 6, 7, 8, 9, 10, 11, 0] rfl)
                  · exact absurd ((th_1 ht).symm.trans c_192) (by decide)
              · exact absurd ((th_1 ht).symm.trans c_73) (by decide)
    exact lo_a _ 0 F _ _ _ (Nat.lt_succ_self _) (by omega) (fun _ _ _ => rfl) (fun _ _ => ⟨rfl, rfl⟩) (fun _ h9 => absurd h9 (Nat.not_lt_zero _)) hw (lv_sub hl [1, 2, 3, 4, 5, 6, 7, 8, 0] rfl)
  refine lv_aload_n hx hb dX12_findCost_0 rfl (lv_at hl 0 rfl) ?_
  refine g_r 38 (k2 := 139) C hw (hM.m rfl) rfl fl_X12_99 rfl (hM.p 38 rfl) dX12_findCost_1 ?_
  refine lv_iload hx hb dX12_findCost_4 (lv_at hl 4 rfl) ?_
  refine n_i ii C hw (hM.m rfl) rfl rfl (show _ < 9 by omega) dX12_findCost_6 ?_
  refine tp_i (y := s0) (hs) ?_
  refine lv_iload hx hb dX12_findCost_7 (lv_at hl 5 rfl) ?_
  refine lv_icmp_lt (tgt := 28) hx hb dX12_findCost_9 (by decide) (fun c_9 => ?_) (fun c_9 => ?_)
  · refine lv_iconst (v := 0) hx hb dX12_findCost_28 (by decide) ?_
    refine tp_i (y := thI wt pl) (th_0 (fun h9 => absurd c_9 (Int32.not_lt.mpr (hLK.2.2.mp h9).1))).symm ?_
    refine lv_istore (lv' := [(7, .int (thI wt pl)), (0, .ref (B (100))), (1, .int (nI c1)), (2, .int (nI i1)), (3, .int (nI u)), (4, .int (nI ii)), (5, .int (lo)), (6, .int (hi))]) hx hb dX12_findCost_29 hl (by decide) rfl (fun ls hl => ?_)
    exact jn_a  _ _ _  hw (lv_sub hl [1, 2, 3, 4, 5, 6, 7, 0] rfl)
  · refine lv_aload_n hx hb dX12_findCost_12 rfl (lv_at hl 0 rfl) ?_
    refine g_r 38 (k2 := 139) C hw (hM.m rfl) rfl fl_X12_99 rfl (hM.p 38 rfl) dX12_findCost_13 ?_
    refine lv_iload hx hb dX12_findCost_16 (lv_at hl 4 rfl) ?_
    refine n_i ii C hw (hM.m rfl) rfl rfl (show _ < 9 by omega) dX12_findCost_18 ?_
    refine tp_i (y := s0) (hs) ?_
    refine lv_iload hx hb dX12_findCost_19 (lv_at hl 6 rfl) ?_
    refine lv_icmp_gt (tgt := 28) hx hb dX12_findCost_21 (by decide) (fun c_21 => ?_) (fun c_21 => ?_)
    · refine lv_iconst (v := 0) hx hb dX12_findCost_28 (by decide) ?_
      refine tp_i (y := thI wt pl) (th_0 (fun h9 => absurd c_21 (Int32.not_lt.mpr (hLK.2.2.mp h9).2))).symm ?_
      refine lv_istore (lv' := [(7, .int (thI wt pl)), (0, .ref (B (100))), (1, .int (nI c1)), (2, .int (nI i1)), (3, .int (nI u)), (4, .int (nI ii)), (5, .int (lo)), (6, .int (hi))]) hx hb dX12_findCost_29 hl (by decide) rfl (fun ls hl => ?_)
      exact jn_a  _ _ _  hw (lv_sub hl [1, 2, 3, 4, 5, 6, 7, 0] rfl)
    · refine lv_iconst (v := 1) hx hb dX12_findCost_24 (by decide) ?_
      refine lv_goto (tgt := 29) hx hb dX12_findCost_25 (by decide) ?_
      refine tp_i (y := thI wt pl) (th_1 (hLK.2.2.mpr ⟨Int32.not_lt.mp c_9, Int32.not_lt.mp c_21⟩)).symm ?_
      refine lv_istore (lv' := [(7, .int (thI wt pl)), (0, .ref (B (100))), (1, .int (nI c1)), (2, .int (nI i1)), (3, .int (nI u)), (4, .int (nI ii)), (5, .int (lo)), (6, .int (hi))]) hx hb dX12_findCost_29 hl (by decide) rfl (fun ls hl => ?_)
      exact jn_a  _ _ _  hw (lv_sub hl [1, 2, 3, 4, 5, 6, 7, 0] rfl)
