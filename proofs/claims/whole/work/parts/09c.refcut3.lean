/-! cuttings of the reference: cutting, from, cut -/
theorem cW_t {V : tF} {G : tG} {a : Nat → Nat} {n : Nat} : ∀ d, (∀ o, n ≤ o → o < n + d → ¬ a o < 16) → cW V G a (n + d) = cW V G a n
  | 0, _ => rfl
  | d + 1, h => by
    show cW V G a ((n + d) + 1) = _
    rw [cW_n (h (n + d) (by omega) (by omega))]
    exact cW_t d (fun o h1 h2 => h o h1 (by omega))
def rtG (V : tF) (G : tG) (a : Nat → Nat) : Nat → tG
  | 0 => G
  | o + 1 => if a o < 16 ∧ 0 < rtG V G a o 118 (a o) ∧ w_feet V (rtG V G a o) (a o) < V 106 5 then uG (uG (rtG V G a o) 100 32 (rtG V G a o 100 32 + rtG V G a o 118 (a o))) 118 (a o) 0 else rtG V G a o
theorem rtG_y {V : tF} {G : tG} {a : Nat → Nat} {o : Nat} (h : a o < 16 ∧ 0 < rtG V G a o 118 (a o) ∧ w_feet V (rtG V G a o) (a o) < V 106 5) : rtG V G a (o + 1) = uG (uG (rtG V G a o) 100 32 (rtG V G a o 100 32 + rtG V G a o 118 (a o))) 118 (a o) 0 := if_pos h
theorem rtG_n {V : tF} {G : tG} {a : Nat → Nat} {o : Nat} (h : ¬ (a o < 16 ∧ 0 < rtG V G a o 118 (a o) ∧ w_feet V (rtG V G a o) (a o) < V 106 5)) : rtG V G a (o + 1) = rtG V G a o := if_neg h
theorem rtG_t {V : tF} {G : tG} {a : Nat → Nat} {n : Nat} : ∀ d, (∀ o, n ≤ o → o < n + d → ¬ a o < 16) → rtG V G a (n + d) = rtG V G a n
  | 0, _ => rfl
  | d + 1, h => by
    show rtG V G a ((n + d) + 1) = _
    rw [rtG_n (fun h9 => h (n + d) (by omega) (by omega) h9.1)]
    exact rtG_t d (fun o h1 h2 => h o h1 (by omega))
def tmG (G : tG) (T : Nat → Bool) (n : Nat) : tG := fun k j => if k = 118 ∧ j < n ∧ T j = true then 0 else if k = 100 ∧ j = 32 then G 100 32 + sumG (fun x => if T x = true then G 118 x else 0) n else G k j
theorem tmG_118 {G : tG} {T : Nat → Bool} {n x : Nat} : tmG G T n 118 x = if x < n ∧ T x = true then 0 else G 118 x := by
  unfold tmG
  by_cases h : x < n ∧ T x = true
  · rw [if_pos ⟨rfl, h⟩, if_pos h]
  · rw [if_neg (fun h9 => h h9.2), if_neg h, if_neg (by omega)]
theorem tmG_32 {G : tG} {T : Nat → Bool} {n : Nat} : tmG G T n 100 32 = G 100 32 + sumG (fun x => if T x = true then G 118 x else 0) n := by
  unfold tmG
  rw [if_neg (fun h9 => absurd h9.1 (by decide)), if_pos ⟨rfl, rfl⟩]
theorem tr_tm {V : tF} {G : tG} {a : Nat → Nat} : ∀ n, trG V G a n = tmG G (trT V G a) n
  | 0 => by
    funext k j
    unfold tmG trG
    rw [if_neg (fun h9 => absurd h9.2.1 (Nat.not_lt_zero _))]
    by_cases h : k = 100 ∧ j = 32
    · rw [if_pos h, h.1, h.2]; exact (Int64.add_zero _).symm
    · rw [if_neg h]
  | n + 1 => by
    have ih := tr_tm (V := V) (G := G) (a := a) n
    by_cases ht : trT V G a n = true
    · rw [trG_y ht, ih]
      funext k j
      rw [uG_g, uG_g, tmG_32]
      unfold tmG
      by_cases h1 : k = 118 ∧ j = n
      · rw [if_pos h1, if_pos ⟨h1.1, by omega, by rw [h1.2]; exact ht⟩]
      · rw [if_neg h1]
        by_cases h2 : k = 100 ∧ j = 32
        · rw [if_pos h2, if_neg (fun h9 => absurd (h9.1.symm.trans h2.1) (by decide)), if_pos h2]
          show _ = G 100 32 + (sumG _ n + _)
          simp only [ht, if_true]
          rw [Int64.add_assoc]
        · rw [if_neg h2, if_neg h2, if_neg h2]
          by_cases h3 : k = 118 ∧ j < n ∧ trT V G a j = true
          · rw [if_pos h3, if_pos ⟨h3.1, by omega, h3.2.2⟩]
          · rw [if_neg h3, if_neg (fun h9 => h3 ⟨h9.1, by omega, h9.2.2⟩)]
    · rw [trG_n ht, ih]
      funext k j
      unfold tmG
      have e1 : sumG (fun x => if trT V G a x = true then G 118 x else 0) (n + 1) = sumG (fun x => if trT V G a x = true then G 118 x else 0) n := by
        show sumG _ n + _ = _
        simp only [ht, if_false, Bool.false_eq_true]
        exact Int64.add_zero _
      rw [e1]
      by_cases h3 : k = 118 ∧ j < n ∧ trT V G a j = true
      · rw [if_pos h3, if_pos ⟨h3.1, by omega, h3.2.2⟩]
      · have h4 : ¬ (k = 118 ∧ j < n + 1 ∧ trT V G a j = true) := by
          rintro ⟨g1, g2, g3⟩
          by_cases e : j = n
          · rw [e] at g3; exact ht g3
          · exact h3 ⟨g1, by omega, g3⟩
        rw [if_neg h3, if_neg h4]
theorem sumG_congr {f g : Nat → Int64} : ∀ n, (∀ j, j < n → f j = g j) → sumG f n = sumG g n
  | 0, _ => rfl
  | n + 1, h => by simp only [sumG, sumG_congr n (fun j hj => h j (by omega)), h n (by omega)]
theorem sumG_add {f g : Nat → Int64} {x : Nat} {v : Int64} (h1 : f x = 0) (h2 : g x = v) (ho : ∀ j, j ≠ x → g j = f j) : ∀ n, x < n → sumG g n = sumG f n + v
  | 0, h => absurd h (Nat.not_lt_zero _)
  | n + 1, h => by
    simp only [sumG]
    by_cases e : x = n
    · subst e
      rw [sumG_congr (f := g) (g := f) x (fun j hj => ho j (by omega)), h1, h2, Int64.add_zero]
    · rw [sumG_add h1 h2 ho n (by omega), ho n (Ne.symm e), Int64.add_assoc, Int64.add_assoc, Int64.add_comm v]
def TT6 (V : tF) (G : tG) (a : Nat → Nat) (n x : Nat) : Bool := decide (¬ uc a x n = 0 ∧ w_feet V G x < V 106 5)
theorem tmG_cg {G : tG} {T T' : Nat → Bool} {n : Nat} (h : ∀ x, x < n → T x = T' x) : tmG G T n = tmG G T' n := by
  funext k j
  unfold tmG
  rw [sumG_congr n (fun x hx => by rw [h x hx] : ∀ x, x < n → (if T x = true then G 118 x else 0) = (if T' x = true then G 118 x else 0))]
  by_cases hj : j < n
  · rw [h j hj]
  · have h4 : ¬ (k = 118 ∧ j < n ∧ T j = true) := fun h9 => hj h9.2.1
    have h5 : ¬ (k = 118 ∧ j < n ∧ T' j = true) := fun h9 => hj h9.2.1
    rw [if_neg h4, if_neg h5]
theorem uc_1 (a : Nat → Nat) (x n : Nat) : uc a x (n + 1) = uc a x n + (if a n = x then 1 else 0) := rfl
theorem rt_tm {V : tF} {G : tG} {a : Nat → Nat} (hp : ∀ o, o < 6 → a o < 16 → 0 < G 118 (a o) ∨ G 118 (a o) = 0) : ∀ n, n ≤ 6 → rtG V G a n = tmG G (TT6 V G a n) 16
  | 0, _ => by
    funext k j
    have hT : ∀ x, TT6 V G a 0 x = false := fun x => decide_eq_false (fun h9 => h9.1 rfl)
    unfold tmG rtG
    rw [if_neg (fun h9 => absurd h9.2.2 (by rw [hT]; decide))]
    by_cases h : k = 100 ∧ j = 32
    · rw [if_pos h, h.1, h.2, sumG_congr (g := fun _ => 0) 16 (fun x _ => by rw [hT]; rfl)]
      exact (Int64.add_zero _).symm
    · rw [if_neg h]
  | n + 1, hn => by
    have ih := rt_tm (V := V) hp n (by omega)
    by_cases h16 : a n < 16
    · by_cases ht : w_feet V G (a n) < V 106 5
      · by_cases hu : uc a (a n) n = 0
        · have hTn : TT6 V G a n (a n) = false := decide_eq_false (fun h9 => h9.1 hu)
          have hT1 : TT6 V G a (n + 1) (a n) = true := decide_eq_true ⟨by rw [uc_1, if_pos rfl]; omega, ht⟩
          have hTo : ∀ x, x ≠ a n → TT6 V G a (n + 1) x = TT6 V G a n x := fun x hx => by
            unfold TT6
            rw [uc_1, if_neg (Ne.symm hx), Nat.add_zero]
          have e1 : rtG V G a n 118 (a n) = G 118 (a n) := by
            rw [ih, tmG_118, if_neg (fun h9 => absurd h9.2 (by rw [hTn]; decide))]
          have e2 : w_feet V (rtG V G a n) (a n) = w_feet V G (a n) := by unfold w_feet; rw [e1]
          have es := sumG_add (f := fun x => if TT6 V G a n x = true then G 118 x else 0) (g := fun x => if TT6 V G a (n + 1) x = true then G 118 x else 0) (x := a n) (v := G 118 (a n)) (by simp [hTn]) (by simp [hT1]) (fun j hj => by simp only [hTo j hj]) 16 h16
          rcases hp n (by omega) h16 with hz | hz
          · rw [rtG_y ⟨h16, by rw [e1]; exact hz, by rw [e2]; exact ht⟩, e1, ih]
            funext k j
            rw [uG_g, uG_g, tmG_32]
            unfold tmG
            rw [es]
            by_cases h1 : k = 118 ∧ j = a n
            · rw [if_pos h1, if_pos ⟨h1.1, by omega, by rw [h1.2]; exact hT1⟩]
            · rw [if_neg h1]
              by_cases h2 : k = 100 ∧ j = 32
              · rw [if_pos h2, if_neg (fun h9 => absurd (h9.1.symm.trans h2.1) (by decide)), if_pos h2, Int64.add_assoc]
              · rw [if_neg h2, if_neg h2, if_neg h2]
                by_cases h3 : k = 118
                · have hj : j ≠ a n := fun e => h1 ⟨h3, e⟩
                  rw [hTo j hj]
                · rw [if_neg (fun h9 => h3 h9.1), if_neg (fun h9 => h3 h9.1)]
          · rw [rtG_n (fun h9 => by have h8 := h9.2.1; rw [e1, hz] at h8; exact absurd h8 (by decide)), ih]
            funext k j
            unfold tmG
            rw [es, hz, Int64.add_zero]
            by_cases h3 : k = 118
            · by_cases hj : j = a n
              · rw [hj, hTn, hT1, if_neg (fun h9 => absurd h9.2.2 (by decide)), if_neg (by omega), if_pos ⟨h3, h16, rfl⟩, h3, hz]
              · rw [hTo j hj]
            · have h4 : ∀ m, ¬ (k = 118 ∧ j < 16 ∧ TT6 V G a m j = true) := fun m h9 => h3 h9.1
              rw [if_neg (h4 n), if_neg (h4 (n + 1))]
        · have hTn : TT6 V G a n (a n) = true := decide_eq_true ⟨hu, ht⟩
          rw [rtG_n (fun h9 => by have h8 := h9.2.1; rw [ih, tmG_118, if_pos ⟨h16, hTn⟩] at h8; exact absurd h8 (by decide)), ih]
          refine tmG_cg (fun x hx => ?_)
          by_cases e : x = a n
          · subst e
            rw [hTn]
            exact (decide_eq_true ⟨by rw [uc_1]; omega, ht⟩).symm
          · unfold TT6
            rw [uc_1, if_neg (Ne.symm e), Nat.add_zero]
      · have hT : ∀ m, TT6 V G a m (a n) = false := fun m => decide_eq_false (fun h9 => ht h9.2)
        have e1 : rtG V G a n 118 (a n) = G 118 (a n) := by
          rw [ih, tmG_118, if_neg (fun h9 => absurd h9.2 (by rw [hT]; decide))]
        have e2 : w_feet V (rtG V G a n) (a n) = w_feet V G (a n) := by unfold w_feet; rw [e1]
        rw [rtG_n (fun h9 => ht (by rw [← e2]; exact h9.2.2)), ih]
        refine tmG_cg (fun x hx => ?_)
        by_cases e : x = a n
        · rw [e, hT, hT]
        · unfold TT6
          rw [uc_1, if_neg (Ne.symm e), Nat.add_zero]
    · rw [rtG_n (fun h9 => h16 h9.1), ih]
      refine tmG_cg (fun x hx => ?_)
      unfold TT6
      rw [uc_1, if_neg (by omega), Nat.add_zero]
theorem rt_tr {V : tF} {G : tG} {a : Nat → Nat} (hp : ∀ o, o < 6 → a o < 16 → 0 < G 118 (a o) ∨ G 118 (a o) = 0) : rtG V G a 6 = trG V G a 16 := by
  rw [rt_tm hp 6 (Nat.le_refl _), tr_tm]
  rfl
/-- what the search leaves changes nothing here -/
theorem cgo_f {F F1 : tF} (h : AGf F F1) (x o : Nat) : cgo F1 x o = cgo F x o := by
  unfold cgo
  rw [h.e (k := 116) (by decide) (by decide), h.e (k := 126) (by decide) (by decide)]
theorem AGf.uu {F F1 : tF} (h : AGf F F1) (a b : Nat) (v : Int32) : AGf (uF F a b v) (uF F1 a b v) := by
  refine ⟨fun k h1 h2 h3 h4 h5 => ?_, fun j hj hj2 => ?_⟩
  · by_cases e : k = a
    · subst e
      funext j
      by_cases e2 : j = b
      · rw [e2, uF_s, uF_s]
      · rw [uF_n _ _ (Or.inr e2), uF_n _ _ (Or.inr e2), h.1 k h1 h2 h3 h4 h5]
    · rw [uF_o _ _ _ e, uF_o _ _ _ e, h.1 k h1 h2 h3 h4 h5]
  · by_cases e : 100 = a ∧ j = b
    · rw [e.1, e.2, uF_s, uF_s]
    · rw [uF_n _ _ (by omega), uF_n _ _ (by omega), h.2 j hj hj2]
theorem cW_f {F F1 : tF} {G : tG} {a : Nat → Nat} (h : AGf F F1) : ∀ n, AGf (cW F G a n).1 (cW F1 G a n).1 ∧ (cW F1 G a n).2 = (cW F G a n).2
  | 0 => ⟨h, rfl⟩
  | n + 1 => by
    obtain ⟨i1, i2⟩ := cW_f (G := G) (a := a) h n
    by_cases h16 : a n < 16
    · rw [cW_y h16, cW_y h16]
      refine ⟨i1.uu _ _ _, ?_⟩
      show (_, _) = (_, _)
      rw [cgo_f h, i2]
    · rw [cW_n h16, cW_n h16]
      exact ⟨i1, i2⟩
theorem rtG_f {F F1 : tF} {G : tG} {a : Nat → Nat} (h1 : F1 116 = F 116) (h2 : F1 106 = F 106) : ∀ n, rtG F1 G a n = rtG F G a n
  | 0 => rfl
  | n + 1 => by
    have ih := rtG_f (G := G) (a := a) h1 h2 n
    show (if a n < 16 ∧ 0 < rtG F1 G a n 118 (a n) ∧ w_feet F1 (rtG F1 G a n) (a n) < F1 106 5 then _ else _) = (if a n < 16 ∧ 0 < rtG F G a n 118 (a n) ∧ w_feet F (rtG F G a n) (a n) < F 106 5 then _ else _)
    unfold w_feet
    rw [ih, h1, h2]
set_option maxHeartbeats 4000000 in
set_option maxRecDepth 100000 in
theorem c_X12_cutting (E : cE) (tt : Nat × Nat × Nat) {X : List Nat} (B : Nat → Nat) (F : tF) (G : tG) {P : tP} (hM : RM X P) (nc : Nat) (mt : Nat → Nat) (hC : CO F nc mt) {no : Nat} (hO : ON F no) {q : CP} (hQ : QR F G nc no q)  : CT E tt yX12_cutting cX12_cutting 1 (some .int) 4 0 0 [.ref (B (100))] (wl E X B F G P) (fun r w => ∃ (F1 : tF) (a : Nat → Nat), AGf F F1 ∧ Opt q a ∧ r = some (.int (nI (tf q.1 a 6))) ∧ w = wl E X B F1 G P) := by
  refine CT.mk (by decide +kernel) (Nat.le_of_ble_eq_true rfl) ?_
  intro l p e s m below meth c A ls C hr hlk hnm hw hl
  have hx := C.1
  have hb := C.2.1
  have hts := C.2.2.2.2
  have hown : s.vm.findClass RX12 = some m.cls := C.2.2.2.1
  have hl : lv_has ls 1 [(0, .ref (B (100)))] := hl
  refine lv_aload_n hx hb dX12_cutting_0 rfl (lv_at hl 0 rfl) ?_
  refine kV C hw (c_X12_findCutting E tt B F G hM nc mt hC (no := no) hO (q := q) hQ) vy_X12_findCutting ml_X12_258 (rcv hw (hM.m rfl) rfl (by decide) (q2 := (RX12, TX12, 49)) rfl) rfl hl.1 (rest := []) rfl dX12_cutting_1 (Nat.le_of_ble_eq_true rfl) ⟨by decide, by decide⟩ ⟨Nat.le_of_ble_eq_true rfl, Nat.le_of_ble_eq_true rfl⟩ (fun v_1 ws_1 H locs hp_1 hq_1 => ?_)
  clear hw
  obtain ⟨rfl, F_1, a, hA_1, ha, hf_1, hb_1, rfl⟩ := hp_1
  have hw := hq_1
  refine W.eq (g2 := F0 m 4 ls []) rfl ?_
  refine lv_aload_n hx hb dX12_cutting_4 rfl (lv_at hl 0 rfl) ?_
  refine g_i 46 C hw (hM.m rfl) rfl fl_X12_249 rfl dX12_cutting_5 ?_
  refine tp_i (y := nI (tf q.1 a 6)) (hf_1) ?_
  exact r_i C hr hlk hw ⟨F_1, a, hA_1, ha, rfl, rfl⟩ dX12_cutting_8

set_option maxHeartbeats 4000000 in
set_option maxRecDepth 100000 in
theorem c_X12_from (E : cE) (tt : Nat × Nat × Nat) {X : List Nat} (B : Nat → Nat) (F : tF) (G : tG) {P : tP} (hM : RM X P) (nc : Nat) (mt : Nat → Nat) (hC : CO F nc mt) {no : Nat} (hO : ON F no) {q : CP} (hQ : QR F G nc no q) (o0_ : Int32)  : CT E tt yX12_from cX12_from 2 (some .int) 4 0 0 [.ref (B (100)), .int (o0_)] (wl E X B F G P) (fun r w => ∃ F1 : tF, ((∃ o1 : Nat, o1 < no ∧ o0_ = nI o1 ∧ ∃ a : Nat → Nat, Opt q a ∧ r = some (.int (if a o1 < 16 then nI (a o1) else -1))) ∨ ((∀ o1 : Nat, o1 < no → o0_ ≠ nI o1) ∧ r = some (.int (-2)))) ∧ AGf F F1 ∧ w = wl E X B F1 G P) := by
  refine CT.mk (by decide +kernel) (Nat.le_of_ble_eq_true rfl) ?_
  intro l p e s m below meth c A ls C hr hlk hnm hw hl
  have hx := C.1
  have hb := C.2.1
  have hts := C.2.2.2.2
  have hown : s.vm.findClass RX12 = some m.cls := C.2.2.2.1
  have hl : lv_has ls 2 [(0, .ref (B (100))), (1, .int (o0_))] := hl
  have ho6 := hO.2
  refine lv_iload_n hx hb dX12_from_0 rfl (lv_at hl 1 rfl) ?_
  refine lv_iconst (v := 0) hx hb dX12_from_1 (by decide) ?_
  refine lv_aload_n hx hb dX12_from_2 rfl (lv_at hl 0 rfl) ?_
  refine g_i 21 C hw (hM.m rfl) rfl fl_X12_246 rfl dX12_from_3 ?_
  refine tp_i (y := nI no) (hO.1) ?_
  refine lv_iconst (v := 1) hx hb dX12_from_6 (by decide) ?_
  refine lv_isub hx hb dX12_from_7 ?_
  refine kS C hw (c_X12_within E tt _ (o0_) (0) ((nI no - 1))) vy_X12_within ml_X12_123 rfl hl.1 (rest := []) rfl dX12_from_8 (Nat.le_of_ble_eq_true rfl) ⟨by decide, by decide⟩ ⟨Nat.le_of_ble_eq_true rfl, Nat.le_of_ble_eq_true rfl⟩ (fun v_8 ws_8 H locs hp_8 hq_8 => ?_)
  clear hw
  rcases hp_8 with ⟨h_8, rfl, rfl⟩ | ⟨h_8, rfl, rfl⟩
  · have hw := hq_8
    refine W.eq (g2 := F0 m 11 ls [.int (1)]) rfl ?_
    refine lv_if_ne (tgt := 17) hx hb dX12_from_11 (by decide) (fun _ => ?_) (fun h9 => False.elim (by revert h9; decide))
    obtain ⟨o1, hl_o1, rfl⟩ := n_lt h_8.1 ((le_pred (by omega) _).mp h_8.2) (by omega)
    refine lv_aload_n hx hb dX12_from_17 rfl (lv_at hl 0 rfl) ?_
    refine kV C hw (c_X12_findCutting E tt B F G hM nc mt hC (no := no) hO (q := q) hQ) vy_X12_findCutting ml_X12_258 (rcv hw (hM.m rfl) rfl (by decide) (q2 := (RX12, TX12, 49)) rfl) rfl hl.1 (rest := []) rfl dX12_from_18 (Nat.le_of_ble_eq_true rfl) ⟨by decide, by decide⟩ ⟨Nat.le_of_ble_eq_true rfl, Nat.le_of_ble_eq_true rfl⟩ (fun v_18 ws_18 H locs hp_18 hq_18 => ?_)
    clear hw
    obtain ⟨rfl, F_18, a, hA_18, ha, hf_18, hb_18, rfl⟩ := hp_18
    have hw := hq_18
    refine W.eq (g2 := F0 m 21 ls []) rfl ?_
    refine lv_aload_n hx hb dX12_from_21 rfl (lv_at hl 0 rfl) ?_
    refine g_r 43 (k2 := 144) C hw (hM.m rfl) rfl fl_X12_111 rfl (hM.p 43 rfl) dX12_from_22 ?_
    refine lv_iload_n hx hb dX12_from_25 rfl (lv_at hl 1 rfl) ?_
    refine n_i o1 C hw (hM.m rfl) rfl rfl (show _ < 6 by omega) dX12_from_26 ?_
    refine tp_i (y := if a o1 < 16 then nI (a o1) else -1) (hb_18 o1 hl_o1) ?_
    exact r_i C hr hlk hw ⟨F_18, Or.inl ⟨o1, hl_o1, rfl, a, ha, rfl⟩, hA_18, rfl⟩ dX12_from_27
  · have hw := hq_8
    refine W.eq (g2 := F0 m 11 ls [.int (0)]) rfl ?_
    refine lv_if_ne (tgt := 17) hx hb dX12_from_11 (by decide) (fun h9 => False.elim (by revert h9; decide)) (fun _ => ?_)
    refine lv_bipush (v := -2) hx hb dX12_from_14 (by decide) ?_
    exact r_i C hr hlk hw ⟨F, Or.inr ⟨fun o1 ho1 e9 => h_8 (by rw [e9]; exact ⟨nI_pos' (by omega), (le_pred (by omega) _).mpr (nI_lt ho1 (by omega))⟩), rfl⟩, AGf.rf, rfl⟩ dX12_from_16

set_option maxHeartbeats 4000000 in
set_option maxRecDepth 100000 in
theorem c_X12_cut (E : cE) (tt : Nat × Nat × Nat) {X : List Nat} (B : Nat → Nat) (F : tF) (G : tG) {P : tP} (hM : RM X P) (nc : Nat) (mt : Nat → Nat) (hC : CO F nc mt) {no : Nat} (hO : ON F no) {q : CP} (hQ : QR F G nc no q) (hnc : ∀ a, Vd q a → ∀ o, o < 6 → a o < 16 → a o < nc) (hpos : ∀ a, Vd q a → ∀ o, o < 6 → a o < 16 → 0 < (cW F G a 6).2.1 118 (a o) ∨ (cW F G a 6).2.1 118 (a o) = 0)  : CT E tt yX12_cut cX12_cut 6 (some .int) 4 0 0 [.ref (B (100))] (wl E X B F G P) (fun r w => ∃ (F1 : tF) (a : Nat → Nat), Opt q a ∧ r = some (.int (nI (cW F G a 6).2.2)) ∧ AGf (cW F G a 6).1 F1 ∧ w = wl E X B F1 (trG F ((cW F G a 6).2.1) a 16) P) := by
  refine CT.mk (by decide +kernel) (Nat.le_of_ble_eq_true rfl) ?_
  intro l p e s m below meth c A ls C hr hlk hnm hw hl
  have hx := C.1
  have hb := C.2.1
  have hts := C.2.2.2.2
  have hown : s.vm.findClass RX12 = some m.cls := C.2.2.2.1
  have hl : lv_has ls 6 [(0, .ref (B (100)))] := hl
  have ho6 := hO.2
  have hn16 := hC.2.1
  refine lv_aload_n hx hb dX12_cut_0 rfl (lv_at hl 0 rfl) ?_
  refine kV C hw (c_X12_findCutting E tt B F G hM nc mt hC (no := no) hO (q := q) hQ) vy_X12_findCutting ml_X12_258 (rcv hw (hM.m rfl) rfl (by decide) (q2 := (RX12, TX12, 49)) rfl) rfl hl.1 (rest := []) rfl dX12_cut_1 (Nat.le_of_ble_eq_true rfl) ⟨by decide, by decide⟩ ⟨Nat.le_of_ble_eq_true rfl, Nat.le_of_ble_eq_true rfl⟩ (fun v_1 ws_1 H locs hp_1 hq_1 => ?_)
  clear hw
  obtain ⟨rfl, F_1, a, hA_1, ha, hf_1, hb_1, rfl⟩ := hp_1
  have hw := hq_1
  refine W.eq (g2 := F0 m 4 ls []) rfl ?_
  refine lv_iconst (v := 0) hx hb dX12_cut_4 (by decide) ?_
  refine lv_istore_n (lv' := [(1, .int (0)), (0, .ref (B (100)))]) hx hb dX12_cut_5 rfl hl (by decide) rfl (fun ls hl => ?_)
  refine lv_iconst (v := 0) hx hb dX12_cut_6 (by decide) ?_
  refine lv_istore_n (lv' := [(2, .int (0)), (1, .int (0)), (0, .ref (B (100)))]) hx hb dX12_cut_7 rfl hl (by decide) rfl (fun ls hl => ?_)
  have lo_a : ∀ (n : Nat) (i : Nat) (F2 : tF) (G2 : tG) (H : Heap) (locs : List Loc) (ls : Array Slot), no - i < n → (i ≤ no) → (F2 = (cW F_1 G a i).1) → (G2 = (cW F_1 G a i).2.1) → Wd E tt A s (wl E X B F2 G2 P) H locs → lv_has ls 6 [(0, .ref (B (100))), (1, .int (nI (cW F_1 G a i).2.2)), (2, .int (nI i))] → W p l e (rmO 4 0 0) s m ([.ref (B (100))] : List Value).toArray below meth c H locs 0 0 (MQ below (Fin0 E (fun r w => ∃ (F1 : tF) (a : Nat → Nat), Opt q a ∧ r = some (.int (nI (cW F G a 6).2.2)) ∧ AGf (cW F G a 6).1 F1 ∧ w = wl E X B F1 (trG F ((cW F G a 6).2.1) a 16) P) A) ([.ref (B (100))] : List Value).toArray s 0 0 A) (F0 m 8 ls []) := by
    intro n
    induction n with
    | zero =>
      intro i F2 G2 H locs ls hi_2
      exact absurd hi_2 (Nat.not_lt_zero _)
    | succ n ih_a =>
      intro i F2 G2 H locs ls hj_a hi hF2 hG2 hw hl
      have hk2 : ∀ k, k ≠ 127 → F2 k = F_1 k := fun k hk => by rw [hF2]; exact cW_F hk i
      refine lv_iload_n hx hb dX12_cut_8 rfl (lv_at hl 2 rfl) ?_
      refine lv_aload_n hx hb dX12_cut_9 rfl (lv_at hl 0 rfl) ?_
      refine g_i 21 C hw (hM.m rfl) rfl fl_X12_246 rfl dX12_cut_10 ?_
      refine tp_i (y := nI no) (((congrFun (hk2 100 (by decide)) 21).trans (hA_1.2 21 (by decide) (by decide))).trans hO.1) ?_
      refine lv_icmp_ge (tgt := 91) hx hb dX12_cut_13 (by decide) (fun c_13 => ?_) (fun c_13 => ?_)
      · have hie : i = no := lp_eq (by omega) hi c_13
        rw [hie] at hl hF2 hG2
        refine lv_iconst (v := 0) hx hb dX12_cut_91 (by decide) ?_
        refine lv_istore_n (lv' := [(2, .int (0)), (0, .ref (B (100))), (1, .int (nI (cW F_1 G a no).2.2))]) hx hb dX12_cut_92 rfl hl (by decide) rfl (fun ls hl => ?_)
        have lo_b : ∀ (n : Nat) (i : Nat) (G3 : tG) (H : Heap) (locs : List Loc) (ls : Array Slot), no - i < n → (i ≤ no) → (G3 = rtG F_1 ((cW F_1 G a no).2.1) a i) → Wd E tt A s (wl E X B F2 G3 P) H locs → lv_has ls 6 [(0, .ref (B (100))), (1, .int (nI (cW F_1 G a no).2.2)), (2, .int (nI i))] → W p l e (rmO 4 0 0) s m ([.ref (B (100))] : List Value).toArray below meth c H locs 0 0 (MQ below (Fin0 E (fun r w => ∃ (F1 : tF) (a : Nat → Nat), Opt q a ∧ r = some (.int (nI (cW F G a 6).2.2)) ∧ AGf (cW F G a 6).1 F1 ∧ w = wl E X B F1 (trG F ((cW F G a 6).2.1) a 16) P) A) ([.ref (B (100))] : List Value).toArray s 0 0 A) (F0 m 93 ls []) := by
          intro n
          induction n with
          | zero =>
            intro i G3 H locs ls hi_2
            exact absurd hi_2 (Nat.not_lt_zero _)
          | succ n ih_b =>
            intro i G3 H locs ls hj_b hi3 hG3 hw hl
            refine lv_iload_n hx hb dX12_cut_93 rfl (lv_at hl 2 rfl) ?_
            refine lv_aload_n hx hb dX12_cut_94 rfl (lv_at hl 0 rfl) ?_
            refine g_i 21 C hw (hM.m rfl) rfl fl_X12_246 rfl dX12_cut_95 ?_
            refine tp_i (y := nI no) (((congrFun (hk2 100 (by decide)) 21).trans (hA_1.2 21 (by decide) (by decide))).trans hO.1) ?_
            refine lv_icmp_ge (tgt := 166) hx hb dX12_cut_98 (by decide) (fun c_98 => ?_) (fun c_98 => ?_)
            · have hie3 : i = no := lp_eq (by omega) hi3 c_98
              refine lv_iload_n hx hb dX12_cut_166 rfl (lv_at hl 1 rfl) ?_
              have hz := hQ.z ha.1
              have e6 : no + (6 - no) = 6 := by omega
              have hw6 : cW F_1 G a 6 = cW F_1 G a no := by rw [← e6]; exact cW_t (6 - no) (fun o h1 h2 => hz o h1 (by omega))
              have hr6 : rtG F_1 ((cW F_1 G a no).2.1) a 6 = rtG F_1 ((cW F_1 G a no).2.1) a no := by rw [← e6]; exact rtG_t (6 - no) (fun o h1 h2 => hz o h1 (by omega))
              have hcf := cW_f (G := G) (a := a) hA_1 6
              rw [hw6] at hcf
              have hGf : G3 = trG F ((cW F G a 6).2.1) a 16 := by rw [hG3, hie3, ← hr6, rtG_f (hA_1.e (by decide) (by decide)) (hA_1.e (by decide) (by decide)), hcf.2]; exact rt_tr (hpos a ha.1)
              exact r_i C hr hlk hw ⟨F2, a, ha, (by rw [hcf.2]), (by rw [hF2]; exact hcf.1), (by rw [hGf])⟩ dX12_cut_167
            · have hil : i < no := lp_lt (by omega) hi3 c_98
              by_cases hai : a i < 16
              · obtain ⟨c1, hac⟩ : ∃ c1, a i = c1 := ⟨_, rfl⟩
                have hcnc := hnc a ha.1 i (by omega) hai
                rw [hac] at hai hcnc
                refine lv_aload_n hx hb dX12_cut_101 rfl (lv_at hl 0 rfl) ?_
                refine g_r 43 (k2 := 144) C hw (hM.m rfl) rfl fl_X12_111 rfl (hM.p 43 rfl) dX12_cut_102 ?_
                refine lv_iload_n hx hb dX12_cut_105 rfl (lv_at hl 2 rfl) ?_
                refine n_i i C hw (hM.m rfl) rfl rfl (show _ < 6 by omega) dX12_cut_106 ?_
                refine tp_i (y := nI c1) ((congrFun (hk2 144 (by decide)) i).trans ((hb_1 i hil).trans (by rw [hac, if_pos hai]))) ?_
                refine lv_istore_n (lv' := [(3, .int (nI c1)), (0, .ref (B (100))), (1, .int (nI (cW F_1 G a no).2.2)), (2, .int (nI i))]) hx hb dX12_cut_107 rfl hl (by decide) rfl (fun ls hl => ?_)
                refine lv_iload_n hx hb dX12_cut_108 rfl (lv_at hl 0 rfl) ?_
                refine lv_iconst (v := -1) hx hb dX12_cut_109 (by decide) ?_
                refine lv_icmp_eq (tgt := 160) hx hb dX12_cut_110 (by decide) (fun c_110 => ?_) (fun c_110 => ?_)
                · exact absurd c_110 (nI_m1 (by omega))
                · refine lv_aload_n hx hb dX12_cut_113 rfl (lv_at hl 1 rfl) ?_
                  refine g_r 17 (k2 := 118) C hw (hM.m rfl) rfl fl_X12_58 rfl (hM.p 17 rfl) dX12_cut_114 ?_
                  refine lv_iload_n hx hb dX12_cut_117 rfl (lv_at hl 0 rfl) ?_
                  refine n_l c1 C hw (hM.m rfl) rfl rfl (show _ < 16 by omega) dX12_cut_118 ?_
                  refine lv_lconst (v := 0) hx hb dX12_cut_119 (by decide) ?_
                  refine W.lcmp hx hb dX12_cut_120 ?_
                  refine lv_if_le (tgt := 160) hx hb dX12_cut_121 (by decide) (fun c_121 => ?_) (fun c_121 => ?_)
                  · rw [lg_le] at c_121
                    have hG4 : G3 = rtG F_1 ((cW F_1 G a no).2.1) a (i + 1) := by rw [rtG_n (fun h9 => by have h8 := h9.2.1; rw [hac, ← hG3] at h8; exact absurd c_121 (Int64.not_le.mpr h8))]; exact hG3
                    refine lv_iinc (v := nI (i + 1)) (lv' := [(2, .int (nI (i + 1))), (3, .int (nI c1)), (0, .ref (B (100))), (1, .int (nI (cW F_1 G a no).2.2))]) hx hb dX12_cut_160 hl (k := 3) rfl (nI_1 _) (by decide) rfl (fun ls hl => ?_)
                    refine lv_goto (tgt := 93) hx hb dX12_cut_163 (by decide) ?_
                    exact ih_b (i + 1) G3 _ _ _ (by omega) (by omega) hG4 hw (lv_sub hl [2, 3, 0] rfl)
                  · rw [lg_no] at c_121
                    have hst : 0 < G3 118 c1 := c_121
                    refine lv_aload_n hx hb dX12_cut_124 rfl (lv_at hl 1 rfl) ?_
                    refine lv_iload_n hx hb dX12_cut_125 rfl (lv_at hl 0 rfl) ?_
                    refine kV C hw (c_X12_feetOf E tt B F2 G3 hM (q := c1) (by omega) (by rw [hk2 116 (by decide), hA_1.e (k := 116) (by decide) (by decide)]; exact (hC.2.2 c1 hcnc).2.2)) vy_X12_feetOf ml_X12_167 (rcv hw (hM.m rfl) rfl (by decide) (q2 := (RX12, TX12, 49)) rfl) rfl hl.1 (rest := []) rfl dX12_cut_126 (Nat.le_of_ble_eq_true rfl) ⟨by decide, by decide⟩ ⟨Nat.le_of_ble_eq_true rfl, Nat.le_of_ble_eq_true rfl⟩ (fun v_126 ws_126 H locs hp_126 hq_126 => ?_)
                    clear hw
                    obtain ⟨rfl, rfl⟩ := hp_126
                    have hw := hq_126
                    refine W.eq (g2 := F0 m 129 ls [.int (w_feet F2 G3 (c1))]) rfl ?_
                    have hfe : w_feet F2 G3 c1 = w_feet F_1 G3 c1 := by unfold w_feet; rw [hk2 116 (by decide)]
                    have hsh : F2 106 5 = F_1 106 5 := congrFun (hk2 106 (by decide)) 5
                    refine lv_aload_n hx hb dX12_cut_129 rfl (lv_at hl 1 rfl) ?_
                    refine g_r 5 (k2 := 106) C hw (hM.m rfl) rfl fl_X12_25 rfl (hM.p 5 rfl) dX12_cut_130 ?_
                    refine lv_iconst (v := 5) hx hb dX12_cut_133 (by decide) ?_
                    refine n_i 5 C hw (hM.m rfl) rfl rfl (show _ < 6 by omega) dX12_cut_134 ?_
                    refine lv_icmp_ge (tgt := 160) hx hb dX12_cut_135 (by decide) (fun c_135 => ?_) (fun c_135 => ?_)
                    · have hG4 : G3 = rtG F_1 ((cW F_1 G a no).2.1) a (i + 1) := by rw [rtG_n (fun h9 => by have h8 := h9.2.2; rw [hac, ← hG3] at h8; exact absurd c_135 (Int32.not_le.mpr (by rw [hfe, hsh]; exact h8)))]; exact hG3
                      refine lv_iinc (v := nI (i + 1)) (lv' := [(2, .int (nI (i + 1))), (3, .int (nI c1)), (0, .ref (B (100))), (1, .int (nI (cW F_1 G a no).2.2))]) hx hb dX12_cut_160 hl (k := 3) rfl (nI_1 _) (by decide) rfl (fun ls hl => ?_)
                      refine lv_goto (tgt := 93) hx hb dX12_cut_163 (by decide) ?_
                      exact ih_b (i + 1) G3 _ _ _ (by omega) (by omega) hG4 hw (lv_sub hl [2, 3, 0] rfl)
                    · have c_135 := Int32.not_le.mp c_135
                      refine lv_aload_n hx hb dX12_cut_138 rfl (lv_at hl 1 rfl) ?_
                      refine lv_dup hx hb dX12_cut_139 rfl ?_
                      refine g_l 32 C hw (hM.m rfl) rfl fl_X12_170 rfl dX12_cut_140 ?_
                      refine lv_aload_n hx hb dX12_cut_143 rfl (lv_at hl 1 rfl) ?_
                      refine g_r 17 (k2 := 118) C hw (hM.m rfl) rfl fl_X12_58 rfl (hM.p 17 rfl) dX12_cut_144 ?_
                      refine lv_iload_n hx hb dX12_cut_147 rfl (lv_at hl 0 rfl) ?_
                      refine n_l c1 C hw (hM.m rfl) rfl rfl (show _ < 16 by omega) dX12_cut_148 ?_
                      refine lv_ladd hx hb dX12_cut_149 ?_
                      refine p_l 32 C hw (hM.m rfl) rfl fl_X12_170 fc_12 fn_12_32 (fun h9 => by cases h9) rfl rfl rfl dX12_cut_150 (fun H locs hw => ?_)
                      refine lv_aload_n hx hb dX12_cut_153 rfl (lv_at hl 1 rfl) ?_
                      refine g_r 17 (k2 := 118) C hw (hM.m rfl) rfl fl_X12_58 rfl (hM.p 17 rfl) dX12_cut_154 ?_
                      refine lv_iload_n hx hb dX12_cut_157 rfl (lv_at hl 0 rfl) ?_
                      refine lv_lconst (v := 0) hx hb dX12_cut_158 (by decide) ?_
                      refine t_l c1 C hw (hM.m rfl) rfl rfl (show _ < 16 by omega) dX12_cut_159 (fun H locs hw => ?_)
                      have hG4 : uG (uG G3 100 32 ((G3 100 32 + G3 118 c1))) 118 c1 0 = rtG F_1 ((cW F_1 G a no).2.1) a (i + 1) := by rw [rtG_y (by rw [hac, ← hG3]; exact ⟨hai, hst, by rw [← hfe, ← hsh]; exact c_135⟩), hac, ← hG3]
                      refine lv_iinc (v := nI (i + 1)) (lv' := [(2, .int (nI (i + 1))), (3, .int (nI c1)), (0, .ref (B (100))), (1, .int (nI (cW F_1 G a no).2.2))]) hx hb dX12_cut_160 hl (k := 3) rfl (nI_1 _) (by decide) rfl (fun ls hl => ?_)
                      refine lv_goto (tgt := 93) hx hb dX12_cut_163 (by decide) ?_
                      exact ih_b (i + 1) (uG (uG G3 100 32 ((G3 100 32 + G3 118 c1))) 118 c1 0) _ _ _ (by omega) (by omega) hG4 hw (lv_sub hl [2, 3, 0] rfl)
              · refine lv_aload_n hx hb dX12_cut_101 rfl (lv_at hl 0 rfl) ?_
                refine g_r 43 (k2 := 144) C hw (hM.m rfl) rfl fl_X12_111 rfl (hM.p 43 rfl) dX12_cut_102 ?_
                refine lv_iload_n hx hb dX12_cut_105 rfl (lv_at hl 2 rfl) ?_
                refine n_i i C hw (hM.m rfl) rfl rfl (show _ < 6 by omega) dX12_cut_106 ?_
                refine tp_i (y := -1) ((congrFun (hk2 144 (by decide)) i).trans ((hb_1 i hil).trans (if_neg hai))) ?_
                refine lv_istore_n (lv' := [(3, .int (-1)), (0, .ref (B (100))), (1, .int (nI (cW F_1 G a no).2.2)), (2, .int (nI i))]) hx hb dX12_cut_107 rfl hl (by decide) rfl (fun ls hl => ?_)
                refine lv_iload_n hx hb dX12_cut_108 rfl (lv_at hl 0 rfl) ?_
                refine lv_iconst (v := -1) hx hb dX12_cut_109 (by decide) ?_
                refine lv_icmp_eq (tgt := 160) hx hb dX12_cut_110 (by decide) (fun _ => ?_) (fun h9 => False.elim (by revert h9; decide))
                have hG4 : G3 = rtG F_1 ((cW F_1 G a no).2.1) a (i + 1) := by rw [rtG_n (fun h9 => hai h9.1)]; exact hG3
                refine lv_iinc (v := nI (i + 1)) (lv' := [(2, .int (nI (i + 1))), (3, .int (-1)), (0, .ref (B (100))), (1, .int (nI (cW F_1 G a no).2.2))]) hx hb dX12_cut_160 hl (k := 3) rfl (nI_1 _) (by decide) rfl (fun ls hl => ?_)
                refine lv_goto (tgt := 93) hx hb dX12_cut_163 (by decide) ?_
                exact ih_b (i + 1) G3 _ _ _ (by omega) (by omega) hG4 hw (lv_sub hl [2, 3, 0] rfl)
        exact lo_b _ 0 G2 _ _ _ (Nat.lt_succ_self _) (Nat.zero_le _) hG2 hw (lv_sub hl [1, 2, 0] rfl)
      · have hil : i < no := lp_lt (by omega) hi c_13
        by_cases hai : a i < 16
        · obtain ⟨c1, hac⟩ : ∃ c1, a i = c1 := ⟨_, rfl⟩
          have hcnc := hnc a ha.1 i (by omega) hai
          rw [hac] at hai hcnc
          refine lv_aload_n hx hb dX12_cut_16 rfl (lv_at hl 0 rfl) ?_
          refine g_r 43 (k2 := 144) C hw (hM.m rfl) rfl fl_X12_111 rfl (hM.p 43 rfl) dX12_cut_17 ?_
          refine lv_iload_n hx hb dX12_cut_20 rfl (lv_at hl 2 rfl) ?_
          refine n_i i C hw (hM.m rfl) rfl rfl (show _ < 6 by omega) dX12_cut_21 ?_
          refine tp_i (y := nI c1) ((congrFun (hk2 144 (by decide)) i).trans ((hb_1 i hil).trans (by rw [hac, if_pos hai]))) ?_
          refine lv_istore_n (lv' := [(3, .int (nI c1)), (0, .ref (B (100))), (1, .int (nI (cW F_1 G a i).2.2)), (2, .int (nI i))]) hx hb dX12_cut_22 rfl hl (by decide) rfl (fun ls hl => ?_)
          refine lv_iload_n hx hb dX12_cut_23 rfl (lv_at hl 0 rfl) ?_
          refine lv_iconst (v := -1) hx hb dX12_cut_24 (by decide) ?_
          refine lv_icmp_eq (tgt := 85) hx hb dX12_cut_25 (by decide) (fun c_25 => ?_) (fun c_25 => ?_)
          · exact absurd c_25 (nI_m1 (by omega))
          · refine lv_aload_n hx hb dX12_cut_28 rfl (lv_at hl 1 rfl) ?_
            refine g_r 15 (k2 := 116) C hw (hM.m rfl) rfl fl_X12_52 rfl (hM.p 15 rfl) dX12_cut_29 ?_
            refine lv_iload_n hx hb dX12_cut_32 rfl (lv_at hl 0 rfl) ?_
            refine n_i c1 C hw (hM.m rfl) rfl rfl (show _ < 16 by omega) dX12_cut_33 ?_
            refine lv_i2l hx hb dX12_cut_34 rfl ?_
            refine lv_aload_n hx hb dX12_cut_35 rfl (lv_at hl 1 rfl) ?_
            refine g_r 15 (k2 := 116) C hw (hM.m rfl) rfl fl_X12_52 rfl (hM.p 15 rfl) dX12_cut_36 ?_
            refine lv_iload_n hx hb dX12_cut_39 rfl (lv_at hl 0 rfl) ?_
            refine n_i c1 C hw (hM.m rfl) rfl rfl (show _ < 16 by omega) dX12_cut_40 ?_
            refine lv_i2l hx hb dX12_cut_41 rfl ?_
            refine lv_lmul hx hb dX12_cut_42 ?_
            refine lv_aload_n hx hb dX12_cut_43 rfl (lv_at hl 1 rfl) ?_
            refine g_r 25 (k2 := 126) C hw (hM.m rfl) rfl fl_X12_81 rfl (hM.p 25 rfl) dX12_cut_44 ?_
            refine lv_iload_n hx hb dX12_cut_47 rfl (lv_at hl 3 rfl) ?_
            refine n_i i C hw (hM.m rfl) rfl rfl (show _ < 6 by omega) dX12_cut_48 ?_
            refine lv_i2l hx hb dX12_cut_49 rfl ?_
            refine lv_lmul hx hb dX12_cut_50 ?_
            refine tp_l (y := cgo F_1 c1 i) (by rw [hk2 116 (by decide), hk2 126 (by decide)]; rfl) ?_
            refine lv_lstore (lv' := [(4, .long (cgo F_1 c1 i)), (3, .int (nI c1)), (0, .ref (B (100))), (1, .int (nI (cW F_1 G a i).2.2)), (2, .int (nI i))]) hx hb dX12_cut_51 hl (by decide) rfl (fun ls hl => ?_)
            refine lv_aload_n hx hb dX12_cut_53 rfl (lv_at hl 2 rfl) ?_
            refine g_r 17 (k2 := 118) C hw (hM.m rfl) rfl fl_X12_58 rfl (hM.p 17 rfl) dX12_cut_54 ?_
            refine lv_iload_n hx hb dX12_cut_57 rfl (lv_at hl 1 rfl) ?_
            refine lv_dup2_11 hx hb dX12_cut_58 rfl rfl ?_
            refine n_l c1 C hw (hM.m rfl) rfl rfl (show _ < 16 by omega) dX12_cut_59 ?_
            refine lv_lload hx hb dX12_cut_60 (lv_at hl 0 rfl) ?_
            refine lv_lsub hx hb dX12_cut_62 ?_
            refine t_l c1 C hw (hM.m rfl) rfl rfl (show _ < 16 by omega) dX12_cut_63 (fun H locs hw => ?_)
            refine lv_aload_n hx hb dX12_cut_64 rfl (lv_at hl 2 rfl) ?_
            refine lv_dup hx hb dX12_cut_65 rfl ?_
            refine g_l 31 C hw (hM.m rfl) rfl fl_X12_261 rfl dX12_cut_66 ?_
            refine tp_l (y := G2 100 31) ((uG_n _ _ (Or.inl (by decide))).trans (rfl)) ?_
            refine lv_lload hx hb dX12_cut_69 (lv_at hl 0 rfl) ?_
            refine lv_ladd hx hb dX12_cut_71 ?_
            refine p_l 31 C hw (hM.m rfl) rfl fl_X12_261 fc_12 fn_12_31 (fun h9 => by cases h9) rfl rfl rfl dX12_cut_72 (fun H locs hw => ?_)
            refine lv_aload_n hx hb dX12_cut_75 rfl (lv_at hl 2 rfl) ?_
            refine g_r 26 (k2 := 127) C hw (hM.m rfl) rfl fl_X12_84 rfl (hM.p 26 rfl) dX12_cut_76 ?_
            refine lv_iload_n hx hb dX12_cut_79 rfl (lv_at hl 4 rfl) ?_
            refine lv_iconst (v := 1) hx hb dX12_cut_80 (by decide) ?_
            refine t_z i C hw (hM.m rfl) rfl rfl (show _ < 6 by omega) rfl dX12_cut_81 (fun H locs hw => ?_)
            refine lv_iinc (v := (nI (cW F_1 G a i).2.2) + 1) (lv' := [(1, .int ((nI (cW F_1 G a i).2.2) + 1)), (4, .long (cgo F_1 c1 i)), (3, .int (nI c1)), (0, .ref (B (100))), (2, .int (nI i))]) hx hb dX12_cut_82 hl (k := 3) rfl rfl (by decide) rfl (fun ls hl => ?_)
            have hcw := cW_y (V := F_1) (G := G) (a := a) (o := i) (by rw [hac]; exact hai)
            have hl : lv_has ls 6 [(1, .int (nI (cW F_1 G a (i + 1)).2.2)), (4, .long (cgo F_1 c1 i)), (3, .int (nI c1)), (0, .ref (B (100))), (2, .int (nI i))] := by rw [hcw]; rw [nI_1] at hl; exact hl
            have hF3 : uF F2 127 i 1 = (cW F_1 G a (i + 1)).1 := by rw [hcw, hF2]
            have hG3 : uG (uG G2 118 c1 ((G2 118 c1 - cgo F_1 c1 i))) 100 31 ((G2 100 31 + cgo F_1 c1 i)) = (cW F_1 G a (i + 1)).2.1 := by rw [hcw, hac, hG2]
            refine lv_iinc (v := nI (i + 1)) (lv' := [(2, .int (nI (i + 1))), (1, .int (nI (cW F_1 G a (i + 1)).2.2)), (4, .long (cgo F_1 c1 i)), (3, .int (nI c1)), (0, .ref (B (100)))]) hx hb dX12_cut_85 hl (k := 4) rfl (nI_1 _) (by decide) rfl (fun ls hl => ?_)
            refine lv_goto (tgt := 8) hx hb dX12_cut_88 (by decide) ?_
            exact ih_a (i + 1) (uF F2 127 i 1) (uG (uG G2 118 c1 ((G2 118 c1 - cgo F_1 c1 i))) 100 31 ((G2 100 31 + cgo F_1 c1 i))) _ _ _ (by omega) (by omega) hF3 hG3 hw (lv_sub hl [4, 1, 0] rfl)
        · refine lv_aload_n hx hb dX12_cut_16 rfl (lv_at hl 0 rfl) ?_
          refine g_r 43 (k2 := 144) C hw (hM.m rfl) rfl fl_X12_111 rfl (hM.p 43 rfl) dX12_cut_17 ?_
          refine lv_iload_n hx hb dX12_cut_20 rfl (lv_at hl 2 rfl) ?_
          refine n_i i C hw (hM.m rfl) rfl rfl (show _ < 6 by omega) dX12_cut_21 ?_
          refine tp_i (y := -1) ((congrFun (hk2 144 (by decide)) i).trans ((hb_1 i hil).trans (if_neg hai))) ?_
          refine lv_istore_n (lv' := [(3, .int (-1)), (0, .ref (B (100))), (1, .int (nI (cW F_1 G a i).2.2)), (2, .int (nI i))]) hx hb dX12_cut_22 rfl hl (by decide) rfl (fun ls hl => ?_)
          refine lv_iload_n hx hb dX12_cut_23 rfl (lv_at hl 0 rfl) ?_
          refine lv_iconst (v := -1) hx hb dX12_cut_24 (by decide) ?_
          refine lv_icmp_eq (tgt := 85) hx hb dX12_cut_25 (by decide) (fun _ => ?_) (fun h9 => False.elim (by revert h9; decide))
          have hcw := cW_n (V := F_1) (G := G) (a := a) (o := i) hai
          have hl : lv_has ls 6 [(3, .int (-1)), (0, .ref (B (100))), (1, .int (nI (cW F_1 G a (i + 1)).2.2)), (2, .int (nI i))] := by rw [hcw]; exact hl
          have hF3 := hF2
          rw [← hcw] at hF3
          have hG3 := hG2
          rw [← hcw] at hG3
          refine lv_iinc (v := nI (i + 1)) (lv' := [(2, .int (nI (i + 1))), (3, .int (-1)), (0, .ref (B (100))), (1, .int (nI (cW F_1 G a (i + 1)).2.2))]) hx hb dX12_cut_85 hl (k := 3) rfl (nI_1 _) (by decide) rfl (fun ls hl => ?_)
          refine lv_goto (tgt := 8) hx hb dX12_cut_88 (by decide) ?_
          exact ih_a (i + 1) F2 G2 _ _ _ (by omega) (by omega) hF3 hG3 hw (lv_sub hl [2, 3, 0] rfl)
  exact lo_a _ 0 F_1 G _ _ _ (Nat.lt_succ_self _) (Nat.zero_le _) rfl rfl hw (lv_sub hl [2, 1, 0] rfl)
