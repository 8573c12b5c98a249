/-! THE START: from the law's entry to its loop -/
theorem df_11 : ∀ j, j < 19 → defaultValue (tyX11 j) = vp_V ((ftc 11).map dv) j := by
  intro j hj
  match j, hj with
  | 0, _ => rfl
  | 1, _ => rfl
  | 2, _ => rfl
  | 3, _ => rfl
  | 4, _ => rfl
  | 5, _ => rfl
  | 6, _ => rfl
  | 7, _ => rfl
  | 8, _ => rfl
  | 9, _ => rfl
  | 10, _ => rfl
  | 11, _ => rfl
  | 12, _ => rfl
  | 13, _ => rfl
  | 14, _ => rfl
  | 15, _ => rfl
  | 16, _ => rfl
  | 17, _ => rfl
  | 18, _ => rfl
  | j + 19, hj => exact absurd hj (by omega)
theorem df_12 : ∀ j, j < 49 → defaultValue (tyX12 j) = vp_V ((ftc 12).map dv) j := by
  intro j hj
  match j, hj with
  | 0, _ => rfl
  | 1, _ => rfl
  | 2, _ => rfl
  | 3, _ => rfl
  | 4, _ => rfl
  | 5, _ => rfl
  | 6, _ => rfl
  | 7, _ => rfl
  | 8, _ => rfl
  | 9, _ => rfl
  | 10, _ => rfl
  | 11, _ => rfl
  | 12, _ => rfl
  | 13, _ => rfl
  | 14, _ => rfl
  | 15, _ => rfl
  | 16, _ => rfl
  | 17, _ => rfl
  | 18, _ => rfl
  | 19, _ => rfl
  | 20, _ => rfl
  | 21, _ => rfl
  | 22, _ => rfl
  | 23, _ => rfl
  | 24, _ => rfl
  | 25, _ => rfl
  | 26, _ => rfl
  | 27, _ => rfl
  | 28, _ => rfl
  | 29, _ => rfl
  | 30, _ => rfl
  | 31, _ => rfl
  | 32, _ => rfl
  | 33, _ => rfl
  | 34, _ => rfl
  | 35, _ => rfl
  | 36, _ => rfl
  | 37, _ => rfl
  | 38, _ => rfl
  | 39, _ => rfl
  | 40, _ => rfl
  | 41, _ => rfl
  | 42, _ => rfl
  | 43, _ => rfl
  | 44, _ => rfl
  | 45, _ => rfl
  | 46, _ => rfl
  | 47, _ => rfl
  | 48, _ => rfl
  | j + 49, hj => exact absurd hj (by omega)
theorem vl_1z : Vals (zP sP1 100) (sX1 ++ [100]) := (vl_1.w (fun y hy => mem_l hy)).z
theorem s1_no : ∀ k, k < 150 → (k < 88 ∨ ¬ k ∈ sX1) := by decide +kernel
theorem s2_no : ∀ k, k < 150 → (k < 101 ∨ ¬ k ∈ sX1 ++ [100]) := by decide +kernel
set_option maxHeartbeats 4000000 in
set_option maxRecDepth 100000 in
/-- THE LAW, from its entry -/
theorem whole_start {p : Program} {e : Env} {s : State} {m : MethodId} {below : List Frame} {meth : Method} {c : Code} (l : Launch) {b L : Nat} {xs : Nat → Int32} (hL : L ≤ 3584) (C0 : lw_At p s m meth c b L xs) : W p l e room_1 s m #[Value.ref b] below meth c s.heap [] 0 0 (lw_Z below #[Value.ref b] s) (entryFrame m ([Value.ref b] : List Value).toArray 4) := by
  obtain ⟨hx, hb, hr, hml, hown, hts, hX, hbl, hlocks, hgv⟩ := id C0
  have C := LAc C0
  have hts2 : ∀ w ∈ TT, w.before #[Value.ref b] s = true := fun w hw => hts w (TT_sub hw)
  have hN := st_NW hts
  obtain ⟨dC, dI, hcl⟩ := st_cl hts2
  obtain ⟨cA, hty⟩ := st_ty hts2 hN
  obtain ⟨t1, z1, y1⟩ := st_LEAST hts (hts2 _ in_X10) hgv
  obtain ⟨t2, z2, y2⟩ := st_MOST hts (hts2 _ in_X10) hgv
  obtain ⟨t3, z3, y3⟩ := st_DIGITS hts (hts2 _ in_X1) hgv
  have hw : Wd (dC, dI, cA) (t1, t2, t3) (lA s) s (wl (dC, dI, cA) [] (fun _ => 0) fF0 fG0_ fP0) s.heap [] := ⟨⟨hcl, hty dC dI⟩, fun k q h => by simp [wl] at h, ⟨fun i j p q h => by simp [wl] at h, fun k q h => by simp [wl] at h⟩, va_S.rf, fun _ h => h, ⟨z1, z2, z3, y1, y2, y3⟩, hN⟩
  have hl := lv_entry ([.ref b]) (n := 4) (Nat.le_of_ble_eq_true rfl)
  rw [lg_entry_eq]
  generalize (lg_sl ([.ref b]) ++ List.replicate (4 - (lg_sl ([.ref b])).length) Slot.unset).toArray = ls at hl ⊢
  have hl : lv_has ls 4 [(0, .ref b)] := hl
  refine al_o 0 (ci := 11) (C0 := RX11) (T0 := TX11) (N0 := 19) (ty0 := tyX11) C hw List.not_mem_nil (fun z hz => absurd hz List.not_mem_nil) rfl (by decide) rfl tyX11_ok ux_11 df_11 cl_L_7 it_X11 in_X11 (Nat.le_of_ble_eq_true rfl) (Nat.le_of_ble_eq_true rfl) dL_law_0 (fun B1 H hB1 hw => ?_)
  refine lv_dup hx hb dL_law_3 rfl ?_
  refine kI C hw (c_X11_init (dC, dI, cA) (t1, t2, t3) B1 (zF fF0 0) (zG fG0_ 0) (zP fP0 0) (vl_0 _).z.c mem_k (fun k hk hm => by rcases List.mem_append.mp hm with h | h; exact absurd h List.not_mem_nil; exact absurd (List.mem_singleton.mp h) (by omega))) vy_X11_init ml_L_9 rfl hl.1 (rest := [.ref (B1 0)]) rfl dL_law_4 (Nat.le_of_ble_eq_true rfl) ⟨by decide, by decide⟩ ⟨Nat.le_of_ble_eq_true rfl, Nat.le_of_ble_eq_true rfl⟩ (fun v0 ws0 H locs hp0 hq0 => ?_)
  obtain ⟨rfl, B2, hB2, rfl⟩ := hp0
  clear hw
  have hw : Wd (dC, dI, cA) (t1, t2, t3) (lA s) s (wl (dC, dI, cA) sX1 B2 (iF (zF fF0 0)) (iG (zG fG0_ 0)) sP1) H locs := hq0
  rw [← hB2]
  refine W.eq (g2 := F0 m 7 ls [.ref (B2 0)]) rfl ?_
  refine lv_astore_n (lv' := [(1, .ref (B2 0)), (0, .ref b)]) hx hb dL_law_7 rfl hl (by decide) rfl (fun ls hl => ?_)
  refine al_o 100 (ci := 12) (C0 := RX12) (T0 := TX12) (N0 := 49) (ty0 := tyX12) C hw ((s1_no 100 (by decide)).resolve_left (by decide)) (vl_1.n ((s1_no 100 (by decide)).resolve_left (by decide))) rfl (by decide) rfl tyX12_ok ux_12 df_12 cl_L_10 it_X12 in_X12 (Nat.le_of_ble_eq_true rfl) (Nat.le_of_ble_eq_true rfl) dL_law_8 (fun B3 H hB3 hw => ?_)
  refine lv_dup hx hb dL_law_11 rfl ?_
  refine kI C hw (c_X12_init (dC, dI, cA) (t1, t2, t3) B3 (zF (iF (zF fF0 0)) 100) (zG (iG (zG fG0_ 0)) 100) (zP sP1 100) mem_k (fun k h1 h2 => (s2_no k h2).resolve_left (by omega)) vl_1z.c) vy_X12_init ml_L_12 rfl hl.1 (rest := [.ref (B3 100)]) rfl dL_law_12 (Nat.le_of_ble_eq_true rfl) ⟨by decide, by decide⟩ ⟨Nat.le_of_ble_eq_true rfl, Nat.le_of_ble_eq_true rfl⟩ (fun v1 ws1 H locs hp1 hq1 => ?_)
  obtain ⟨rfl, B4, hB4, rfl⟩ := hp1
  clear hw
  have hw : Wd (dC, dI, cA) (t1, t2, t3) (lA s) s (wl (dC, dI, cA) sX B4 sF sG sP) H locs := hq1
  have e0 : B2 0 = B4 0 := by rw [hB4 0 (by omega), hB3 0 (by omega)]
  rw [← hB4 100 (by omega)]
  rw [e0] at hl
  refine W.eq (g2 := F0 m 15 ls [.ref (B4 100)]) rfl ?_
  refine lv_astore_n (lv' := [(2, .ref (B4 100)), (1, .ref (B4 0)), (0, .ref b)]) hx hb dL_law_15 rfl hl (by decide) rfl (fun ls hl => ?_)
  refine lv_iconst (v := nI 0) hx hb dL_law_16 (by decide) ?_
  refine lv_istore_n (lv' := [(3, .int (nI 0)), (2, .ref (B4 100)), (1, .ref (B4 0)), (0, .ref b)]) hx hb dL_law_17 rfl hl (by decide) rfl (fun ls hl => ?_)
  refine W.widen (k := 200 + 0) (n := 6000 + 7 * 0) (by omega) (by omega) ?_
  exact law_loop C0 hL (L + 1) 0 (Nat.zero_le L) (by omega) sX B4 sF sG sP _ _ _ _ _ _ H locs ls s_LI hw (lv_sub hl [3, 2, 1, 0] rfl)
