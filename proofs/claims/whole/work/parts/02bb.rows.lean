/-! rows by natural indices; switches; comparing longs -/
theorem lnM_lt (i : Nat) : lnM.getD i 0 < 1000 := by
  by_cases h : i < 49
  · exact (by decide +kernel : ∀ j : Fin 49, lnM.getD j.val 0 < 1000) ⟨i, h⟩
  · have h1 : lnM[i]? = none := List.getElem?_eq_none (by show 49 ≤ i; omega)
    simp [List.getD, h1]
theorem ln_lt (k : Nat) : ln k < 1000 := by
  have := lnM_lt (k - 101)
  unfold ln
  repeat' split
  all_goals omega
section NROWS
variable {p : Program} {l : Launch} {e : Env} {R : Room} {s : State} {m : MethodId} {args : Array Value} {below : List Frame} {meth : Method} {c : Code} {H : Heap} {locs : List Loc} {cells slots : Nat} {Q : State → Prop}
variable {cc : ByteArray} {pc : Nat} {ls : Array Slot} {rest : List Value} {E : cE} {tt : Nat × Nat × Nat} {A : Nat → Prop} {own : String} {nL : Nat} {X : List Nat} {B : Nat → Nat} {F : tF} {G : tG} {P : tP} {k index ci : Nat}
theorem n_cl {n k : Nat} (h : n < ln k) : (nI n).toNatClampNeg = n := nI_clamp (by have := ln_lt k; omega)
theorem n_in {n k : Nat} (h : n < ln k) : vp_in (nI n) (ln k) := vp_in_nI h (by have := ln_lt k; omega)
theorem n_i (n : Nat) {i : Int32} (C : Cx p s m args c cc nL own) (hw : Wd E tt A s (wl E X B F G P) H locs) (hk : k ∈ X) (hK : kd k = 13) (hi : i = nI n) (hn : n < ln k) (hdg : decode cc pc = .ok (.iaload, 1))
    (kk : W p l e R s m args below meth c H locs cells slots Q (F0 m (pc + 1) ls (.int (F k n) :: rest))) : W p l e R s m args below meth c H locs cells slots Q (F0 m pc ls (.int i :: .ref (B k) :: rest)) := by
  subst hi
  exact a_i C hw hk hK (n_in hn) hdg (by rw [n_cl hn]; exact kk)
theorem n_z (n : Nat) {i : Int32} (C : Cx p s m args c cc nL own) (hw : Wd E tt A s (wl E X B F G P) H locs) (hk : k ∈ X) (hK : kd k = 15) (hi : i = nI n) (hn : n < ln k) (hdg : decode cc pc = .ok (.baload, 1))
    (kk : W p l e R s m args below meth c H locs cells slots Q (F0 m (pc + 1) ls (.int (F k n) :: rest))) : W p l e R s m args below meth c H locs cells slots Q (F0 m pc ls (.int i :: .ref (B k) :: rest)) := by
  subst hi
  exact a_z C hw hk hK (n_in hn) hdg (by rw [n_cl hn]; exact kk)
theorem n_l (n : Nat) {i : Int32} (C : Cx p s m args c cc nL own) (hw : Wd E tt A s (wl E X B F G P) H locs) (hk : k ∈ X) (hK : kd k = 14) (hi : i = nI n) (hn : n < ln k) (hdg : decode cc pc = .ok (.laload, 1))
    (kk : W p l e R s m args below meth c H locs cells slots Q (F0 m (pc + 1) ls (.long (G k n) :: rest))) : W p l e R s m args below meth c H locs cells slots Q (F0 m pc ls (.int i :: .ref (B k) :: rest)) := by
  subst hi
  exact a_l C hw hk hK (n_in hn) hdg (by rw [n_cl hn]; exact kk)
theorem n_q (n : Nat) {i : Int32} {r : Nat} {cn : String} (C : Cx p s m args c cc nL own) (hw : Wd E tt A s (wl E X B F G P) H locs) (hk : k ∈ X) (hK : kd k = r) (hr : 16 ≤ r) (hcn : (tyl E)[r - 13]? = some (E.2.2 (r - 13), .object cn)) (hi : i = nI n) (hn : n < ln k) (hdg : decode cc pc = .ok (.aaload, 1))
    (kk : W p l e R s m args below meth c H locs cells slots Q (F0 m (pc + 1) ls (va_rf ((P k n).map B) :: rest))) : W p l e R s m args below meth c H locs cells slots Q (F0 m pc ls (.int i :: .ref (B k) :: rest)) := by
  subst hi
  exact a_q C hw hk hK hr hcn (n_in hn) hdg (by rw [n_cl hn]; exact kk)
theorem n_r (n : Nat) {i : Int32} {r k2 : Nat} {cn : String} (C : Cx p s m args c cc nL own) (hw : Wd E tt A s (wl E X B F G P) H locs) (hk : k ∈ X) (hK : kd k = r) (hr : 16 ≤ r) (hcn : (tyl E)[r - 13]? = some (E.2.2 (r - 13), .object cn)) (hi : i = nI n) (hn : n < ln k) (hp : P k n = some k2) (hdg : decode cc pc = .ok (.aaload, 1))
    (kk : W p l e R s m args below meth c H locs cells slots Q (F0 m (pc + 1) ls (.ref (B k2) :: rest))) : W p l e R s m args below meth c H locs cells slots Q (F0 m pc ls (.int i :: .ref (B k) :: rest)) := by
  refine n_q n C hw hk hK hr hcn hi hn hdg ?_
  rw [hp]
  exact kk
theorem t_i (n : Nat) {i x : Int32} (C : Cx p s m args c cc nL own) (hw : Wd E tt A s (wl E X B F G P) H locs) (hk : k ∈ X) (hK : kd k = 13) (hi : i = nI n) (hn : n < ln k) (hdg : decode cc pc = .ok (.iastore, 1))
    (kk : ∀ (H1 : Heap) (locs1 : List Loc), Wd E tt A s (wl E X B (uF F k n x) G P) H1 locs1 → W p l e R s m args below meth c H1 locs1 cells slots Q (F0 m (pc + 1) ls rest)) : W p l e R s m args below meth c H locs cells slots Q (F0 m pc ls (.int x :: .int i :: .ref (B k) :: rest)) := by
  subst hi
  exact s_i C hw hk hK (n_in hn) hdg (by rw [n_cl hn]; exact kk)
theorem t_z (n : Nat) {i x : Int32} (C : Cx p s m args c cc nL own) (hw : Wd E tt A s (wl E X B F G P) H locs) (hk : k ∈ X) (hK : kd k = 15) (hi : i = nI n) (hn : n < ln k) (hx : vp_nar .boolean x = x) (hdg : decode cc pc = .ok (.bastore, 1))
    (kk : ∀ (H1 : Heap) (locs1 : List Loc), Wd E tt A s (wl E X B (uF F k n x) G P) H1 locs1 → W p l e R s m args below meth c H1 locs1 cells slots Q (F0 m (pc + 1) ls rest)) : W p l e R s m args below meth c H locs cells slots Q (F0 m pc ls (.int x :: .int i :: .ref (B k) :: rest)) := by
  subst hi
  exact s_z C hw hk hK (n_in hn) hx hdg (by rw [n_cl hn]; exact kk)
theorem t_l (n : Nat) {i : Int32} {x : Int64} (C : Cx p s m args c cc nL own) (hw : Wd E tt A s (wl E X B F G P) H locs) (hk : k ∈ X) (hK : kd k = 14) (hi : i = nI n) (hn : n < ln k) (hdg : decode cc pc = .ok (.lastore, 1))
    (kk : ∀ (H1 : Heap) (locs1 : List Loc), Wd E tt A s (wl E X B F (uG G k n x) P) H1 locs1 → W p l e R s m args below meth c H1 locs1 cells slots Q (F0 m (pc + 1) ls rest)) : W p l e R s m args below meth c H locs cells slots Q (F0 m pc ls (.long x :: .int i :: .ref (B k) :: rest)) := by
  subst hi
  exact s_l C hw hk hK (n_in hn) hdg (by rw [n_cl hn]; exact kk)
theorem t_q (n : Nat) {i : Int32} {r k2 ci2 : Nat} {q2 : vw_C} (C : Cx p s m args c cc nL own) (hw : Wd E tt A s (wl E X B F G P) H locs) (hk : k ∈ X) (hK : kd k = r) (hr : 16 ≤ r) (hk2 : k2 ∈ X) (hK2 : kd k2 = ci2) (hc2 : ci2 < 13) (hq2 : vwCl[ci2]? = some q2) (hcn : (tyl E)[r - 13]? = some (E.2.2 (r - 13), .object q2.1)) (hi : i = nI n) (hn : n < ln k) (hdg : decode cc pc = .ok (.aastore, 1))
    (kk : ∀ (H1 : Heap) (locs1 : List Loc), Wd E tt A s (wl E X B F G (uP P k n (some k2))) H1 locs1 → W p l e R s m args below meth c H1 locs1 cells slots Q (F0 m (pc + 1) ls rest)) : W p l e R s m args below meth c H locs cells slots Q (F0 m pc ls (.ref (B k2) :: .int i :: .ref (B k) :: rest)) := by
  subst hi
  exact s_q C hw hk hK hr hk2 hK2 hc2 hq2 hcn (n_in hn) hdg (by rw [n_cl hn]; exact kk)
theorem tp_i {x y : Int32} (h : x = y) (kk : W p l e R s m args below meth c H locs cells slots Q (F0 m pc ls (.int y :: rest))) : W p l e R s m args below meth c H locs cells slots Q (F0 m pc ls (.int x :: rest)) := by
  rw [h]
  exact kk
theorem tp_l {x y : Int64} (h : x = y) (kk : W p l e R s m args below meth c H locs cells slots Q (F0 m pc ls (.long y :: rest))) : W p l e R s m args below meth c H locs cells slots Q (F0 m pc ls (.long x :: rest)) := by
  rw [h]
  exact kk
end NROWS
theorem i_eq {x y : Int32} (h : x.toInt = y.toInt) : x = y := Int32.toInt_inj.mp h
theorem sw_3 (x : Int32) : x = 0 ∨ x = 1 ∨ x = 2 ∨ (x.toInt < 0 ∨ 2 < x.toInt) := by
  rcases (show x.toInt = 0 ∨ x.toInt = 1 ∨ x.toInt = 2 ∨ (x.toInt < 0 ∨ 2 < x.toInt) by omega) with h | h | h | h
  · exact Or.inl (i_eq h)
  · exact Or.inr (Or.inl (i_eq h))
  · exact Or.inr (Or.inr (Or.inl (i_eq h)))
  · exact Or.inr (Or.inr (Or.inr h))
theorem sw_5 (x : Int32) : x = 0 ∨ x = 1 ∨ x = 2 ∨ x = 3 ∨ x = 4 ∨ (x.toInt < 0 ∨ 4 < x.toInt) := by
  rcases (show x.toInt = 0 ∨ x.toInt = 1 ∨ x.toInt = 2 ∨ x.toInt = 3 ∨ x.toInt = 4 ∨ (x.toInt < 0 ∨ 4 < x.toInt) by omega) with h | h | h | h | h | h
  · exact Or.inl (i_eq h)
  · exact Or.inr (Or.inl (i_eq h))
  · exact Or.inr (Or.inr (Or.inl (i_eq h)))
  · exact Or.inr (Or.inr (Or.inr (Or.inl (i_eq h))))
  · exact Or.inr (Or.inr (Or.inr (Or.inr (Or.inl (i_eq h)))))
  · exact Or.inr (Or.inr (Or.inr (Or.inr (Or.inr h))))
theorem sw_7 (x : Int32) : x = 0 ∨ x = 1 ∨ x = 2 ∨ x = 3 ∨ x = 4 ∨ x = 5 ∨ x = 6 ∨ (x.toInt < 0 ∨ 6 < x.toInt) := by
  rcases (show x.toInt = 0 ∨ x.toInt = 1 ∨ x.toInt = 2 ∨ x.toInt = 3 ∨ x.toInt = 4 ∨ x.toInt = 5 ∨ x.toInt = 6 ∨ (x.toInt < 0 ∨ 6 < x.toInt) by omega) with h | h | h | h | h | h | h | h
  · exact Or.inl (i_eq h)
  · exact Or.inr (Or.inl (i_eq h))
  · exact Or.inr (Or.inr (Or.inl (i_eq h)))
  · exact Or.inr (Or.inr (Or.inr (Or.inl (i_eq h))))
  · exact Or.inr (Or.inr (Or.inr (Or.inr (Or.inl (i_eq h)))))
  · exact Or.inr (Or.inr (Or.inr (Or.inr (Or.inr (Or.inl (i_eq h))))))
  · exact Or.inr (Or.inr (Or.inr (Or.inr (Or.inr (Or.inr (Or.inl (i_eq h)))))))
  · exact Or.inr (Or.inr (Or.inr (Or.inr (Or.inr (Or.inr (Or.inr h))))))
theorem kd_metal {i : Nat} (h : i < 4) : kd (3 + i) = 4 := by
  rcases (show i = 0 ∨ i = 1 ∨ i = 2 ∨ i = 3 by omega) with h | h | h | h <;> subst h <;> rfl
theorem kd_puller {i : Nat} (h : i < 3) : kd (8 + i) = 8 := by
  rcases (show i = 0 ∨ i = 1 ∨ i = 2 by omega) with h | h | h <;> subst h <;> rfl
theorem kd_plate {i : Nat} (h : i < 4) : kd (12 + i) = 7 := by
  rcases (show i = 0 ∨ i = 1 ∨ i = 2 ∨ i = 3 by omega) with h | h | h | h <;> subst h <;> rfl
theorem kd_harr {i : Nat} (h : i < 4) : kd (16 + i) = 17 := by
  rcases (show i = 0 ∨ i = 1 ∨ i = 2 ∨ i = 3 by omega) with h | h | h | h <;> subst h <;> rfl
theorem ln_harr {i : Nat} (h : i < 4) : ln (16 + i) = 8 := by
  rcases (show i = 0 ∨ i = 1 ∨ i = 2 ∨ i = 3 by omega) with h | h | h | h <;> subst h <;> rfl
theorem kd_hole {i : Nat} (h : i < 32) : kd (20 + i) = 3 := (by decide +kernel : ∀ j : Fin 32, kd (20 + j.val) = 3) ⟨i, h⟩
theorem kd_coil {i : Nat} (h : i < 16) : kd (53 + i) = 0 := (by decide +kernel : ∀ j : Fin 16, kd (53 + j.val) = 0) ⟨i, h⟩
theorem kd_order {i : Nat} (h : i < 6) : kd (70 + i) = 6 := (by decide +kernel : ∀ j : Fin 6, kd (70 + j.val) = 6) ⟨i, h⟩
/-- an int between bounds is a small natural number -/
theorem n_of {x : Int32} {n : Nat} (h0 : 0 ≤ x) (h1 : x ≤ nI n) (hn : n < 2 ^ 31) : ∃ j : Nat, j ≤ n ∧ x = nI j := nI_of2 (M := nI n) (nI_toInt hn) (by rw [Int32.not_lt]; exact h0) h1
/-- what the reference's object holds: its arrays are there -/
def inM (k : Nat) : Bool := decide (k = 100) || (decide (101 ≤ k) && decide (k < 150) && decide ((ftc 12).getD (k - 101) 0 = 2))
def RM (X : List Nat) (P : tP) : Prop := (∀ k, inM k = true → k ∈ X) ∧ ∀ j, inM (101 + j) = true → P 100 j = some (101 + j)
theorem RM.m {X : List Nat} {P : tP} (h : RM X P) {k : Nat} (hk : inM k = true) : k ∈ X := h.1 k hk
theorem RM.p {X : List Nat} {P : tP} (h : RM X P) (j : Nat) (hk : inM (101 + j) = true) : P 100 j = some (101 + j) := h.2 j hk
