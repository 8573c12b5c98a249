/-! THE TYPED WORLD -/
/-- the kind of what stands at a place: 0 .. 12 an object of that class (vwCl), 13 int[], 14 long[], 15 boolean[], 16 .. 21 arrays of references -/
def kd (k : Nat) : Nat :=
  if k < 1 then 11 else if k < 2 then 10 else if k < 3 then 18 else if k < 7 then 4 else if k < 8 then 21 else if k < 11 then 8 else if k < 12 then 20 else if k < 16 then 7 else if k < 20 then 17 else if k < 52 then 3 else if k < 53 then 16 else if k < 69 then 0 else if k < 70 then 19 else if k < 76 then 6 else if k < 77 then 5 else if k < 79 then 13 else if k < 80 then 2 else if k < 81 then 9 else if k < 83 then 13 else if k < 84 then 1 else if k < 88 then 13
  else if k = 100 then 12 else if k = 118 then 14 else if k = 149 then 14 else if k = 121 then 15 else if k = 127 then 15 else if k = 130 then 15 else if k = 140 then 15 else 13
/-- lengths of arrays -/
def lnM : List Nat := [4, 4, 4, 4, 4, 6, 3, 3, 4, 4, 32, 32, 32, 0, 16, 16, 16, 16, 16, 16, 16, 0, 6, 6, 6, 6, 6, 0, 60, 60, 0, 0, 0, 0, 0, 0, 909, 909, 9, 9, 0, 400, 7, 6, 16, 17, 0, 0, 61]
def ln (k : Nat) : Nat :=
  if k < 3 then 4 else if k < 8 then 3 else if k < 12 then 4 else if k < 20 then 8 else if k < 53 then 16 else if k < 70 then 6 else if k < 79 then 8 else if k < 82 then 909 else if k < 83 then 17 else if k < 88 then 64 else lnM.getD (k - 101) 0
/-- the fields of a class by their types: 0 int or boolean, 1 long, 2 a reference -/
def ftc (c : Nat) : List Nat := match c with
  | 0 => [2, 0, 0, 1, 0, 0, 0]
  | 1 => [2, 2, 2, 2, 0, 0]
  | 2 => [2, 0, 0, 0, 0]
  | 3 => [0, 0, 0]
  | 4 => [0, 0, 0, 0, 0, 0]
  | 5 => [2, 2, 0]
  | 6 => [2, 0, 0, 0, 0]
  | 7 => [2, 0]
  | 8 => [0, 0, 0, 0]
  | 9 => [2, 2, 2, 0, 2, 2, 0, 0, 0]
  | 10 => [0, 0, 0, 0, 0, 0]
  | 11 => [2, 2, 2, 2, 2, 2, 2, 2, 2, 2, 0, 0, 0, 1, 1, 1, 1, 0, 0]
  | 12 => [2, 2, 2, 2, 2, 2, 2, 2, 2, 2, 2, 2, 2, 0, 2, 2, 2, 2, 2, 2, 2, 0, 2, 2, 2, 2, 2, 0, 2, 2, 1, 1, 1, 1, 0, 0, 2, 2, 2, 2, 0, 2, 2, 2, 2, 2, 0, 0, 2]
  | _ => []
abbrev tF : Type := Nat → Nat → Int32
abbrev tG : Type := Nat → Nat → Int64
abbrev tP : Type := Nat → Nat → Option Nat
def uF (F : tF) (k j : Nat) (v : Int32) : tF := fun k' => if k' = k then upd (F k) j v else F k'
def uG (G : tG) (k j : Nat) (v : Int64) : tG := fun k' => if k' = k then vp_updL (G k) j v else G k'
def uP (P : tP) (k j : Nat) (v : Option Nat) : tP := fun k' => if k' = k then va_up (P k) j v else P k'
theorem uF_s (F : tF) (k j : Nat) (v : Int32) : uF F k j v k j = v := by simp [uF, upd]
theorem uF_n (F : tF) {k j k' j' : Nat} (v : Int32) (h : k' ≠ k ∨ j' ≠ j) : uF F k j v k' j' = F k' j' := by
  unfold uF upd
  by_cases h1 : k' = k
  · subst h1
    rcases h with h | h
    · exact absurd rfl h
    · simp [h]
  · simp [h1]
theorem uG_s (F : tG) (k j : Nat) (v : Int64) : uG F k j v k j = v := by simp [uG, vp_updL]
theorem uG_n (F : tG) {k j k' j' : Nat} (v : Int64) (h : k' ≠ k ∨ j' ≠ j) : uG F k j v k' j' = F k' j' := by
  unfold uG vp_updL
  by_cases h1 : k' = k
  · subst h1
    rcases h with h | h
    · exact absurd rfl h
    · simp [h]
  · simp [h1]
theorem uP_s (F : tP) (k j : Nat) (v : Option Nat) : uP F k j v k j = v := by simp [uP, va_up]
theorem uP_n (F : tP) {k j k' j' : Nat} (v : Option Nat) (h : k' ≠ k ∨ j' ≠ j) : uP F k j v k' j' = F k' j' := by
  unfold uP va_up
  by_cases h1 : k' = k
  · subst h1
    rcases h with h | h
    · exact absurd rfl h
    · simp [h]
  · simp [h1]
/-- an object's fields -/
def fv (B : Nat → Nat) (F : tF) (G : tG) (P : tP) (k : Nat) (t j : Nat) : Value := if t = 0 then .int (F k j) else if t = 1 then .long (G k j) else va_rf ((P k j).map B)
def fvl (B : Nat → Nat) (F : tF) (G : tG) (P : tP) (k : Nat) : List Nat → Nat → List Value
  | [], _ => []
  | t :: ts, j => fv B F G P k t j :: fvl B F G P k ts (j + 1)
theorem fvl_get (B : Nat → Nat) (F : tF) (G : tG) (P : tP) (k : Nat) (ts : List Nat) : ∀ (j0 j t : Nat), ts[j]? = some t → (fvl B F G P k ts j0)[j]? = some (fv B F G P k t (j0 + j)) := by
  induction ts with
  | nil => intro j0 j t h; simp at h
  | cons a ts ih =>
    intro j0 j t h
    cases j with
    | zero => simp at h; subst h; rfl
    | succ j =>
      have := ih (j0 + 1) j t (by simpa using h)
      simp only [fvl, List.getElem?_cons_succ]
      rw [this]
      congr 2
      omega
theorem fvl_len (B : Nat → Nat) (F : tF) (G : tG) (P : tP) (k : Nat) (ts : List Nat) : ∀ j0, (fvl B F G P k ts j0).length = ts.length := by
  induction ts with
  | nil => intro j0; rfl
  | cons a ts ih => intro j0; simp [fvl, ih]
theorem fvl_congr {B : Nat → Nat} {F F' : tF} {G G' : tG} {P P' : tP} {k : Nat} (ts : List Nat) : ∀ j0, (∀ i t, ts[i]? = some t → fv B F G P k t (j0 + i) = fv B F' G' P' k t (j0 + i)) → fvl B F G P k ts j0 = fvl B F' G' P' k ts j0 := by
  induction ts with
  | nil => intro j0 _; rfl
  | cons a ts ih =>
    intro j0 h
    simp only [fvl]
    rw [ih (j0 + 1) (fun i t hi => by have := h (i + 1) t (by simpa using hi); rw [show j0 + 1 + i = j0 + (i + 1) by omega]; exact this)]
    congr 1
    exact h 0 a (by simp)
theorem fvl_set {B : Nat → Nat} {F F' : tF} {G G' : tG} {P P' : tP} {k : Nat} {v : Value} (ts : List Nat) : ∀ (j0 j t : Nat), ts[j]? = some t → fv B F' G' P' k t (j0 + j) = v → (∀ i u, i ≠ j → ts[i]? = some u → fv B F G P k u (j0 + i) = fv B F' G' P' k u (j0 + i)) → (fvl B F G P k ts j0).set j v = fvl B F' G' P' k ts j0 := by
  induction ts with
  | nil => intro j0 j t h; simp at h
  | cons a ts ih =>
    intro j0 j t h hv ho
    cases j with
    | zero =>
      simp at h
      subst h
      simp only [fvl, List.set_cons_zero]
      rw [fvl_congr (F' := F') (G' := G') (P' := P') ts (j0 + 1) (fun i u hi => by have := ho (i + 1) u (by omega) (by simpa using hi); rw [show j0 + 1 + i = j0 + (i + 1) by omega]; exact this)]
      congr 1
      exact hv.symm
    | succ j =>
      simp only [fvl, List.set_cons_succ]
      rw [ih (j0 + 1) j t (by simpa using h) (by rw [show j0 + 1 + j = j0 + (j + 1) by omega]; exact hv) (fun i u hij hi => by have := ho (i + 1) u (by omega) (by simpa using hi); rw [show j0 + 1 + i = j0 + (i + 1) by omega]; exact this)]
      congr 1
      exact ho 0 a (by omega) (by simp)
/-- what stands at a place -/
def cel (E : cE) (B : Nat → Nat) (F : tF) (G : tG) (P : tP) (k : Nat) : va_E :=
  if kd k < 13 then .inr (kd k, fvl B F G P k (ftc (kd k)) 0) else if kd k = 14 then .inl (E.2.2 1, ln k, .inr (.inl (G k))) else if kd k < 16 then .inl (E.2.2 (kd k - 13), ln k, .inl (F k)) else .inl (E.2.2 (kd k - 13), ln k, .inr (.inr (.inr (.inr (fun i => (P k i).map B)))))
/-- the world's list -/
def wl (E : cE) (X : List Nat) (B : Nat → Nat) (F : tF) (G : tG) (P : tP) : va_W := X.map (fun k => (B k, cel E B F G P k))
section TY
variable {E : cE} {X : List Nat} {B : Nat → Nat} {F F' : tF} {G G' : tG} {P P' : tP} {k : Nat}
theorem wl_at (hk : k ∈ X) : ∃ q : Nat, X[q]? = some k ∧ (wl E X B F G P)[q]? = some (B k, cel E B F G P k) := by
  obtain ⟨q, hq⟩ := List.getElem?_of_mem hk
  exact ⟨q, hq, by simp [wl, List.getElem?_map, hq]⟩
/-- a change at one place -/
theorem wl_set {A : Nat → Prop} {q : Nat} {e : va_E} (hD : va_D A (wl E X B F G P)) (hq : X[q]? = some k) (he : cel E B F' G' P' k = e) (ho : ∀ k', k' ∈ X → k' ≠ k → cel E B F G P k' = cel E B F' G' P' k') : (wl E X B F G P).set q (B k, e) = wl E X B F' G' P' := by
  apply List.ext_getElem?
  intro i
  have hl : q < (wl E X B F G P).length := by
    simp only [wl, List.length_map]
    exact (List.getElem?_eq_some_iff.mp hq).1
  by_cases hi : i = q
  · subst hi
    rw [List.getElem?_set_self hl]
    simp only [wl, List.getElem?_map, hq, Option.map_some]
    rw [he]
  · rw [List.getElem?_set_ne (Ne.symm hi)]
    simp only [wl, List.getElem?_map]
    cases hx : X[i]? with
    | none => rfl
    | some k' =>
      have hne : k' ≠ k := by
        intro e2
        subst e2
        have h1 : (wl E X B F G P)[i]? = some (B k', cel E B F G P k') := by simp [wl, List.getElem?_map, hx]
        have h2 : (wl E X B F G P)[q]? = some (B k', cel E B F G P k') := by simp [wl, List.getElem?_map, hq]
        exact hi (hD.1 _ _ _ _ h1 h2 rfl)
      simp only [Option.map_some]
      rw [ho k' (List.mem_of_getElem? hx) hne]
theorem cel_o {ci : Nat} (hK : kd k = ci) (hc : ci < 13) : cel E B F G P k = .inr (ci, fvl B F G P k (ftc ci) 0) := by
  subst hK
  simp [cel, hc]
theorem cel_i (hK : kd k = 13) : cel E B F G P k = .inl (E.2.2 0, ln k, .inl (F k)) := by simp [cel, hK]
theorem cel_z (hK : kd k = 15) : cel E B F G P k = .inl (E.2.2 2, ln k, .inl (F k)) := by simp [cel, hK]
theorem cel_l (hK : kd k = 14) : cel E B F G P k = .inl (E.2.2 1, ln k, .inr (.inl (G k))) := by simp [cel, hK]
theorem cel_q {r : Nat} (hK : kd k = r) (hr : 16 ≤ r) : cel E B F G P k = .inl (E.2.2 (r - 13), ln k, .inr (.inr (.inr (.inr (fun i => (P k i).map B))))) := by
  subst hK
  simp [cel, show ¬ kd k < 13 by omega, show ¬ kd k = 14 by omega, show ¬ kd k < 16 by omega]
theorem cel_congr (hF : F' k = F k) (hG : G' k = G k) (hP : P' k = P k) : cel E B F G P k = cel E B F' G' P' k := by
  have h1 : fvl B F G P k (ftc (kd k)) 0 = fvl B F' G' P' k (ftc (kd k)) 0 := fvl_congr _ _ (fun i t _ => by unfold fv; rw [hF, hG, hP])
  unfold cel
  rw [h1, hF, hG, hP]
end TY
/-- a field of a class as a class of ours links it: class, field, the words that tell of it -/
def FL (own : String) (index ci j : Nat) : Prop := ci < 13 ∧ ∃ q : vw_C, vwCl[ci]? = some q ∧ j < q.2.2 ∧ (∀ w ∈ u_ws q.1 q.2.1 q.2.2, w ∈ TT) ∧ Cond.fieldLink own index (q.2.1 j).1 (q.2.1 j).2.1 (q.2.1 j).2.2.1 ∈ TT
/-- a class that we may write into: its fields' names are apart, its fields' types -/
def FC (ci : Nat) (ty0 : Nat → FieldType) : Prop := ∃ q : vw_C, vwCl[ci]? = some q ∧ (∀ a, a < q.2.2 → ∀ b, b < q.2.2 → a ≠ b → (q.2.1 a).2.1 ≠ (q.2.1 b).2.1) ∧ (∀ k, k < q.2.2 → parseFieldDescriptor (q.2.1 k).2.2.1 = some (ty0 k)) ∧ (ftc ci).length = q.2.2
def FN (ci j : Nat) (fin : Bool) : Prop := ∃ q : vw_C, vwCl[ci]? = some q ∧ (q.2.1 j).2.2.2 = fin
section ROWS
variable {p : Program} {l : Launch} {e : Env} {R : Room} {s : State} {m : MethodId} {args : Array Value} {below : List Frame} {meth : Method} {c : Code} {H : Heap} {locs : List Loc} {cells slots : Nat} {Q : State → Prop}
variable {cc : ByteArray} {pc : Nat} {ls : Array Slot} {rest : List Value} {E : cE} {tt : Nat × Nat × Nat} {A : Nat → Prop} {own : String} {nL : Nat} {X : List Nat} {B : Nat → Nat} {F : tF} {G : tG} {P : tP} {k index ci : Nat}
theorem g_any (j t : Nat) (C : Cx p s m args c cc nL own) (hw : Wd E tt A s (wl E X B F G P) H locs) (hk : k ∈ X) (hK : kd k = ci) (hf : FL own index ci j) (ht : (ftc ci)[j]? = some t) (hdg : decode cc pc = .ok (.getfield index, 3))
    (kk : W p l e R s m args below meth c H locs cells slots Q (F0 m (pc + 3) ls (fv B F G P k t j :: rest))) : W p l e R s m args below meth c H locs cells slots Q (F0 m pc ls (.ref (B k) :: rest)) := by
  obtain ⟨hx, hb, hml, hown, hts⟩ := C
  obtain ⟨hc, ⟨C0, T0, N0⟩, h1, h2, h3, h4⟩ := hf
  obtain ⟨q, -, hq⟩ := wl_at (E := E) (B := B) (F := F) (G := G) (P := P) hk
  rw [cel_o hK hc] at hq
  refine va_get (C := C0) (T := T0) (N := N0) hx hb hts h3 hown hw.1 hw.2.1 q hq h1 j h2 (hts _ h4) (fun _ h9 => h9) (by rw [fvl_get _ _ _ _ _ _ 0 j t ht, Nat.zero_add]) hdg kk
theorem g_i (j : Nat) (C : Cx p s m args c cc nL own) (hw : Wd E tt A s (wl E X B F G P) H locs) (hk : k ∈ X) (hK : kd k = ci) (hf : FL own index ci j) (ht : (ftc ci)[j]? = some 0) (hdg : decode cc pc = .ok (.getfield index, 3))
    (kk : W p l e R s m args below meth c H locs cells slots Q (F0 m (pc + 3) ls (.int (F k j) :: rest))) : W p l e R s m args below meth c H locs cells slots Q (F0 m pc ls (.ref (B k) :: rest)) := g_any j 0 C hw hk hK hf ht hdg kk
theorem g_l (j : Nat) (C : Cx p s m args c cc nL own) (hw : Wd E tt A s (wl E X B F G P) H locs) (hk : k ∈ X) (hK : kd k = ci) (hf : FL own index ci j) (ht : (ftc ci)[j]? = some 1) (hdg : decode cc pc = .ok (.getfield index, 3))
    (kk : W p l e R s m args below meth c H locs cells slots Q (F0 m (pc + 3) ls (.long (G k j) :: rest))) : W p l e R s m args below meth c H locs cells slots Q (F0 m pc ls (.ref (B k) :: rest)) := g_any j 1 C hw hk hK hf ht hdg kk
theorem g_q (j : Nat) (C : Cx p s m args c cc nL own) (hw : Wd E tt A s (wl E X B F G P) H locs) (hk : k ∈ X) (hK : kd k = ci) (hf : FL own index ci j) (ht : (ftc ci)[j]? = some 2) (hdg : decode cc pc = .ok (.getfield index, 3))
    (kk : W p l e R s m args below meth c H locs cells slots Q (F0 m (pc + 3) ls (va_rf ((P k j).map B) :: rest))) : W p l e R s m args below meth c H locs cells slots Q (F0 m pc ls (.ref (B k) :: rest)) := g_any j 2 C hw hk hK hf ht hdg kk
theorem g_r (j : Nat) {k2 : Nat} (C : Cx p s m args c cc nL own) (hw : Wd E tt A s (wl E X B F G P) H locs) (hk : k ∈ X) (hK : kd k = ci) (hf : FL own index ci j) (ht : (ftc ci)[j]? = some 2) (hp : P k j = some k2) (hdg : decode cc pc = .ok (.getfield index, 3))
    (kk : W p l e R s m args below meth c H locs cells slots Q (F0 m (pc + 3) ls (.ref (B k2) :: rest))) : W p l e R s m args below meth c H locs cells slots Q (F0 m pc ls (.ref (B k) :: rest)) := by
  refine g_any j 2 C hw hk hK hf ht hdg ?_
  have h1 : fv B F G P k 2 j = .ref (B k2) := by simp [fv, hp, va_rf]
  rw [h1]
  exact kk
theorem Wd.set {F' : tF} {G' : tG} {P' : tP} {q : Nat} {e1 : va_E} {H1 : Heap} {locs1 : List Loc} (hw : Wd E tt A s (wl E X B F G P) H locs) (hq : X[q]? = some k) (he : cel E B F' G' P' k = e1) (ho : ∀ k', k' ≠ k → F' k' = F k' ∧ G' k' = G k' ∧ P' k' = P k')
    (h1 : va_P (tD E) vwCl ((wl E X B F G P).set q (B k, e1)) H1) (h2 : va_D A ((wl E X B F G P).set q (B k, e1))) (h3 : va_S A s.heap H1 locs1) : Wd E tt A s (wl E X B F' G' P') H1 locs1 := by
  have e3 := wl_set (F' := F') (G' := G') (P' := P') hw.2.2.1 hq he (fun k' _ hne => cel_congr (ho k' hne).1 (ho k' hne).2.1 (ho k' hne).2.2)
  rw [e3] at h1 h2
  exact ⟨hw.1, h1, h2, h3, hw.2.2.2.2⟩
/-- puts: any field, final ones in a constructor -/
theorem p_any (j t : Nat) {F' : tF} {G' : tG} {P' : tP} {v : Value} {ty0 : Nat → FieldType} {fin : Bool} (C : Cx p s m args c cc nL own) (hw : Wd E tt A s (wl E X B F G P) H locs) (hk : k ∈ X) (hK : kd k = ci) (hf : FL own index ci j) (hc : FC ci ty0) (hfn : FN ci j fin) (hfi : fin = true → meth.name = "<init>" ∧ ∃ q : vw_C, vwCl[ci]? = some q ∧ (q.2.1 j).1 = own) (ht : (ftc ci)[j]? = some t) (hn : narrow (ty0 j) v = v) (hfit : fits (ty0 j) v = true)
    (hv : fv B F' G' P' k t j = v) (ho : ∀ i u, i ≠ j → fv B F G P k u i = fv B F' G' P' k u i) (hoo : ∀ k', k' ≠ k → F' k' = F k' ∧ G' k' = G k' ∧ P' k' = P k') (hdg : decode cc pc = .ok (.putfield index, 3))
    (kk : ∀ (H1 : Heap) (locs1 : List Loc), Wd E tt A s (wl E X B F' G' P') H1 locs1 → W p l e R s m args below meth c H1 locs1 cells slots Q (F0 m (pc + 3) ls rest)) : W p l e R s m args below meth c H locs cells slots Q (F0 m pc ls (v :: .ref (B k) :: rest)) := by
  obtain ⟨hx, hb, hml, hown, hts⟩ := C
  obtain ⟨hc13, ⟨C0, T0, N0⟩, h1, h2, h3, h4⟩ := hf
  obtain ⟨q, hq1, hq⟩ := wl_at (E := E) (B := B) (F := F) (G := G) (P := P) hk
  rw [cel_o hK hc13] at hq
  obtain ⟨q2, e2, hnm, hty, hlen⟩ := hc
  cases h1.symm.trans e2
  obtain ⟨q3, e3, hfin⟩ := hfn
  cases h1.symm.trans e3
  have hset : (fvl B F G P k (ftc ci) 0).set j v = fvl B F' G' P' k (ftc ci) 0 := fvl_set _ 0 j t ht (by rw [Nat.zero_add]; exact hv) (fun i u hij _ => by rw [Nat.zero_add]; exact ho i u hij)
  have hl : j < (fvl B F G P k (ftc ci) 0).length := by rw [fvl_len]; exact (List.getElem?_eq_some_iff.mp ht).1
  have fin_ : ∀ (H1 : Heap) (locs1 : List Loc), va_P (tD E) vwCl ((wl E X B F G P).set q (B k, .inr (ci, (fvl B F G P k (ftc ci) 0).set j v))) H1 → va_D A ((wl E X B F G P).set q (B k, .inr (ci, (fvl B F G P k (ftc ci) 0).set j v))) → va_S A s.heap H1 locs1 → W p l e R s m args below meth c H1 locs1 cells slots Q (F0 m (pc + 3) ls rest) := by
    intro H1 locs1 a1 a2 a3
    rw [hset] at a1 a2
    exact kk H1 locs1 (hw.set hq1 (cel_o hK hc13) hoo a1 a2 a3)
  cases fin with
  | false => exact va_put (C := C0) (T := T0) (N := N0) hx hb hts h3 ty0 hty hnm hown hw.1 hw.2.1 hw.2.2.1 hw.2.2.2.1 q hq h1 j h2 (hts _ h4) (fun _ h9 => h9) hfin (hty j h2) hn hfit hl hdg fin_
  | true =>
    obtain ⟨hin, q4, e4, hdecl⟩ := hfi rfl
    cases h1.symm.trans e4
    exact va_putF (C := C0) (T := T0) (N := N0) hx hb hts h3 ty0 hty hnm hown hw.1 hw.2.1 hw.2.2.1 hw.2.2.2.1 q hq h1 j h2 (hts _ h4) (fun _ h9 => h9) hfin hin hdecl (hty j h2) hn hfit hl hdg fin_
theorem oF {F : tF} {G : tG} {P : tP} {k j : Nat} {v : Int32} : ∀ k', k' ≠ k → uF F k j v k' = F k' ∧ G k' = G k' ∧ P k' = P k' := fun k' h => ⟨by simp [uF, h], rfl, rfl⟩
theorem oG {F : tF} {G : tG} {P : tP} {k j : Nat} {v : Int64} : ∀ k', k' ≠ k → F k' = F k' ∧ uG G k j v k' = G k' ∧ P k' = P k' := fun k' h => ⟨rfl, by simp [uG, h], rfl⟩
theorem oP {F : tF} {G : tG} {P : tP} {k j : Nat} {v : Option Nat} : ∀ k', k' ≠ k → F k' = F k' ∧ G k' = G k' ∧ uP P k j v k' = P k' := fun k' h => ⟨rfl, rfl, by simp [uP, h]⟩
theorem p_i (j : Nat) {v : Int32} {ty0 : Nat → FieldType} {fin : Bool} (C : Cx p s m args c cc nL own) (hw : Wd E tt A s (wl E X B F G P) H locs) (hk : k ∈ X) (hK : kd k = ci) (hf : FL own index ci j) (hc : FC ci ty0) (hfn : FN ci j fin) (hfi : fin = true → meth.name = "<init>" ∧ ∃ q : vw_C, vwCl[ci]? = some q ∧ (q.2.1 j).1 = own) (ht : (ftc ci)[j]? = some 0) (hn : narrow (ty0 j) (.int v) = .int v) (hfit : fits (ty0 j) (.int v) = true) (hdg : decode cc pc = .ok (.putfield index, 3))
    (kk : ∀ (H1 : Heap) (locs1 : List Loc), Wd E tt A s (wl E X B (uF F k j v) G P) H1 locs1 → W p l e R s m args below meth c H1 locs1 cells slots Q (F0 m (pc + 3) ls rest)) : W p l e R s m args below meth c H locs cells slots Q (F0 m pc ls (.int v :: .ref (B k) :: rest)) :=
  p_any j 0 C hw hk hK hf hc hfn hfi ht hn hfit (by simp [fv, uF_s]) (fun i u h => by unfold fv; rw [uF_n F v (Or.inr h)]) oF hdg kk
theorem p_l (j : Nat) {v : Int64} {ty0 : Nat → FieldType} {fin : Bool} (C : Cx p s m args c cc nL own) (hw : Wd E tt A s (wl E X B F G P) H locs) (hk : k ∈ X) (hK : kd k = ci) (hf : FL own index ci j) (hc : FC ci ty0) (hfn : FN ci j fin) (hfi : fin = true → meth.name = "<init>" ∧ ∃ q : vw_C, vwCl[ci]? = some q ∧ (q.2.1 j).1 = own) (ht : (ftc ci)[j]? = some 1) (hn : narrow (ty0 j) (.long v) = .long v) (hfit : fits (ty0 j) (.long v) = true) (hdg : decode cc pc = .ok (.putfield index, 3))
    (kk : ∀ (H1 : Heap) (locs1 : List Loc), Wd E tt A s (wl E X B F (uG G k j v) P) H1 locs1 → W p l e R s m args below meth c H1 locs1 cells slots Q (F0 m (pc + 3) ls rest)) : W p l e R s m args below meth c H locs cells slots Q (F0 m pc ls (.long v :: .ref (B k) :: rest)) :=
  p_any j 1 C hw hk hK hf hc hfn hfi ht hn hfit (by simp [fv, uG_s]) (fun i u h => by unfold fv; rw [uG_n G v (Or.inr h)]) oG hdg kk
theorem p_r (j : Nat) {k2 : Nat} {ty0 : Nat → FieldType} {fin : Bool} (C : Cx p s m args c cc nL own) (hw : Wd E tt A s (wl E X B F G P) H locs) (hk : k ∈ X) (hK : kd k = ci) (hf : FL own index ci j) (hc : FC ci ty0) (hfn : FN ci j fin) (hfi : fin = true → meth.name = "<init>" ∧ ∃ q : vw_C, vwCl[ci]? = some q ∧ (q.2.1 j).1 = own) (ht : (ftc ci)[j]? = some 2) (hn : ∀ a, narrow (ty0 j) (.ref a) = .ref a) (hfit : ∀ a, fits (ty0 j) (.ref a) = true) (hdg : decode cc pc = .ok (.putfield index, 3))
    (kk : ∀ (H1 : Heap) (locs1 : List Loc), Wd E tt A s (wl E X B F G (uP P k j (some k2))) H1 locs1 → W p l e R s m args below meth c H1 locs1 cells slots Q (F0 m (pc + 3) ls rest)) : W p l e R s m args below meth c H locs cells slots Q (F0 m pc ls (.ref (B k2) :: .ref (B k) :: rest)) :=
  p_any j 2 C hw hk hK hf hc hfn hfi ht (hn _) (hfit _) (by simp [fv, uP_s, va_rf]) (fun i u h => by unfold fv; rw [uP_n P (some k2) (Or.inr h)]) oP hdg kk
/-- arrays -/
theorem a_i {i : Int32} (C : Cx p s m args c cc nL own) (hw : Wd E tt A s (wl E X B F G P) H locs) (hk : k ∈ X) (hK : kd k = 13) (hin : vp_in i (ln k)) (hdg : decode cc pc = .ok (.iaload, 1))
    (kk : W p l e R s m args below meth c H locs cells slots Q (F0 m (pc + 1) ls (.int (F k i.toNatClampNeg) :: rest))) : W p l e R s m args below meth c H locs cells slots Q (F0 m pc ls (.int i :: .ref (B k) :: rest)) := by
  obtain ⟨q, -, hq⟩ := wl_at (E := E) (B := B) (F := F) (G := G) (P := P) hk
  rw [cel_i hK] at hq
  exact va_iald C.1 C.2.1 hw.1 hw.2.1 q 0 hq rfl hin hdg kk
theorem a_z {i : Int32} (C : Cx p s m args c cc nL own) (hw : Wd E tt A s (wl E X B F G P) H locs) (hk : k ∈ X) (hK : kd k = 15) (hin : vp_in i (ln k)) (hdg : decode cc pc = .ok (.baload, 1))
    (kk : W p l e R s m args below meth c H locs cells slots Q (F0 m (pc + 1) ls (.int (F k i.toNatClampNeg) :: rest))) : W p l e R s m args below meth c H locs cells slots Q (F0 m pc ls (.int i :: .ref (B k) :: rest)) := by
  obtain ⟨q, -, hq⟩ := wl_at (E := E) (B := B) (F := F) (G := G) (P := P) hk
  rw [cel_z hK] at hq
  exact va_zald C.1 C.2.1 hw.1 hw.2.1 q 2 hq rfl hin hdg kk
theorem a_l {i : Int32} (C : Cx p s m args c cc nL own) (hw : Wd E tt A s (wl E X B F G P) H locs) (hk : k ∈ X) (hK : kd k = 14) (hin : vp_in i (ln k)) (hdg : decode cc pc = .ok (.laload, 1))
    (kk : W p l e R s m args below meth c H locs cells slots Q (F0 m (pc + 1) ls (.long (G k i.toNatClampNeg) :: rest))) : W p l e R s m args below meth c H locs cells slots Q (F0 m pc ls (.int i :: .ref (B k) :: rest)) := by
  obtain ⟨q, -, hq⟩ := wl_at (E := E) (B := B) (F := F) (G := G) (P := P) hk
  rw [cel_l hK] at hq
  exact va_lald C.1 C.2.1 hw.1 hw.2.1 q 1 hq rfl hin hdg kk
theorem a_q {i : Int32} {r : Nat} {cn : String} (C : Cx p s m args c cc nL own) (hw : Wd E tt A s (wl E X B F G P) H locs) (hk : k ∈ X) (hK : kd k = r) (hr : 16 ≤ r) (hcn : (tyl E)[r - 13]? = some (E.2.2 (r - 13), .object cn)) (hin : vp_in i (ln k)) (hdg : decode cc pc = .ok (.aaload, 1))
    (kk : W p l e R s m args below meth c H locs cells slots Q (F0 m (pc + 1) ls (va_rf ((P k i.toNatClampNeg).map B) :: rest))) : W p l e R s m args below meth c H locs cells slots Q (F0 m pc ls (.int i :: .ref (B k) :: rest)) := by
  obtain ⟨q, -, hq⟩ := wl_at (E := E) (B := B) (F := F) (G := G) (P := P) hk
  rw [cel_q hK hr] at hq
  exact va_aldq C.1 C.2.1 hw.1 hw.2.1 q (r - 13) hq hcn hin hdg kk
theorem s_i {i x : Int32} (C : Cx p s m args c cc nL own) (hw : Wd E tt A s (wl E X B F G P) H locs) (hk : k ∈ X) (hK : kd k = 13) (hin : vp_in i (ln k)) (hdg : decode cc pc = .ok (.iastore, 1))
    (kk : ∀ (H1 : Heap) (locs1 : List Loc), Wd E tt A s (wl E X B (uF F k i.toNatClampNeg x) G P) H1 locs1 → W p l e R s m args below meth c H1 locs1 cells slots Q (F0 m (pc + 1) ls rest)) : W p l e R s m args below meth c H locs cells slots Q (F0 m pc ls (.int x :: .int i :: .ref (B k) :: rest)) := by
  obtain ⟨q, hq1, hq⟩ := wl_at (E := E) (B := B) (F := F) (G := G) (P := P) hk
  rw [cel_i hK] at hq
  exact va_iast C.1 C.2.1 hw.1 hw.2.1 hw.2.2.1 hw.2.2.2.1 q 0 hq rfl hin hdg (fun H1 locs1 a1 a2 a3 => kk H1 locs1 (hw.set hq1 (by rw [cel_i hK]; simp [uF]) oF a1 a2 a3))
theorem s_z {i x : Int32} (C : Cx p s m args c cc nL own) (hw : Wd E tt A s (wl E X B F G P) H locs) (hk : k ∈ X) (hK : kd k = 15) (hin : vp_in i (ln k)) (hx : vp_nar .boolean x = x) (hdg : decode cc pc = .ok (.bastore, 1))
    (kk : ∀ (H1 : Heap) (locs1 : List Loc), Wd E tt A s (wl E X B (uF F k i.toNatClampNeg x) G P) H1 locs1 → W p l e R s m args below meth c H1 locs1 cells slots Q (F0 m (pc + 1) ls rest)) : W p l e R s m args below meth c H locs cells slots Q (F0 m pc ls (.int x :: .int i :: .ref (B k) :: rest)) := by
  obtain ⟨q, hq1, hq⟩ := wl_at (E := E) (B := B) (F := F) (G := G) (P := P) hk
  rw [cel_z hK] at hq
  exact va_zast C.1 C.2.1 hw.1 hw.2.1 hw.2.2.1 hw.2.2.2.1 q 2 hq rfl hin hdg (fun H1 locs1 a1 a2 a3 => kk H1 locs1 (hw.set hq1 (by rw [cel_z hK, hx]; simp [uF]) oF a1 a2 a3))
theorem s_l {i : Int32} {x : Int64} (C : Cx p s m args c cc nL own) (hw : Wd E tt A s (wl E X B F G P) H locs) (hk : k ∈ X) (hK : kd k = 14) (hin : vp_in i (ln k)) (hdg : decode cc pc = .ok (.lastore, 1))
    (kk : ∀ (H1 : Heap) (locs1 : List Loc), Wd E tt A s (wl E X B F (uG G k i.toNatClampNeg x) P) H1 locs1 → W p l e R s m args below meth c H1 locs1 cells slots Q (F0 m (pc + 1) ls rest)) : W p l e R s m args below meth c H locs cells slots Q (F0 m pc ls (.long x :: .int i :: .ref (B k) :: rest)) := by
  obtain ⟨q, hq1, hq⟩ := wl_at (E := E) (B := B) (F := F) (G := G) (P := P) hk
  rw [cel_l hK] at hq
  exact va_last C.1 C.2.1 hw.1 hw.2.1 hw.2.2.1 hw.2.2.2.1 q 1 hq rfl hin hdg (fun H1 locs1 a1 a2 a3 => kk H1 locs1 (hw.set hq1 (by rw [cel_l hK]; simp [uG]) oG a1 a2 a3))
theorem s_q {i : Int32} {r k2 ci2 : Nat} {q2 : vw_C} (C : Cx p s m args c cc nL own) (hw : Wd E tt A s (wl E X B F G P) H locs) (hk : k ∈ X) (hK : kd k = r) (hr : 16 ≤ r) (hk2 : k2 ∈ X) (hK2 : kd k2 = ci2) (hc2 : ci2 < 13) (hq2 : vwCl[ci2]? = some q2) (hcn : (tyl E)[r - 13]? = some (E.2.2 (r - 13), .object q2.1)) (hin : vp_in i (ln k)) (hdg : decode cc pc = .ok (.aastore, 1))
    (kk : ∀ (H1 : Heap) (locs1 : List Loc), Wd E tt A s (wl E X B F G (uP P k i.toNatClampNeg (some k2))) H1 locs1 → W p l e R s m args below meth c H1 locs1 cells slots Q (F0 m (pc + 1) ls rest)) : W p l e R s m args below meth c H locs cells slots Q (F0 m pc ls (.ref (B k2) :: .int i :: .ref (B k) :: rest)) := by
  obtain ⟨q, hq1, hq⟩ := wl_at (E := E) (B := B) (F := F) (G := G) (P := P) hk
  obtain ⟨q3, hq3, hq4⟩ := wl_at (E := E) (B := B) (F := F) (G := G) (P := P) hk2
  rw [cel_q hK hr] at hq
  rw [cel_o hK2 hc2] at hq4
  refine va_astq C.1 C.2.1 hw.1 hw.2.1 hw.2.2.1 hw.2.2.2.1 q (r - 13) q3 ci2 hq hcn hq4 hq2 hin hdg (fun H1 locs1 a1 a2 a3 => kk H1 locs1 (hw.set hq1 ?_ oP a1 a2 a3))
  rw [cel_q hK hr]
  congr 7
  funext j
  by_cases hj : j = i.toNatClampNeg
  · subst hj
    simp [uP, va_up]
  · simp [uP, va_up, hj]
/-- an array's length -/
theorem a_n {v : Int32} (C : Cx p s m args c cc nL own) (hw : Wd E tt A s (wl E X B F G P) H locs) (hk : k ∈ X) (hK : 13 ≤ kd k) (hK2 : kd k < 22) (hv : Int32.ofNat (ln k) = v) (hdg : decode cc pc = .ok (.arraylength, 1))
    (kk : W p l e R s m args below meth c H locs cells slots Q (F0 m (pc + 1) ls (.int v :: rest))) : W p l e R s m args below meth c H locs cells slots Q (F0 m pc ls (.ref (B k) :: rest)) := by
  obtain ⟨q, -, hq⟩ := wl_at (E := E) (B := B) (F := F) (G := G) (P := P) hk
  have ht : ∃ ty, (tyl E)[kd k - 13]? = some (E.2.2 (kd k - 13), ty) := by
    generalize kd k = r at hK hK2
    rcases (show r = 13 ∨ r = 14 ∨ r = 15 ∨ r = 16 ∨ r = 17 ∨ r = 18 ∨ r = 19 ∨ r = 20 ∨ r = 21 by omega) with h | h | h | h | h | h | h | h | h <;> subst h <;> exact ⟨_, rfl⟩
  obtain ⟨ty, ht⟩ := ht
  have hc : ∃ x, cel E B F G P k = .inl (E.2.2 (kd k - 13), ln k, x) := by
    by_cases h1 : kd k = 14
    · exact ⟨_, by rw [cel_l h1, h1]⟩
    · by_cases h2 : kd k < 16
      · exact ⟨.inl (F k), by simp only [cel, show ¬ kd k < 13 by omega, h1, h2, if_true, if_false]⟩
      · exact ⟨_, cel_q rfl (by omega)⟩
  obtain ⟨x, hc⟩ := hc
  rw [hc] at hq
  exact va_alen C.1 C.2.1 hw.1 hw.2.1 q (kd k - 13) hq ht hv hdg kk
/-- the receiver of a call -/
theorem rcv {q2 : vw_C} (hw : Wd E tt A s (wl E X B F G P) H locs) (hk : k ∈ X) (hK : kd k = ci) (hc : ci < 13) (hq2 : vwCl[ci]? = some q2) : ∃ cellB : Cell, H[B k]? = some cellB ∧ cellB.vm.isStatics = false ∧ s.vm.findClass q2.1 = some cellB.cls := by
  obtain ⟨q, -, hq⟩ := wl_at (E := E) (B := B) (F := F) (G := G) (P := P) hk
  rw [cel_o hK hc] at hq
  exact va_recv hw.1 hw.2.1 hq2 hq
end ROWS
