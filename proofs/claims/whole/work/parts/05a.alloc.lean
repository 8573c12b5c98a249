/-! NEW CELLS in the typed world -/
def zF (F : tF) (k : Nat) : tF := fun z => if z = k then (fun _ => 0) else F z
def zG (G : tG) (k : Nat) : tG := fun z => if z = k then (fun _ => 0) else G z
def zP (P : tP) (k : Nat) : tP := fun z => if z = k then (fun _ => none) else P z
theorem zF_s (F : tF) (k j : Nat) : zF F k k j = 0 := by simp [zF]
theorem zG_s (F : tG) (k j : Nat) : zG F k k j = 0 := by simp [zG]
theorem zP_s (F : tP) (k j : Nat) : zP F k k j = none := by simp [zP]
theorem zF_n (F : tF) {k z : Nat} (h : z ≠ k) : zF F k z = F z := by simp [zF, h]
theorem zG_n (F : tG) {k z : Nat} (h : z ≠ k) : zG F k z = F z := by simp [zG, h]
theorem zP_n (F : tP) {k z : Nat} (h : z ≠ k) : zP F k z = F z := by simp [zP, h]
def dv (t : Nat) : Value := if t = 0 then .int 0 else if t = 1 then .long 0 else .null
theorem fvl_z (B : Nat → Nat) (F : tF) (G : tG) (P : tP) (k : Nat) (ts : List Nat) : ∀ j0, fvl B (zF F k) (zG G k) (zP P k) k ts j0 = ts.map dv := by
  induction ts with
  | nil => intro j0; rfl
  | cons a ts ih =>
    intro j0
    simp only [fvl, List.map_cons, ih]
    congr 1
    simp only [fv, dv, zF_s, zG_s, zP_s]
    rfl
section AL
variable {E : cE} {X : List Nat} {B B' : Nat → Nat} {F F' : tF} {G G' : tG} {P P' : tP} {z : Nat}
theorem cel_congrB (hF : F' z = F z) (hG : G' z = G z) (hP : ∀ j, (P' z j).map B' = (P z j).map B) : cel E B F G P z = cel E B' F' G' P' z := by
  have h0 : ∀ (ts : List Nat) (j0 : Nat), fvl B F G P z ts j0 = fvl B' F' G' P' z ts j0 := by
    intro ts
    induction ts with
    | nil => intro j0; rfl
    | cons a ts ih =>
      intro j0
      simp only [fvl, ih]
      congr 1
      simp only [fv, hF, hG, hP]
  have h1 : (fun i => (P z i).map B) = (fun i => (P' z i).map B') := funext fun i => (hP i).symm
  unfold cel
  rw [h0, h1, hF, hG]
/-- no reference points to a place -/
def noref (X : List Nat) (P : tP) (k : Nat) : Prop := ∀ z, z ∈ X → ∀ j, P z j ≠ some k
theorem wl_push {k q : Nat} {c : va_E} (hk : k ∉ X) (hn : noref X P k) (hc : cel E (va_up B k q) (zF F k) (zG G k) (zP P k) k = c) : wl E X B F G P ++ [(q, c)] = wl E (X ++ [k]) (va_up B k q) (zF F k) (zG G k) (zP P k) := by
  simp only [wl, List.map_append, List.map_cons, List.map_nil, va_up_self, hc]
  congr 1
  apply List.map_congr_left
  intro z hz
  have hne : z ≠ k := fun e => hk (e ▸ hz)
  rw [va_up_ne _ _ hne]
  congr 1
  refine cel_congrB (zF_n F hne) (zG_n G hne) (fun j => ?_)
  rw [zP_n P hne]
  cases hp : P z j with
  | none => rfl
  | some y =>
    have : y ≠ k := fun e => hn z hz j (by rw [hp, e])
    simp [va_up, this]
end AL
section ALR
variable {p : Program} {l : Launch} {e : Env} {R : Room} {s : State} {m : MethodId} {args : Array Value} {below : List Frame} {meth : Method} {c : Code} {H : Heap} {locs : List Loc} {cells slots : Nat} {Q : State → Prop}
variable {cc : ByteArray} {pc : Nat} {ls : Array Slot} {rest : List Value} {E : cE} {tt : Nat × Nat × Nat} {A : Nat → Prop} {own : String} {nL : Nat} {X : List Nat} {B : Nat → Nat} {F : tF} {G : tG} {P : tP} {index ci : Nat}
/-- a new object at the place k -/
theorem al_o (k : Nat) {C0 : String} {T0 : u_T} {N0 : Nat} {ty0 : Nat → FieldType} (C : Cx p s m args c cc nL own) (hw : Wd E tt A s (wl E X B F G P) H locs) (hk : k ∉ X) (hn : noref X P k) (hK : kd k = ci) (hc13 : ci < 13) (hq : vwCl[ci]? = some (C0, T0, N0)) (hty : ∀ k, k < N0 → parseFieldDescriptor (T0 k).2.2.1 = some (ty0 k)) (hux : ∀ w ∈ u_ws C0 T0 N0, w ∈ TT) (hdf : ∀ j, j < N0 → defaultValue (ty0 j) = vp_V ((ftc ci).map dv) j)
    (w1 : Cond.classLink own index C0 ∈ TT) (w2 : Cond.instantiable C0 N0 ∈ TT) (w3 : Cond.initialized C0 ∈ TT) (hcells : cells + 1 ≤ R.cells) (hslots : slots + N0 ≤ R.slots) (hdg : decode cc pc = .ok (.new index, 3))
    (kk : ∀ (B1 : Nat → Nat) (H1 : Heap), (∀ z, z ≠ k → B1 z = B z) → Wd E tt A s (wl E (X ++ [k]) B1 (zF F k) (zG G k) (zP P k)) H1 locs → W p l e R s m args below meth c H1 locs (cells + 1) (slots + N0) Q (F0 m (pc + 3) ls (.ref (B1 k) :: rest))) : W p l e R s m args below meth c H locs cells slots Q (F0 m pc ls rest) := by
  obtain ⟨hx, hb, hml, hown, hts⟩ := C
  refine va_new (C := C0) (T := T0) (N := N0) hx hb hts hux ty0 hty hown (hts _ w1) (hts _ w2) (hts _ w3) hw.1 hw.2.1 hw.2.2.1 hw.2.2.2.1 hw.2.2.2.2.1 hq hdf hcells hslots hdg (fun q H1 h1 h2 h3 => ?_)
  have e1 := wl_push (E := E) (B := B) (F := F) (G := G) (P := P) (q := q) (c := .inr (ci, (ftc ci).map dv)) hk hn (by rw [cel_o hK hc13, fvl_z])
  rw [e1] at h1 h2
  have := kk (va_up B k q) H1 (fun z hz => va_up_ne _ _ hz) ⟨hw.1, h1, h2, h3, hw.2.2.2.2⟩
  rw [va_up_self] at this
  exact this
/-- the new array's class is the one that we know -/
theorem cA_eq {ty : FieldType} {cA cB : ClassId} (hty : ∀ C, ty ≠ .object C) (h1 : va_RA s cA ty) (h2 : va_RA s cB ty) : cA = cB := by
  cases ty with
  | object C => exact absurd rfl (hty C)
  | _ =>
    have e := (show s.vm.findClass _ = some cA from h1).symm.trans (show s.vm.findClass _ = some cB from h2)
    exact Option.some.inj e
/-- a new array of ints (13), longs (14), booleans (15) at the place k -/
theorem al_p (k : Nat) {atype : ArrayType} {ty : FieldType} {n : Int32} {a0 : vp_A} (t0 : Nat) (C : Cx p s m args c cc nL own) (hw : Wd E tt A s (wl E X B F G P) H locs) (hk : k ∉ X) (hn : noref X P k) (hty : newarray.typeOf atype = ty) (hno : ∀ C, ty ≠ .object C) (ht : (tyl E)[t0]? = some (E.2.2 t0, ty)) (hac : Cond.arrayClass ty ∈ TT) (hce : ∀ q, cel E (va_up B k q) (zF F k) (zG G k) (zP P k) k = .inl (E.2.2 t0, a0)) (ha : ∀ cA : ClassId, vp_cell cA a0 = arrV cA (ln k) (fun _ => defaultValue ty)) (hn0 : ¬ n < 0) (hN : n.toNatClampNeg = ln k) (hby : ln k * componentBytes ty ≤ 536870912) (hcells : cells + 1 ≤ R.cells) (hslots : slots + ln k ≤ R.slots) (hdg : decode cc pc = .ok (.newarray atype, 2))
    (kk : ∀ (B1 : Nat → Nat) (H1 : Heap), (∀ z, z ≠ k → B1 z = B z) → Wd E tt A s (wl E (X ++ [k]) B1 (zF F k) (zG G k) (zP P k)) H1 locs → W p l e R s m args below meth c H1 locs (cells + 1) (slots + ln k) Q (F0 m (pc + 2) ls (.ref (B1 k) :: rest))) : W p l e R s m args below meth c H locs cells slots Q (F0 m pc ls (.int n :: rest)) := by
  obtain ⟨hx, hb, hml, hown, hts⟩ := C
  refine va_newa hx hb (hts _ (by rw [hty]; exact hac)) hty hw.1 hw.2.1 hw.2.2.1 hw.2.2.2.1 hw.2.2.2.2.1 ha hn0 hN hby hcells hslots hdg (fun q cA H1 hK1 h1 h2 h3 => ?_)
  have hcA : cA = E.2.2 t0 := cA_eq hno (hK1.2 (tyl E).length _ (by rw [List.getElem?_append_right (Nat.le_refl _), Nat.sub_self]; rfl)).2 (hw.1.2 t0 _ ht).2
  subst hcA
  have e1 := wl_push (E := E) (B := B) (F := F) (G := G) (P := P) (q := q) hk hn (hce q)
  rw [e1] at h1 h2
  have := kk (va_up B k q) H1 (fun z hz => va_up_ne _ _ hz) ⟨hw.1, h1, h2, h3, hw.2.2.2.2⟩
  rw [va_up_self] at this
  exact this
end ALR
