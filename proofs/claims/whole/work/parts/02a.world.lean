/-! THE WORLD: one list of cells by canonical places, an address book B, int parts F, long parts G, references P (places) -/
/-- the words of the tables that every method may use -/
def TT : List Cond := lw_tbl.filter goodWord
theorem TT_of {w : Cond} (i : Nat) (h : lw_tbl[i]? = some w) (g : goodWord w = true) : w ∈ TT := List.mem_filter.mpr ⟨List.mem_of_getElem? h, g⟩
theorem TT_sub {w : Cond} (h : w ∈ TT) : w ∈ lw_tbl := (List.mem_filter.mp h).1
theorem TT_good {y : MethodName} {cc : ByteArray} {n : Nat} {r : Option FieldType} (h : Cond.code y cc n r ∈ TT) : GoodIn TT (Cond.code y cc n r :: TT) := by
  intro w hw
  have h1 : w ∈ TT := by
    rcases List.mem_cons.mp hw with e | e
    · rw [e]; exact h
    · exact e
  exact ⟨h1, good_of_word (List.mem_filter.mp h1).2⟩
abbrev cE : Type := (Nat → ClassId) × (Nat → Nat → Nat) × (Nat → ClassId)
abbrev tD (E : cE) : va_G := (E.1, E.2.1)
def tyl (E : cE) : List (ClassId × FieldType) := [(E.2.2 0, .int), (E.2.2 1, .long), (E.2.2 2, .boolean), (E.2.2 3, .object RX0), (E.2.2 4, .object RX3), (E.2.2 5, .object RX4), (E.2.2 6, .object RX6), (E.2.2 7, .object RX7), (E.2.2 8, .object RX8)]
def lstV (j : Nat) : Int32 := ([0, 10, 0, 1, 0, 1] : List Int32).getD j 0
def mstV (j : Nat) : Int32 := ([100, 100, 10, 500, 20, 100] : List Int32).getD j 0
def digV (j : Nat) : Int32 := ([1419857, 83521, 4913, 289, 17, 1] : List Int32).getD j 0
/-- the three tables that are static -/
def Ex (tt : Nat × Nat × Nat) (A : Nat → Prop) (U : State) (H : Heap) : Prop := va_Z "WireMill$Settings" "LEAST" "[I" (.ref tt.1) A U H ∧ va_Z "WireMill$Settings" "MOST" "[I" (.ref tt.2.1) A U H ∧ va_Z "WireMill$Cutting" "DIGITS" "[I" (.ref tt.2.2) A U H ∧ va_T .int tt.1 6 (fun j => .int (lstV j)) A U H ∧ va_T .int tt.2.1 6 (fun j => .int (mstV j)) A U H ∧ va_T .int tt.2.2 6 (fun j => .int (digV j)) A U H
theorem Ex.move {tt : Nat × Nat × Nat} {A A1 : Nat → Prop} {s U : State} {H : Heap} {locs : List Loc} (h : Ex tt A s s.heap) (hS : va_S A s.heap H locs) (hA : ∀ q, A1 q → A q) (hvm : s.vm.Alike U.vm) : Ex tt A1 U H := by
  have hk : ∀ a : Nat, a < s.heap.size → ¬ A a → H[a]? = s.heap[a]? := fun a h1 h2 => hS.2.1 a h1 h2
  obtain ⟨h1, h2, h3, h4, h5, h6⟩ := h
  exact ⟨((h1.kept hk).narrow hA).moved hvm, ((h2.kept hk).narrow hA).moved hvm, ((h3.kept hk).narrow hA).moved hvm, ((h4.kept hk).narrow hA).moved hvm, ((h5.kept hk).narrow hA).moved hvm, ((h6.kept hk).narrow hA).moved hvm⟩
def nestW : List Cond := [.methodLinkNest RX11 9 yX10_init "WireMill", .methodLinkNest RX11 48 yX5_init "WireMill", .methodLinkNest RX11 73 yX1_init "WireMill", .methodLinkNest RX11 84 yX7_init "WireMill", .methodLinkNest RX10 35 yX11_isWithin "WireMill", .methodLinkNest RX0 29 yX11_quotient "WireMill", .methodLinkNest RX2 23 yX11_quotient "WireMill", .methodLinkNest RX8 17 yX11_quotient "WireMill", .methodLinkNest RX9 64 yX11_isWithin "WireMill", .methodLinkNest RX6 29 yX11_isWithin "WireMill", .methodLinkNest RX1 50 yX11_quotient "WireMill", .methodLinkNest RX5 33 yX11_choices "WireMill"]
def isNest : Cond → Bool
  | .methodLinkNest _ _ _ _ => true
  | _ => false
theorem nest_ok : nestW.all isNest = true := by decide +kernel
theorem nest_move {s U : State} (hW : s.WarmedH U.vm) (h : ∀ w ∈ nestW, va_Nw w s) : ∀ w ∈ nestW, va_Nw w U := by
  intro w hw
  have h1 := List.all_eq_true.mp nest_ok w hw
  have h2 := h w hw
  cases w <;> first | exact va_Nw.warmM hW h2 | cases h1
theorem nest_same {u U : State} (e : u.vm = U.vm) (h : ∀ w ∈ nestW, va_Nw w u) : ∀ w ∈ nestW, va_Nw w U := by
  intro w hw
  have h1 := List.all_eq_true.mp nest_ok w hw
  have h2 := h w hw
  cases w <;> first | exact va_Nw.same rfl e h2 | cases h1
def aoC : List String := [RX0, RX3, RX4, RX6, RX7, RX8]
/-- what the tables say of nest mates and of arrays over our classes -/
def NW (s : State) : Prop := (∀ w ∈ nestW, va_Nw w s) ∧ ∀ C ∈ aoC, va_AO C s
theorem NW.move {s U : State} (hW : s.WarmedH U.vm) (h : NW s) : NW U := ⟨nest_move hW h.1, fun C hC => (h.2 C hC).moved hW.alike⟩
theorem NW.same {s U : State} (e : s.vm = U.vm) (h : NW s) : NW U := ⟨nest_same e h.1, fun C hC => (h.2 C hC).moved (by rw [e]; exact Vm.Alike.refl U.vm)⟩
/-- the world inside a walk -/
def Wd (E : cE) (tt : Nat × Nat × Nat) (A : Nat → Prop) (s : State) (ws : va_W) (H : Heap) (locs : List Loc) : Prop := va_K (tD E) vwCl (tyl E) s ∧ va_P (tD E) vwCl ws H ∧ va_D A ws ∧ va_S A s.heap H locs ∧ (∀ q, s.heap.size ≤ q → A q) ∧ Ex tt A s s.heap ∧ NW s
/-- the world at a method's start -/
def PW (E : cE) (tt : Nat × Nat × Nat) (ws : va_W) (sz : Nat) (U : State) : Prop := U.heap.size = sz ∧ va_K (tD E) vwCl (tyl E) U ∧ va_P (tD E) vwCl ws U.heap ∧ va_D (fun _ => True) ws ∧ Ex tt (va_A ws sz) U U.heap ∧ NW U
/-- a method's end -/
def Fin0 (E : cE) (post : Option Value → va_W → Prop) (A : Nat → Prop) : Array Value → State → Outcome → State → Prop := fun _ st oc t => (∃ (v : Option Value) (ws' : va_W), oc = .returned v ∧ post v ws' ∧ va_P (tD E) vwCl ws' t.heap ∧ va_D A ws') ∧ va_F A st t
abbrev rmO (d mc ms : Nat) : Room := { frames := d, cells := mc, slots := ms, locals := 64 * d }
/-- a contract: from the world ws with these arguments, at most d frames deep, mc cells of ms slots new: an answer and a world with 'post' -/
def CT (E : cE) (tt : Nat × Nat × Nat) (y : MethodName) (cc : ByteArray) (nl : Nat) (ret : Option FieldType) (d mc ms : Nat) (av : List Value) (ws : va_W) (post : Option Value → va_W → Prop) : Prop := ∀ (l : Launch) (sz : Nat), Met l y (.code y cc nl ret :: TT) (rmO d mc ms) (va_Pc av (PW E tt ws sz)) (Fin0 E post (va_A ws sz)) mc ms (va_A ws sz)
theorem PW.blind {E : cE} {tt : Nat × Nat × Nat} {ws : va_W} {sz : Nat} {av : List Value} : FrameBlind (va_Pc av (PW E tt ws sz)) := by
  intro a U g mk q
  obtain ⟨q0, q1, q2, q3, q4, q5, q6⟩ := q
  exact ⟨q0, q1, va_K.moved (u := U) (U := U.calling g mk a) (Vm.Alike.refl U.vm) q2, q3, q4, ⟨q5.1.moved (Vm.Alike.refl U.vm), q5.2.1.moved (Vm.Alike.refl U.vm), q5.2.2.1.moved (Vm.Alike.refl U.vm), q5.2.2.2.1.moved (Vm.Alike.refl U.vm), q5.2.2.2.2.1.moved (Vm.Alike.refl U.vm), q5.2.2.2.2.2.moved (Vm.Alike.refl U.vm)⟩, NW.same (s := U) (U := U.calling g mk a) rfl q6⟩
/-- the world that a callee gets -/
theorem Wd.pre {E : cE} {tt : Nat × Nat × Nat} {A : Nat → Prop} {s : State} {ws : va_W} {H : Heap} {locs : List Loc} (hw : Wd E tt A s ws H locs) {U : State} (hU : U.heap = H) (hW : s.WarmedH U.vm) : PW E tt ws H.size U := by
  obtain ⟨hK, hP, hD, hS, hA, hE, hN⟩ := hw
  refine ⟨by rw [hU], va_K.moved hW.alike hK, by rw [hU]; exact hP, hD.weaken (fun _ _ _ _ => trivial), ?_, hN.move hW⟩
  rw [hU]
  refine hE.move hS ?_ hW.alike
  intro q h
  rcases h with ⟨k, e, h⟩ | h
  · exact hD.2 k (q, e) h
  · exact hA q (Nat.le_trans hS.1 h)
theorem Wd.inA {E : cE} {tt : Nat × Nat × Nat} {A : Nat → Prop} {s : State} {ws : va_W} {H : Heap} {locs : List Loc} (hw : Wd E tt A s ws H locs) : ∀ q, va_A ws H.size q → A q := by
  intro q h
  rcases h with ⟨k, e, h⟩ | h
  · exact hw.2.2.1.2 k (q, e) h
  · exact hw.2.2.2.2.1 q (Nat.le_trans hw.2.2.2.1.1 h)
section CTX
variable {p : Program} {l : Launch} {e : Env} {R : Room} {s : State} {m : MethodId} {args : Array Value} {below : List Frame} {meth : Method} {c : Code} {H : Heap} {locs : List Loc} {cells slots : Nat} {Q : State → Prop}
variable {cc cc' : ByteArray} {pc : Nat} {ls : Array Slot} {rest st : List Value} {E : cE} {tt : Nat × Nat × Nat} {A : Nat → Prop} {ws : va_W} {own : String} {nL : Nat}
/-- what stays the same in a walk: the machine, the code, the locals' number, the class, the tables -/
def Cx (p : Program) (s : State) (m : MethodId) (args : Array Value) (c : Code) (cc : ByteArray) (nL : Nat) (own : String) : Prop := p.tables.exec = Jvm.exec ∧ c.code = cc ∧ c.maxLocals = nL ∧ s.vm.findClass own = some m.cls ∧ ∀ w ∈ TT, w.before args s = true
/-- behind a call -/
theorem run_back {mc ms : Nat} {post : Option Value → va_W → Prop} {a : Array Value} {free : Addr → Prop} (hw : Wd E tt A s ws H locs) (hf : free = va_A ws H.size)
    (hr : va_Run p l e R s m args below meth c H locs cells slots mc ms (F0 m pc ls st) rest (Fin0 E post (va_A ws H.size) a) free)
    (kk : ∀ (v : Option Value) (ws' : va_W) (H1 : Heap) (locs1 : List Loc), post v ws' → Wd E tt A s ws' H1 locs1 → W p l e R s m args below meth c H1 locs1 (cells + mc) (slots + ms) Q (F0 m (pc + 3) ls (v.toList ++ rest))) : W p l e R s m args below meth c H locs cells slots Q (F0 m pc ls st) := by
  intro T hT X
  obtain ⟨v, st₀, t, T', L, h0, X', hL, e1, e2, ⟨⟨v', ws', hv, hp, hP', hD'⟩, hz, hk⟩, stp⟩ := hr T hT X
  cases hv
  rw [h0] at hz hk
  have hin := hw.inA
  obtain ⟨hK, hP, hD, hS, hA, hE, hN⟩ := hw
  have hS' : va_S A s.heap T'.heap (locs ++ L) := by
    refine ⟨Nat.le_trans hS.1 (by rw [e1]; exact hz), fun q h1 h2 => by rw [e1, hk q (Nat.lt_of_lt_of_le h1 hS.1) (fun z => h2 (hin q z))]; exact hS.2.1 q h1 h2, fun q hq => ?_⟩
    rcases List.mem_append.mp hq with h | h
    · exact hS.2.2 q h
    · have := hL q h
      rw [hf] at this
      exact hin _ this
  obtain ⟨t2, a1, b1⟩ := kk v ws' T'.heap (locs ++ L) hp ⟨hK, by rw [e1]; exact hP', hD'.weaken (fun _ q _ h => hin q.1 h), hS', hA, hE, hN⟩ T' rfl X'
  exact ⟨t2, stp t2 a1, b1⟩
/-- what the tables say of an instance method, of a static one, of a constructor -/
def VY (y : MethodName) (cc : ByteArray) (nl : Nat) (ret : Option FieldType) (n : Nat) : Prop := Cond.instanceMethod y ∈ TT ∧ Cond.selects y.cls y y ∈ TT ∧ Cond.initialized y.cls ∈ TT ∧ Cond.code y cc nl ret ∈ TT ∧ y.cls ≠ "java/lang/invoke/MethodHandle" ∧ y.cls ≠ "java/lang/invoke/VarHandle" ∧ (parseMethodDescriptor y.desc).map (fun d => d.parameters.length) = some n
def SY (y : MethodName) (cc : ByteArray) (nl : Nat) (ret : Option FieldType) (n : Nat) : Prop := Cond.static y ∈ TT ∧ Cond.initialized y.cls ∈ TT ∧ Cond.code y cc nl ret ∈ TT ∧ y.cls ≠ "java/lang/invoke/MethodHandle" ∧ y.cls ≠ "java/lang/invoke/VarHandle" ∧ (parseMethodDescriptor y.desc).map (fun d => d.parameters.length) = some n
def IY (y : MethodName) (cc : ByteArray) (nl : Nat) (n : Nat) : Prop := Cond.instanceMethod y ∈ TT ∧ y.name = "<init>" ∧ Cond.initialized y.cls ∈ TT ∧ Cond.code y cc nl none ∈ TT ∧ y.cls ≠ "java/lang/invoke/MethodHandle" ∧ y.cls ≠ "java/lang/invoke/VarHandle" ∧ (parseMethodDescriptor y.desc).map (fun d => d.parameters.length) = some n
variable {y : MethodName} {nl d mc ms n index : Nat} {ret : Option FieldType} {As : List Value} {b : Nat} {post : Option Value → va_W → Prop} {host : String}
theorem kV (C : Cx p s m args c cc nL own) (hw : Wd E tt A s ws H locs) (hC : CT E tt y cc' nl ret d mc ms (.ref b :: As) ws post) (hy : VY y cc' nl ret n) (hl : Cond.methodLink own index y ∈ TT)
    (hrec : ∃ cellB : Cell, H[b]? = some cellB ∧ cellB.vm.isStatics = false ∧ s.vm.findClass y.cls = some cellB.cls) (hn : As.length = n) (hsz : ls.size = nL) (hst : st = As.reverse ++ .ref b :: rest)
    (hdg : decode cc pc = .ok (.invokevirtual index, 3)) (hcat : (rest.map fun v => v.category).sum ≤ 8) (hR : d + 1 ≤ R.frames ∧ 8 + (nl + 11) + 64 * d ≤ R.locals) (hf : cells + mc ≤ R.cells ∧ slots + ms ≤ R.slots)
    (kk : ∀ (v : Option Value) (ws' : va_W) (H1 : Heap) (locs1 : List Loc), post v ws' → Wd E tt A s ws' H1 locs1 → W p l e R s m args below meth c H1 locs1 (cells + mc) (slots + ms) Q (F0 m (pc + 3) ls (v.toList ++ rest))) : W p l e R s m args below meth c H locs cells slots Q (F0 m pc ls st) := by
  obtain ⟨hx, hb, hml, hown, hts⟩ := C
  obtain ⟨y1, y2, y3, y4, y5, y6, y7⟩ := hy
  have cb : CallB R s args own index y cc' nl ret (.code y cc' nl ret :: TT) (rmO d mc ms) mc ms n := callB_of n hts (TT_good y4) rfl rfl rfl (hts _ y3) (hts _ hl) ⟨y5, y6, y7⟩ hR
  refine run_back hw rfl (va_runV (As := As) (rest := rest) ⟨hx, hb, hml, hown, hts⟩ (hC l H.size) ⟨cb, hts _ y1, hts _ y2⟩ ⟨PW.blind, hrec, fun U hU hW => ⟨rfl, hw.pre hU hW⟩⟩ rfl hn hsz hst (lv_room hcat) hdg hf) kk
theorem kS (C : Cx p s m args c cc nL own) (hw : Wd E tt A s ws H locs) (hC : CT E tt y cc' nl ret d mc ms As ws post) (hy : SY y cc' nl ret n) (hl : Cond.methodLink own index y ∈ TT)
    (hn : As.length = n) (hsz : ls.size = nL) (hst : st = As.reverse ++ rest)
    (hdg : decode cc pc = .ok (.invokestatic index, 3)) (hcat : (rest.map fun v => v.category).sum ≤ 8) (hR : d + 1 ≤ R.frames ∧ 8 + (nl + 11) + 64 * d ≤ R.locals) (hf : cells + mc ≤ R.cells ∧ slots + ms ≤ R.slots)
    (kk : ∀ (v : Option Value) (ws' : va_W) (H1 : Heap) (locs1 : List Loc), post v ws' → Wd E tt A s ws' H1 locs1 → W p l e R s m args below meth c H1 locs1 (cells + mc) (slots + ms) Q (F0 m (pc + 3) ls (v.toList ++ rest))) : W p l e R s m args below meth c H locs cells slots Q (F0 m pc ls st) := by
  obtain ⟨hx, hb, hml, hown, hts⟩ := C
  obtain ⟨y1, y3, y4, y5, y6, y7⟩ := hy
  have cb : CallB R s args own index y cc' nl ret (.code y cc' nl ret :: TT) (rmO d mc ms) mc ms n := callB_of n hts (TT_good y4) rfl rfl rfl (hts _ y3) (hts _ hl) ⟨y5, y6, y7⟩ hR
  refine run_back hw rfl (va_runS (As := As) (rest := rest) ⟨hx, hb, hml, hown, hts⟩ (hC l H.size) ⟨cb, hts _ y1⟩ ⟨PW.blind, fun U hU hW => ⟨rfl, hw.pre hU hW⟩⟩ rfl hn hsz hst (lv_room hcat) hdg hf) kk
theorem kSN (C : Cx p s m args c cc nL own) (hw : Wd E tt A s ws H locs) (hC : CT E tt y cc' nl ret d mc ms As ws post) (hy : SY y cc' nl ret n) (hl : Cond.methodLinkNest own index y host ∈ nestW)
    (hn : As.length = n) (hsz : ls.size = nL) (hst : st = As.reverse ++ rest)
    (hdg : decode cc pc = .ok (.invokestatic index, 3)) (hcat : (rest.map fun v => v.category).sum ≤ 8) (hR : d + 1 ≤ R.frames ∧ 8 + (nl + 11) + 64 * d ≤ R.locals) (hf : cells + mc ≤ R.cells ∧ slots + ms ≤ R.slots)
    (kk : ∀ (v : Option Value) (ws' : va_W) (H1 : Heap) (locs1 : List Loc), post v ws' → Wd E tt A s ws' H1 locs1 → W p l e R s m args below meth c H1 locs1 (cells + mc) (slots + ms) Q (F0 m (pc + 3) ls (v.toList ++ rest))) : W p l e R s m args below meth c H locs cells slots Q (F0 m pc ls st) := by
  obtain ⟨hx, hb, hml, hown, hts⟩ := C
  obtain ⟨y1, y3, y4, y5, y6, y7⟩ := hy
  have cb : va_CN R s args own index y host cc' nl ret (.code y cc' nl ret :: TT) (rmO d mc ms) mc ms n := va_cnB n hts (TT_good y4) rfl rfl rfl (hw.2.2.2.2.2.2.1 _ hl) (hts _ y3) ⟨y5, y6, y7⟩ hR
  refine run_back hw rfl (va_runSN (As := As) (rest := rest) ⟨hx, hb, hml, hown, hts⟩ (hC l H.size) ⟨cb, hts _ y1, trivial⟩ ⟨PW.blind, fun U hU hW => ⟨rfl, hw.pre hU hW⟩⟩ rfl hn hsz hst (lv_room hcat) hdg hf) kk
theorem kI (C : Cx p s m args c cc nL own) (hw : Wd E tt A s ws H locs) (hC : CT E tt y cc' nl none d mc ms (.ref b :: As) ws post) (hy : IY y cc' nl n) (hl : Cond.methodLink own index y ∈ TT)
    (hn : As.length = n) (hsz : ls.size = nL) (hst : st = As.reverse ++ .ref b :: rest)
    (hdg : decode cc pc = .ok (.invokespecial index, 3)) (hcat : (rest.map fun v => v.category).sum ≤ 8) (hR : d + 1 ≤ R.frames ∧ 8 + (nl + 11) + 64 * d ≤ R.locals) (hf : cells + mc ≤ R.cells ∧ slots + ms ≤ R.slots)
    (kk : ∀ (v : Option Value) (ws' : va_W) (H1 : Heap) (locs1 : List Loc), post v ws' → Wd E tt A s ws' H1 locs1 → W p l e R s m args below meth c H1 locs1 (cells + mc) (slots + ms) Q (F0 m (pc + 3) ls (v.toList ++ rest))) : W p l e R s m args below meth c H locs cells slots Q (F0 m pc ls st) := by
  obtain ⟨hx, hb, hml, hown, hts⟩ := C
  obtain ⟨y1, y2, y3, y4, y5, y6, y7⟩ := hy
  have cb : CallB R s args own index y cc' nl none (.code y cc' nl none :: TT) (rmO d mc ms) mc ms n := callB_of n hts (TT_good y4) rfl rfl rfl (hts _ y3) (hts _ hl) ⟨y5, y6, y7⟩ hR
  refine run_back hw rfl (va_runI (As := As) (rest := rest) ⟨hx, hb, hml, hown, hts⟩ (hC l H.size) ⟨cb, y2, hts _ y1⟩ ⟨PW.blind, fun U hU hW => ⟨rfl, hw.pre hU hW⟩⟩ rfl hn hsz hst (lv_room hcat) hdg hf) kk
theorem kIN (C : Cx p s m args c cc nL own) (hw : Wd E tt A s ws H locs) (hC : CT E tt y cc' nl none d mc ms (.ref b :: As) ws post) (hy : IY y cc' nl n) (hl : Cond.methodLinkNest own index y host ∈ nestW)
    (hn : As.length = n) (hsz : ls.size = nL) (hst : st = As.reverse ++ .ref b :: rest)
    (hdg : decode cc pc = .ok (.invokespecial index, 3)) (hcat : (rest.map fun v => v.category).sum ≤ 8) (hR : d + 1 ≤ R.frames ∧ 8 + (nl + 11) + 64 * d ≤ R.locals) (hf : cells + mc ≤ R.cells ∧ slots + ms ≤ R.slots)
    (kk : ∀ (v : Option Value) (ws' : va_W) (H1 : Heap) (locs1 : List Loc), post v ws' → Wd E tt A s ws' H1 locs1 → W p l e R s m args below meth c H1 locs1 (cells + mc) (slots + ms) Q (F0 m (pc + 3) ls (v.toList ++ rest))) : W p l e R s m args below meth c H locs cells slots Q (F0 m pc ls st) := by
  obtain ⟨hx, hb, hml, hown, hts⟩ := C
  obtain ⟨y1, y2, y3, y4, y5, y6, y7⟩ := hy
  have cb : va_CN R s args own index y host cc' nl none (.code y cc' nl none :: TT) (rmO d mc ms) mc ms n := va_cnB n hts (TT_good y4) rfl rfl rfl (hw.2.2.2.2.2.2.1 _ hl) (hts _ y3) ⟨y5, y6, y7⟩ hR
  refine run_back hw rfl (va_runIN (As := As) (rest := rest) ⟨hx, hb, hml, hown, hts⟩ (hC l H.size) ⟨cb, y2, hts _ y1⟩ ⟨PW.blind, fun U hU hW => ⟨rfl, hw.pre hU hW⟩⟩ rfl hn hsz hst (lv_room hcat) hdg hf) kk
/-- returns -/
theorem r_i {v : Int32} (C : Cx p s m args c cc nL own) (hr : meth.sig.returnType = some .int) (hlk : meth.locks = false) (hw : Wd E tt A s ws H locs) (hp : post (some (.int v)) ws) (hdg : decode cc pc = .ok (.ireturn, 1)) : W p l e R s m args below meth c H locs cells slots (MQ below (Fin0 E post A) args s cells slots A) (F0 m pc ls [.int v]) :=
  W.iret (v := v) C.1 C.2.1 hr (fun _ ht _ => ⟨⟨_, ws, rfl, hp, by rw [ht]; exact hw.2.1, hw.2.2.1⟩, hw.2.2.2.1.F ht⟩) hw.2.2.2.1.2.2 hdg hlk
theorem r_z {v : Int32} (C : Cx p s m args c cc nL own) (hr : meth.sig.returnType = some .boolean) (hlk : meth.locks = false) (hw : Wd E tt A s ws H locs) (hv : narrow .boolean (.int v) = .int v) (hp : post (some (.int v)) ws) (hdg : decode cc pc = .ok (.ireturn, 1)) : W p l e R s m args below meth c H locs cells slots (MQ below (Fin0 E post A) args s cells slots A) (F0 m pc ls [.int v]) :=
  W.zret (v := v) C.1 C.2.1 hr hv (fun _ ht _ => ⟨⟨_, ws, rfl, hp, by rw [ht]; exact hw.2.1, hw.2.2.1⟩, hw.2.2.2.1.F ht⟩) hw.2.2.2.1.2.2 hdg hlk
theorem r_l {v : Int64} (C : Cx p s m args c cc nL own) (hr : meth.sig.returnType = some .long) (hlk : meth.locks = false) (hw : Wd E tt A s ws H locs) (hp : post (some (.long v)) ws) (hdg : decode cc pc = .ok (.lreturn, 1)) : W p l e R s m args below meth c H locs cells slots (MQ below (Fin0 E post A) args s cells slots A) (F0 m pc ls [.long v]) :=
  W.lret (v := v) C.1 C.2.1 hr (fun _ ht _ => ⟨⟨_, ws, rfl, hp, by rw [ht]; exact hw.2.1, hw.2.2.1⟩, hw.2.2.2.1.F ht⟩) hw.2.2.2.1.2.2 hdg hlk
theorem r_v (C : Cx p s m args c cc nL own) (hr : meth.sig.returnType = none) (hlk : meth.locks = false) (hw : Wd E tt A s ws H locs) (hp : post none ws) (hdg : decode cc pc = .ok (.return_, 1)) : W p l e R s m args below meth c H locs cells slots (MQ below (Fin0 E post A) args s cells slots A) (F0 m pc ls []) :=
  W.vret C.1 C.2.1 hr (fun _ ht _ => ⟨⟨_, ws, rfl, hp, by rw [ht]; exact hw.2.1, hw.2.2.1⟩, hw.2.2.2.1.F ht⟩) hw.2.2.2.1.2.2 hdg hlk
theorem r_a {v : Option Nat} {cn : String} (C : Cx p s m args c cc nL own) (hr : meth.sig.returnType = some (.object cn)) (hlk : meth.locks = false) (hw : Wd E tt A s ws H locs) (hp : post (some (va_rf v)) ws) (hdg : decode cc pc = .ok (.areturn, 1)) : W p l e R s m args below meth c H locs cells slots (MQ below (Fin0 E post A) args s cells slots A) (F0 m pc ls [va_rf v]) :=
  W.aret (v := va_rf v) C.1 C.2.1 hr (Or.inl ⟨_, rfl⟩) (va_rf_or v) (fun _ ht _ => ⟨⟨_, ws, rfl, hp, by rw [ht]; exact hw.2.1, hw.2.2.1⟩, hw.2.2.2.1.F ht⟩) hw.2.2.2.1.2.2 hdg hlk
end CTX
/-- a contract out of its walk -/
theorem CT.mk {E : cE} {tt : Nat × Nat × Nat} {y : MethodName} {cc : ByteArray} {nl : Nat} {ret : Option FieldType} {d mc ms : Nat} {av : List Value} {ws : va_W} {post : Option Value → va_W → Prop} (hy : plainName y.cls = true) (hlen : (lg_sl av).length ≤ nl)
    (body : ∀ (l : Launch) (p : Program) (e : Env) (s : State) (m : MethodId) (below : List Frame) (meth : Method) (c : Code) (A : Nat → Prop) (ls : Array Slot), Cx p s m av.toArray c cc nl y.cls → meth.sig.returnType = ret → meth.locks = false → meth.name = y.name → Wd E tt A s ws s.heap [] → lv_has ls nl (lv_args 0 av) →
      W p l e (rmO d mc ms) s m av.toArray below meth c s.heap [] 0 0 (MQ below (Fin0 E post A) av.toArray s mc ms A) (F0 m 0 ls [])) : CT E tt y cc nl ret d mc ms av ws post := by
  intro l sz
  refine Met.ofW (cc := cc) (maxL := nl) (ret := ret) hy rfl ?_
  intro p e s m args below meth c s₁ B hml hv
  obtain ⟨rfl, hsz, hK, hP, hD0, hE, hN⟩ := hv
  subst hsz
  have hts := atoms_spec (ws := Cond.code y cc nl ret :: TT) B.pre
  have hown : s.vm.findClass y.cls = some m.cls := findClass_of_methodNamed B.named
  have hl := lv_entry av (n := nl) hlen
  rw [lg_entry_eq]
  exact body l p e s m below meth c (va_A ws s.heap.size) _ ⟨B.exec, B.bytes, hml, hown, fun w hw => hts w (List.mem_cons_of_mem _ hw)⟩ B.returns B.notSynchronized (name_of_methodNamed B.named B.method).1 ⟨hK, hP, hD0.self, va_S.rf, fun _ h => Or.inr h, hE, hN⟩ hl
