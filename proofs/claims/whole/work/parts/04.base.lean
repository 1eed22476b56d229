/-! ===== base: the words that keep, the frame of all contracts, calls ===== -/
def BG : List Cond := lw_tbl.filter goodWord
theorem BG_m {w : Cond} (i : Nat) (h : lw_tbl[i]? = some w) (hg : goodWord w = true) : w ∈ BG := List.mem_filter.mpr ⟨List.mem_of_getElem? h, hg⟩
theorem BG_in {c0 c1 : Cond} (h1 : c1 ∈ BG) : GoodIn (c0 :: BG) (c1 :: BG) := by
  have hg : ∀ w ∈ BG, w ∈ c0 :: BG ∧ ((w.onTables && w.keeps) = true ∨ ∃ ty, w = .arrayClass ty) := fun w h => ⟨List.mem_cons_of_mem _ h, good_of_word (List.mem_filter.mp h).2⟩
  intro w hw
  rcases List.mem_cons.mp hw with rfl | h
  · exact hg _ h1
  · exact hg _ h
/-- the layout: D, (int[], boolean[], Object[]), the addresses of the fixed cells, the String constants and their bytes -/
abbrev GX : Type := va_G × (ClassId × ClassId × ClassId) × (Nat → Nat) × (Nat → Nat) × (Nat → Nat)
def gA (G : GX) : Nat → Prop := fun q => ∃ k, k < 400 ∧ q = G.2.2.1 k
def cA (G : GX) : Nat → Prop := fun q => ∃ k, k < 205 ∧ q = G.2.2.1 k
def rA (G : GX) : Nat → Prop := fun q => ∃ k, 300 ≤ k ∧ k < 318 ∧ q = G.2.2.1 k
theorem cA_g {G : GX} : ∀ q, cA G q → gA G q := fun _ ⟨k, h, e⟩ => ⟨k, by omega, e⟩
theorem rA_g {G : GX} : ∀ q, rA G q → gA G q := fun _ ⟨k, _, h, e⟩ => ⟨k, by omega, e⟩
def gSo : List String := [RX10, RX10, RX10, RX10, RX10, RX10, RX10, RX10, RX12, RX12, RX12, RX12, RX12, RX12, RX12, RX12]
def gSi : List Nat := [138, 140, 142, 144, 146, 148, 150, 152, 109, 115, 117, 119, 121, 123, 125, 127]
def gSt : List String := ["column", "least", "most", "break", "wide", "feast", "form", "bar", "orm ", "east ", "ar ", "reak ", "column ", "least ", "most ", "wide "]
def gLen : List Nat := [6, 5, 4, 5, 4, 5, 4, 3, 4, 5, 3, 5, 7, 6, 5, 5]
def gByt : List (List Int32) := [[99, 111, 108, 117, 109, 110], [108, 101, 97, 115, 116], [109, 111, 115, 116], [98, 114, 101, 97, 107], [119, 105, 100, 101], [102, 101, 97, 115, 116], [102, 111, 114, 109], [98, 97, 114], [111, 114, 109, 32], [101, 97, 115, 116, 32], [97, 114, 32], [114, 101, 97, 107, 32], [99, 111, 108, 117, 109, 110, 32], [108, 101, 97, 115, 116, 32], [109, 111, 115, 116, 32], [119, 105, 100, 101, 32]]
abbrev gTy (G : GX) : List (ClassId × FieldType) := [(G.2.1.1, .int), (G.2.1.2.1, .boolean), (G.2.1.2.2, .object "java/lang/Object")]
def gNest : Cond → Bool
  | .fieldLinkNest .. => true
  | .methodLinkNest .. => true
  | .castable .. => true
  | _ => false
theorem gNest_warm {w : Cond} (h : gNest w = true) {s U : State} (hW : s.WarmedH U.vm) (hZ : va_Nw w s) : va_Nw w U := by
  cases w <;> first | exact va_Nw.warmF hW hZ | exact va_Nw.warmM hW hZ | exact va_Nw.warmC hW hZ | exact absurd h (by decide) | (simp [gNest] at h)
theorem gNest_same {w : Cond} (h : gNest w = true) {u U : State} (hv : u.vm = U.vm) (hZ : va_Nw w u) : va_Nw w U := by
  cases w <;> first | exact va_Nw.same rfl hv hZ | (simp [gNest] at h)
def gK (G : GX) (U : State) : Prop := va_K G.1 vwCl (gTy G) U ∧ vk_S 16 gLen gByt G.2.2.2.1 G.2.2.2.2 (gA G) U U.heap ∧ (∀ i, i < 16 → vk_R (gSo.getD i "") (gSi.getD i 0) (gSt.getD i "") (G.2.2.2.1 i) U) ∧ va_Z "java/lang/String" "COMPACT_STRINGS" "Z" (.int 1) (gA G) U U.heap ∧ va_Zq "jdk/internal/util/Preconditions" "SIOOBE_FORMATTER" "Ljava/util/function/BiFunction;" (gA G) U U.heap ∧ (∀ w ∈ lw_tbl, gNest w = true → va_Nw w U)
theorem gK.blind {G : GX} {U : State} (h : gK G U) (g : JFrame) (mk : MethodId) (a : Array Value) : gK G (U.calling g mk a) :=
  ⟨va_K.moved (u := U) (Vm.Alike.refl U.vm) h.1, vk_S.moved (u := U) (Vm.Alike.refl U.vm) h.2.1, fun i hi => vk_R.same (u := U) rfl (h.2.2.1 i hi), va_Z.moved (u := U) (Vm.Alike.refl U.vm) h.2.2.2.1, va_Zq.moved (u := U) (Vm.Alike.refl U.vm) h.2.2.2.2.1, fun w hw hn => gNest_same hn (u := U) rfl (h.2.2.2.2.2 w hw hn)⟩
theorem gK.carry {G : GX} {A : Nat → Prop} (hAG : ∀ q, A q → gA G q) {s U : State} {H : Heap} {locs : List Loc} (h : gK G s) (hS : va_S A s.heap H locs) (hU : U.heap = H) (hW : s.WarmedH U.vm) : gK G U := by
  have hq : ∀ a : Nat, a < s.heap.size → ¬ gA G a → U.heap[a]? = s.heap[a]? := fun a h1 h2 => by rw [hU]; exact hS.2.1 a h1 (fun z => h2 (hAG a z))
  exact ⟨va_K.moved hW.alike h.1, (vk_S.moved hW.alike h.2.1).kept hq, fun i hi => vk_R.warm hW (h.2.2.1 i hi), (va_Z.moved hW.alike h.2.2.2.1).kept hq, (va_Zq.moved hW.alike h.2.2.2.2.1).kept hq, fun w hw hn => gNest_warm hn hW (h.2.2.2.2.2 w hw hn)⟩

/-- what stands in a method's body -/
abbrev CX (G : GX) (p : Program) (s : State) (m : MethodId) (args : Array Value) (meth : Method) (c : Code) (y : MethodName) (cc : ByteArray) (nL : Nat) (ret : Option FieldType) : Prop :=
  CallFix p m c cc nL s args (Cond.code y cc nL ret :: BG) y.cls ∧ meth.sig.returnType = ret ∧ meth.locks = false ∧ gK G s
theorem CX.n {G : GX} {p : Program} {s : State} {m : MethodId} {args : Array Value} {meth : Method} {c : Code} {y : MethodName} {cc : ByteArray} {nL : Nat} {ret : Option FieldType} (X : CX G p s m args meth c y cc nL ret) {w : Cond} (h : w ∈ lw_tbl) (hn : gNest w = true) : va_Nw w s := X.2.2.2.2.2.2.2.2 w h hn
theorem CX.w {G : GX} {p : Program} {s : State} {m : MethodId} {args : Array Value} {meth : Method} {c : Code} {y : MethodName} {cc : ByteArray} {nL : Nat} {ret : Option FieldType} (X : CX G p s m args meth c y cc nL ret) {w : Cond} (h : w ∈ BG) : w.before args s = true := X.1.2.2.2.2 w (List.mem_cons_of_mem _ h)
abbrev QI (A : Nat → Prop) (P' : Heap → Prop) (r : Int32) : Array Value → State → Outcome → State → Prop := va_Qi (fun x (_ : Unit) => x = r) (fun _ t => P' t.heap) A
abbrev QV (A : Nat → Prop) (P' : Heap → Prop) : Array Value → State → Outcome → State → Prop := va_Qv (fun (_ : Unit) => True) (fun _ t => P' t.heap) A
/-- answers the cell a -/
abbrev QR (A : Nat → Prop) (P' : Heap → Prop) (a0 : Nat) : Array Value → State → Outcome → State → Prop := va_Qr (fun (_ : Unit) => True) (fun _ a t => a = a0 ∧ P' t.heap) A
abbrev PC (G : GX) (As : List Value) (P : Heap → Prop) : Array Value → State → Prop := va_Pc As (fun U => P U.heap ∧ gK G U)
abbrev MI (l : Launch) (G : GX) (y : MethodName) (cc : ByteArray) (nL : Nat) (ret : Option FieldType) (rm : Room) (As : List Value) (A : Nat → Prop) (P P' : Heap → Prop) (r : Int32) : Prop := Met l y (Cond.code y cc nL ret :: BG) rm (PC G As P) (QI A P' r) 0 0 A
abbrev MV (l : Launch) (G : GX) (y : MethodName) (cc : ByteArray) (nL : Nat) (rm : Room) (As : List Value) (A : Nat → Prop) (P P' : Heap → Prop) : Prop := Met l y (Cond.code y cc nL none :: BG) rm (PC G As P) (QV A P') 0 0 A
abbrev MR (l : Launch) (G : GX) (y : MethodName) (cc : ByteArray) (nL : Nat) (ret : Option FieldType) (rm : Room) (As : List Value) (A : Nat → Prop) (P P' : Heap → Prop) (a0 : Nat) : Prop := Met l y (Cond.code y cc nL ret :: BG) rm (PC G As P) (QR A P' a0) 0 0 A
theorem PC_blind {G : GX} {As : List Value} {P : Heap → Prop} : FrameBlind (PC G As P) := fun a U g mk q => ⟨q.1, q.2.1, q.2.2.blind g mk a⟩
theorem met_of {l : Launch} {y : MethodName} {ws ws' : List Cond} {rm : Room} {Pc : Array Value → State → Prop} {Qc : Array Value → State → Outcome → State → Prop} {mc ms : Nat} {free : Addr → Prop} {cc : ByteArray} {maxL : Nat} {ret : Option FieldType}
    (hy : plainFor y = true) (hw : ws = Cond.code y cc maxL ret :: ws')
    (body : ∀ p e s m args below meth c s₁, BodyLoose p l y (headSpec ws rm) cc maxL ret e s m args below meth c s₁ → c.maxLocals = maxL → Pc args s →
      W p l e (headSpec ws rm).room s m args below meth c s.heap [] 0 0 (MQ below Qc args s mc ms free) (entryFrame m args maxL)) : Met l y ws rm Pc Qc mc ms free := by
  refine MetFree.of_bodySF (code := cc) (maxLocals := maxL) (ret := ret) hy ?_ ?_
  · intro args s m h hn
    obtain ⟨meth, c, h1, h2, h3, h4, h5, h6, -, -⟩ := Cond.code_spec hn (atoms_spec (ws := ws) h _ (by rw [hw]; exact List.mem_cons_self))
    exact ⟨meth, c, h1, h2, h3, h4, h5, h6⟩
  · intro p e s m args below meth c s₁ B hml hP _
    have hh0 : s₁.heap = s.heap := by rw [B.state]; rfl
    obtain ⟨t, a1, o, b1, b2, b3⟩ := body p e s m args below meth c s₁ B hml hP s₁ hh0 (Stand.of_body B)
    exact ⟨t, o, a1, b1, b2, ⟨b3.1, b3.2⟩⟩
theorem cM_start {l : Launch} {G : GX} {y : MethodName} {cc : ByteArray} {nL : Nat} {ret : Option FieldType} {rm : Room} {As : List Value} {P : Heap → Prop} {Qc : Array Value → State → Outcome → State → Prop} {A : Nat → Prop} (hy : plainFor y = true) (hle : (lg_sl As).length ≤ nL)
    (body : ∀ (p : Program) (e : Env) (s : State) (m : MethodId) (below : List Frame) (meth : Method) (c : Code) (ls : Array Slot), CX G p s m As.toArray meth c y cc nL ret → P s.heap → lv_has ls nL (lv_args 0 As) →
      W p l e rm s m As.toArray below meth c s.heap [] 0 0 (MQ below Qc As.toArray s 0 0 A) (F0 m 0 ls [])) : Met l y (Cond.code y cc nL ret :: BG) rm (PC G As P) Qc 0 0 A := by
  refine met_of (cc := cc) (maxL := nL) (ret := ret) hy rfl ?_
  intro p e s m args below meth c s₁ B hml hv
  obtain ⟨rfl, hP, hK⟩ := hv
  rw [lg_entry_eq]
  exact body p e s m below meth c _ ⟨⟨B.exec, B.bytes, hml, findClass_of_methodNamed B.named, atoms_spec (ws := Cond.code y cc nL ret :: BG) B.pre⟩, B.returns, B.notSynchronized, hK⟩ hP (lv_entry As hle)
section GCALL
variable {p : Program} {l : Launch} {e : Env} {R : Room} {s : State} {m : MethodId} {args : Array Value} {below : List Frame} {meth : Method} {c : Code} {H : Heap} {locs : List Loc} {Q : State → Prop}
variable {G : GX} {y y' : MethodName} {cc cc' : ByteArray} {nL nL' idx pc b : Nat} {ret ret' : Option FieldType} {rm : Room} {As rest st0 : List Value} {A : Nat → Prop} {P P' : Heap → Prop} {C : String} {ls : Array Slot} {lv : List (Nat × Value)}
/-- what a call asks of the names -/
abbrev CN (y' : MethodName) (n : Nat) : Prop := y'.cls ≠ "java/lang/invoke/MethodHandle" ∧ y'.cls ≠ "java/lang/invoke/VarHandle" ∧ (parseMethodDescriptor y'.desc).map (fun d => d.parameters.length) = some n
abbrev CR (rm R : Room) (nL' : Nat) : Prop := rm.cells = 0 ∧ rm.slots = 0 ∧ rm.frames + 1 ≤ R.frames ∧ 8 + (nL' + 11) + rm.locals ≤ R.locals
theorem cB (X : CX G p s m args meth c y cc nL ret) (h1 : Cond.methodLink y.cls idx y' ∈ BG) (h4 : Cond.initialized y'.cls ∈ BG) (h5 : Cond.code y' cc' nL' ret' ∈ BG) {n : Nat} (hd : CN y' n) (hr : CR rm R nL') :
    CallB R s args y.cls idx y' cc' nL' ret' (Cond.code y' cc' nL' ret' :: BG) rm 0 0 n := callB_of n X.1.2.2.2.2 (BG_in h5) rfl hr.1 hr.2.1 (X.w h4) (X.w h1) hd ⟨hr.2.2.1, hr.2.2.2⟩
theorem cP (X : CX G p s m args meth c y cc nL ret) (hAG : ∀ q, A q → gA G q) (hP : P H) (hS : va_S A s.heap H locs) (As : List Value) : PreS s H (PC G As P) As := ⟨PC_blind, fun U hU hW => ⟨rfl, by rw [hU]; exact hP, X.2.2.2.carry hAG hS hU hW⟩⟩
abbrev REC (s : State) (H : Heap) (C : String) (b : Nat) : Prop := ∃ cellB : Cell, H[b]? = some cellB ∧ cellB.vm.isStatics = false ∧ s.vm.findClass C = some cellB.cls
theorem cVrun {Qc : Array Value → State → Outcome → State → Prop} (X : CX G p s m args meth c y cc nL ret) (hM : Met l y' (Cond.code y' cc' nL' ret' :: BG) rm (PC G (.ref b :: As) P) Qc 0 0 A) (h1 : Cond.methodLink y.cls idx y' ∈ BG) (h2 : Cond.instanceMethod y' ∈ BG) (h3 : Cond.selects C y' y' ∈ BG) (h4 : Cond.initialized y'.cls ∈ BG) (h5 : Cond.code y' cc' nL' ret' ∈ BG) (hd : CN y' As.length) (hr : CR rm R nL')
    (hrec : REC s H C b) (hAG : ∀ q, A q → gA G q) (hP : P H) (hS : va_S A s.heap H locs) (hl : lv_has ls nL lv) (hst : st0 = As.reverse ++ .ref b :: rest) (hW : (rest.map fun v => v.category).sum ≤ 8) (hdg : decode cc pc = .ok (.invokevirtual idx, 3)) :
    va_Run p l e R s m args below meth c H locs 0 0 0 0 (F0 m pc ls st0) rest (Qc (Value.ref b :: As).toArray) A :=
  va_runV X.1 hM ⟨cB X h1 h4 h5 hd hr, X.w h2, X.w h3⟩ ⟨PC_blind, hrec, (cP X hAG hP hS (.ref b :: As)).2⟩ rfl rfl hl.1 hst (lv_room hW) hdg ⟨Nat.zero_le _, Nat.zero_le _⟩
theorem cSrun {Qc : Array Value → State → Outcome → State → Prop} (X : CX G p s m args meth c y cc nL ret) (hM : Met l y' (Cond.code y' cc' nL' ret' :: BG) rm (PC G As P) Qc 0 0 A) (h1 : Cond.methodLink y.cls idx y' ∈ BG) (h2 : Cond.static y' ∈ BG) (h4 : Cond.initialized y'.cls ∈ BG) (h5 : Cond.code y' cc' nL' ret' ∈ BG) (hd : CN y' As.length) (hr : CR rm R nL')
    (hAG : ∀ q, A q → gA G q) (hP : P H) (hS : va_S A s.heap H locs) (hl : lv_has ls nL lv) (hst : st0 = As.reverse ++ rest) (hW : (rest.map fun v => v.category).sum ≤ 8) (hdg : decode cc pc = .ok (.invokestatic idx, 3)) :
    va_Run p l e R s m args below meth c H locs 0 0 0 0 (F0 m pc ls st0) rest (Qc As.toArray) A :=
  va_runS X.1 hM ⟨cB X h1 h4 h5 hd hr, X.w h2⟩ (cP X hAG hP hS As) rfl rfl hl.1 hst (lv_room hW) hdg ⟨Nat.zero_le _, Nat.zero_le _⟩
theorem cSNrun {host : String} {Qc : Array Value → State → Outcome → State → Prop} (X : CX G p s m args meth c y cc nL ret) (hM : Met l y' (Cond.code y' cc' nL' ret' :: BG) rm (PC G As P) Qc 0 0 A) (h1 : Cond.methodLinkNest y.cls idx y' host ∈ lw_tbl) (h2 : Cond.static y' ∈ BG) (h4 : Cond.initialized y'.cls ∈ BG) (h5 : Cond.code y' cc' nL' ret' ∈ BG) (hd : CN y' As.length) (hr : CR rm R nL')
    (hAG : ∀ q, A q → gA G q) (hP : P H) (hS : va_S A s.heap H locs) (hl : lv_has ls nL lv) (hst : st0 = As.reverse ++ rest) (hW : (rest.map fun v => v.category).sum ≤ 8) (hdg : decode cc pc = .ok (.invokestatic idx, 3)) :
    va_Run p l e R s m args below meth c H locs 0 0 0 0 (F0 m pc ls st0) rest (Qc As.toArray) A :=
  va_runSN X.1 hM ⟨va_cnB As.length X.1.2.2.2.2 (BG_in h5) rfl hr.1 hr.2.1 (X.n h1 rfl) (X.w h4) hd ⟨hr.2.2.1, hr.2.2.2⟩, X.w h2, trivial⟩ (cP X hAG hP hS As) rfl rfl hl.1 hst (lv_room hW) hdg ⟨Nat.zero_le _, Nat.zero_le _⟩
/-- behind a call that answers an int / nothing / a cell -/
theorem cGi {a : Array Value} {r : Int32} (hr : va_Run p l e R s m args below meth c H locs 0 0 0 0 (F0 m pc ls st0) rest (QI A P' r a) A) (hS : va_S A s.heap H locs)
    (kk : ∀ (H1 : Heap) (locs1 : List Loc), P' H1 → va_S A s.heap H1 locs1 → W p l e R s m args below meth c H1 locs1 0 0 Q (F0 m (pc + 3) ls (.int r :: rest))) : W p l e R s m args below meth c H locs 0 0 Q (F0 m pc ls st0) :=
  va_calli hr hS (fun _ _ h => h) (fun _ h => h) (fun r' _ t H1 locs1 ht _ hp hb _ _ hS1 => by cases hp; exact kk H1 locs1 (by rw [← ht]; exact hb) hS1)
theorem cGv {a : Array Value} (hr : va_Run p l e R s m args below meth c H locs 0 0 0 0 (F0 m pc ls st0) rest (QV A P' a) A) (hS : va_S A s.heap H locs)
    (kk : ∀ (H1 : Heap) (locs1 : List Loc), P' H1 → va_S A s.heap H1 locs1 → W p l e R s m args below meth c H1 locs1 0 0 Q (F0 m (pc + 3) ls rest)) : W p l e R s m args below meth c H locs 0 0 Q (F0 m pc ls st0) :=
  va_callv hr hS (fun _ _ h => h) (fun _ h => h) (fun _ t H1 locs1 ht _ _ hb _ _ hS1 => kk H1 locs1 (by rw [← ht]; exact hb) hS1)
theorem cGr {a : Array Value} {a0 : Nat} (hr : va_Run p l e R s m args below meth c H locs 0 0 0 0 (F0 m pc ls st0) rest (QR A P' a0 a) A) (hS : va_S A s.heap H locs)
    (kk : ∀ (H1 : Heap) (locs1 : List Loc), P' H1 → va_S A s.heap H1 locs1 → W p l e R s m args below meth c H1 locs1 0 0 Q (F0 m (pc + 3) ls (.ref a0 :: rest))) : W p l e R s m args below meth c H locs 0 0 Q (F0 m pc ls st0) :=
  va_callr hr hS (fun _ _ h => h) (fun _ h => h) (fun _ a t H1 locs1 ht _ _ hb _ _ hS1 => by obtain ⟨rfl, hb⟩ := hb; exact kk H1 locs1 (by rw [← ht]; exact hb) hS1)
/-- ends -/
theorem cEi {r v : Int32} (X : CX G p s m args meth c y cc nL (some .int)) (hP : P' H) (hS : va_S A s.heap H locs) (hv : v = r) (hdg : decode cc pc = .ok (.ireturn, 1)) : W p l e R s m args below meth c H locs 0 0 (MQ below (QI A P' r) args s 0 0 A) (F0 m pc ls [.int v]) :=
  W.iret X.1.1 X.1.2.1 X.2.1 (fun t ht _ => ⟨⟨v, (), rfl, hv, by show P' t.heap; rw [ht]; exact hP⟩, hS.F ht⟩) hS.2.2 hdg X.2.2.1
theorem cEz {r v : Int32} (X : CX G p s m args meth c y cc nL (some .boolean)) (hP : P' H) (hS : va_S A s.heap H locs) (hv : v = r) (hn : narrow .boolean (.int v) = .int v) (hdg : decode cc pc = .ok (.ireturn, 1)) : W p l e R s m args below meth c H locs 0 0 (MQ below (QI A P' r) args s 0 0 A) (F0 m pc ls [.int v]) :=
  W.zret X.1.1 X.1.2.1 X.2.1 hn (fun t ht _ => ⟨⟨v, (), rfl, hv, by show P' t.heap; rw [ht]; exact hP⟩, hS.F ht⟩) hS.2.2 hdg X.2.2.1
theorem cEv (X : CX G p s m args meth c y cc nL none) (hP : P' H) (hS : va_S A s.heap H locs) (hdg : decode cc pc = .ok (.return_, 1)) : W p l e R s m args below meth c H locs 0 0 (MQ below (QV A P') args s 0 0 A) (F0 m pc ls []) :=
  W.vret X.1.1 X.1.2.1 X.2.1 (fun t ht _ => ⟨⟨(), rfl, trivial, by show P' t.heap; rw [ht]; exact hP⟩, hS.F ht⟩) hS.2.2 hdg X.2.2.1
theorem cEr {a0 : Nat} {rt : FieldType} (X : CX G p s m args meth c y cc nL (some rt)) (hrt : (∃ n, rt = .object n) ∨ ∃ t, rt = .array t) (hP : P' H) (hS : va_S A s.heap H locs) (hdg : decode cc pc = .ok (.areturn, 1)) : W p l e R s m args below meth c H locs 0 0 (MQ below (QR A P' a0) args s 0 0 A) (F0 m pc ls [.ref a0]) :=
  W.aret X.1.1 X.1.2.1 X.2.1 hrt (Or.inr ⟨_, rfl⟩) (fun t ht _ => ⟨⟨(), a0, rfl, trivial, rfl, by show P' t.heap; rw [ht]; exact hP⟩, hS.F ht⟩) hS.2.2 hdg X.2.2.1
end GCALL
/-! worlds of fixed cells -/
def gW (ρ : Nat → Nat) (b n : Nat) (e : Nat → va_E) : va_W := (List.range n).map fun k => (ρ (b + k), e k)
theorem gW_at {ρ : Nat → Nat} {b n : Nat} {e : Nat → va_E} (k : Nat) (hk : k < n) : (gW ρ b n e)[k]? = some (ρ (b + k), e k) := by simp [gW, hk]
theorem gW_set {ρ : Nat → Nat} {b n : Nat} {e e' : Nat → va_E} (k : Nat) (h : ∀ j, j < n → j ≠ k → e' j = e j) {x : va_E} (hx : e' k = x) : (gW ρ b n e).set k (ρ (b + k), x) = gW ρ b n e' := by
  subst hx
  apply List.ext_getElem?
  intro i
  by_cases hi : i < n
  · by_cases hk : k = i
    · subst hk
      rw [gW_at k hi, List.getElem?_set_self (by simp [gW, hi])]
    · rw [List.getElem?_set_ne hk, gW_at i hi, gW_at i hi, h i hi (fun z => hk z.symm)]
  · rw [List.getElem?_eq_none (by simp [gW]; omega), List.getElem?_eq_none (by simp [gW]; omega)]
/-- the worlds: contents of the arrays by number, sizes of the rows, the scalars -/
abbrev CW : Type := (Nat → Nat → Int32) × (Nat → Int32) × (Nat → Int32)
def sC (w : CW) (k i : Nat) (v : Int32) : CW := (fun a => if a = k then upd (w.1 k) i v else w.1 a, w.2.1, w.2.2)
def sF (w : CW) (k : Nat) (f : Nat → Int32) : CW := (fun a => if a = k then f else w.1 a, w.2.1, w.2.2)
def sN (w : CW) (k : Nat) (v : Int32) : CW := (w.1, fun a => if a = k then v else w.2.1 a, w.2.2)
def sS (w : CW) (j : Nat) (v : Int32) : CW := (w.1, w.2.1, fun a => if a = j then v else w.2.2 a)
def capL : List Nat := [1, 120, 8, 8, 9, 9, 72, 72, 72, 72, 10, 600, 27, 27, 27, 20, 20, 540, 4, 4, 12, 12, 12, 40, 40, 40, 40, 7, 10, 30, 6, 6, 6, 20, 20, 20, 8, 72, 72, 72, 60, 60, 60, 9, 9, 9, 7503, 61, 27, 60, 40, 7, 7, 10, 10, 1024, 1024, 1024, 1, 120, 8, 8, 9, 9, 72, 72, 72, 72, 10, 600, 27, 27, 27, 20, 20, 540, 4, 4, 12, 12, 12, 40, 40, 40, 40, 7, 10, 30, 6, 6, 6, 20, 20, 20, 8]
def cp (k : Nat) : Nat := capL.getD k 0
def cE (G : GX) (w : CW) (k : Nat) : va_E :=
  if k < 95 then .inr (6, [.ref (G.2.2.1 (95 + k)), .int (w.2.1 k)])
  else if k < 190 then .inl (G.2.1.1, cp (k - 95), .inl (w.1 (k - 95)))
  else if k = 190 then .inr (12, [.ref (G.2.2.1 191), .ref (G.2.2.1 0), .ref (G.2.2.1 1), .ref (G.2.2.1 192), .ref (G.2.2.1 193), .ref (G.2.2.1 194), .ref (G.2.2.1 195), .ref (G.2.2.1 196), .ref (G.2.2.1 197), .ref (G.2.2.1 198), .ref (G.2.2.1 199), .ref (G.2.2.1 200), .int (w.2.2 10)])
  else if k = 191 then .inr (8, [.ref (G.2.2.1 201), .ref (G.2.2.1 202)])
  else if k = 192 then .inr (11, [.ref (G.2.2.1 1), .ref (G.2.2.1 2), .ref (G.2.2.1 3), .ref (G.2.2.1 4), .ref (G.2.2.1 5), .ref (G.2.2.1 6), .ref (G.2.2.1 7), .ref (G.2.2.1 8), .ref (G.2.2.1 9), .int (w.2.2 0)])
  else if k = 193 then .inr (1, [.int (w.2.2 1), .int (w.2.2 2), .int (w.2.2 3), .int (w.2.2 4), .int (w.2.2 5), .ref (G.2.2.1 37), .ref (G.2.2.1 38), .ref (G.2.2.1 39)])
  else if k = 194 then .inr (10, [.ref (G.2.2.1 10), .ref (G.2.2.1 11)])
  else if k = 195 then .inr (9, [.ref (G.2.2.1 12), .ref (G.2.2.1 13), .ref (G.2.2.1 14), .ref (G.2.2.1 15), .ref (G.2.2.1 16), .ref (G.2.2.1 17)])
  else if k = 196 then .inr (7, [.ref (G.2.2.1 193), .ref (G.2.2.1 12), .ref (G.2.2.1 40), .ref (G.2.2.1 41), .ref (G.2.2.1 42), .ref (G.2.2.1 43), .ref (G.2.2.1 44), .ref (G.2.2.1 45), .ref (G.2.2.1 46), .ref (G.2.2.1 47), .ref (G.2.2.1 48), .ref (G.2.2.1 49), .int (w.2.2 6), .int (w.2.2 7), .int (w.2.2 8), .int (w.2.2 9)])
  else if k = 197 then .inr (5, [.ref (G.2.2.1 18), .ref (G.2.2.1 19), .ref (G.2.2.1 20), .ref (G.2.2.1 21), .ref (G.2.2.1 22)])
  else if k = 198 then .inr (3, [.ref (G.2.2.1 23), .ref (G.2.2.1 24), .ref (G.2.2.1 25), .ref (G.2.2.1 26), .ref (G.2.2.1 50)])
  else if k = 199 then .inr (2, [.ref (G.2.2.1 27), .ref (G.2.2.1 28), .ref (G.2.2.1 29), .ref (G.2.2.1 51), .ref (G.2.2.1 52), .ref (G.2.2.1 53), .ref (G.2.2.1 54), .ref (G.2.2.1 55), .ref (G.2.2.1 56), .ref (G.2.2.1 57)])
  else if k = 200 then .inr (4, [.ref (G.2.2.1 30), .ref (G.2.2.1 31), .ref (G.2.2.1 32), .ref (G.2.2.1 33), .ref (G.2.2.1 34), .ref (G.2.2.1 35), .ref (G.2.2.1 36)])
  else if k = 201 then .inr (0, [.int 37, .ref (G.2.2.1 203), .int 37])
  else if k = 202 then .inr (0, [.int 37, .ref (G.2.2.1 204), .int 37])
  else if k = 203 then .inl (G.2.1.2.2, 49, .inr (.inr (.inr (.inr fun i => if i < 37 then some (G.2.2.1 i) else none))))
  else .inl (G.2.1.2.2, 49, .inr (.inr (.inr (.inr fun i => if i < 37 then some (G.2.2.1 (58 + i)) else none))))
def cWs (G : GX) (w : CW) : va_W := gW G.2.2.1 0 205 (cE G w)
def cH (G : GX) (w : CW) (H : Heap) : Prop := va_P G.1 vwCl (cWs G w) H ∧ va_D (cA G) (cWs G w)
theorem cE_row {G : GX} {w : CW} {k : Nat} (h : k < 95) : cE G w k = .inr (6, [.ref (G.2.2.1 (95 + k)), .int (w.2.1 k)]) := by unfold cE; rw [if_pos h]
theorem cE_arr {G : GX} {w : CW} {k : Nat} (h : k < 95) : cE G w (95 + k) = .inl (G.2.1.1, cp k, .inl (w.1 k)) := by
  unfold cE; rw [if_neg (by omega), if_pos (by omega), Nat.add_sub_cancel_left]
theorem cWs_at {G : GX} {w : CW} (k : Nat) (hk : k < 205) {x : va_E} (hx : cE G w k = x) : (cWs G w)[k]? = some (G.2.2.1 k, x) := by
  subst hx
  have h := gW_at (ρ := G.2.2.1) (b := 0) (n := 205) (e := cE G w) k hk
  rw [Nat.zero_add] at h
  exact h
theorem cWs_set {G : GX} {w w' : CW} (k : Nat) (h : ∀ j, j < 205 → j ≠ k → cE G w' j = cE G w j) {x : va_E} (hx : cE G w' k = x) : (cWs G w).set k (G.2.2.1 k, x) = cWs G w' := by
  have h := gW_set (ρ := G.2.2.1) (b := 0) (n := 205) k h hx
  rw [Nat.zero_add] at h
  exact h
theorem eO190 {G : GX} {w : CW} : cE G w 190 = .inr (12, [.ref (G.2.2.1 191), .ref (G.2.2.1 0), .ref (G.2.2.1 1), .ref (G.2.2.1 192), .ref (G.2.2.1 193), .ref (G.2.2.1 194), .ref (G.2.2.1 195), .ref (G.2.2.1 196), .ref (G.2.2.1 197), .ref (G.2.2.1 198), .ref (G.2.2.1 199), .ref (G.2.2.1 200), .int (w.2.2 10)]) := rfl
theorem eO191 {G : GX} {w : CW} : cE G w 191 = .inr (8, [.ref (G.2.2.1 201), .ref (G.2.2.1 202)]) := rfl
theorem eO192 {G : GX} {w : CW} : cE G w 192 = .inr (11, [.ref (G.2.2.1 1), .ref (G.2.2.1 2), .ref (G.2.2.1 3), .ref (G.2.2.1 4), .ref (G.2.2.1 5), .ref (G.2.2.1 6), .ref (G.2.2.1 7), .ref (G.2.2.1 8), .ref (G.2.2.1 9), .int (w.2.2 0)]) := rfl
theorem eO193 {G : GX} {w : CW} : cE G w 193 = .inr (1, [.int (w.2.2 1), .int (w.2.2 2), .int (w.2.2 3), .int (w.2.2 4), .int (w.2.2 5), .ref (G.2.2.1 37), .ref (G.2.2.1 38), .ref (G.2.2.1 39)]) := rfl
theorem eO194 {G : GX} {w : CW} : cE G w 194 = .inr (10, [.ref (G.2.2.1 10), .ref (G.2.2.1 11)]) := rfl
theorem eO195 {G : GX} {w : CW} : cE G w 195 = .inr (9, [.ref (G.2.2.1 12), .ref (G.2.2.1 13), .ref (G.2.2.1 14), .ref (G.2.2.1 15), .ref (G.2.2.1 16), .ref (G.2.2.1 17)]) := rfl
theorem eO196 {G : GX} {w : CW} : cE G w 196 = .inr (7, [.ref (G.2.2.1 193), .ref (G.2.2.1 12), .ref (G.2.2.1 40), .ref (G.2.2.1 41), .ref (G.2.2.1 42), .ref (G.2.2.1 43), .ref (G.2.2.1 44), .ref (G.2.2.1 45), .ref (G.2.2.1 46), .ref (G.2.2.1 47), .ref (G.2.2.1 48), .ref (G.2.2.1 49), .int (w.2.2 6), .int (w.2.2 7), .int (w.2.2 8), .int (w.2.2 9)]) := rfl
theorem eO197 {G : GX} {w : CW} : cE G w 197 = .inr (5, [.ref (G.2.2.1 18), .ref (G.2.2.1 19), .ref (G.2.2.1 20), .ref (G.2.2.1 21), .ref (G.2.2.1 22)]) := rfl
theorem eO198 {G : GX} {w : CW} : cE G w 198 = .inr (3, [.ref (G.2.2.1 23), .ref (G.2.2.1 24), .ref (G.2.2.1 25), .ref (G.2.2.1 26), .ref (G.2.2.1 50)]) := rfl
theorem eO199 {G : GX} {w : CW} : cE G w 199 = .inr (2, [.ref (G.2.2.1 27), .ref (G.2.2.1 28), .ref (G.2.2.1 29), .ref (G.2.2.1 51), .ref (G.2.2.1 52), .ref (G.2.2.1 53), .ref (G.2.2.1 54), .ref (G.2.2.1 55), .ref (G.2.2.1 56), .ref (G.2.2.1 57)]) := rfl
theorem eO200 {G : GX} {w : CW} : cE G w 200 = .inr (4, [.ref (G.2.2.1 30), .ref (G.2.2.1 31), .ref (G.2.2.1 32), .ref (G.2.2.1 33), .ref (G.2.2.1 34), .ref (G.2.2.1 35), .ref (G.2.2.1 36)]) := rfl
theorem cE_sC {G : GX} {w : CW} {k i : Nat} {v : Int32} : ∀ j, j < 205 → j ≠ 95 + k → cE G (sC w k i v) j = cE G w j := by
  intro j hj hn
  unfold cE
  simp only [sC]
  by_cases h1 : j < 95
  · rw [if_pos h1, if_pos h1]
  · rw [if_neg h1, if_neg h1]
    by_cases h2 : j < 190
    · rw [if_pos h2, if_pos h2, if_neg (by omega)]
    · rw [if_neg h2, if_neg h2]
theorem cE_sF {G : GX} {w : CW} {k : Nat} {f : Nat → Int32} : ∀ j, j < 205 → j ≠ 95 + k → cE G (sF w k f) j = cE G w j := by
  intro j hj hn
  unfold cE
  simp only [sF]
  by_cases h1 : j < 95
  · rw [if_pos h1, if_pos h1]
  · rw [if_neg h1, if_neg h1]
    by_cases h2 : j < 190
    · rw [if_pos h2, if_pos h2, if_neg (by omega)]
    · rw [if_neg h2, if_neg h2]
theorem cE_sN {G : GX} {w : CW} {k : Nat} {v : Int32} (hk : k < 95) : ∀ j, j < 205 → j ≠ k → cE G (sN w k v) j = cE G w j := by
  intro j hj hn
  unfold cE
  simp only [sN]
  rw [if_neg hn]
theorem cE_s0 {G : GX} {w : CW} {v : Int32} : ∀ j, j < 205 → j ≠ 192 → cE G (sS w 0 v) j = cE G w j := by
  intro j hj hn
  simp [cE, sS, hn]
theorem cE_s1 {G : GX} {w : CW} {v : Int32} : ∀ j, j < 205 → j ≠ 193 → cE G (sS w 1 v) j = cE G w j := by
  intro j hj hn
  simp [cE, sS, hn]
theorem cE_s2 {G : GX} {w : CW} {v : Int32} : ∀ j, j < 205 → j ≠ 193 → cE G (sS w 2 v) j = cE G w j := by
  intro j hj hn
  simp [cE, sS, hn]
theorem cE_s3 {G : GX} {w : CW} {v : Int32} : ∀ j, j < 205 → j ≠ 193 → cE G (sS w 3 v) j = cE G w j := by
  intro j hj hn
  simp [cE, sS, hn]
theorem cE_s4 {G : GX} {w : CW} {v : Int32} : ∀ j, j < 205 → j ≠ 193 → cE G (sS w 4 v) j = cE G w j := by
  intro j hj hn
  simp [cE, sS, hn]
theorem cE_s5 {G : GX} {w : CW} {v : Int32} : ∀ j, j < 205 → j ≠ 193 → cE G (sS w 5 v) j = cE G w j := by
  intro j hj hn
  simp [cE, sS, hn]
theorem cE_s6 {G : GX} {w : CW} {v : Int32} : ∀ j, j < 205 → j ≠ 196 → cE G (sS w 6 v) j = cE G w j := by
  intro j hj hn
  simp [cE, sS, hn]
theorem cE_s7 {G : GX} {w : CW} {v : Int32} : ∀ j, j < 205 → j ≠ 196 → cE G (sS w 7 v) j = cE G w j := by
  intro j hj hn
  simp [cE, sS, hn]
theorem cE_s8 {G : GX} {w : CW} {v : Int32} : ∀ j, j < 205 → j ≠ 196 → cE G (sS w 8 v) j = cE G w j := by
  intro j hj hn
  simp [cE, sS, hn]
theorem cE_s9 {G : GX} {w : CW} {v : Int32} : ∀ j, j < 205 → j ≠ 196 → cE G (sS w 9 v) j = cE G w j := by
  intro j hj hn
  simp [cE, sS, hn]
theorem cE_s10 {G : GX} {w : CW} {v : Int32} : ∀ j, j < 205 → j ≠ 190 → cE G (sS w 10 v) j = cE G w j := by
  intro j hj hn
  simp [cE, sS, hn]
