/-! the making of the objects: a world of cells one behind the other, from h0 on -/
abbrev BX : Type := va_G × (ClassId × ClassId × ClassId) × Nat × Nat × Nat
def uE (e : Nat → va_E) (k : Nat) (x : va_E) : Nat → va_E := fun j => if j = k then x else e j
theorem uE_s (e : Nat → va_E) (k : Nat) (x : va_E) : uE e k x k = x := if_pos rfl
theorem uE_n (e : Nat → va_E) {k j : Nat} (x : va_E) (h : j ≠ k) : uE e k x j = e j := if_neg h
abbrev bA (B : BX) : Nat → Prop := fun q => B.2.2.1 ≤ q
def bL (B : BX) (n : Nat) (e : Nat → va_E) : va_W := (List.range n).map fun k => (B.2.2.1 + k, e k)
theorem bL_at {B : BX} {n : Nat} {e : Nat → va_E} (k : Nat) (hk : k < n) {x : va_E} (hx : e k = x) : (bL B n e)[k]? = some (B.2.2.1 + k, x) := by subst hx; simp [bL, hk]
theorem bL_set {B : BX} {n : Nat} {e : Nat → va_E} (k : Nat) (x : va_E) : (bL B n e).set k (B.2.2.1 + k, x) = bL B n (uE e k x) := by
  apply List.ext_getElem?
  intro i
  by_cases hi : i < n
  · by_cases hk : k = i
    · subst hk
      rw [bL_at k hi (uE_s e k x), List.getElem?_set_self (by simp [bL, hi])]
    · rw [List.getElem?_set_ne hk, bL_at i hi rfl, bL_at i hi (uE_n e x (fun z => hk z.symm))]
  · rw [List.getElem?_eq_none (by simp [bL]; omega), List.getElem?_eq_none (by simp [bL]; omega)]
theorem bL_push {B : BX} {n : Nat} {e : Nat → va_E} (x : va_E) : bL B n e ++ [(B.2.2.1 + n, x)] = bL B (n + 1) (uE e n x) := by
  unfold bL
  rw [List.range_succ, List.map_append]
  congr 1
  · apply List.map_congr_left
    intro k hk
    rw [uE_n e x (Nat.ne_of_lt (List.mem_range.mp hk))]
  · simp [uE_s]
theorem bD {B : BX} {n : Nat} {e : Nat → va_E} : va_D (bA B) (bL B n e) := by
  have key : ∀ (k : Nat) (q : Nat × va_E), (bL B n e)[k]? = some q → q.1 = B.2.2.1 + k := by
    intro k q h
    have hl := (List.getElem?_eq_some_iff.mp h).1
    rw [bL_at k (by simpa [bL] using hl) rfl] at h
    cases h
    rfl
  refine ⟨fun i j p q hi hj he => ?_, fun k q hk => ?_⟩
  · rw [key i p hi, key j q hj] at he; omega
  · show B.2.2.1 ≤ q.1
    rw [key k q hk]; omega
def bH (B : BX) (n : Nat) (e : Nat → va_E) (H : Heap) : Prop := va_P B.1 vwCl (bL B n e) H
theorem bH_congr {B : BX} {n : Nat} {e e' : Nat → va_E} {H : Heap} (h : bH B n e H) (he : ∀ k, k < n → e' k = e k) : bH B n e' H := by
  have : bL B n e' = bL B n e := List.map_congr_left fun k hk => by rw [he k (List.mem_range.mp hk)]
  unfold bH at h ⊢
  rw [this]
  exact h
abbrev bTy (B : BX) : List (ClassId × FieldType) := [(B.2.1.1, .int), (B.2.1.2.1, .boolean), (B.2.1.2.2, .object "java/lang/Object")]
def bK (B : BX) (U : State) : Prop := va_K B.1 vwCl (bTy B) U ∧ (∀ w ∈ lw_tbl, gNest w = true → va_Nw w U) ∧ va_Z "java/util/ArrayList" "DEFAULTCAPACITY_EMPTY_ELEMENTDATA" "[Ljava/lang/Object;" (.ref B.2.2.2.1) (bA B) U U.heap ∧ va_T (.object "java/lang/Object") B.2.2.2.1 0 (fun _ => .null) (bA B) U U.heap ∧ va_Mi "[Ljava/lang/Object;" B.2.2.2.2 U ∧ va_Dc U ∧ va_AO "java/lang/Object" U
theorem bK.blind {B : BX} {U : State} (h : bK B U) (g : JFrame) (mk : MethodId) (a : Array Value) : bK B (U.calling g mk a) :=
  ⟨va_K.moved (u := U) (Vm.Alike.refl U.vm) h.1, fun w hw hn => gNest_same hn (u := U) rfl (h.2.1 w hw hn), va_Z.moved (u := U) (Vm.Alike.refl U.vm) h.2.2.1, va_T.moved (u := U) (Vm.Alike.refl U.vm) h.2.2.2.1, va_Mi.moved (u := U) (Vm.Alike.refl U.vm) h.2.2.2.2.1, va_Dc.moved (u := U) (Vm.Alike.refl U.vm) h.2.2.2.2.2.1, va_AO.moved (u := U) (Vm.Alike.refl U.vm) h.2.2.2.2.2.2⟩
theorem bK.carry {B : BX} {s U : State} {H : Heap} {locs : List Loc} (h : bK B s) (hS : va_S (bA B) s.heap H locs) (hU : U.heap = H) (hW : s.WarmedH U.vm) : bK B U := by
  have hq : ∀ a : Nat, a < s.heap.size → ¬ bA B a → U.heap[a]? = s.heap[a]? := fun a h1 h2 => by rw [hU]; exact hS.2.1 a h1 h2
  exact ⟨va_K.moved hW.alike h.1, fun w hw hn => gNest_warm hn hW (h.2.1 w hw hn), (va_Z.moved hW.alike h.2.2.1).kept hq, (va_T.moved hW.alike h.2.2.2.1).kept hq, va_Mi.moved hW.alike h.2.2.2.2.1, va_Dc.moved hW.alike h.2.2.2.2.2.1, va_AO.moved hW.alike h.2.2.2.2.2.2⟩
abbrev CB (B : BX) (p : Program) (s : State) (m : MethodId) (args : Array Value) (meth : Method) (c : Code) (y : MethodName) (cc : ByteArray) (nL : Nat) (ret : Option FieldType) (n0 : Nat) : Prop :=
  CallFix p m c cc nL s args (Cond.code y cc nL ret :: BG) y.cls ∧ meth.sig.returnType = ret ∧ meth.locks = false ∧ bK B s ∧ meth.name = y.name ∧ s.heap.size = B.2.2.1 + n0
theorem CB.w {B : BX} {p : Program} {s : State} {m : MethodId} {args : Array Value} {meth : Method} {c : Code} {y : MethodName} {cc : ByteArray} {nL : Nat} {ret : Option FieldType} {n0 : Nat} (X : CB B p s m args meth c y cc nL ret n0) {w : Cond} (h : w ∈ BG) : w.before args s = true := X.1.2.2.2.2 w (List.mem_cons_of_mem _ h)
abbrev PB (B : BX) (As : List Value) (n : Nat) (e : Nat → va_E) : Array Value → State → Prop := va_Pc As (fun U => bH B n e U.heap ∧ bK B U ∧ U.heap.size = B.2.2.1 + n)
theorem PB_blind {B : BX} {As : List Value} {n : Nat} {e : Nat → va_E} : FrameBlind (PB B As n e) := fun a U g mk q => ⟨q.1, q.2.1, q.2.2.1.blind g mk a, q.2.2.2⟩
abbrev BV (B : BX) (n : Nat) (e : Nat → va_E) : Array Value → State → Outcome → State → Prop := va_Qv (fun (_ : Unit) => True) (fun _ t => bH B n e t.heap) (bA B)
abbrev BR (B : BX) (n : Nat) (e : Nat → va_E) (a0 : Nat) : Array Value → State → Outcome → State → Prop := va_Qr (fun (_ : Unit) => True) (fun _ a t => a = a0 ∧ bH B n e t.heap) (bA B)
abbrev BI (B : BX) (n : Nat) (e : Nat → va_E) (r : Int32) : Array Value → State → Outcome → State → Prop := va_Qi (fun x (_ : Unit) => x = r) (fun _ t => bH B n e t.heap) (bA B)
abbrev MBx (l : Launch) (B : BX) (y : MethodName) (cc : ByteArray) (nL : Nat) (ret : Option FieldType) (rm : Room) (As : List Value) (n : Nat) (e : Nat → va_E) (Qc : Array Value → State → Outcome → State → Prop) (mc ms : Nat) : Prop := Met l y (Cond.code y cc nL ret :: BG) rm (PB B As n e) Qc mc ms (bA B)
theorem bM_start {l : Launch} {B : BX} {y : MethodName} {cc : ByteArray} {nL : Nat} {ret : Option FieldType} {rm : Room} {As : List Value} {n : Nat} {e0 : Nat → va_E} {Qc : Array Value → State → Outcome → State → Prop} {mc ms : Nat} (hy : plainFor y = true) (hle : (lg_sl As).length ≤ nL)
    (body : ∀ (p : Program) (e : Env) (s : State) (m : MethodId) (below : List Frame) (meth : Method) (c : Code) (ls : Array Slot), CB B p s m As.toArray meth c y cc nL ret n → bH B n e0 s.heap → lv_has ls nL (lv_args 0 As) →
      W p l e rm s m As.toArray below meth c s.heap [] 0 0 (MQ below Qc As.toArray s mc ms (bA B)) (F0 m 0 ls [])) : MBx l B y cc nL ret rm As n e0 Qc mc ms := by
  refine met_of (cc := cc) (maxL := nL) (ret := ret) hy rfl ?_
  intro p e s m args below meth c s₁ Bd hml hv
  obtain ⟨rfl, hP, hK, hz⟩ := hv
  rw [lg_entry_eq]
  exact body p e s m below meth c _ ⟨⟨Bd.exec, Bd.bytes, hml, findClass_of_methodNamed Bd.named, atoms_spec (ws := Cond.code y cc nL ret :: BG) Bd.pre⟩, Bd.returns, Bd.notSynchronized, hK, (name_of_methodNamed Bd.named Bd.method).1, hz⟩ hP (lv_entry As hle)
section BRULES
variable {p : Program} {l : Launch} {e : Env} {R : Room} {s : State} {m : MethodId} {args : Array Value} {below : List Frame} {meth : Method} {c : Code} {H : Heap} {locs : List Loc} {cells slots : Nat} {Q : State → Prop}
variable {B : BX} {y y' : MethodName} {cc cc' : ByteArray} {nL nL' idx pc n n' : Nat} {ret ret' : Option FieldType} {rest st0 As : List Value} {ls : Array Slot} {E E' : Nat → va_E} {C : String} {T : u_T} {N ci : Nat} {fs : List Value} {v : Value} {lv : List (Nat × Value)} {rm : Room} {mc ms n0 : Nat} {g : JFrame}
/-- the heap's size, where the count of made cells is tight -/
theorem b_size (X : CB B p s m args meth c y cc nL ret n0) (hH : bH B n E H) (hn : 0 < n) (ht : n0 + cells = n) (kk : H.size = B.2.2.1 + n → W p l e R s m args below meth c H locs cells slots Q g) : W p l e R s m args below meth c H locs cells slots Q g := by
  intro T hT X'
  refine kk ?_ T hT X'
  have h1 : T.heap.size ≤ s.heap.size + cells := X'.heapSize
  rw [hT, X.2.2.2.2.2] at h1
  have h2 := (hH (n - 1) _ (bL_at (n - 1) (by omega) rfl)).lt
  have h3 : B.2.2.1 + (n - 1) < H.size := h2
  omega
theorem b_get (X : CB B p s m args meth c y cc nL ret n0) (hH : bH B n E H) (j : Nat) (hj : j < n) (he : E j = .inr (ci, fs)) (hc : vwCl[ci]? = some (C, T, N)) (hin : ∀ w ∈ u_ws C T N, w ∈ BG) (k : Nat) (hk : k < N) (hv : fs[k]? = some v) (hlink : FL y.cls idx T k ∈ BG) (hdg : decode cc pc = .ok (.getfield idx, 3))
    (kk : W p l e R s m args below meth c H locs cells slots Q (F0 m (pc + 3) ls (v :: rest))) : W p l e R s m args below meth c H locs cells slots Q (F0 m pc ls (.ref (B.2.2.1 + j) :: rest)) :=
  va_get X.1.1 X.1.2.1 X.1.2.2.2.2 (fun w h => List.mem_cons_of_mem _ (hin w h)) X.1.2.2.2.1 X.2.2.2.1.1 hH j (bL_at j hj he) hc k hk (X.w hlink) (fun _ h => h) hv hdg kk
theorem b_getN {host : String} (X : CB B p s m args meth c y cc nL ret n0) (hH : bH B n E H) (j : Nat) (hj : j < n) (he : E j = .inr (ci, fs)) (hc : vwCl[ci]? = some (C, T, N)) (hin : ∀ w ∈ u_ws C T N, w ∈ BG) (k : Nat) (hk : k < N) (hv : fs[k]? = some v) (hlink : Cond.fieldLinkNest y.cls idx (T k).1 (T k).2.1 (T k).2.2.1 host ∈ lw_tbl) (hdg : decode cc pc = .ok (.getfield idx, 3))
    (kk : W p l e R s m args below meth c H locs cells slots Q (F0 m (pc + 3) ls (v :: rest))) : W p l e R s m args below meth c H locs cells slots Q (F0 m pc ls (.ref (B.2.2.1 + j) :: rest)) :=
  va_getN X.1.1 X.1.2.1 X.1.2.2.2.2 (fun w h => List.mem_cons_of_mem _ (hin w h)) X.1.2.2.2.1 X.2.2.2.1.1 hH j (bL_at j hj he) hc k hk (va_Nw.use rfl (X.2.2.2.1.2.1 _ hlink rfl)) (fun _ h => h) hv hdg kk
theorem b_put (X : CB B p s m args meth c y cc nL ret n0) (hH : bH B n E H) (hS : va_S (bA B) s.heap H locs) (j : Nat) (hj : j < n) (he : E j = .inr (ci, fs)) (hc : vwCl[ci]? = some (C, T, N)) (hin : ∀ w ∈ u_ws C T N, w ∈ BG) (ty0 : Nat → FieldType) (hty : ∀ k, k < N → parseFieldDescriptor (T k).2.2.1 = some (ty0 k)) (hnm : ∀ a, a < N → ∀ b, b < N → a ≠ b → (T a).2.1 ≠ (T b).2.1) (k : Nat) (hk : k < N) (hlink : FL y.cls idx T k ∈ BG) (hfin : (T k).2.2.2 = false) (hn : narrow (ty0 k) v = v) (hfit : fits (ty0 k) v = true) (hl : k < fs.length) (hdg : decode cc pc = .ok (.putfield idx, 3))
    (kk : ∀ (H1 : Heap) (locs1 : List Loc), bH B n (uE E j (.inr (ci, fs.set k v))) H1 → va_S (bA B) s.heap H1 locs1 → W p l e R s m args below meth c H1 locs1 cells slots Q (F0 m (pc + 3) ls rest)) : W p l e R s m args below meth c H locs cells slots Q (F0 m pc ls (v :: .ref (B.2.2.1 + j) :: rest)) :=
  va_put X.1.1 X.1.2.1 X.1.2.2.2.2 (fun w h => List.mem_cons_of_mem _ (hin w h)) ty0 hty hnm X.1.2.2.2.1 X.2.2.2.1.1 hH bD hS j (bL_at j hj he) hc k hk (X.w hlink) (fun _ h => h) hfin (hty k hk) hn hfit hl hdg (fun H1 locs1 hP _ hS1 => kk H1 locs1 (by rw [bL_set] at hP; exact hP) hS1)
theorem b_putF (X : CB B p s m args meth c y cc nL ret n0) (hy : y.name = "<init>") (hH : bH B n E H) (hS : va_S (bA B) s.heap H locs) (j : Nat) (hj : j < n) (he : E j = .inr (ci, fs)) (hc : vwCl[ci]? = some (C, T, N)) (hin : ∀ w ∈ u_ws C T N, w ∈ BG) (ty0 : Nat → FieldType) (hty : ∀ k, k < N → parseFieldDescriptor (T k).2.2.1 = some (ty0 k)) (hnm : ∀ a, a < N → ∀ b, b < N → a ≠ b → (T a).2.1 ≠ (T b).2.1) (k : Nat) (hk : k < N) (hlink : FL y.cls idx T k ∈ BG) (hfin : (T k).2.2.2 = true) (hdecl : (T k).1 = y.cls) (hn : narrow (ty0 k) v = v) (hfit : fits (ty0 k) v = true) (hl : k < fs.length) (hdg : decode cc pc = .ok (.putfield idx, 3))
    (kk : ∀ (H1 : Heap) (locs1 : List Loc), bH B n (uE E j (.inr (ci, fs.set k v))) H1 → va_S (bA B) s.heap H1 locs1 → W p l e R s m args below meth c H1 locs1 cells slots Q (F0 m (pc + 3) ls rest)) : W p l e R s m args below meth c H locs cells slots Q (F0 m pc ls (v :: .ref (B.2.2.1 + j) :: rest)) :=
  va_putF X.1.1 X.1.2.1 X.1.2.2.2.2 (fun w h => List.mem_cons_of_mem _ (hin w h)) ty0 hty hnm X.1.2.2.2.1 X.2.2.2.1.1 hH bD hS j (bL_at j hj he) hc k hk (X.w hlink) (fun _ h => h) hfin (X.2.2.2.2.1.trans hy) hdecl (hty k hk) hn hfit hl hdg (fun H1 locs1 hP _ hS1 => kk H1 locs1 (by rw [bL_set] at hP; exact hP) hS1)
/-- where a new cell lies -/
theorem b_where {q : Nat} {x : va_E} {H1 : Heap} (hz : H1.size ≤ B.2.2.1 + n + 1) (hP : va_P B.1 vwCl (bL B n E ++ [(q, x)]) H1) (hD : va_D (bA B) (bL B n E ++ [(q, x)])) : q = B.2.2.1 + n := by
  have hlen : (bL B n E).length = n := by simp [bL]
  have hq : (bL B n E ++ [(q, x)])[n]? = some (q, x) := by rw [List.getElem?_append_right (by omega), hlen, Nat.sub_self]; rfl
  have h1 : q < H1.size := (hP n _ hq).lt
  have h2 : B.2.2.1 ≤ q := hD.2 n _ hq
  have h3 : ∀ k, k < n → q ≠ B.2.2.1 + k := by
    intro k hk he
    have hk2 : (bL B n E ++ [(q, x)])[k]? = some (B.2.2.1 + k, E k) := by rw [List.getElem?_append_left (by omega)]; exact bL_at k hk rfl
    have := hD.1 n k _ _ hq hk2 he
    omega
  rcases Nat.lt_or_ge (q - B.2.2.1) n with h | h
  · exact absurd (show q = B.2.2.1 + (q - B.2.2.1) by omega) (h3 _ h)
  · omega
theorem b_new (X : CB B p s m args meth c y cc nL ret n0) (hH : bH B n E H) (hS : va_S (bA B) s.heap H locs) (ht : n0 + cells = n) (hc : vwCl[ci]? = some (C, T, N)) (hin : ∀ w ∈ u_ws C T N, w ∈ BG) (ty0 : Nat → FieldType) (hty : ∀ k, k < N → parseFieldDescriptor (T k).2.2.1 = some (ty0 k)) (hcl : Cond.classLink y.cls idx C ∈ BG) (hins : Cond.instantiable C N ∈ BG) (hini : Cond.initialized C ∈ BG) (hfs : ∀ j, j < N → defaultValue (ty0 j) = vp_V fs j) (hcells : cells + 1 ≤ R.cells) (hslots : slots + N ≤ R.slots) (hdg : decode cc pc = .ok (.new idx, 3))
    (kk : ∀ (H1 : Heap), bH B (n + 1) (uE E n (.inr (ci, fs))) H1 → va_S (bA B) s.heap H1 locs → W p l e R s m args below meth c H1 locs (cells + 1) (slots + N) Q (F0 m (pc + 3) ls (.ref (B.2.2.1 + n) :: rest))) : W p l e R s m args below meth c H locs cells slots Q (F0 m pc ls rest) := by
  refine va_new X.1.1 X.1.2.1 X.1.2.2.2.2 (fun w h => List.mem_cons_of_mem _ (hin w h)) ty0 hty X.1.2.2.2.1 (X.w hcl) (X.w hins) (X.w hini) X.2.2.2.1.1 hH bD hS (fun q h => by rw [X.2.2.2.2.2] at h; show B.2.2.1 ≤ q; omega) hc hfs hcells hslots hdg (fun q H1 hP hD hS1 => ?_)
  intro T' hT X'
  have h1 : T'.heap.size ≤ s.heap.size + (cells + 1) := X'.heapSize
  rw [hT, X.2.2.2.2.2] at h1
  have hq := b_where (by omega) hP hD
  subst hq
  rw [bL_push] at hP
  exact kk H1 hP hS1 T' hT X'
theorem b_newi (X : CB B p s m args meth c y cc nL ret n0) (hH : bH B n E H) (hS : va_S (bA B) s.heap H locs) (ht : n0 + cells = n) (harr : Cond.arrayClass .int ∈ BG) {k : Int32} {N' : Nat} (hk : ¬ k < 0) (hN : k.toNatClampNeg = N') (hb2 : N' ≤ 100000) (hcells : cells + 1 ≤ R.cells) (hslots : slots + N' ≤ R.slots) (hdg : decode cc pc = .ok (.newarray .int, 2))
    (kk : ∀ (H1 : Heap), bH B (n + 1) (uE E n (.inl (B.2.1.1, N', .inl (fun _ => 0)))) H1 → va_S (bA B) s.heap H1 locs → W p l e R s m args below meth c H1 locs (cells + 1) (slots + N') Q (F0 m (pc + 2) ls (.ref (B.2.2.1 + n) :: rest))) : W p l e R s m args below meth c H locs cells slots Q (F0 m pc ls (.int k :: rest)) := by
  refine va_newa (atype := .int) X.1.1 X.1.2.1 (X.w harr) rfl X.2.2.2.1.1 hH bD hS (fun q h => by rw [X.2.2.2.2.2] at h; show B.2.2.1 ≤ q; omega) (a0 := (N', .inl (fun _ => 0))) (fun cA => by rw [vp_cell_i]; rfl) hk hN (by show N' * 4 ≤ 536870912; omega) hcells hslots hdg (fun q cA H1 hK hP hD hS1 => ?_)
  have hcA : cA = B.2.1.1 := by
    have h1 := (hK.2 3 (cA, .int) rfl).2
    have h2 := (X.2.2.2.1.1.2 0 (B.2.1.1, .int) rfl).2
    exact Option.some.inj (Eq.trans (Eq.symm h1) h2)
  subst hcA
  intro T' hT X'
  have h1 : T'.heap.size ≤ s.heap.size + (cells + 1) := X'.heapSize
  rw [hT, X.2.2.2.2.2] at h1
  have hq := b_where (by omega) hP hD
  subst hq
  rw [bL_push] at hP
  exact kk H1 hP hS1 T' hT X'
theorem b_newz (X : CB B p s m args meth c y cc nL ret n0) (hH : bH B n E H) (hS : va_S (bA B) s.heap H locs) (ht : n0 + cells = n) (harr : Cond.arrayClass .boolean ∈ BG) {k : Int32} {N' : Nat} (hk : ¬ k < 0) (hN : k.toNatClampNeg = N') (hb2 : N' ≤ 100000) (hcells : cells + 1 ≤ R.cells) (hslots : slots + N' ≤ R.slots) (hdg : decode cc pc = .ok (.newarray .boolean, 2))
    (kk : ∀ (H1 : Heap), bH B (n + 1) (uE E n (.inl (B.2.1.2.1, N', .inl (fun _ => 0)))) H1 → va_S (bA B) s.heap H1 locs → W p l e R s m args below meth c H1 locs (cells + 1) (slots + N') Q (F0 m (pc + 2) ls (.ref (B.2.2.1 + n) :: rest))) : W p l e R s m args below meth c H locs cells slots Q (F0 m pc ls (.int k :: rest)) := by
  refine va_newa (atype := .boolean) X.1.1 X.1.2.1 (X.w harr) rfl X.2.2.2.1.1 hH bD hS (fun q h => by rw [X.2.2.2.2.2] at h; show B.2.2.1 ≤ q; omega) (a0 := (N', .inl (fun _ => 0))) (fun cA => by rw [vp_cell_i]; rfl) hk hN (by show N' * 1 ≤ 536870912; omega) hcells hslots hdg (fun q cA H1 hK hP hD hS1 => ?_)
  have hcA : cA = B.2.1.2.1 := by
    have h1 := (hK.2 3 (cA, .boolean) rfl).2
    have h2 := (X.2.2.2.1.1.2 1 (B.2.1.2.1, .boolean) rfl).2
    exact Option.some.inj (Eq.trans (Eq.symm h1) h2)
  subst hcA
  intro T' hT X'
  have h1 : T'.heap.size ≤ s.heap.size + (cells + 1) := X'.heapSize
  rw [hT, X.2.2.2.2.2] at h1
  have hq := b_where (by omega) hP hD
  subst hq
  rw [bL_push] at hP
  exact kk H1 hP hS1 T' hT X'
theorem b_newq (X : CB B p s m args meth c y cc nL ret n0) (hH : bH B n E H) (hS : va_S (bA B) s.heap H locs) (ht : n0 + cells = n) (hcl : Cond.classLink y.cls idx "java/lang/Object" ∈ BG) {k : Int32} {N' : Nat} (hk : ¬ k < 0) (hN : k.toNatClampNeg = N') (hb2 : N' ≤ 100000) (hcells : cells + 1 ≤ R.cells) (hslots : slots + N' ≤ R.slots) (hdg : decode cc pc = .ok (.anewarray idx, 3))
    (kk : ∀ (H1 : Heap), bH B (n + 1) (uE E n (.inl (B.2.1.2.2, N', .inr (.inr (.inr (.inr (fun _ => none))))))) H1 → va_S (bA B) s.heap H1 locs → W p l e R s m args below meth c H1 locs (cells + 1) (slots + N') Q (F0 m (pc + 3) ls (.ref (B.2.2.1 + n) :: rest))) : W p l e R s m args below meth c H locs cells slots Q (F0 m pc ls (.int k :: rest)) := by
  refine va_newq X.1.1 X.1.2.1 X.1.2.2.2.1 (X.w hcl) X.2.2.2.1.2.2.2.2.2.2 X.2.2.2.1.1 hH bD hS (fun q h => by rw [X.2.2.2.2.2] at h; show B.2.2.1 ≤ q; omega) hk hN (by omega) hcells hslots hdg (fun q cA H1 hK hP hD hS1 => ?_)
  have hcA : cA = B.2.1.2.2 := by
    have h1 := va_nmO (hK.2 3 (cA, .object "java/lang/Object") rfl).2 rfl
    have h2 := va_nmO (X.2.2.2.1.1.2 2 (B.2.1.2.2, .object "java/lang/Object") rfl).2 rfl
    exact Option.some.inj (Eq.trans (Eq.symm h1) h2)
  subst hcA
  intro T' hT X'
  have h1 : T'.heap.size ≤ s.heap.size + (cells + 1) := X'.heapSize
  rw [hT, X.2.2.2.2.2] at h1
  have hq := b_where (by omega) hP hD
  subst hq
  rw [bL_push] at hP
  exact kk H1 hP hS1 T' hT X'
/-- calls -/
abbrev CRb (rm R : Room) (nL' mc ms : Nat) : Prop := rm.cells = mc ∧ rm.slots = ms ∧ rm.frames + 1 ≤ R.frames ∧ 8 + (nL' + 11) + rm.locals ≤ R.locals
theorem b_pre (X : CB B p s m args meth c y cc nL ret n0) (hH : bH B n E H) (hS : va_S (bA B) s.heap H locs) (hz : H.size = B.2.2.1 + n) (As : List Value) : PreS s H (PB B As n E) As := ⟨PB_blind, fun U hU hW => ⟨rfl, by rw [hU]; exact hH, X.2.2.2.1.carry hS hU hW, by rw [hU]; exact hz⟩⟩
theorem b_irun {Qc : Array Value → State → Outcome → State → Prop} {b : Nat} (X : CB B p s m args meth c y cc nL ret n0) (hM : MBx l B y' cc' nL' none rm (.ref b :: As) n E Qc mc ms) (hy : y'.name = "<init>") (h1 : Cond.methodLink y.cls idx y' ∈ BG) (h2 : Cond.instanceMethod y' ∈ BG) (h4 : Cond.initialized y'.cls ∈ BG) (h5 : Cond.code y' cc' nL' none ∈ BG) (hd : CN y' As.length) (hr : CRb rm R nL' mc ms)
    (hH : bH B n E H) (hS : va_S (bA B) s.heap H locs) (hz : H.size = B.2.2.1 + n) (hl : lv_has ls nL lv) (hst : st0 = As.reverse ++ .ref b :: rest) (hW : (rest.map fun v => v.category).sum ≤ 8) (hdg : decode cc pc = .ok (.invokespecial idx, 3)) (hf : cells + mc ≤ R.cells ∧ slots + ms ≤ R.slots) :
    va_Run p l e R s m args below meth c H locs cells slots mc ms (F0 m pc ls st0) rest (Qc (Value.ref b :: As).toArray) (bA B) :=
  va_runI X.1 hM (cwI As.length X.1.2.2.2.2 (BG_in h5) rfl hr.1 hr.2.1 (X.w h4) (X.w h1) (X.w h2) hy hd ⟨hr.2.2.1, hr.2.2.2⟩) (b_pre X hH hS hz (.ref b :: As)) rfl rfl hl.1 hst (lv_room hW) hdg hf
theorem b_vrun {Qc : Array Value → State → Outcome → State → Prop} {b : Nat} (X : CB B p s m args meth c y cc nL ret n0) (hM : MBx l B y' cc' nL' ret' rm (.ref b :: As) n E Qc mc ms) (h1 : Cond.methodLink y.cls idx y' ∈ BG) (h2 : Cond.instanceMethod y' ∈ BG) (h3 : Cond.selects C y' y' ∈ BG) (h4 : Cond.initialized y'.cls ∈ BG) (h5 : Cond.code y' cc' nL' ret' ∈ BG) (hd : CN y' As.length) (hr : CRb rm R nL' mc ms) (hrec : REC s H C b)
    (hH : bH B n E H) (hS : va_S (bA B) s.heap H locs) (hz : H.size = B.2.2.1 + n) (hl : lv_has ls nL lv) (hst : st0 = As.reverse ++ .ref b :: rest) (hW : (rest.map fun v => v.category).sum ≤ 8) (hdg : decode cc pc = .ok (.invokevirtual idx, 3)) (hf : cells + mc ≤ R.cells ∧ slots + ms ≤ R.slots) :
    va_Run p l e R s m args below meth c H locs cells slots mc ms (F0 m pc ls st0) rest (Qc (Value.ref b :: As).toArray) (bA B) :=
  va_runV X.1 hM ⟨callB_of As.length X.1.2.2.2.2 (BG_in h5) rfl hr.1 hr.2.1 (X.w h4) (X.w h1) hd ⟨hr.2.2.1, hr.2.2.2⟩, X.w h2, X.w h3⟩ ⟨PB_blind, hrec, (b_pre X hH hS hz (.ref b :: As)).2⟩ rfl rfl hl.1 hst (lv_room hW) hdg hf
theorem b_srun {Qc : Array Value → State → Outcome → State → Prop} (X : CB B p s m args meth c y cc nL ret n0) (hM : MBx l B y' cc' nL' ret' rm As n E Qc mc ms) (h1 : Cond.methodLink y.cls idx y' ∈ BG) (h2 : Cond.static y' ∈ BG) (h4 : Cond.initialized y'.cls ∈ BG) (h5 : Cond.code y' cc' nL' ret' ∈ BG) (hd : CN y' As.length) (hr : CRb rm R nL' mc ms)
    (hH : bH B n E H) (hS : va_S (bA B) s.heap H locs) (hz : H.size = B.2.2.1 + n) (hl : lv_has ls nL lv) (hst : st0 = As.reverse ++ rest) (hW : (rest.map fun v => v.category).sum ≤ 8) (hdg : decode cc pc = .ok (.invokestatic idx, 3)) (hf : cells + mc ≤ R.cells ∧ slots + ms ≤ R.slots) :
    va_Run p l e R s m args below meth c H locs cells slots mc ms (F0 m pc ls st0) rest (Qc As.toArray) (bA B) :=
  va_runS X.1 hM ⟨callB_of As.length X.1.2.2.2.2 (BG_in h5) rfl hr.1 hr.2.1 (X.w h4) (X.w h1) hd ⟨hr.2.2.1, hr.2.2.2⟩, X.w h2⟩ (b_pre X hH hS hz As) rfl rfl hl.1 hst (lv_room hW) hdg hf
theorem bGv {a : Array Value} (hr : va_Run p l e R s m args below meth c H locs cells slots mc ms (F0 m pc ls st0) rest (BV B n' E' a) (bA B)) (hS : va_S (bA B) s.heap H locs)
    (kk : ∀ (H1 : Heap) (locs1 : List Loc), bH B n' E' H1 → va_S (bA B) s.heap H1 locs1 → W p l e R s m args below meth c H1 locs1 (cells + mc) (slots + ms) Q (F0 m (pc + 3) ls rest)) : W p l e R s m args below meth c H locs cells slots Q (F0 m pc ls st0) :=
  va_callv hr hS (fun _ _ h => h) (fun _ h => h) (fun _ t H1 locs1 ht _ _ hb _ _ hS1 => kk H1 locs1 (by rw [← ht]; exact hb) hS1)
theorem bGr {a : Array Value} {a0 : Nat} (hr : va_Run p l e R s m args below meth c H locs cells slots mc ms (F0 m pc ls st0) rest (BR B n' E' a0 a) (bA B)) (hS : va_S (bA B) s.heap H locs)
    (kk : ∀ (H1 : Heap) (locs1 : List Loc), bH B n' E' H1 → va_S (bA B) s.heap H1 locs1 → W p l e R s m args below meth c H1 locs1 (cells + mc) (slots + ms) Q (F0 m (pc + 3) ls (.ref a0 :: rest))) : W p l e R s m args below meth c H locs cells slots Q (F0 m pc ls st0) :=
  va_callr hr hS (fun _ _ h => h) (fun _ h => h) (fun _ a t H1 locs1 ht _ _ hb _ _ hS1 => by obtain ⟨rfl, hb⟩ := hb; exact kk H1 locs1 (by rw [← ht]; exact hb) hS1)
theorem bGi {a : Array Value} {r : Int32} (hr : va_Run p l e R s m args below meth c H locs cells slots mc ms (F0 m pc ls st0) rest (BI B n' E' r a) (bA B)) (hS : va_S (bA B) s.heap H locs)
    (kk : ∀ (H1 : Heap) (locs1 : List Loc), bH B n' E' H1 → va_S (bA B) s.heap H1 locs1 → W p l e R s m args below meth c H1 locs1 (cells + mc) (slots + ms) Q (F0 m (pc + 3) ls (.int r :: rest))) : W p l e R s m args below meth c H locs cells slots Q (F0 m pc ls st0) :=
  va_calli hr hS (fun _ _ h => h) (fun _ h => h) (fun r' _ t H1 locs1 ht _ hp hb _ _ hS1 => by cases hp; exact kk H1 locs1 (by rw [← ht]; exact hb) hS1)
/-- ends -/
theorem bEv (X : CB B p s m args meth c y cc nL none n0) (hH : bH B n E H) (hS : va_S (bA B) s.heap H locs) (h1 : cells ≤ mc) (h2 : slots ≤ ms) (hdg : decode cc pc = .ok (.return_, 1)) : W p l e R s m args below meth c H locs cells slots (MQ below (BV B n E) args s mc ms (bA B)) (F0 m pc ls []) :=
  W.widen h1 h2 (W.vret X.1.1 X.1.2.1 X.2.1 (fun t ht _ => ⟨⟨(), rfl, trivial, by show bH B n E t.heap; rw [ht]; exact hH⟩, hS.F ht⟩) hS.2.2 hdg X.2.2.1)
theorem bEr {a0 : Nat} {rt : FieldType} (X : CB B p s m args meth c y cc nL (some rt) n0) (hrt : (∃ n, rt = .object n) ∨ ∃ t, rt = .array t) (hH : bH B n E H) (hS : va_S (bA B) s.heap H locs) (h1 : cells ≤ mc) (h2 : slots ≤ ms) (hdg : decode cc pc = .ok (.areturn, 1)) : W p l e R s m args below meth c H locs cells slots (MQ below (BR B n E a0) args s mc ms (bA B)) (F0 m pc ls [.ref a0]) :=
  W.widen h1 h2 (W.aret X.1.1 X.1.2.1 X.2.1 hrt (Or.inr ⟨_, rfl⟩) (fun t ht _ => ⟨⟨(), a0, rfl, trivial, rfl, by show bH B n E t.heap; rw [ht]; exact hH⟩, hS.F ht⟩) hS.2.2 hdg X.2.2.1)
theorem bEi {r : Int32} (X : CB B p s m args meth c y cc nL (some .int) n0) (hH : bH B n E H) (hS : va_S (bA B) s.heap H locs) (h1 : cells ≤ mc) (h2 : slots ≤ ms) (hdg : decode cc pc = .ok (.ireturn, 1)) : W p l e R s m args below meth c H locs cells slots (MQ below (BI B n E r) args s mc ms (bA B)) (F0 m pc ls [.int r]) :=
  W.widen h1 h2 (W.iret X.1.1 X.1.2.1 X.2.1 (fun t ht _ => ⟨⟨r, (), rfl, rfl, by show bH B n E t.heap; rw [ht]; exact hH⟩, hS.F ht⟩) hS.2.2 hdg X.2.2.1)
theorem bEz {r : Int32} (X : CB B p s m args meth c y cc nL (some .boolean) n0) (hz : r = 0 ∨ r = 1) (hH : bH B n E H) (hS : va_S (bA B) s.heap H locs) (h1 : cells ≤ mc) (h2 : slots ≤ ms) (hdg : decode cc pc = .ok (.ireturn, 1)) : W p l e R s m args below meth c H locs cells slots (MQ below (BI B n E r) args s mc ms (bA B)) (F0 m pc ls [.int r]) :=
  W.widen h1 h2 (W.zret X.1.1 X.1.2.1 X.2.1 (nz hz) (fun t ht _ => ⟨⟨r, (), rfl, rfl, by show bH B n E t.heap; rw [ht]; exact hH⟩, hS.F ht⟩) hS.2.2 hdg X.2.2.1)
theorem b_rec (X : CB B p s m args meth c y cc nL ret n0) (hH : bH B n E H) (j : Nat) (hj : j < n) (he : E j = .inr (ci, fs)) (hc : vwCl[ci]? = some (C, T, N)) : REC s H C (B.2.2.1 + j) := va_recv X.2.2.2.1.1 hH hc (bL_at j hj he)
theorem b_obj (X : CB B p s m args meth c y cc nL none n0) {a : Nat} (hl : lv_has ls nL lv) (hlink : Cond.methodLink y.cls idx objectInit ∈ BG) (hi : Cond.instanceMethod objectInit ∈ BG) (hc : Cond.code objectInit ⟨#[0xb1]⟩ 1 none ∈ BG) (hR : 1 ≤ R.frames ∧ (rest.map fun v => v.category).sum + 12 ≤ R.locals) (hdg : decode cc pc = .ok (.invokespecial idx, 3))
    (kk : W p l e R s m args below meth c H locs cells slots Q (F0 m (pc + 3) ls rest)) : W p l e R s m args below meth c H locs cells slots Q (F0 m pc ls (.ref a :: rest)) :=
  W.objInit X.1.1 X.1.2.1 X.1.2.2.2.1 (X.w hlink) (X.w hi) (X.w hc) rfl (hl.1.trans X.1.2.2.1.symm) rfl hdg hR.1 (by show 2 * 0 + _ + 12 ≤ _; omega) kk
theorem b_dflt (X : CB B p s m args meth c y cc nL ret n0) (hS : va_S (bA B) s.heap H locs) (hlink : Cond.fieldLink y.cls idx "java/util/ArrayList" "DEFAULTCAPACITY_EMPTY_ELEMENTDATA" "[Ljava/lang/Object;" ∈ BG) (hdg : decode cc pc = .ok (.getstatic idx, 3))
    (kk : W p l e R s m args below meth c H locs cells slots Q (F0 m (pc + 3) ls (.ref B.2.2.2.1 :: rest))) : W p l e R s m args below meth c H locs cells slots Q (F0 m pc ls rest) :=
  va_gets X.1.1 X.1.2.1 X.2.2.2.1.2.2.1 hS X.1.2.2.2.1 (X.w hlink) (fun _ h => h) hdg kk
theorem b_dlen (X : CB B p s m args meth c y cc nL ret n0) (hS : va_S (bA B) s.heap H locs) (hdg : decode cc pc = .ok (.arraylength, 1))
    (kk : W p l e R s m args below meth c H locs cells slots Q (F0 m (pc + 1) ls (.int 0 :: rest))) : W p l e R s m args below meth c H locs cells slots Q (F0 m pc ls (.ref B.2.2.2.1 :: rest)) :=
  va_tlen X.1.1 X.1.2.1 X.2.2.2.1.2.2.2.1 hS rfl hdg kk
theorem b_qlen (X : CB B p s m args meth c y cc nL ret n0) (hH : bH B n E H) (j : Nat) (hj : j < n) {N' : Nat} {f : Nat → Option Nat} (he : E j = .inl (B.2.1.2.2, N', .inr (.inr (.inr (.inr f))))) (hdg : decode cc pc = .ok (.arraylength, 1))
    (kk : W p l e R s m args below meth c H locs cells slots Q (F0 m (pc + 1) ls (.int (nI N') :: rest))) : W p l e R s m args below meth c H locs cells slots Q (F0 m pc ls (.ref (B.2.2.1 + j) :: rest)) :=
  va_alen X.1.1 X.1.2.1 X.2.2.2.1.1 hH j 2 (bL_at j hj he) rfl rfl hdg kk
theorem b_ilen (X : CB B p s m args meth c y cc nL ret n0) (hH : bH B n E H) (j : Nat) (hj : j < n) {N' : Nat} {f : Nat → Int32} (he : E j = .inl (B.2.1.1, N', .inl f)) (hdg : decode cc pc = .ok (.arraylength, 1))
    (kk : W p l e R s m args below meth c H locs cells slots Q (F0 m (pc + 1) ls (.int (nI N') :: rest))) : W p l e R s m args below meth c H locs cells slots Q (F0 m pc ls (.ref (B.2.2.1 + j) :: rest)) :=
  va_alen X.1.1 X.1.2.1 X.2.2.2.1.1 hH j 0 (bL_at j hj he) rfl rfl hdg kk
theorem b_ist (X : CB B p s m args meth c y cc nL ret n0) (hH : bH B n E H) (hS : va_S (bA B) s.heap H locs) (j : Nat) (hj : j < n) {N' : Nat} {f : Nat → Int32} (he : E j = .inl (B.2.1.1, N', .inl f)) {i x : Int32} (hi : vp_in i N') (hdg : decode cc pc = .ok (.iastore, 1))
    (kk : ∀ (H1 : Heap) (locs1 : List Loc), bH B n (uE E j (.inl (B.2.1.1, N', .inl (upd f i.toNatClampNeg x)))) H1 → va_S (bA B) s.heap H1 locs1 → W p l e R s m args below meth c H1 locs1 cells slots Q (F0 m (pc + 1) ls rest)) : W p l e R s m args below meth c H locs cells slots Q (F0 m pc ls (.int x :: .int i :: .ref (B.2.2.1 + j) :: rest)) :=
  va_iast X.1.1 X.1.2.1 X.2.2.2.1.1 hH bD hS j 0 (bL_at j hj he) rfl hi hdg (fun H1 locs1 hP _ hS1 => kk H1 locs1 (by rw [bL_set] at hP; exact hP) hS1)
theorem b_ast (X : CB B p s m args meth c y cc nL ret n0) (hH : bH B n E H) (hS : va_S (bA B) s.heap H locs) (j : Nat) (hj : j < n) {N' : Nat} {f : Nat → Option Nat} (he : E j = .inl (B.2.1.2.2, N', .inr (.inr (.inr (.inr f))))) (r : Nat) (hr : r < n) {vs : List Value} (her : E r = .inr (6, vs)) (hca : Cond.castable RX5 "java/lang/Object" ∈ lw_tbl) {i : Nat} (hi : i < N') (hN : N' < 2 ^ 31) (hdg : decode cc pc = .ok (.aastore, 1))
    (kk : ∀ (H1 : Heap) (locs1 : List Loc), bH B n (uE E j (.inl (B.2.1.2.2, N', .inr (.inr (.inr (.inr (va_up f i (some (B.2.2.1 + r)))))))) ) H1 → va_S (bA B) s.heap H1 locs1 → W p l e R s m args below meth c H1 locs1 cells slots Q (F0 m (pc + 1) ls rest)) : W p l e R s m args below meth c H locs cells slots Q (F0 m pc ls (.ref (B.2.2.1 + r) :: .int (nI i) :: .ref (B.2.2.1 + j) :: rest)) :=
  va_astqO (r := (RX5, TX5, 2)) X.1.1 X.1.2.1 X.2.2.2.1.1 hH bD hS j 2 r 6 (bL_at j hj he) rfl (X.2.2.2.1.2.1 _ hca rfl) (bL_at r hr her) rfl (vp_in_nI hi hN) hdg (fun H1 locs1 hP _ hS1 => kk H1 locs1 (by rw [bL_set, nI_clamp (by omega)] at hP; exact hP) hS1)
end BRULES
