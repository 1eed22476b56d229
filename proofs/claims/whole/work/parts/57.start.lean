/-! the walk to the law's loop, and the law over any relation that all calls keep -/
def INVL : List Nat := [190, 191, 201, 202, 0, 95, 0, 58, 153, 0, 1, 96, 59, 154, 192, 2, 97, 60, 155, 3, 98, 61, 156, 4, 99, 62, 157, 5, 100, 63, 158, 6, 101, 64, 159, 7, 102, 65, 160, 8, 103, 66, 161, 9, 104, 67, 162, 193, 37, 132, 38, 133, 39, 134, 194, 10, 105, 0, 68, 163, 0, 11, 106, 69, 164, 195, 12, 107, 70, 165, 13, 108, 71, 166, 14, 109, 72, 167, 15, 110, 0, 73, 168, 0, 16, 111, 74, 169, 17, 112, 75, 170, 196, 40, 135, 41, 136, 42, 137, 43, 138, 44, 139, 45, 140, 46, 141, 47, 142, 48, 143, 49, 144, 197, 18, 113, 76, 171, 19, 114, 77, 172, 20, 115, 78, 173, 21, 116, 79, 174, 22, 117, 0, 80, 175, 0, 198, 23, 118, 81, 176, 24, 119, 82, 177, 25, 120, 83, 178, 26, 121, 84, 179, 50, 145, 199, 27, 122, 85, 180, 28, 123, 86, 181, 29, 124, 87, 182, 51, 146, 52, 147, 53, 148, 54, 149, 55, 150, 56, 151, 57, 152, 200, 30, 125, 88, 183, 31, 126, 89, 184, 32, 127, 90, 185, 33, 128, 203, 91, 186, 204, 34, 129, 92, 187, 35, 130, 93, 188, 36, 131, 94, 189, 300, 301, 302, 303, 304, 305, 306, 307, 308, 309, 310, 311, 312, 313, 314, 315, 316, 317]
theorem OFF_c : ∀ k, k < 205 → OFF k < 213 ∧ INVL.getD (OFF k) 0 = k := by decide +kernel
theorem OFF_r (k : Nat) : OFF (300 + k) = 213 + k := by unfold OFF; rw [if_neg (by omega)]; omega
theorem st_cH {B : BX} {a1 a2 : Nat → Nat} {e : Nat → va_E} {H : Heap} (hH : bH B 231 (eFin B e) H) : cH (gB B a1 a2) w0 H := by
  have hat : ∀ (k : Nat) (q : Nat × va_E), (cWs (gB B a1 a2) w0)[k]? = some q → k < 205 ∧ q = (B.2.2.1 + OFF k, eFin B e (OFF k)) := by
    intro k q h
    have hl := (List.getElem?_eq_some_iff.mp h).1
    have hk : k < 205 := by simpa [cWs, gW] using hl
    have h2 : (cWs (gB B a1 a2) w0)[k]? = some ((gB B a1 a2).2.2.1 (0 + k), cE (gB B a1 a2) w0 k) := gW_at k hk
    rw [h2] at h
    have h3 := Option.some.inj h
    rw [Nat.zero_add] at h3
    rw [← h3, pEa_205 B a1 a2 e k hk]
    exact ⟨hk, rfl⟩
  refine ⟨fun k q h => ?_, fun i j p q hi hj he => ?_, fun k q h => ?_⟩
  · obtain ⟨hk, rfl⟩ := hat k q h
    exact hH (OFF k) _ (bL_at (OFF k) (Nat.lt_trans (OFF_c k hk).1 (by decide)) rfl)
  · obtain ⟨hi', rfl⟩ := hat i p hi
    obtain ⟨hj', rfl⟩ := hat j q hj
    have h : OFF i = OFF j := by
      have : B.2.2.1 + OFF i = B.2.2.1 + OFF j := he
      omega
    rw [← (OFF_c i hi').2, ← (OFF_c j hj').2, h]
  · obtain ⟨hk, rfl⟩ := hat k q h
    exact ⟨k, hk, rfl⟩
theorem st_rH {B : BX} {a1 a2 : Nat → Nat} {e : Nat → va_E} {H : Heap} (hH : bH B 231 (eFin B e) H) : rH (gB B a1 a2) v0 H := by
  have hat : ∀ (k : Nat) (q : Nat × va_E), (rWs (gB B a1 a2) v0)[k]? = some q → k < 18 ∧ q = (B.2.2.1 + (213 + k), eFin B e (213 + k)) := by
    intro k q h
    have hl := (List.getElem?_eq_some_iff.mp h).1
    have hk : k < 18 := by simpa [rWs, gW] using hl
    have h2 : (rWs (gB B a1 a2) v0)[k]? = some ((gB B a1 a2).2.2.1 (300 + k), rE (gB B a1 a2) v0 k) := gW_at k hk
    rw [h2] at h
    have h3 := Option.some.inj h
    rw [← h3, qEa_18 B a1 a2 e k hk, OFF_r]
    refine ⟨hk, ?_⟩
    show (B.2.2.1 + OFF (300 + k), _) = _
    rw [OFF_r]
  refine ⟨fun k q h => ?_, fun i j p q hi hj he => ?_, fun k q h => ?_⟩
  · obtain ⟨hk, rfl⟩ := hat k q h
    exact hH (213 + k) _ (bL_at (213 + k) (by omega) rfl)
  · obtain ⟨hi', rfl⟩ := hat i p hi
    obtain ⟨hj', rfl⟩ := hat j q hj
    have : B.2.2.1 + (213 + i) = B.2.2.1 + (213 + j) := he
    omega
  · obtain ⟨hk, rfl⟩ := hat k q h
    refine ⟨300 + k, by omega, by omega, ?_⟩
    show _ = B.2.2.1 + OFF (300 + k)
    rw [OFF_r]
abbrev LB (B : BX) (p : Program) (s : State) (m : MethodId) (args : Array Value) (meth : Method) (c : Code) : Prop := CallFix p m c code 4 s args BG R_law ∧ meth.sig.returnType = ret ∧ meth.locks = false ∧ bK B s ∧ s.heap.size = B.2.2.1
section LRULES
variable {p : Program} {l : Launch} {e : Env} {R : Room} {s : State} {m : MethodId} {args : Array Value} {below : List Frame} {meth : Method} {c : Code} {H : Heap} {locs : List Loc} {cells slots : Nat} {Q : State → Prop}
variable {B : BX} {y' : MethodName} {cc' : ByteArray} {nL' idx pc n n' : Nat} {rest st0 As : List Value} {ls : Array Slot} {E E' : Nat → va_E} {C : String} {T : u_T} {N ci : Nat} {fs : List Value} {lv : List (Nat × Value)} {rm : Room} {mc ms : Nat} {g : JFrame}
theorem l_size (X : LB B p s m args meth c) (hH : bH B n E H) (hn : 0 < n) (ht : cells = n) (kk : H.size = B.2.2.1 + n → W p l e R s m args below meth c H locs cells slots Q g) : W p l e R s m args below meth c H locs cells slots Q g := by
  intro T hT X'
  refine kk ?_ T hT X'
  have h1 : T.heap.size ≤ s.heap.size + cells := X'.heapSize
  rw [hT, X.2.2.2.2] at h1
  have h2 := (hH (n - 1) _ (bL_at (n - 1) (by omega) rfl)).lt
  have h3 : B.2.2.1 + (n - 1) < H.size := h2
  omega
theorem l_new (X : LB B p s m args meth c) (hH : bH B n E H) (hS : va_S (bA B) s.heap H locs) (ht : cells = n) (hc : vwCl[ci]? = some (C, T, N)) (hin : ∀ w ∈ u_ws C T N, w ∈ BG) (ty0 : Nat → FieldType) (hty : ∀ k, k < N → parseFieldDescriptor (T k).2.2.1 = some (ty0 k)) (hcl : Cond.classLink R_law idx C ∈ BG) (hins : Cond.instantiable C N ∈ BG) (hini : Cond.initialized C ∈ BG) (hfs : ∀ j, j < N → defaultValue (ty0 j) = vp_V fs j) (hcells : cells + 1 ≤ R.cells) (hslots : slots + N ≤ R.slots) (hdg : decode code pc = .ok (.new idx, 3))
    (kk : ∀ (H1 : Heap), bH B (n + 1) (uE E n (.inr (ci, fs))) H1 → va_S (bA B) s.heap H1 locs → W p l e R s m args below meth c H1 locs (cells + 1) (slots + N) Q (F0 m (pc + 3) ls (.ref (B.2.2.1 + n) :: rest))) : W p l e R s m args below meth c H locs cells slots Q (F0 m pc ls rest) := by
  refine va_new X.1.1 X.1.2.1 X.1.2.2.2.2 hin ty0 hty X.1.2.2.2.1 (X.1.2.2.2.2 _ hcl) (X.1.2.2.2.2 _ hins) (X.1.2.2.2.2 _ hini) X.2.2.2.1.1 hH bD hS (fun q h => by rw [X.2.2.2.2] at h; exact h) hc hfs hcells hslots hdg (fun q H1 hP hD hS1 => ?_)
  intro T' hT X'
  have h1 : T'.heap.size ≤ s.heap.size + (cells + 1) := X'.heapSize
  rw [hT, X.2.2.2.2] at h1
  have hq := b_where (by omega) hP hD
  subst hq
  rw [bL_push] at hP
  exact kk H1 hP hS1 T' hT X'
theorem l_irun {Qc : Array Value → State → Outcome → State → Prop} {b : Nat} (X : LB B p s m args meth c) (hM : MBx l B y' cc' nL' none rm (.ref b :: As) n E Qc mc ms) (hy : y'.name = "<init>") (h1 : Cond.methodLink R_law idx y' ∈ BG) (h2 : Cond.instanceMethod y' ∈ BG) (h4 : Cond.initialized y'.cls ∈ BG) (h5 : Cond.code y' cc' nL' none ∈ BG) (hd : CN y' As.length) (hr : CRb rm R nL' mc ms)
    (hH : bH B n E H) (hS : va_S (bA B) s.heap H locs) (hz : H.size = B.2.2.1 + n) (hl : lv_has ls 4 lv) (hst : st0 = As.reverse ++ .ref b :: rest) (hW : (rest.map fun v => v.category).sum ≤ 8) (hdg : decode code pc = .ok (.invokespecial idx, 3)) (hf : cells + mc ≤ R.cells ∧ slots + ms ≤ R.slots) :
    va_Run p l e R s m args below meth c H locs cells slots mc ms (F0 m pc ls st0) rest (Qc (Value.ref b :: As).toArray) (bA B) :=
  va_runI X.1 hM (cwI As.length X.1.2.2.2.2 (BG_inL h5) rfl hr.1 hr.2.1 (X.1.2.2.2.2 _ h4) (X.1.2.2.2.2 _ h1) (X.1.2.2.2.2 _ h2) hy hd ⟨hr.2.2.1, hr.2.2.2⟩) ⟨PB_blind, fun U hU hW => ⟨rfl, by rw [hU]; exact hH, X.2.2.2.1.carry hS hU hW, by rw [hU]; exact hz⟩⟩ rfl rfl hl.1 hst (lv_room hW) hdg hf
end LRULES
set_option maxHeartbeats 4000000 in
set_option maxRecDepth 100000 in
theorem start_of {Sim : CW → CW → Prop} (hsim : SIM Sim) (hs0 : Sim w0 v0) {p : Program} {e : Env} {s : State} {m : MethodId} {below : List Frame} {meth : Method} {c : Code} (l : Launch) {b L : Nat} {xs : Nat → Int32} (hL : L ≤ 2560) (C0 : lw_At p s m meth c b L xs) : W p l e room_1 s m #[Value.ref b] below meth c s.heap [] 0 0 (lw_Z below #[Value.ref b] s) (entryFrame m ([Value.ref b] : List Value).toArray 4) := by
  obtain ⟨hx, hb, hr, hml, hown, hts, hX, hbl, hlk, hgv⟩ := C0
  obtain ⟨B, hB, hK⟩ := st_bK hts hgv
  obtain ⟨a1, a2, hG⟩ := st_gK hts hgv hB hK
  have X : LB B p s m #[Value.ref b] meth c := ⟨⟨hx, hb, hml, hown, fun w h => hts w (List.mem_filter.mp h).1⟩, hr, hlk, hK, hB.symm⟩
  rw [lg_entry_eq]
  have hl := lv_entry [Value.ref b] (n := 4) (Nat.le_of_ble_eq_true rfl)
  generalize ((lg_sl [Value.ref b] ++ List.replicate (4 - (lg_sl [Value.ref b]).length) Slot.unset).toArray) = ls at hl ⊢
  have hl : lv_has ls 4 [(0, .ref b)] := hl
  have hS : va_S (bA B) s.heap s.heap [] := va_S.rf
  have hH : bH B 0 (fun _ => .inr (0, [])) s.heap := fun k q h => by simp [bL] at h
  refine l_new (ci := 12) (fs := [.null, .null, .null, .null, .null, .null, .null, .null, .null, .null, .null, .null, .int 0]) X hH hS rfl rfl inBX11 tyX11 tyX11_ok bw112 bw113 bw86 (by decide) (Nat.le_of_ble_eq_true rfl) (Nat.le_of_ble_eq_true rfl) dL_law_0 (fun H hH hS => ?_)
  generalize he : uE (fun _ => .inr (0, [])) 0 (.inr (12, [.null, .null, .null, .null, .null, .null, .null, .null, .null, .null, .null, .null, .int 0])) = e1 at hH
  have he0 : e1 0 = .inr (12, [.null, .null, .null, .null, .null, .null, .null, .null, .null, .null, .null, .null, .int 0]) := by rw [← he]; rfl
  refine lv_dup hx hb dL_law_3 rfl ?_
  refine l_size X hH (by decide) rfl (fun hz => ?_)
  refine bGv (l_irun (rest := [.ref (B.2.2.1 + 0)]) X (k_X11 l B e1 he0) rfl bw114 bw115 bw86 bw116 kn_X11_init ⟨rfl, rfl, Nat.le_of_ble_eq_true rfl, Nat.le_of_ble_eq_true rfl⟩ hH hS hz hl rfl (Nat.le_of_ble_eq_true rfl) dL_law_4 ⟨Nat.le_of_ble_eq_true rfl, Nat.le_of_ble_eq_true rfl⟩) hS (fun H locs hH hS => ?_)
  refine lv_astore_n (lv' := [(1, .ref (B.2.2.1 + 0)), (0, .ref b)]) hx hb dL_law_7 rfl hl (by decide) rfl (fun ls hl => ?_)
  refine l_new (ci := 13) (fs := [.int 0, .null, .null, .int 0, .int 0, .int 0, .int 0, .null, .null, .null, .null, .null, .null, .int 0, .null, .null, .null, .null, .int 0, .int 0, .int 0, .int 0, .null, .null, .int 0, .null, .null, .int 0, .int 0, .null]) X hH hS rfl rfl inBX12 tyX12 tyX12_ok bw1373 bw1374 bw105 (by decide) (Nat.le_of_ble_eq_true rfl) (Nat.le_of_ble_eq_true rfl) dL_law_8 (fun H hH hS => ?_)
  have hH : bH B 214 (eFin0 B e1) H := hH
  refine lv_dup hx hb dL_law_11 rfl ?_
  refine l_size X hH (by decide) rfl (fun hz => ?_)
  refine bGv (l_irun (rest := [.ref (B.2.2.1 + 213)]) X (k_X12 l B (eFin0 B e1) rfl) rfl bw1375 bw1376 bw105 bw1377 kn_X12_init ⟨rfl, rfl, Nat.le_of_ble_eq_true rfl, Nat.le_of_ble_eq_true rfl⟩ hH hS hz hl rfl (Nat.le_of_ble_eq_true rfl) dL_law_12 ⟨Nat.le_of_ble_eq_true rfl, Nat.le_of_ble_eq_true rfl⟩) hS (fun H locs hH hS => ?_)
  have hH : bH B 231 (eFin B e1) H := hH
  refine lv_astore_n (lv' := [(2, .ref (B.2.2.1 + 213)), (1, .ref (B.2.2.1 + 0)), (0, .ref b)]) hx hb dL_law_15 rfl hl (by decide) rfl (fun ls hl => ?_)
  refine lv_iconst (v := 0) hx hb dL_law_16 (by decide) ?_
  refine lv_istore_n (lv' := [(3, .int 0), (2, .ref (B.2.2.1 + 213)), (1, .ref (B.2.2.1 + 0)), (0, .ref b)]) hx hb dL_law_17 rfl hl (by decide) rfl (fun ls hl => ?_)
  have hl : lv_has ls 4 [(3, .int (nI (5 * 0))), (0, .ref b), (1, .ref ((gB B a1 a2).2.2.1 190)), (2, .ref ((gB B a1 a2).2.2.1 300))] := ⟨hl.1, hl.2.1, fun q hq => hl.2.2 q (by
    simp only [List.mem_cons, List.not_mem_nil, or_false] at hq ⊢
    rcases hq with rfl | rfl | rfl | rfl
    · exact .inl rfl
    · exact .inr (.inr (.inr rfl))
    · exact .inr (.inr (.inl rfl))
    · exact .inr (.inl rfl))⟩
  have hgA : ∀ q, gA (gB B a1 a2) q → s.heap.size ≤ q := fun q ⟨k, _, e⟩ => by rw [e]; show s.heap.size ≤ B.2.2.1 + OFF k; omega
  have hdis : ∀ q, cA (gB B a1 a2) q → ¬ rA (gB B a1 a2) q := by
    rintro q ⟨k, hk, e1⟩ ⟨j, hj1, hj2, e2⟩
    have h1 : q = B.2.2.1 + OFF k := e1
    have h2 : q = B.2.2.1 + OFF j := e2
    have h3 := (OFF_c k hk).1
    have h4 := OFF_r (j - 300)
    rw [show 300 + (j - 300) = j by omega] at h4
    omega
  have hAB : bA B = LA s := by
    funext q
    show (B.2.2.1 ≤ q) = (s.heap.size ≤ q)
    rw [hB]
  rw [hAB] at hS
  refine law_loop l hsim hL ⟨X.1, hr, hlk, hG⟩ hX hbl hgA hdis (by decide) (L + 6) 0 w0 v0 H locs ls (by omega) (by omega) (st_cH hH) (st_rH hH) hs0 hS hl (fun H locs ls hS => ?_)
  refine lv_iconst (v := 1) hx hb dL_law_1316 (by decide) ?_
  refine va_forget hS.2.2 ?_
  exact W.widen (by decide) (by decide) (lw_ret hx hb hr hlk dL_law_1317)
