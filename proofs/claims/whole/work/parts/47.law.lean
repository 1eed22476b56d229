/-! the law: calls by number, and the walk of its loop over any relation that all calls keep -/
def callC (k : Nat) (w : CW) (a b c d : Int32) : Option (Int32 × CW) := match k with
  | 0 => f_X11_sort w a b
  | 1 => some (f_X11_cast w a b)
  | 2 => (f_X11_many w a b).map (fun x => (x, w))
  | 3 => some (f_X11_day w a)
  | 4 => f_X11_feed w ((a.toInt64 <<< ((32 : Int32).toInt64 &&& 63)) ||| (b.toInt64 &&& 4294967295)) c
  | 5 => f_X11_text w a
  | 6 => f_X11_force w a b
  | 7 => f_X11_verse w
  | 8 => f_X11_line w a b c
  | 9 => f_X11_needs w a b c
  | 10 => f_X11_enough w a b
  | 11 => f_X11_page w a
  | 12 => some (f_X11_pull w a b)
  | 13 => f_X11_down w a
  | 14 => some (f_X11_press w a b)
  | 15 => f_X11_order w a b
  | 16 => some (f_X11_done w a b, w)
  | 17 => some (f_X11_leaf w a b c d)
  | 18 => (f_X11_shows w a b).map (fun x => (x, w))
  | 19 => some (f_X11_as w a b, w)
  | 20 => f_X11_copies w a
  | 21 => some (f_X11_state w a)
  | 22 => f_X11_allowed w a
  | 23 => some (f_X11_hand w a)
  | 24 => f_X11_rival w a b
  | 25 => some (f_X11_ahead w a b)
  | 26 => f_X11_runs w a b
  | 27 => some (f_X11_loan w a b c)
  | 28 => f_X11_pay w a b c
  | 29 => (f_X11_owe w a b).map (fun x => (x, w))
  | 30 => some (f_X11_thing w a b)
  | 31 => (f_X11_suit w a).map (fun x => (x, w))
  | 32 => f_X11_tried w a b
  | 33 => some (f_X11_image w)
  | 34 => some (f_X11_undo w)
  | 35 => (f_X11_count w a).map (fun x => (x, w))
  | _ => none
def callR (k : Nat) (w : CW) (a b c d : Int32) : Option (Int32 × CW) := match k with
  | 0 => f_X12_sort w a b
  | 1 => f_X12_cast w a b
  | 2 => (f_X12_many w a b).map (fun x => (x, w))
  | 3 => f_X12_day w a
  | 4 => f_X12_feed w ((a.toInt64 <<< ((32 : Int32).toInt64 &&& 63)) ||| (b.toInt64 &&& 4294967295)) c
  | 5 => f_X12_text w a
  | 6 => f_X12_force w a b
  | 7 => f_X12_verse w
  | 8 => f_X12_line w a b c
  | 9 => f_X12_needs w a b c
  | 10 => f_X12_enough w a b
  | 11 => f_X12_page w a
  | 12 => f_X12_pull w a b
  | 13 => f_X12_down w a
  | 14 => f_X12_press w a b
  | 15 => f_X12_order w a b
  | 16 => (f_X12_done w a b).map (fun x => (x, w))
  | 17 => f_X12_leaf w a b c d
  | 18 => (f_X12_shows w a b).map (fun x => (x, w))
  | 19 => (f_X12_as w a b).map (fun x => (x, w))
  | 20 => (f_X12_copies w a).map (fun x => (x, w))
  | 21 => f_X12_state w a
  | 22 => f_X12_allowed w a
  | 23 => f_X12_hand w a
  | 24 => f_X12_rival w a b
  | 25 => f_X12_ahead w a b
  | 26 => f_X12_runs w a b
  | 27 => f_X12_loan w a b c
  | 28 => f_X12_pay w a b c
  | 29 => (f_X12_owe w a b).map (fun x => (x, w))
  | 30 => f_X12_thing w a b
  | 31 => (f_X12_suit w a).map (fun x => (x, w))
  | 32 => f_X12_tried w a b
  | 33 => f_X12_image w
  | 34 => f_X12_undo w
  | 35 => (f_X12_count w a).map (fun x => (x, w))
  | _ => none
def SIM (Sim : CW → CW → Prop) : Prop := ∀ k, k < 36 → ∀ (w v : CW) (a b c d : Int32), Sim w v → ∃ (r : Int32) (w' v' : CW), callC k w a b c d = some (r, w') ∧ callR k v a b c d = some (r, v') ∧ Sim w' v'
theorem kI {f r : Int32} {w w' : CW} (h : some (f, w) = some (r, w')) : f = r ∧ w = w' := by cases h; exact ⟨rfl, rfl⟩
theorem kIo {f : Option Int32} {r : Int32} {w w' : CW} (h : f.map (fun x => (x, w)) = some (r, w')) : f = some r ∧ w = w' := by
  cases f with
  | none => cases h
  | some x => cases h; exact ⟨rfl, rfl⟩
abbrev LX (G : GX) (p : Program) (s : State) (m : MethodId) (args : Array Value) (meth : Method) (c : Code) : Prop := CallFix p m c code 4 s args BG R_law ∧ meth.sig.returnType = ret ∧ meth.locks = false ∧ gK G s
abbrev LA (s : State) : Nat → Prop := fun q => s.heap.size ≤ q
theorem gK.carryL {G : GX} {s U : State} {H : Heap} {locs : List Loc} (h : gK G s) (hS : va_S (LA s) s.heap H locs) (hU : U.heap = H) (hW : s.WarmedH U.vm) : gK G U := by
  have hq : ∀ a : Nat, a < s.heap.size → ¬ gA G a → U.heap[a]? = s.heap[a]? := fun a h1 _ => by rw [hU]; exact hS.2.1 a h1 (fun z => absurd h1 (Nat.not_lt.mpr z))
  exact ⟨va_K.moved hW.alike h.1, (vk_S.moved hW.alike h.2.1).kept hq, fun i hi => vk_R.warm hW (h.2.2.1 i hi), (va_Z.moved hW.alike h.2.2.2.1).kept hq, (va_Zq.moved hW.alike h.2.2.2.2.1).kept hq, fun w hw hn => gNest_warm hn hW (h.2.2.2.2.2 w hw hn)⟩
theorem BG_inL {c1 : Cond} (h1 : c1 ∈ BG) : GoodIn BG (c1 :: BG) := by
  intro w hw
  rcases List.mem_cons.mp hw with rfl | h
  · exact ⟨h1, good_of_word (List.mem_filter.mp h1).2⟩
  · exact ⟨h, good_of_word (List.mem_filter.mp h).2⟩
section LAWC
variable {p : Program} {l : Launch} {e : Env} {s : State} {m : MethodId} {args : Array Value} {below : List Frame} {meth : Method} {c : Code} {H : Heap} {locs : List Loc} {Q : State → Prop} {cells slots : Nat}
variable {G : GX} {y' : MethodName} {cc' : ByteArray} {nL' idx pc b : Nat} {ret' : Option FieldType} {rm : Room} {As rest st0 : List Value} {A : Nat → Prop} {P P' : Heap → Prop} {C : String} {ls : Array Slot} {lv : List (Nat × Value)}
theorem lVi {r : Int32} (X : LX G p s m args meth c) (hM : Met l y' (Cond.code y' cc' nL' ret' :: BG) rm (PC G (.ref b :: As) P) (QI A P' r) 0 0 A) (h1 : Cond.methodLink R_law idx y' ∈ BG) (h2 : Cond.instanceMethod y' ∈ BG) (h3 : Cond.selects C y' y' ∈ BG) (h4 : Cond.initialized y'.cls ∈ BG) (h5 : Cond.code y' cc' nL' ret' ∈ BG) (hd : CN y' As.length) (hr : CR rm room_1 nL')
    (hrec : REC s H C b) (hA0 : ∀ q, A q → s.heap.size ≤ q) (hP : P H) (hS : va_S (LA s) s.heap H locs) (hl : lv_has ls 4 lv) (hst : st0 = As.reverse ++ .ref b :: rest) (hW : (rest.map fun v => v.category).sum ≤ 8) (hdg : decode code pc = .ok (.invokevirtual idx, 3)) (hcs : cells ≤ room_1.cells ∧ slots ≤ room_1.slots)
    (kk : ∀ (H1 : Heap) (locs1 : List Loc), P' H1 → (∀ q : Nat, q < H.size → ¬ A q → H1[q]? = H[q]?) → va_S (LA s) s.heap H1 locs1 → W p l e room_1 s m args below meth c H1 locs1 cells slots Q (F0 m (pc + 3) ls (.int r :: rest))) : W p l e room_1 s m args below meth c H locs cells slots Q (F0 m pc ls st0) := by
  have hB : CallB room_1 s args R_law idx y' cc' nL' ret' (Cond.code y' cc' nL' ret' :: BG) rm 0 0 As.length := callB_of As.length X.1.2.2.2.2 (BG_inL h5) rfl hr.1 hr.2.1 (X.1.2.2.2.2 _ h4) (X.1.2.2.2.2 _ h1) hd ⟨hr.2.2.1, hr.2.2.2⟩
  have hrun : va_Run p l e room_1 s m args below meth c H locs cells slots 0 0 (F0 m pc ls st0) rest (QI A P' r (Value.ref b :: As).toArray) A :=
    va_runV X.1 hM ⟨hB, X.1.2.2.2.2 _ h2, X.1.2.2.2.2 _ h3⟩ ⟨PC_blind, hrec, fun U hU hW => ⟨rfl, by rw [hU]; exact hP, X.2.2.2.carryL hS hU hW⟩⟩ rfl rfl hl.1 hst (lv_room hW) hdg hcs
  exact va_calli hrun hS (fun q _ h => hA0 q h) hA0 (fun r' _ t H1 locs1 ht _ hp hb _ hk hS1 => by cases hp; exact kk H1 locs1 (by rw [← ht]; exact hb) hk hS1)
theorem cH_kept {w : CW} {H1 : Heap} (hd : ∀ q, cA G q → ¬ rA G q) (h : cH G w H) (hk : ∀ q : Nat, q < H.size → ¬ rA G q → H1[q]? = H[q]?) : cH G w H1 :=
  ⟨h.1.kept fun k q hq => hk q.1 (h.1 k q hq).lt (hd _ (h.2.2 k q hq)), h.2⟩
theorem rH_kept {w : CW} {H1 : Heap} (hd : ∀ q, cA G q → ¬ rA G q) (h : rH G w H) (hk : ∀ q : Nat, q < H.size → ¬ cA G q → H1[q]? = H[q]?) : rH G w H1 :=
  ⟨h.1.kept fun k q hq => hk q.1 (h.1 k q hq).lt (fun z => hd _ z (h.2.2 k q hq)), h.2⟩
theorem l_recC {w : CW} (X : LX G p s m args meth c) (hH : cH G w H) : REC s H RX11 (G.2.2.1 190) := va_recv (q := (RX11, TX11, 13)) X.2.2.2.1 hH.1 rfl (cWs_at 190 (by decide) eO190)
theorem l_recR {w : CW} (X : LX G p s m args meth c) (hH : rH G w H) : REC s H RX12 (G.2.2.1 300) := va_recv (q := (RX12, TX12, 30)) X.2.2.2.1 hH.1 rfl (rWs_at 0 (by decide) rO)
end LAWC
set_option maxHeartbeats 4000000 in
set_option maxRecDepth 100000 in
theorem law_0 {p : Program} {e : Env} {s : State} {m : MethodId} {below : List Frame} {meth : Method} {c : Code} (l : Launch) {b L : Nat} {xs : Nat → Int32} {G : GX} {Sim : CW → CW → Prop} (hsim : SIM Sim) (hL : L ≤ 2560) (X : LX G p s m #[Value.ref b] meth c) (hX : va_X b L xs s s.heap) (hbl : b < s.heap.size) (hgA : ∀ q, gA G q → s.heap.size ≤ q) (hdis : ∀ q, cA G q → ¬ rA G q) {cells slots : Nat} (hcs : cells ≤ room_1.cells ∧ slots ≤ room_1.slots) {j : Nat} (hj : 5 * j + 5 ≤ L) {w v : CW} {H : Heap} {locs : List Loc} {ls : Array Slot} (hH : cH G w H) (hR : rH G v H) (hS : va_S (LA s) s.heap H locs) (hl : lv_has ls 4 [(3, .int (nI (5 * j))), (0, .ref b), (1, .ref (G.2.2.1 190)), (2, .ref (G.2.2.1 300))]) (hs0 : Sim w v) (hback : ∀ (w' v' : CW) (H : Heap) (locs : List Loc), cH G w' H → rH G v' H → Sim w' v' → va_S (LA s) s.heap H locs → W p l e room_1 s m #[Value.ref b] below meth c H locs cells slots (lw_Z below #[Value.ref b] s) (F0 m 1310 ls [])) : W p l e room_1 s m #[Value.ref b] below meth c H locs cells slots (lw_Z below #[Value.ref b] s) (F0 m 192 ls []) := by
  have hx := X.1.1
  have hb := X.1.2.1
  have hbA : ¬ LA s b := Nat.not_le.mpr hbl
  have hcA : ∀ q, cA G q → s.heap.size ≤ q := fun q h => hgA q (cA_g q h)
  have hrA : ∀ q, rA G q → s.heap.size ≤ q := fun q h => hgA q (rA_g q h)
  have hv1 : vp_in (nI (5 * j) + 1) L := by rw [show (1 : Int32) = nI 1 from rfl, nI_add]; exact vp_in_nI (by omega) (by omega)
  have hv2 : vp_in (nI (5 * j) + 2) L := by rw [show (2 : Int32) = nI 2 from rfl, nI_add]; exact vp_in_nI (by omega) (by omega)
  obtain ⟨r, w', v', hC, hRr, hSim⟩ := hsim 0 (by decide) w v (xs (nI (5 * j) + 1).toNatClampNeg) (xs (nI (5 * j) + 2).toNatClampNeg) 0 0 hs0
  refine lv_aload_n hx hb dL_law_192 rfl (lv_at hl 2 rfl) ?_
  refine lv_aload_n hx hb dL_law_193 rfl (lv_at hl 1 rfl) ?_
  refine lv_iload_n hx hb dL_law_194 rfl (lv_at hl 0 rfl) ?_
  refine lv_iconst (v := 1) hx hb dL_law_195 (by decide) ?_
  refine lv_iadd hx hb dL_law_196 ?_
  refine va_sld hx hb hX hbl hbA hS hv1 dL_law_197 ?_
  refine lv_aload_n hx hb dL_law_198 rfl (lv_at hl 1 rfl) ?_
  refine lv_iload_n hx hb dL_law_199 rfl (lv_at hl 0 rfl) ?_
  refine lv_iconst (v := 2) hx hb dL_law_200 (by decide) ?_
  refine lv_iadd hx hb dL_law_201 ?_
  refine va_sld hx hb hX hbl hbA hS hv2 dL_law_202 ?_
  have gC := hC
  refine lVi (rest := []) X (c_X11_sort l G w (xs (nI (5 * j) + 1).toNatClampNeg) (xs (nI (5 * j) + 2).toNatClampNeg) (r, w') gC) bw612 bw613 bw614 bw86 bw615 cn_X11_sort ⟨rfl, rfl, Nat.le_of_ble_eq_true rfl, Nat.le_of_ble_eq_true rfl⟩ (l_recC X hH) hcA hH hS hl rfl (Nat.le_of_ble_eq_true rfl) dL_law_203 hcs (fun H1 locs1 hN hk hS => ?_)
  have hR := rH_kept hdis hR hk
  have hH : cH G w' H1 := hN
  generalize H1 = H at hH hR hS ⊢
  generalize locs1 = locs at hS ⊢
  refine lv_aload_n hx hb dL_law_206 rfl (lv_at hl 3 rfl) ?_
  refine lv_aload_n hx hb dL_law_207 rfl (lv_at hl 1 rfl) ?_
  refine lv_iload_n hx hb dL_law_208 rfl (lv_at hl 0 rfl) ?_
  refine lv_iconst (v := 1) hx hb dL_law_209 (by decide) ?_
  refine lv_iadd hx hb dL_law_210 ?_
  refine va_sld hx hb hX hbl hbA hS hv1 dL_law_211 ?_
  refine lv_aload_n hx hb dL_law_212 rfl (lv_at hl 1 rfl) ?_
  refine lv_iload_n hx hb dL_law_213 rfl (lv_at hl 0 rfl) ?_
  refine lv_iconst (v := 2) hx hb dL_law_214 (by decide) ?_
  refine lv_iadd hx hb dL_law_215 ?_
  refine va_sld hx hb hX hbl hbA hS hv2 dL_law_216 ?_
  have gR := hRr
  refine lVi (rest := [.int r]) X (c_X12_sort l G v (xs (nI (5 * j) + 1).toNatClampNeg) (xs (nI (5 * j) + 2).toNatClampNeg) (r, v') gR) bw1470 bw1471 bw1472 bw105 bw1473 cn_X12_sort ⟨rfl, rfl, Nat.le_of_ble_eq_true rfl, Nat.le_of_ble_eq_true rfl⟩ (l_recR X hR) hrA hR hS hl rfl (Nat.le_of_ble_eq_true rfl) dL_law_217 hcs (fun H1 locs1 hN hk hS => ?_)
  have hH := cH_kept hdis hH hk
  have hR : rH G v' H1 := hN
  generalize H1 = H at hH hR hS ⊢
  generalize locs1 = locs at hS ⊢
  refine lv_icmp_eq (tgt := 1310) hx hb dL_law_220 (by decide) (fun _ => ?_) (fun hc => absurd rfl hc)
  exact hback w' v' _ _ hH hR hSim hS
set_option maxHeartbeats 4000000 in
set_option maxRecDepth 100000 in
theorem law_1 {p : Program} {e : Env} {s : State} {m : MethodId} {below : List Frame} {meth : Method} {c : Code} (l : Launch) {b L : Nat} {xs : Nat → Int32} {G : GX} {Sim : CW → CW → Prop} (hsim : SIM Sim) (hL : L ≤ 2560) (X : LX G p s m #[Value.ref b] meth c) (hX : va_X b L xs s s.heap) (hbl : b < s.heap.size) (hgA : ∀ q, gA G q → s.heap.size ≤ q) (hdis : ∀ q, cA G q → ¬ rA G q) {cells slots : Nat} (hcs : cells ≤ room_1.cells ∧ slots ≤ room_1.slots) {j : Nat} (hj : 5 * j + 5 ≤ L) {w v : CW} {H : Heap} {locs : List Loc} {ls : Array Slot} (hH : cH G w H) (hR : rH G v H) (hS : va_S (LA s) s.heap H locs) (hl : lv_has ls 4 [(3, .int (nI (5 * j))), (0, .ref b), (1, .ref (G.2.2.1 190)), (2, .ref (G.2.2.1 300))]) (hs0 : Sim w v) (hback : ∀ (w' v' : CW) (H : Heap) (locs : List Loc), cH G w' H → rH G v' H → Sim w' v' → va_S (LA s) s.heap H locs → W p l e room_1 s m #[Value.ref b] below meth c H locs cells slots (lw_Z below #[Value.ref b] s) (F0 m 1310 ls [])) : W p l e room_1 s m #[Value.ref b] below meth c H locs cells slots (lw_Z below #[Value.ref b] s) (F0 m 225 ls []) := by
  have hx := X.1.1
  have hb := X.1.2.1
  have hbA : ¬ LA s b := Nat.not_le.mpr hbl
  have hcA : ∀ q, cA G q → s.heap.size ≤ q := fun q h => hgA q (cA_g q h)
  have hrA : ∀ q, rA G q → s.heap.size ≤ q := fun q h => hgA q (rA_g q h)
  have hv1 : vp_in (nI (5 * j) + 1) L := by rw [show (1 : Int32) = nI 1 from rfl, nI_add]; exact vp_in_nI (by omega) (by omega)
  have hv2 : vp_in (nI (5 * j) + 2) L := by rw [show (2 : Int32) = nI 2 from rfl, nI_add]; exact vp_in_nI (by omega) (by omega)
  obtain ⟨r, w', v', hC, hRr, hSim⟩ := hsim 1 (by decide) w v (xs (nI (5 * j) + 1).toNatClampNeg) (xs (nI (5 * j) + 2).toNatClampNeg) 0 0 hs0
  refine lv_aload_n hx hb dL_law_225 rfl (lv_at hl 2 rfl) ?_
  refine lv_aload_n hx hb dL_law_226 rfl (lv_at hl 1 rfl) ?_
  refine lv_iload_n hx hb dL_law_227 rfl (lv_at hl 0 rfl) ?_
  refine lv_iconst (v := 1) hx hb dL_law_228 (by decide) ?_
  refine lv_iadd hx hb dL_law_229 ?_
  refine va_sld hx hb hX hbl hbA hS hv1 dL_law_230 ?_
  refine lv_aload_n hx hb dL_law_231 rfl (lv_at hl 1 rfl) ?_
  refine lv_iload_n hx hb dL_law_232 rfl (lv_at hl 0 rfl) ?_
  refine lv_iconst (v := 2) hx hb dL_law_233 (by decide) ?_
  refine lv_iadd hx hb dL_law_234 ?_
  refine va_sld hx hb hX hbl hbA hS hv2 dL_law_235 ?_
  have gC := so_s hC
  refine lVi (rest := []) X (c_X11_cast l G w (xs (nI (5 * j) + 1).toNatClampNeg) (xs (nI (5 * j) + 2).toNatClampNeg) (r, w') gC) bw637 bw638 bw639 bw86 bw640 cn_X11_cast ⟨rfl, rfl, Nat.le_of_ble_eq_true rfl, Nat.le_of_ble_eq_true rfl⟩ (l_recC X hH) hcA hH hS hl rfl (Nat.le_of_ble_eq_true rfl) dL_law_236 hcs (fun H1 locs1 hN hk hS => ?_)
  have hR := rH_kept hdis hR hk
  have hH : cH G w' H1 := hN
  generalize H1 = H at hH hR hS ⊢
  generalize locs1 = locs at hS ⊢
  refine lv_aload_n hx hb dL_law_239 rfl (lv_at hl 3 rfl) ?_
  refine lv_aload_n hx hb dL_law_240 rfl (lv_at hl 1 rfl) ?_
  refine lv_iload_n hx hb dL_law_241 rfl (lv_at hl 0 rfl) ?_
  refine lv_iconst (v := 1) hx hb dL_law_242 (by decide) ?_
  refine lv_iadd hx hb dL_law_243 ?_
  refine va_sld hx hb hX hbl hbA hS hv1 dL_law_244 ?_
  refine lv_aload_n hx hb dL_law_245 rfl (lv_at hl 1 rfl) ?_
  refine lv_iload_n hx hb dL_law_246 rfl (lv_at hl 0 rfl) ?_
  refine lv_iconst (v := 2) hx hb dL_law_247 (by decide) ?_
  refine lv_iadd hx hb dL_law_248 ?_
  refine va_sld hx hb hX hbl hbA hS hv2 dL_law_249 ?_
  have gR := hRr
  refine lVi (rest := [.int r]) X (c_X12_cast l G v (xs (nI (5 * j) + 1).toNatClampNeg) (xs (nI (5 * j) + 2).toNatClampNeg) (r, v') gR) bw1484 bw1485 bw1486 bw105 bw1487 cn_X12_cast ⟨rfl, rfl, Nat.le_of_ble_eq_true rfl, Nat.le_of_ble_eq_true rfl⟩ (l_recR X hR) hrA hR hS hl rfl (Nat.le_of_ble_eq_true rfl) dL_law_250 hcs (fun H1 locs1 hN hk hS => ?_)
  have hH := cH_kept hdis hH hk
  have hR : rH G v' H1 := hN
  generalize H1 = H at hH hR hS ⊢
  generalize locs1 = locs at hS ⊢
  refine lv_icmp_eq (tgt := 1310) hx hb dL_law_253 (by decide) (fun _ => ?_) (fun hc => absurd rfl hc)
  exact hback w' v' _ _ hH hR hSim hS
set_option maxHeartbeats 4000000 in
set_option maxRecDepth 100000 in
theorem law_2 {p : Program} {e : Env} {s : State} {m : MethodId} {below : List Frame} {meth : Method} {c : Code} (l : Launch) {b L : Nat} {xs : Nat → Int32} {G : GX} {Sim : CW → CW → Prop} (hsim : SIM Sim) (hL : L ≤ 2560) (X : LX G p s m #[Value.ref b] meth c) (hX : va_X b L xs s s.heap) (hbl : b < s.heap.size) (hgA : ∀ q, gA G q → s.heap.size ≤ q) (hdis : ∀ q, cA G q → ¬ rA G q) {cells slots : Nat} (hcs : cells ≤ room_1.cells ∧ slots ≤ room_1.slots) {j : Nat} (hj : 5 * j + 5 ≤ L) {w v : CW} {H : Heap} {locs : List Loc} {ls : Array Slot} (hH : cH G w H) (hR : rH G v H) (hS : va_S (LA s) s.heap H locs) (hl : lv_has ls 4 [(3, .int (nI (5 * j))), (0, .ref b), (1, .ref (G.2.2.1 190)), (2, .ref (G.2.2.1 300))]) (hs0 : Sim w v) (hback : ∀ (w' v' : CW) (H : Heap) (locs : List Loc), cH G w' H → rH G v' H → Sim w' v' → va_S (LA s) s.heap H locs → W p l e room_1 s m #[Value.ref b] below meth c H locs cells slots (lw_Z below #[Value.ref b] s) (F0 m 1310 ls [])) : W p l e room_1 s m #[Value.ref b] below meth c H locs cells slots (lw_Z below #[Value.ref b] s) (F0 m 258 ls []) := by
  have hx := X.1.1
  have hb := X.1.2.1
  have hbA : ¬ LA s b := Nat.not_le.mpr hbl
  have hcA : ∀ q, cA G q → s.heap.size ≤ q := fun q h => hgA q (cA_g q h)
  have hrA : ∀ q, rA G q → s.heap.size ≤ q := fun q h => hgA q (rA_g q h)
  have hv1 : vp_in (nI (5 * j) + 1) L := by rw [show (1 : Int32) = nI 1 from rfl, nI_add]; exact vp_in_nI (by omega) (by omega)
  have hv2 : vp_in (nI (5 * j) + 2) L := by rw [show (2 : Int32) = nI 2 from rfl, nI_add]; exact vp_in_nI (by omega) (by omega)
  obtain ⟨r, w', v', hC, hRr, hSim⟩ := hsim 2 (by decide) w v (xs (nI (5 * j) + 1).toNatClampNeg) (xs (nI (5 * j) + 2).toNatClampNeg) 0 0 hs0
  refine lv_aload_n hx hb dL_law_258 rfl (lv_at hl 2 rfl) ?_
  refine lv_aload_n hx hb dL_law_259 rfl (lv_at hl 1 rfl) ?_
  refine lv_iload_n hx hb dL_law_260 rfl (lv_at hl 0 rfl) ?_
  refine lv_iconst (v := 1) hx hb dL_law_261 (by decide) ?_
  refine lv_iadd hx hb dL_law_262 ?_
  refine va_sld hx hb hX hbl hbA hS hv1 dL_law_263 ?_
  refine lv_aload_n hx hb dL_law_264 rfl (lv_at hl 1 rfl) ?_
  refine lv_iload_n hx hb dL_law_265 rfl (lv_at hl 0 rfl) ?_
  refine lv_iconst (v := 2) hx hb dL_law_266 (by decide) ?_
  refine lv_iadd hx hb dL_law_267 ?_
  refine va_sld hx hb hX hbl hbA hS hv2 dL_law_268 ?_
  obtain ⟨gC, eC⟩ := kIo hC
  refine lVi (rest := []) X (c_X11_many l G w (xs (nI (5 * j) + 1).toNatClampNeg) (xs (nI (5 * j) + 2).toNatClampNeg) r gC) bw651 bw652 bw653 bw86 bw654 cn_X11_many ⟨rfl, rfl, Nat.le_of_ble_eq_true rfl, Nat.le_of_ble_eq_true rfl⟩ (l_recC X hH) hcA hH hS hl rfl (Nat.le_of_ble_eq_true rfl) dL_law_269 hcs (fun H1 locs1 hN hk hS => ?_)
  have hR := rH_kept hdis hR hk
  have hH : cH G w' H1 := eC ▸ hN
  generalize H1 = H at hH hR hS ⊢
  generalize locs1 = locs at hS ⊢
  refine lv_aload_n hx hb dL_law_272 rfl (lv_at hl 3 rfl) ?_
  refine lv_aload_n hx hb dL_law_273 rfl (lv_at hl 1 rfl) ?_
  refine lv_iload_n hx hb dL_law_274 rfl (lv_at hl 0 rfl) ?_
  refine lv_iconst (v := 1) hx hb dL_law_275 (by decide) ?_
  refine lv_iadd hx hb dL_law_276 ?_
  refine va_sld hx hb hX hbl hbA hS hv1 dL_law_277 ?_
  refine lv_aload_n hx hb dL_law_278 rfl (lv_at hl 1 rfl) ?_
  refine lv_iload_n hx hb dL_law_279 rfl (lv_at hl 0 rfl) ?_
  refine lv_iconst (v := 2) hx hb dL_law_280 (by decide) ?_
  refine lv_iadd hx hb dL_law_281 ?_
  refine va_sld hx hb hX hbl hbA hS hv2 dL_law_282 ?_
  obtain ⟨gR, eR⟩ := kIo hRr
  refine lVi (rest := [.int r]) X (c_X12_many l G v (xs (nI (5 * j) + 1).toNatClampNeg) (xs (nI (5 * j) + 2).toNatClampNeg) r gR) bw1488 bw1489 bw1490 bw105 bw1491 cn_X12_many ⟨rfl, rfl, Nat.le_of_ble_eq_true rfl, Nat.le_of_ble_eq_true rfl⟩ (l_recR X hR) hrA hR hS hl rfl (Nat.le_of_ble_eq_true rfl) dL_law_283 hcs (fun H1 locs1 hN hk hS => ?_)
  have hH := cH_kept hdis hH hk
  have hR : rH G v' H1 := eR ▸ hN
  generalize H1 = H at hH hR hS ⊢
  generalize locs1 = locs at hS ⊢
  refine lv_icmp_eq (tgt := 1310) hx hb dL_law_286 (by decide) (fun _ => ?_) (fun hc => absurd rfl hc)
  exact hback w' v' _ _ hH hR hSim hS
set_option maxHeartbeats 4000000 in
set_option maxRecDepth 100000 in
theorem law_3 {p : Program} {e : Env} {s : State} {m : MethodId} {below : List Frame} {meth : Method} {c : Code} (l : Launch) {b L : Nat} {xs : Nat → Int32} {G : GX} {Sim : CW → CW → Prop} (hsim : SIM Sim) (hL : L ≤ 2560) (X : LX G p s m #[Value.ref b] meth c) (hX : va_X b L xs s s.heap) (hbl : b < s.heap.size) (hgA : ∀ q, gA G q → s.heap.size ≤ q) (hdis : ∀ q, cA G q → ¬ rA G q) {cells slots : Nat} (hcs : cells ≤ room_1.cells ∧ slots ≤ room_1.slots) {j : Nat} (hj : 5 * j + 5 ≤ L) {w v : CW} {H : Heap} {locs : List Loc} {ls : Array Slot} (hH : cH G w H) (hR : rH G v H) (hS : va_S (LA s) s.heap H locs) (hl : lv_has ls 4 [(3, .int (nI (5 * j))), (0, .ref b), (1, .ref (G.2.2.1 190)), (2, .ref (G.2.2.1 300))]) (hs0 : Sim w v) (hback : ∀ (w' v' : CW) (H : Heap) (locs : List Loc), cH G w' H → rH G v' H → Sim w' v' → va_S (LA s) s.heap H locs → W p l e room_1 s m #[Value.ref b] below meth c H locs cells slots (lw_Z below #[Value.ref b] s) (F0 m 1310 ls [])) : W p l e room_1 s m #[Value.ref b] below meth c H locs cells slots (lw_Z below #[Value.ref b] s) (F0 m 291 ls []) := by
  have hx := X.1.1
  have hb := X.1.2.1
  have hbA : ¬ LA s b := Nat.not_le.mpr hbl
  have hcA : ∀ q, cA G q → s.heap.size ≤ q := fun q h => hgA q (cA_g q h)
  have hrA : ∀ q, rA G q → s.heap.size ≤ q := fun q h => hgA q (rA_g q h)
  have hv1 : vp_in (nI (5 * j) + 1) L := by rw [show (1 : Int32) = nI 1 from rfl, nI_add]; exact vp_in_nI (by omega) (by omega)
  obtain ⟨r, w', v', hC, hRr, hSim⟩ := hsim 3 (by decide) w v (xs (nI (5 * j) + 1).toNatClampNeg) 0 0 0 hs0
  refine lv_aload_n hx hb dL_law_291 rfl (lv_at hl 2 rfl) ?_
  refine lv_aload_n hx hb dL_law_292 rfl (lv_at hl 1 rfl) ?_
  refine lv_iload_n hx hb dL_law_293 rfl (lv_at hl 0 rfl) ?_
  refine lv_iconst (v := 1) hx hb dL_law_294 (by decide) ?_
  refine lv_iadd hx hb dL_law_295 ?_
  refine va_sld hx hb hX hbl hbA hS hv1 dL_law_296 ?_
  have gC := so_s hC
  refine lVi (rest := []) X (c_X11_day l G w (xs (nI (5 * j) + 1).toNatClampNeg) (r, w') gC) bw663 bw664 bw665 bw86 bw666 cn_X11_day ⟨rfl, rfl, Nat.le_of_ble_eq_true rfl, Nat.le_of_ble_eq_true rfl⟩ (l_recC X hH) hcA hH hS hl rfl (Nat.le_of_ble_eq_true rfl) dL_law_297 hcs (fun H1 locs1 hN hk hS => ?_)
  have hR := rH_kept hdis hR hk
  have hH : cH G w' H1 := hN
  generalize H1 = H at hH hR hS ⊢
  generalize locs1 = locs at hS ⊢
  refine lv_aload_n hx hb dL_law_300 rfl (lv_at hl 3 rfl) ?_
  refine lv_aload_n hx hb dL_law_301 rfl (lv_at hl 1 rfl) ?_
  refine lv_iload_n hx hb dL_law_302 rfl (lv_at hl 0 rfl) ?_
  refine lv_iconst (v := 1) hx hb dL_law_303 (by decide) ?_
  refine lv_iadd hx hb dL_law_304 ?_
  refine va_sld hx hb hX hbl hbA hS hv1 dL_law_305 ?_
  have gR := hRr
  refine lVi (rest := [.int r]) X (c_X12_day l G v (xs (nI (5 * j) + 1).toNatClampNeg) (r, v') gR) bw1492 bw1493 bw1494 bw105 bw1495 cn_X12_day ⟨rfl, rfl, Nat.le_of_ble_eq_true rfl, Nat.le_of_ble_eq_true rfl⟩ (l_recR X hR) hrA hR hS hl rfl (Nat.le_of_ble_eq_true rfl) dL_law_306 hcs (fun H1 locs1 hN hk hS => ?_)
  have hH := cH_kept hdis hH hk
  have hR : rH G v' H1 := hN
  generalize H1 = H at hH hR hS ⊢
  generalize locs1 = locs at hS ⊢
  refine lv_icmp_eq (tgt := 1310) hx hb dL_law_309 (by decide) (fun _ => ?_) (fun hc => absurd rfl hc)
  exact hback w' v' _ _ hH hR hSim hS
set_option maxHeartbeats 4000000 in
set_option maxRecDepth 100000 in
theorem law_4 {p : Program} {e : Env} {s : State} {m : MethodId} {below : List Frame} {meth : Method} {c : Code} (l : Launch) {b L : Nat} {xs : Nat → Int32} {G : GX} {Sim : CW → CW → Prop} (hsim : SIM Sim) (hL : L ≤ 2560) (X : LX G p s m #[Value.ref b] meth c) (hX : va_X b L xs s s.heap) (hbl : b < s.heap.size) (hgA : ∀ q, gA G q → s.heap.size ≤ q) (hdis : ∀ q, cA G q → ¬ rA G q) {cells slots : Nat} (hcs : cells ≤ room_1.cells ∧ slots ≤ room_1.slots) {j : Nat} (hj : 5 * j + 5 ≤ L) {w v : CW} {H : Heap} {locs : List Loc} {ls : Array Slot} (hH : cH G w H) (hR : rH G v H) (hS : va_S (LA s) s.heap H locs) (hl : lv_has ls 4 [(3, .int (nI (5 * j))), (0, .ref b), (1, .ref (G.2.2.1 190)), (2, .ref (G.2.2.1 300))]) (hs0 : Sim w v) (hback : ∀ (w' v' : CW) (H : Heap) (locs : List Loc), cH G w' H → rH G v' H → Sim w' v' → va_S (LA s) s.heap H locs → W p l e room_1 s m #[Value.ref b] below meth c H locs cells slots (lw_Z below #[Value.ref b] s) (F0 m 1310 ls [])) : W p l e room_1 s m #[Value.ref b] below meth c H locs cells slots (lw_Z below #[Value.ref b] s) (F0 m 314 ls []) := by
  have hx := X.1.1
  have hb := X.1.2.1
  have hbA : ¬ LA s b := Nat.not_le.mpr hbl
  have hcA : ∀ q, cA G q → s.heap.size ≤ q := fun q h => hgA q (cA_g q h)
  have hrA : ∀ q, rA G q → s.heap.size ≤ q := fun q h => hgA q (rA_g q h)
  have hv1 : vp_in (nI (5 * j) + 1) L := by rw [show (1 : Int32) = nI 1 from rfl, nI_add]; exact vp_in_nI (by omega) (by omega)
  have hv2 : vp_in (nI (5 * j) + 2) L := by rw [show (2 : Int32) = nI 2 from rfl, nI_add]; exact vp_in_nI (by omega) (by omega)
  have hv3 : vp_in (nI (5 * j) + 3) L := by rw [show (3 : Int32) = nI 3 from rfl, nI_add]; exact vp_in_nI (by omega) (by omega)
  obtain ⟨r, w', v', hC, hRr, hSim⟩ := hsim 4 (by decide) w v (xs (nI (5 * j) + 1).toNatClampNeg) (xs (nI (5 * j) + 2).toNatClampNeg) (xs (nI (5 * j) + 3).toNatClampNeg) 0 hs0
  refine lv_aload_n hx hb dL_law_314 rfl (lv_at hl 2 rfl) ?_
  refine lv_aload_n hx hb dL_law_315 rfl (lv_at hl 1 rfl) ?_
  refine lv_iload_n hx hb dL_law_316 rfl (lv_at hl 0 rfl) ?_
  refine lv_iconst (v := 1) hx hb dL_law_317 (by decide) ?_
  refine lv_iadd hx hb dL_law_318 ?_
  refine va_sld hx hb hX hbl hbA hS hv1 dL_law_319 ?_
  refine lv_i2l hx hb dL_law_320 rfl ?_
  refine lv_bipush (v := 32) hx hb dL_law_321 (by decide) ?_
  refine lv_lshl hx hb dL_law_323 rfl ?_
  refine lv_aload_n hx hb dL_law_324 rfl (lv_at hl 1 rfl) ?_
  refine lv_iload_n hx hb dL_law_325 rfl (lv_at hl 0 rfl) ?_
  refine lv_iconst (v := 2) hx hb dL_law_326 (by decide) ?_
  refine lv_iadd hx hb dL_law_327 ?_
  refine va_sld hx hb hX hbl hbA hS hv2 dL_law_328 ?_
  refine lv_i2l hx hb dL_law_329 rfl ?_
  refine lv_ldc2 (v := 4294967295) hx hb X.1.2.2.2.1 (X.1.2.2.2.2 _ bw1790) dL_law_330 ?_
  refine lv_land hx hb dL_law_333 ?_
  refine lv_lor hx hb dL_law_334 ?_
  refine lv_aload_n hx hb dL_law_335 rfl (lv_at hl 1 rfl) ?_
  refine lv_iload_n hx hb dL_law_336 rfl (lv_at hl 0 rfl) ?_
  refine lv_iconst (v := 3) hx hb dL_law_337 (by decide) ?_
  refine lv_iadd hx hb dL_law_338 ?_
  refine va_sld hx hb hX hbl hbA hS hv3 dL_law_339 ?_
  have gC := hC
  refine lVi (rest := []) X (c_X11_feed l G w (((xs (nI (5 * j) + 1).toNatClampNeg).toInt64 <<< ((32 : Int32).toInt64 &&& 63)) ||| ((xs (nI (5 * j) + 2).toNatClampNeg).toInt64 &&& 4294967295)) (xs (nI (5 * j) + 3).toNatClampNeg) (r, w') gC) bw672 bw673 bw674 bw86 bw675 cn_X11_feed ⟨rfl, rfl, Nat.le_of_ble_eq_true rfl, Nat.le_of_ble_eq_true rfl⟩ (l_recC X hH) hcA hH hS hl rfl (Nat.le_of_ble_eq_true rfl) dL_law_340 hcs (fun H1 locs1 hN hk hS => ?_)
  have hR := rH_kept hdis hR hk
  have hH : cH G w' H1 := hN
  generalize H1 = H at hH hR hS ⊢
  generalize locs1 = locs at hS ⊢
  refine lv_aload_n hx hb dL_law_343 rfl (lv_at hl 3 rfl) ?_
  refine lv_aload_n hx hb dL_law_344 rfl (lv_at hl 1 rfl) ?_
  refine lv_iload_n hx hb dL_law_345 rfl (lv_at hl 0 rfl) ?_
  refine lv_iconst (v := 1) hx hb dL_law_346 (by decide) ?_
  refine lv_iadd hx hb dL_law_347 ?_
  refine va_sld hx hb hX hbl hbA hS hv1 dL_law_348 ?_
  refine lv_i2l hx hb dL_law_349 rfl ?_
  refine lv_bipush (v := 32) hx hb dL_law_350 (by decide) ?_
  refine lv_lshl hx hb dL_law_352 rfl ?_
  refine lv_aload_n hx hb dL_law_353 rfl (lv_at hl 1 rfl) ?_
  refine lv_iload_n hx hb dL_law_354 rfl (lv_at hl 0 rfl) ?_
  refine lv_iconst (v := 2) hx hb dL_law_355 (by decide) ?_
  refine lv_iadd hx hb dL_law_356 ?_
  refine va_sld hx hb hX hbl hbA hS hv2 dL_law_357 ?_
  refine lv_i2l hx hb dL_law_358 rfl ?_
  refine lv_ldc2 (v := 4294967295) hx hb X.1.2.2.2.1 (X.1.2.2.2.2 _ bw1790) dL_law_359 ?_
  refine lv_land hx hb dL_law_362 ?_
  refine lv_lor hx hb dL_law_363 ?_
  refine lv_aload_n hx hb dL_law_364 rfl (lv_at hl 1 rfl) ?_
  refine lv_iload_n hx hb dL_law_365 rfl (lv_at hl 0 rfl) ?_
  refine lv_iconst (v := 3) hx hb dL_law_366 (by decide) ?_
  refine lv_iadd hx hb dL_law_367 ?_
  refine va_sld hx hb hX hbl hbA hS hv3 dL_law_368 ?_
  have gR := hRr
  refine lVi (rest := [.int r]) X (c_X12_feed l G v (((xs (nI (5 * j) + 1).toNatClampNeg).toInt64 <<< ((32 : Int32).toInt64 &&& 63)) ||| ((xs (nI (5 * j) + 2).toNatClampNeg).toInt64 &&& 4294967295)) (xs (nI (5 * j) + 3).toNatClampNeg) (r, v') gR) bw1496 bw1497 bw1498 bw105 bw1499 cn_X12_feed ⟨rfl, rfl, Nat.le_of_ble_eq_true rfl, Nat.le_of_ble_eq_true rfl⟩ (l_recR X hR) hrA hR hS hl rfl (Nat.le_of_ble_eq_true rfl) dL_law_369 hcs (fun H1 locs1 hN hk hS => ?_)
  have hH := cH_kept hdis hH hk
  have hR : rH G v' H1 := hN
  generalize H1 = H at hH hR hS ⊢
  generalize locs1 = locs at hS ⊢
  refine lv_icmp_eq (tgt := 1310) hx hb dL_law_372 (by decide) (fun _ => ?_) (fun hc => absurd rfl hc)
  exact hback w' v' _ _ hH hR hSim hS
set_option maxHeartbeats 4000000 in
set_option maxRecDepth 100000 in
theorem law_5 {p : Program} {e : Env} {s : State} {m : MethodId} {below : List Frame} {meth : Method} {c : Code} (l : Launch) {b L : Nat} {xs : Nat → Int32} {G : GX} {Sim : CW → CW → Prop} (hsim : SIM Sim) (hL : L ≤ 2560) (X : LX G p s m #[Value.ref b] meth c) (hX : va_X b L xs s s.heap) (hbl : b < s.heap.size) (hgA : ∀ q, gA G q → s.heap.size ≤ q) (hdis : ∀ q, cA G q → ¬ rA G q) {cells slots : Nat} (hcs : cells ≤ room_1.cells ∧ slots ≤ room_1.slots) {j : Nat} (hj : 5 * j + 5 ≤ L) {w v : CW} {H : Heap} {locs : List Loc} {ls : Array Slot} (hH : cH G w H) (hR : rH G v H) (hS : va_S (LA s) s.heap H locs) (hl : lv_has ls 4 [(3, .int (nI (5 * j))), (0, .ref b), (1, .ref (G.2.2.1 190)), (2, .ref (G.2.2.1 300))]) (hs0 : Sim w v) (hback : ∀ (w' v' : CW) (H : Heap) (locs : List Loc), cH G w' H → rH G v' H → Sim w' v' → va_S (LA s) s.heap H locs → W p l e room_1 s m #[Value.ref b] below meth c H locs cells slots (lw_Z below #[Value.ref b] s) (F0 m 1310 ls [])) : W p l e room_1 s m #[Value.ref b] below meth c H locs cells slots (lw_Z below #[Value.ref b] s) (F0 m 377 ls []) := by
  have hx := X.1.1
  have hb := X.1.2.1
  have hbA : ¬ LA s b := Nat.not_le.mpr hbl
  have hcA : ∀ q, cA G q → s.heap.size ≤ q := fun q h => hgA q (cA_g q h)
  have hrA : ∀ q, rA G q → s.heap.size ≤ q := fun q h => hgA q (rA_g q h)
  have hv1 : vp_in (nI (5 * j) + 1) L := by rw [show (1 : Int32) = nI 1 from rfl, nI_add]; exact vp_in_nI (by omega) (by omega)
  obtain ⟨r, w', v', hC, hRr, hSim⟩ := hsim 5 (by decide) w v (xs (nI (5 * j) + 1).toNatClampNeg) 0 0 0 hs0
  refine lv_aload_n hx hb dL_law_377 rfl (lv_at hl 2 rfl) ?_
  refine lv_aload_n hx hb dL_law_378 rfl (lv_at hl 1 rfl) ?_
  refine lv_iload_n hx hb dL_law_379 rfl (lv_at hl 0 rfl) ?_
  refine lv_iconst (v := 1) hx hb dL_law_380 (by decide) ?_
  refine lv_iadd hx hb dL_law_381 ?_
  refine va_sld hx hb hX hbl hbA hS hv1 dL_law_382 ?_
  have gC := hC
  refine lVi (rest := []) X (c_X11_text l G w (xs (nI (5 * j) + 1).toNatClampNeg) (r, w') gC) bw682 bw683 bw684 bw86 bw685 cn_X11_text ⟨rfl, rfl, Nat.le_of_ble_eq_true rfl, Nat.le_of_ble_eq_true rfl⟩ (l_recC X hH) hcA hH hS hl rfl (Nat.le_of_ble_eq_true rfl) dL_law_383 hcs (fun H1 locs1 hN hk hS => ?_)
  have hR := rH_kept hdis hR hk
  have hH : cH G w' H1 := hN
  generalize H1 = H at hH hR hS ⊢
  generalize locs1 = locs at hS ⊢
  refine lv_aload_n hx hb dL_law_386 rfl (lv_at hl 3 rfl) ?_
  refine lv_aload_n hx hb dL_law_387 rfl (lv_at hl 1 rfl) ?_
  refine lv_iload_n hx hb dL_law_388 rfl (lv_at hl 0 rfl) ?_
  refine lv_iconst (v := 1) hx hb dL_law_389 (by decide) ?_
  refine lv_iadd hx hb dL_law_390 ?_
  refine va_sld hx hb hX hbl hbA hS hv1 dL_law_391 ?_
  have gR := hRr
  refine lVi (rest := [.int r]) X (c_X12_text l G v (xs (nI (5 * j) + 1).toNatClampNeg) (r, v') gR) bw1501 bw1502 bw1503 bw105 bw1504 cn_X12_text ⟨rfl, rfl, Nat.le_of_ble_eq_true rfl, Nat.le_of_ble_eq_true rfl⟩ (l_recR X hR) hrA hR hS hl rfl (Nat.le_of_ble_eq_true rfl) dL_law_392 hcs (fun H1 locs1 hN hk hS => ?_)
  have hH := cH_kept hdis hH hk
  have hR : rH G v' H1 := hN
  generalize H1 = H at hH hR hS ⊢
  generalize locs1 = locs at hS ⊢
  refine lv_icmp_eq (tgt := 1310) hx hb dL_law_395 (by decide) (fun _ => ?_) (fun hc => absurd rfl hc)
  exact hback w' v' _ _ hH hR hSim hS
set_option maxHeartbeats 4000000 in
set_option maxRecDepth 100000 in
theorem law_6 {p : Program} {e : Env} {s : State} {m : MethodId} {below : List Frame} {meth : Method} {c : Code} (l : Launch) {b L : Nat} {xs : Nat → Int32} {G : GX} {Sim : CW → CW → Prop} (hsim : SIM Sim) (hL : L ≤ 2560) (X : LX G p s m #[Value.ref b] meth c) (hX : va_X b L xs s s.heap) (hbl : b < s.heap.size) (hgA : ∀ q, gA G q → s.heap.size ≤ q) (hdis : ∀ q, cA G q → ¬ rA G q) {cells slots : Nat} (hcs : cells ≤ room_1.cells ∧ slots ≤ room_1.slots) {j : Nat} (hj : 5 * j + 5 ≤ L) {w v : CW} {H : Heap} {locs : List Loc} {ls : Array Slot} (hH : cH G w H) (hR : rH G v H) (hS : va_S (LA s) s.heap H locs) (hl : lv_has ls 4 [(3, .int (nI (5 * j))), (0, .ref b), (1, .ref (G.2.2.1 190)), (2, .ref (G.2.2.1 300))]) (hs0 : Sim w v) (hback : ∀ (w' v' : CW) (H : Heap) (locs : List Loc), cH G w' H → rH G v' H → Sim w' v' → va_S (LA s) s.heap H locs → W p l e room_1 s m #[Value.ref b] below meth c H locs cells slots (lw_Z below #[Value.ref b] s) (F0 m 1310 ls [])) : W p l e room_1 s m #[Value.ref b] below meth c H locs cells slots (lw_Z below #[Value.ref b] s) (F0 m 400 ls []) := by
  have hx := X.1.1
  have hb := X.1.2.1
  have hbA : ¬ LA s b := Nat.not_le.mpr hbl
  have hcA : ∀ q, cA G q → s.heap.size ≤ q := fun q h => hgA q (cA_g q h)
  have hrA : ∀ q, rA G q → s.heap.size ≤ q := fun q h => hgA q (rA_g q h)
  have hv1 : vp_in (nI (5 * j) + 1) L := by rw [show (1 : Int32) = nI 1 from rfl, nI_add]; exact vp_in_nI (by omega) (by omega)
  have hv2 : vp_in (nI (5 * j) + 2) L := by rw [show (2 : Int32) = nI 2 from rfl, nI_add]; exact vp_in_nI (by omega) (by omega)
  obtain ⟨r, w', v', hC, hRr, hSim⟩ := hsim 6 (by decide) w v (xs (nI (5 * j) + 1).toNatClampNeg) (xs (nI (5 * j) + 2).toNatClampNeg) 0 0 hs0
  refine lv_aload_n hx hb dL_law_400 rfl (lv_at hl 2 rfl) ?_
  refine lv_aload_n hx hb dL_law_401 rfl (lv_at hl 1 rfl) ?_
  refine lv_iload_n hx hb dL_law_402 rfl (lv_at hl 0 rfl) ?_
  refine lv_iconst (v := 1) hx hb dL_law_403 (by decide) ?_
  refine lv_iadd hx hb dL_law_404 ?_
  refine va_sld hx hb hX hbl hbA hS hv1 dL_law_405 ?_
  refine lv_aload_n hx hb dL_law_406 rfl (lv_at hl 1 rfl) ?_
  refine lv_iload_n hx hb dL_law_407 rfl (lv_at hl 0 rfl) ?_
  refine lv_iconst (v := 2) hx hb dL_law_408 (by decide) ?_
  refine lv_iadd hx hb dL_law_409 ?_
  refine va_sld hx hb hX hbl hbA hS hv2 dL_law_410 ?_
  have gC := hC
  refine lVi (rest := []) X (c_X11_force l G w (xs (nI (5 * j) + 1).toNatClampNeg) (xs (nI (5 * j) + 2).toNatClampNeg) (r, w') gC) bw823 bw824 bw825 bw86 bw826 cn_X11_force ⟨rfl, rfl, Nat.le_of_ble_eq_true rfl, Nat.le_of_ble_eq_true rfl⟩ (l_recC X hH) hcA hH hS hl rfl (Nat.le_of_ble_eq_true rfl) dL_law_411 hcs (fun H1 locs1 hN hk hS => ?_)
  have hR := rH_kept hdis hR hk
  have hH : cH G w' H1 := hN
  generalize H1 = H at hH hR hS ⊢
  generalize locs1 = locs at hS ⊢
  refine lv_aload_n hx hb dL_law_414 rfl (lv_at hl 3 rfl) ?_
  refine lv_aload_n hx hb dL_law_415 rfl (lv_at hl 1 rfl) ?_
  refine lv_iload_n hx hb dL_law_416 rfl (lv_at hl 0 rfl) ?_
  refine lv_iconst (v := 1) hx hb dL_law_417 (by decide) ?_
  refine lv_iadd hx hb dL_law_418 ?_
  refine va_sld hx hb hX hbl hbA hS hv1 dL_law_419 ?_
  refine lv_aload_n hx hb dL_law_420 rfl (lv_at hl 1 rfl) ?_
  refine lv_iload_n hx hb dL_law_421 rfl (lv_at hl 0 rfl) ?_
  refine lv_iconst (v := 2) hx hb dL_law_422 (by decide) ?_
  refine lv_iadd hx hb dL_law_423 ?_
  refine va_sld hx hb hX hbl hbA hS hv2 dL_law_424 ?_
  have gR := hRr
  refine lVi (rest := [.int r]) X (c_X12_force l G v (xs (nI (5 * j) + 1).toNatClampNeg) (xs (nI (5 * j) + 2).toNatClampNeg) (r, v') gR) bw1558 bw1559 bw1560 bw105 bw1561 cn_X12_force ⟨rfl, rfl, Nat.le_of_ble_eq_true rfl, Nat.le_of_ble_eq_true rfl⟩ (l_recR X hR) hrA hR hS hl rfl (Nat.le_of_ble_eq_true rfl) dL_law_425 hcs (fun H1 locs1 hN hk hS => ?_)
  have hH := cH_kept hdis hH hk
  have hR : rH G v' H1 := hN
  generalize H1 = H at hH hR hS ⊢
  generalize locs1 = locs at hS ⊢
  refine lv_icmp_eq (tgt := 1310) hx hb dL_law_428 (by decide) (fun _ => ?_) (fun hc => absurd rfl hc)
  exact hback w' v' _ _ hH hR hSim hS
set_option maxHeartbeats 4000000 in
set_option maxRecDepth 100000 in
theorem law_7 {p : Program} {e : Env} {s : State} {m : MethodId} {below : List Frame} {meth : Method} {c : Code} (l : Launch) {b L : Nat} {xs : Nat → Int32} {G : GX} {Sim : CW → CW → Prop} (hsim : SIM Sim) (hL : L ≤ 2560) (X : LX G p s m #[Value.ref b] meth c) (hX : va_X b L xs s s.heap) (hbl : b < s.heap.size) (hgA : ∀ q, gA G q → s.heap.size ≤ q) (hdis : ∀ q, cA G q → ¬ rA G q) {cells slots : Nat} (hcs : cells ≤ room_1.cells ∧ slots ≤ room_1.slots) {j : Nat} (hj : 5 * j + 5 ≤ L) {w v : CW} {H : Heap} {locs : List Loc} {ls : Array Slot} (hH : cH G w H) (hR : rH G v H) (hS : va_S (LA s) s.heap H locs) (hl : lv_has ls 4 [(3, .int (nI (5 * j))), (0, .ref b), (1, .ref (G.2.2.1 190)), (2, .ref (G.2.2.1 300))]) (hs0 : Sim w v) (hback : ∀ (w' v' : CW) (H : Heap) (locs : List Loc), cH G w' H → rH G v' H → Sim w' v' → va_S (LA s) s.heap H locs → W p l e room_1 s m #[Value.ref b] below meth c H locs cells slots (lw_Z below #[Value.ref b] s) (F0 m 1310 ls [])) : W p l e room_1 s m #[Value.ref b] below meth c H locs cells slots (lw_Z below #[Value.ref b] s) (F0 m 433 ls []) := by
  have hx := X.1.1
  have hb := X.1.2.1
  have hbA : ¬ LA s b := Nat.not_le.mpr hbl
  have hcA : ∀ q, cA G q → s.heap.size ≤ q := fun q h => hgA q (cA_g q h)
  have hrA : ∀ q, rA G q → s.heap.size ≤ q := fun q h => hgA q (rA_g q h)
  obtain ⟨r, w', v', hC, hRr, hSim⟩ := hsim 7 (by decide) w v 0 0 0 0 hs0
  refine lv_aload_n hx hb dL_law_433 rfl (lv_at hl 2 rfl) ?_
  have gC := hC
  refine lVi (rest := []) X (c_X11_verse l G w (r, w') gC) bw877 bw878 bw879 bw86 bw880 cn_X11_verse ⟨rfl, rfl, Nat.le_of_ble_eq_true rfl, Nat.le_of_ble_eq_true rfl⟩ (l_recC X hH) hcA hH hS hl rfl (Nat.le_of_ble_eq_true rfl) dL_law_434 hcs (fun H1 locs1 hN hk hS => ?_)
  have hR := rH_kept hdis hR hk
  have hH : cH G w' H1 := hN
  generalize H1 = H at hH hR hS ⊢
  generalize locs1 = locs at hS ⊢
  refine lv_aload_n hx hb dL_law_437 rfl (lv_at hl 3 rfl) ?_
  have gR := hRr
  refine lVi (rest := [.int r]) X (c_X12_verse l G v (r, v') gR) bw1577 bw1578 bw1579 bw105 bw1580 cn_X12_verse ⟨rfl, rfl, Nat.le_of_ble_eq_true rfl, Nat.le_of_ble_eq_true rfl⟩ (l_recR X hR) hrA hR hS hl rfl (Nat.le_of_ble_eq_true rfl) dL_law_438 hcs (fun H1 locs1 hN hk hS => ?_)
  have hH := cH_kept hdis hH hk
  have hR : rH G v' H1 := hN
  generalize H1 = H at hH hR hS ⊢
  generalize locs1 = locs at hS ⊢
  refine lv_icmp_eq (tgt := 1310) hx hb dL_law_441 (by decide) (fun _ => ?_) (fun hc => absurd rfl hc)
  exact hback w' v' _ _ hH hR hSim hS
set_option maxHeartbeats 4000000 in
set_option maxRecDepth 100000 in
theorem law_8 {p : Program} {e : Env} {s : State} {m : MethodId} {below : List Frame} {meth : Method} {c : Code} (l : Launch) {b L : Nat} {xs : Nat → Int32} {G : GX} {Sim : CW → CW → Prop} (hsim : SIM Sim) (hL : L ≤ 2560) (X : LX G p s m #[Value.ref b] meth c) (hX : va_X b L xs s s.heap) (hbl : b < s.heap.size) (hgA : ∀ q, gA G q → s.heap.size ≤ q) (hdis : ∀ q, cA G q → ¬ rA G q) {cells slots : Nat} (hcs : cells ≤ room_1.cells ∧ slots ≤ room_1.slots) {j : Nat} (hj : 5 * j + 5 ≤ L) {w v : CW} {H : Heap} {locs : List Loc} {ls : Array Slot} (hH : cH G w H) (hR : rH G v H) (hS : va_S (LA s) s.heap H locs) (hl : lv_has ls 4 [(3, .int (nI (5 * j))), (0, .ref b), (1, .ref (G.2.2.1 190)), (2, .ref (G.2.2.1 300))]) (hs0 : Sim w v) (hback : ∀ (w' v' : CW) (H : Heap) (locs : List Loc), cH G w' H → rH G v' H → Sim w' v' → va_S (LA s) s.heap H locs → W p l e room_1 s m #[Value.ref b] below meth c H locs cells slots (lw_Z below #[Value.ref b] s) (F0 m 1310 ls [])) : W p l e room_1 s m #[Value.ref b] below meth c H locs cells slots (lw_Z below #[Value.ref b] s) (F0 m 446 ls []) := by
  have hx := X.1.1
  have hb := X.1.2.1
  have hbA : ¬ LA s b := Nat.not_le.mpr hbl
  have hcA : ∀ q, cA G q → s.heap.size ≤ q := fun q h => hgA q (cA_g q h)
  have hrA : ∀ q, rA G q → s.heap.size ≤ q := fun q h => hgA q (rA_g q h)
  have hv1 : vp_in (nI (5 * j) + 1) L := by rw [show (1 : Int32) = nI 1 from rfl, nI_add]; exact vp_in_nI (by omega) (by omega)
  have hv2 : vp_in (nI (5 * j) + 2) L := by rw [show (2 : Int32) = nI 2 from rfl, nI_add]; exact vp_in_nI (by omega) (by omega)
  have hv3 : vp_in (nI (5 * j) + 3) L := by rw [show (3 : Int32) = nI 3 from rfl, nI_add]; exact vp_in_nI (by omega) (by omega)
  obtain ⟨r, w', v', hC, hRr, hSim⟩ := hsim 8 (by decide) w v (xs (nI (5 * j) + 1).toNatClampNeg) (xs (nI (5 * j) + 2).toNatClampNeg) (xs (nI (5 * j) + 3).toNatClampNeg) 0 hs0
  refine lv_aload_n hx hb dL_law_446 rfl (lv_at hl 2 rfl) ?_
  refine lv_aload_n hx hb dL_law_447 rfl (lv_at hl 1 rfl) ?_
  refine lv_iload_n hx hb dL_law_448 rfl (lv_at hl 0 rfl) ?_
  refine lv_iconst (v := 1) hx hb dL_law_449 (by decide) ?_
  refine lv_iadd hx hb dL_law_450 ?_
  refine va_sld hx hb hX hbl hbA hS hv1 dL_law_451 ?_
  refine lv_aload_n hx hb dL_law_452 rfl (lv_at hl 1 rfl) ?_
  refine lv_iload_n hx hb dL_law_453 rfl (lv_at hl 0 rfl) ?_
  refine lv_iconst (v := 2) hx hb dL_law_454 (by decide) ?_
  refine lv_iadd hx hb dL_law_455 ?_
  refine va_sld hx hb hX hbl hbA hS hv2 dL_law_456 ?_
  refine lv_aload_n hx hb dL_law_457 rfl (lv_at hl 1 rfl) ?_
  refine lv_iload_n hx hb dL_law_458 rfl (lv_at hl 0 rfl) ?_
  refine lv_iconst (v := 3) hx hb dL_law_459 (by decide) ?_
  refine lv_iadd hx hb dL_law_460 ?_
  refine va_sld hx hb hX hbl hbA hS hv3 dL_law_461 ?_
  have gC := hC
  refine lVi (rest := []) X (c_X11_line l G w (xs (nI (5 * j) + 1).toNatClampNeg) (xs (nI (5 * j) + 2).toNatClampNeg) (xs (nI (5 * j) + 3).toNatClampNeg) (r, w') gC) bw902 bw903 bw904 bw86 bw905 cn_X11_line ⟨rfl, rfl, Nat.le_of_ble_eq_true rfl, Nat.le_of_ble_eq_true rfl⟩ (l_recC X hH) hcA hH hS hl rfl (Nat.le_of_ble_eq_true rfl) dL_law_462 hcs (fun H1 locs1 hN hk hS => ?_)
  have hR := rH_kept hdis hR hk
  have hH : cH G w' H1 := hN
  generalize H1 = H at hH hR hS ⊢
  generalize locs1 = locs at hS ⊢
  refine lv_aload_n hx hb dL_law_465 rfl (lv_at hl 3 rfl) ?_
  refine lv_aload_n hx hb dL_law_466 rfl (lv_at hl 1 rfl) ?_
  refine lv_iload_n hx hb dL_law_467 rfl (lv_at hl 0 rfl) ?_
  refine lv_iconst (v := 1) hx hb dL_law_468 (by decide) ?_
  refine lv_iadd hx hb dL_law_469 ?_
  refine va_sld hx hb hX hbl hbA hS hv1 dL_law_470 ?_
  refine lv_aload_n hx hb dL_law_471 rfl (lv_at hl 1 rfl) ?_
  refine lv_iload_n hx hb dL_law_472 rfl (lv_at hl 0 rfl) ?_
  refine lv_iconst (v := 2) hx hb dL_law_473 (by decide) ?_
  refine lv_iadd hx hb dL_law_474 ?_
  refine va_sld hx hb hX hbl hbA hS hv2 dL_law_475 ?_
  refine lv_aload_n hx hb dL_law_476 rfl (lv_at hl 1 rfl) ?_
  refine lv_iload_n hx hb dL_law_477 rfl (lv_at hl 0 rfl) ?_
  refine lv_iconst (v := 3) hx hb dL_law_478 (by decide) ?_
  refine lv_iadd hx hb dL_law_479 ?_
  refine va_sld hx hb hX hbl hbA hS hv3 dL_law_480 ?_
  have gR := hRr
  refine lVi (rest := [.int r]) X (c_X12_line l G v (xs (nI (5 * j) + 1).toNatClampNeg) (xs (nI (5 * j) + 2).toNatClampNeg) (xs (nI (5 * j) + 3).toNatClampNeg) (r, v') gR) bw1581 bw1582 bw1583 bw105 bw1584 cn_X12_line ⟨rfl, rfl, Nat.le_of_ble_eq_true rfl, Nat.le_of_ble_eq_true rfl⟩ (l_recR X hR) hrA hR hS hl rfl (Nat.le_of_ble_eq_true rfl) dL_law_481 hcs (fun H1 locs1 hN hk hS => ?_)
  have hH := cH_kept hdis hH hk
  have hR : rH G v' H1 := hN
  generalize H1 = H at hH hR hS ⊢
  generalize locs1 = locs at hS ⊢
  refine lv_icmp_eq (tgt := 1310) hx hb dL_law_484 (by decide) (fun _ => ?_) (fun hc => absurd rfl hc)
  exact hback w' v' _ _ hH hR hSim hS
set_option maxHeartbeats 4000000 in
set_option maxRecDepth 100000 in
theorem law_9 {p : Program} {e : Env} {s : State} {m : MethodId} {below : List Frame} {meth : Method} {c : Code} (l : Launch) {b L : Nat} {xs : Nat → Int32} {G : GX} {Sim : CW → CW → Prop} (hsim : SIM Sim) (hL : L ≤ 2560) (X : LX G p s m #[Value.ref b] meth c) (hX : va_X b L xs s s.heap) (hbl : b < s.heap.size) (hgA : ∀ q, gA G q → s.heap.size ≤ q) (hdis : ∀ q, cA G q → ¬ rA G q) {cells slots : Nat} (hcs : cells ≤ room_1.cells ∧ slots ≤ room_1.slots) {j : Nat} (hj : 5 * j + 5 ≤ L) {w v : CW} {H : Heap} {locs : List Loc} {ls : Array Slot} (hH : cH G w H) (hR : rH G v H) (hS : va_S (LA s) s.heap H locs) (hl : lv_has ls 4 [(3, .int (nI (5 * j))), (0, .ref b), (1, .ref (G.2.2.1 190)), (2, .ref (G.2.2.1 300))]) (hs0 : Sim w v) (hback : ∀ (w' v' : CW) (H : Heap) (locs : List Loc), cH G w' H → rH G v' H → Sim w' v' → va_S (LA s) s.heap H locs → W p l e room_1 s m #[Value.ref b] below meth c H locs cells slots (lw_Z below #[Value.ref b] s) (F0 m 1310 ls [])) : W p l e room_1 s m #[Value.ref b] below meth c H locs cells slots (lw_Z below #[Value.ref b] s) (F0 m 489 ls []) := by
  have hx := X.1.1
  have hb := X.1.2.1
  have hbA : ¬ LA s b := Nat.not_le.mpr hbl
  have hcA : ∀ q, cA G q → s.heap.size ≤ q := fun q h => hgA q (cA_g q h)
  have hrA : ∀ q, rA G q → s.heap.size ≤ q := fun q h => hgA q (rA_g q h)
  have hv1 : vp_in (nI (5 * j) + 1) L := by rw [show (1 : Int32) = nI 1 from rfl, nI_add]; exact vp_in_nI (by omega) (by omega)
  have hv2 : vp_in (nI (5 * j) + 2) L := by rw [show (2 : Int32) = nI 2 from rfl, nI_add]; exact vp_in_nI (by omega) (by omega)
  have hv3 : vp_in (nI (5 * j) + 3) L := by rw [show (3 : Int32) = nI 3 from rfl, nI_add]; exact vp_in_nI (by omega) (by omega)
  obtain ⟨r, w', v', hC, hRr, hSim⟩ := hsim 9 (by decide) w v (xs (nI (5 * j) + 1).toNatClampNeg) (xs (nI (5 * j) + 2).toNatClampNeg) (xs (nI (5 * j) + 3).toNatClampNeg) 0 hs0
  refine lv_aload_n hx hb dL_law_489 rfl (lv_at hl 2 rfl) ?_
  refine lv_aload_n hx hb dL_law_490 rfl (lv_at hl 1 rfl) ?_
  refine lv_iload_n hx hb dL_law_491 rfl (lv_at hl 0 rfl) ?_
  refine lv_iconst (v := 1) hx hb dL_law_492 (by decide) ?_
  refine lv_iadd hx hb dL_law_493 ?_
  refine va_sld hx hb hX hbl hbA hS hv1 dL_law_494 ?_
  refine lv_aload_n hx hb dL_law_495 rfl (lv_at hl 1 rfl) ?_
  refine lv_iload_n hx hb dL_law_496 rfl (lv_at hl 0 rfl) ?_
  refine lv_iconst (v := 2) hx hb dL_law_497 (by decide) ?_
  refine lv_iadd hx hb dL_law_498 ?_
  refine va_sld hx hb hX hbl hbA hS hv2 dL_law_499 ?_
  refine lv_aload_n hx hb dL_law_500 rfl (lv_at hl 1 rfl) ?_
  refine lv_iload_n hx hb dL_law_501 rfl (lv_at hl 0 rfl) ?_
  refine lv_iconst (v := 3) hx hb dL_law_502 (by decide) ?_
  refine lv_iadd hx hb dL_law_503 ?_
  refine va_sld hx hb hX hbl hbA hS hv3 dL_law_504 ?_
  have gC := hC
  refine lVi (rest := []) X (c_X11_needs l G w (xs (nI (5 * j) + 1).toNatClampNeg) (xs (nI (5 * j) + 2).toNatClampNeg) (xs (nI (5 * j) + 3).toNatClampNeg) (r, w') gC) bw1000 bw1001 bw1002 bw86 bw1003 cn_X11_needs ⟨rfl, rfl, Nat.le_of_ble_eq_true rfl, Nat.le_of_ble_eq_true rfl⟩ (l_recC X hH) hcA hH hS hl rfl (Nat.le_of_ble_eq_true rfl) dL_law_505 hcs (fun H1 locs1 hN hk hS => ?_)
  have hR := rH_kept hdis hR hk
  have hH : cH G w' H1 := hN
  generalize H1 = H at hH hR hS ⊢
  generalize locs1 = locs at hS ⊢
  refine lv_aload_n hx hb dL_law_508 rfl (lv_at hl 3 rfl) ?_
  refine lv_aload_n hx hb dL_law_509 rfl (lv_at hl 1 rfl) ?_
  refine lv_iload_n hx hb dL_law_510 rfl (lv_at hl 0 rfl) ?_
  refine lv_iconst (v := 1) hx hb dL_law_511 (by decide) ?_
  refine lv_iadd hx hb dL_law_512 ?_
  refine va_sld hx hb hX hbl hbA hS hv1 dL_law_513 ?_
  refine lv_aload_n hx hb dL_law_514 rfl (lv_at hl 1 rfl) ?_
  refine lv_iload_n hx hb dL_law_515 rfl (lv_at hl 0 rfl) ?_
  refine lv_iconst (v := 2) hx hb dL_law_516 (by decide) ?_
  refine lv_iadd hx hb dL_law_517 ?_
  refine va_sld hx hb hX hbl hbA hS hv2 dL_law_518 ?_
  refine lv_aload_n hx hb dL_law_519 rfl (lv_at hl 1 rfl) ?_
  refine lv_iload_n hx hb dL_law_520 rfl (lv_at hl 0 rfl) ?_
  refine lv_iconst (v := 3) hx hb dL_law_521 (by decide) ?_
  refine lv_iadd hx hb dL_law_522 ?_
  refine va_sld hx hb hX hbl hbA hS hv3 dL_law_523 ?_
  have gR := hRr
  refine lVi (rest := [.int r]) X (c_X12_needs l G v (xs (nI (5 * j) + 1).toNatClampNeg) (xs (nI (5 * j) + 2).toNatClampNeg) (xs (nI (5 * j) + 3).toNatClampNeg) (r, v') gR) bw1638 bw1639 bw1640 bw105 bw1641 cn_X12_needs ⟨rfl, rfl, Nat.le_of_ble_eq_true rfl, Nat.le_of_ble_eq_true rfl⟩ (l_recR X hR) hrA hR hS hl rfl (Nat.le_of_ble_eq_true rfl) dL_law_524 hcs (fun H1 locs1 hN hk hS => ?_)
  have hH := cH_kept hdis hH hk
  have hR : rH G v' H1 := hN
  generalize H1 = H at hH hR hS ⊢
  generalize locs1 = locs at hS ⊢
  refine lv_icmp_eq (tgt := 1310) hx hb dL_law_527 (by decide) (fun _ => ?_) (fun hc => absurd rfl hc)
  exact hback w' v' _ _ hH hR hSim hS
set_option maxHeartbeats 4000000 in
set_option maxRecDepth 100000 in
theorem law_10 {p : Program} {e : Env} {s : State} {m : MethodId} {below : List Frame} {meth : Method} {c : Code} (l : Launch) {b L : Nat} {xs : Nat → Int32} {G : GX} {Sim : CW → CW → Prop} (hsim : SIM Sim) (hL : L ≤ 2560) (X : LX G p s m #[Value.ref b] meth c) (hX : va_X b L xs s s.heap) (hbl : b < s.heap.size) (hgA : ∀ q, gA G q → s.heap.size ≤ q) (hdis : ∀ q, cA G q → ¬ rA G q) {cells slots : Nat} (hcs : cells ≤ room_1.cells ∧ slots ≤ room_1.slots) {j : Nat} (hj : 5 * j + 5 ≤ L) {w v : CW} {H : Heap} {locs : List Loc} {ls : Array Slot} (hH : cH G w H) (hR : rH G v H) (hS : va_S (LA s) s.heap H locs) (hl : lv_has ls 4 [(3, .int (nI (5 * j))), (0, .ref b), (1, .ref (G.2.2.1 190)), (2, .ref (G.2.2.1 300))]) (hs0 : Sim w v) (hback : ∀ (w' v' : CW) (H : Heap) (locs : List Loc), cH G w' H → rH G v' H → Sim w' v' → va_S (LA s) s.heap H locs → W p l e room_1 s m #[Value.ref b] below meth c H locs cells slots (lw_Z below #[Value.ref b] s) (F0 m 1310 ls [])) : W p l e room_1 s m #[Value.ref b] below meth c H locs cells slots (lw_Z below #[Value.ref b] s) (F0 m 532 ls []) := by
  have hx := X.1.1
  have hb := X.1.2.1
  have hbA : ¬ LA s b := Nat.not_le.mpr hbl
  have hcA : ∀ q, cA G q → s.heap.size ≤ q := fun q h => hgA q (cA_g q h)
  have hrA : ∀ q, rA G q → s.heap.size ≤ q := fun q h => hgA q (rA_g q h)
  have hv1 : vp_in (nI (5 * j) + 1) L := by rw [show (1 : Int32) = nI 1 from rfl, nI_add]; exact vp_in_nI (by omega) (by omega)
  have hv2 : vp_in (nI (5 * j) + 2) L := by rw [show (2 : Int32) = nI 2 from rfl, nI_add]; exact vp_in_nI (by omega) (by omega)
  obtain ⟨r, w', v', hC, hRr, hSim⟩ := hsim 10 (by decide) w v (xs (nI (5 * j) + 1).toNatClampNeg) (xs (nI (5 * j) + 2).toNatClampNeg) 0 0 hs0
  refine lv_aload_n hx hb dL_law_532 rfl (lv_at hl 2 rfl) ?_
  refine lv_aload_n hx hb dL_law_533 rfl (lv_at hl 1 rfl) ?_
  refine lv_iload_n hx hb dL_law_534 rfl (lv_at hl 0 rfl) ?_
  refine lv_iconst (v := 1) hx hb dL_law_535 (by decide) ?_
  refine lv_iadd hx hb dL_law_536 ?_
  refine va_sld hx hb hX hbl hbA hS hv1 dL_law_537 ?_
  refine lv_aload_n hx hb dL_law_538 rfl (lv_at hl 1 rfl) ?_
  refine lv_iload_n hx hb dL_law_539 rfl (lv_at hl 0 rfl) ?_
  refine lv_iconst (v := 2) hx hb dL_law_540 (by decide) ?_
  refine lv_iadd hx hb dL_law_541 ?_
  refine va_sld hx hb hX hbl hbA hS hv2 dL_law_542 ?_
  have gC := hC
  refine lVi (rest := []) X (c_X11_enough l G w (xs (nI (5 * j) + 1).toNatClampNeg) (xs (nI (5 * j) + 2).toNatClampNeg) (r, w') gC) bw1004 bw1005 bw1006 bw86 bw1007 cn_X11_enough ⟨rfl, rfl, Nat.le_of_ble_eq_true rfl, Nat.le_of_ble_eq_true rfl⟩ (l_recC X hH) hcA hH hS hl rfl (Nat.le_of_ble_eq_true rfl) dL_law_543 hcs (fun H1 locs1 hN hk hS => ?_)
  have hR := rH_kept hdis hR hk
  have hH : cH G w' H1 := hN
  generalize H1 = H at hH hR hS ⊢
  generalize locs1 = locs at hS ⊢
  refine lv_aload_n hx hb dL_law_546 rfl (lv_at hl 3 rfl) ?_
  refine lv_aload_n hx hb dL_law_547 rfl (lv_at hl 1 rfl) ?_
  refine lv_iload_n hx hb dL_law_548 rfl (lv_at hl 0 rfl) ?_
  refine lv_iconst (v := 1) hx hb dL_law_549 (by decide) ?_
  refine lv_iadd hx hb dL_law_550 ?_
  refine va_sld hx hb hX hbl hbA hS hv1 dL_law_551 ?_
  refine lv_aload_n hx hb dL_law_552 rfl (lv_at hl 1 rfl) ?_
  refine lv_iload_n hx hb dL_law_553 rfl (lv_at hl 0 rfl) ?_
  refine lv_iconst (v := 2) hx hb dL_law_554 (by decide) ?_
  refine lv_iadd hx hb dL_law_555 ?_
  refine va_sld hx hb hX hbl hbA hS hv2 dL_law_556 ?_
  have gR := hRr
  refine lVi (rest := [.int r]) X (c_X12_enough l G v (xs (nI (5 * j) + 1).toNatClampNeg) (xs (nI (5 * j) + 2).toNatClampNeg) (r, v') gR) bw1642 bw1643 bw1644 bw105 bw1645 cn_X12_enough ⟨rfl, rfl, Nat.le_of_ble_eq_true rfl, Nat.le_of_ble_eq_true rfl⟩ (l_recR X hR) hrA hR hS hl rfl (Nat.le_of_ble_eq_true rfl) dL_law_557 hcs (fun H1 locs1 hN hk hS => ?_)
  have hH := cH_kept hdis hH hk
  have hR : rH G v' H1 := hN
  generalize H1 = H at hH hR hS ⊢
  generalize locs1 = locs at hS ⊢
  refine lv_icmp_eq (tgt := 1310) hx hb dL_law_560 (by decide) (fun _ => ?_) (fun hc => absurd rfl hc)
  exact hback w' v' _ _ hH hR hSim hS
set_option maxHeartbeats 4000000 in
set_option maxRecDepth 100000 in
theorem law_11 {p : Program} {e : Env} {s : State} {m : MethodId} {below : List Frame} {meth : Method} {c : Code} (l : Launch) {b L : Nat} {xs : Nat → Int32} {G : GX} {Sim : CW → CW → Prop} (hsim : SIM Sim) (hL : L ≤ 2560) (X : LX G p s m #[Value.ref b] meth c) (hX : va_X b L xs s s.heap) (hbl : b < s.heap.size) (hgA : ∀ q, gA G q → s.heap.size ≤ q) (hdis : ∀ q, cA G q → ¬ rA G q) {cells slots : Nat} (hcs : cells ≤ room_1.cells ∧ slots ≤ room_1.slots) {j : Nat} (hj : 5 * j + 5 ≤ L) {w v : CW} {H : Heap} {locs : List Loc} {ls : Array Slot} (hH : cH G w H) (hR : rH G v H) (hS : va_S (LA s) s.heap H locs) (hl : lv_has ls 4 [(3, .int (nI (5 * j))), (0, .ref b), (1, .ref (G.2.2.1 190)), (2, .ref (G.2.2.1 300))]) (hs0 : Sim w v) (hback : ∀ (w' v' : CW) (H : Heap) (locs : List Loc), cH G w' H → rH G v' H → Sim w' v' → va_S (LA s) s.heap H locs → W p l e room_1 s m #[Value.ref b] below meth c H locs cells slots (lw_Z below #[Value.ref b] s) (F0 m 1310 ls [])) : W p l e room_1 s m #[Value.ref b] below meth c H locs cells slots (lw_Z below #[Value.ref b] s) (F0 m 565 ls []) := by
  have hx := X.1.1
  have hb := X.1.2.1
  have hbA : ¬ LA s b := Nat.not_le.mpr hbl
  have hcA : ∀ q, cA G q → s.heap.size ≤ q := fun q h => hgA q (cA_g q h)
  have hrA : ∀ q, rA G q → s.heap.size ≤ q := fun q h => hgA q (rA_g q h)
  have hv1 : vp_in (nI (5 * j) + 1) L := by rw [show (1 : Int32) = nI 1 from rfl, nI_add]; exact vp_in_nI (by omega) (by omega)
  obtain ⟨r, w', v', hC, hRr, hSim⟩ := hsim 11 (by decide) w v (xs (nI (5 * j) + 1).toNatClampNeg) 0 0 0 hs0
  refine lv_aload_n hx hb dL_law_565 rfl (lv_at hl 2 rfl) ?_
  refine lv_aload_n hx hb dL_law_566 rfl (lv_at hl 1 rfl) ?_
  refine lv_iload_n hx hb dL_law_567 rfl (lv_at hl 0 rfl) ?_
  refine lv_iconst (v := 1) hx hb dL_law_568 (by decide) ?_
  refine lv_iadd hx hb dL_law_569 ?_
  refine va_sld hx hb hX hbl hbA hS hv1 dL_law_570 ?_
  have gC := hC
  refine lVi (rest := []) X (c_X11_page l G w (xs (nI (5 * j) + 1).toNatClampNeg) (r, w') gC) bw1024 bw1025 bw1026 bw86 bw1027 cn_X11_page ⟨rfl, rfl, Nat.le_of_ble_eq_true rfl, Nat.le_of_ble_eq_true rfl⟩ (l_recC X hH) hcA hH hS hl rfl (Nat.le_of_ble_eq_true rfl) dL_law_571 hcs (fun H1 locs1 hN hk hS => ?_)
  have hR := rH_kept hdis hR hk
  have hH : cH G w' H1 := hN
  generalize H1 = H at hH hR hS ⊢
  generalize locs1 = locs at hS ⊢
  refine lv_aload_n hx hb dL_law_574 rfl (lv_at hl 3 rfl) ?_
  refine lv_aload_n hx hb dL_law_575 rfl (lv_at hl 1 rfl) ?_
  refine lv_iload_n hx hb dL_law_576 rfl (lv_at hl 0 rfl) ?_
  refine lv_iconst (v := 1) hx hb dL_law_577 (by decide) ?_
  refine lv_iadd hx hb dL_law_578 ?_
  refine va_sld hx hb hX hbl hbA hS hv1 dL_law_579 ?_
  have gR := hRr
  refine lVi (rest := [.int r]) X (c_X12_page l G v (xs (nI (5 * j) + 1).toNatClampNeg) (r, v') gR) bw1654 bw1655 bw1656 bw105 bw1657 cn_X12_page ⟨rfl, rfl, Nat.le_of_ble_eq_true rfl, Nat.le_of_ble_eq_true rfl⟩ (l_recR X hR) hrA hR hS hl rfl (Nat.le_of_ble_eq_true rfl) dL_law_580 hcs (fun H1 locs1 hN hk hS => ?_)
  have hH := cH_kept hdis hH hk
  have hR : rH G v' H1 := hN
  generalize H1 = H at hH hR hS ⊢
  generalize locs1 = locs at hS ⊢
  refine lv_icmp_eq (tgt := 1310) hx hb dL_law_583 (by decide) (fun _ => ?_) (fun hc => absurd rfl hc)
  exact hback w' v' _ _ hH hR hSim hS
set_option maxHeartbeats 4000000 in
set_option maxRecDepth 100000 in
theorem law_12 {p : Program} {e : Env} {s : State} {m : MethodId} {below : List Frame} {meth : Method} {c : Code} (l : Launch) {b L : Nat} {xs : Nat → Int32} {G : GX} {Sim : CW → CW → Prop} (hsim : SIM Sim) (hL : L ≤ 2560) (X : LX G p s m #[Value.ref b] meth c) (hX : va_X b L xs s s.heap) (hbl : b < s.heap.size) (hgA : ∀ q, gA G q → s.heap.size ≤ q) (hdis : ∀ q, cA G q → ¬ rA G q) {cells slots : Nat} (hcs : cells ≤ room_1.cells ∧ slots ≤ room_1.slots) {j : Nat} (hj : 5 * j + 5 ≤ L) {w v : CW} {H : Heap} {locs : List Loc} {ls : Array Slot} (hH : cH G w H) (hR : rH G v H) (hS : va_S (LA s) s.heap H locs) (hl : lv_has ls 4 [(3, .int (nI (5 * j))), (0, .ref b), (1, .ref (G.2.2.1 190)), (2, .ref (G.2.2.1 300))]) (hs0 : Sim w v) (hback : ∀ (w' v' : CW) (H : Heap) (locs : List Loc), cH G w' H → rH G v' H → Sim w' v' → va_S (LA s) s.heap H locs → W p l e room_1 s m #[Value.ref b] below meth c H locs cells slots (lw_Z below #[Value.ref b] s) (F0 m 1310 ls [])) : W p l e room_1 s m #[Value.ref b] below meth c H locs cells slots (lw_Z below #[Value.ref b] s) (F0 m 588 ls []) := by
  have hx := X.1.1
  have hb := X.1.2.1
  have hbA : ¬ LA s b := Nat.not_le.mpr hbl
  have hcA : ∀ q, cA G q → s.heap.size ≤ q := fun q h => hgA q (cA_g q h)
  have hrA : ∀ q, rA G q → s.heap.size ≤ q := fun q h => hgA q (rA_g q h)
  have hv1 : vp_in (nI (5 * j) + 1) L := by rw [show (1 : Int32) = nI 1 from rfl, nI_add]; exact vp_in_nI (by omega) (by omega)
  have hv2 : vp_in (nI (5 * j) + 2) L := by rw [show (2 : Int32) = nI 2 from rfl, nI_add]; exact vp_in_nI (by omega) (by omega)
  obtain ⟨r, w', v', hC, hRr, hSim⟩ := hsim 12 (by decide) w v (xs (nI (5 * j) + 1).toNatClampNeg) (xs (nI (5 * j) + 2).toNatClampNeg) 0 0 hs0
  refine lv_aload_n hx hb dL_law_588 rfl (lv_at hl 2 rfl) ?_
  refine lv_aload_n hx hb dL_law_589 rfl (lv_at hl 1 rfl) ?_
  refine lv_iload_n hx hb dL_law_590 rfl (lv_at hl 0 rfl) ?_
  refine lv_iconst (v := 1) hx hb dL_law_591 (by decide) ?_
  refine lv_iadd hx hb dL_law_592 ?_
  refine va_sld hx hb hX hbl hbA hS hv1 dL_law_593 ?_
  refine lv_aload_n hx hb dL_law_594 rfl (lv_at hl 1 rfl) ?_
  refine lv_iload_n hx hb dL_law_595 rfl (lv_at hl 0 rfl) ?_
  refine lv_iconst (v := 2) hx hb dL_law_596 (by decide) ?_
  refine lv_iadd hx hb dL_law_597 ?_
  refine va_sld hx hb hX hbl hbA hS hv2 dL_law_598 ?_
  have gC := so_s hC
  refine lVi (rest := []) X (c_X11_pull l G w (xs (nI (5 * j) + 1).toNatClampNeg) (xs (nI (5 * j) + 2).toNatClampNeg) (r, w') gC) bw1038 bw1039 bw1040 bw86 bw1041 cn_X11_pull ⟨rfl, rfl, Nat.le_of_ble_eq_true rfl, Nat.le_of_ble_eq_true rfl⟩ (l_recC X hH) hcA hH hS hl rfl (Nat.le_of_ble_eq_true rfl) dL_law_599 hcs (fun H1 locs1 hN hk hS => ?_)
  have hR := rH_kept hdis hR hk
  have hH : cH G w' H1 := hN
  generalize H1 = H at hH hR hS ⊢
  generalize locs1 = locs at hS ⊢
  refine lv_aload_n hx hb dL_law_602 rfl (lv_at hl 3 rfl) ?_
  refine lv_aload_n hx hb dL_law_603 rfl (lv_at hl 1 rfl) ?_
  refine lv_iload_n hx hb dL_law_604 rfl (lv_at hl 0 rfl) ?_
  refine lv_iconst (v := 1) hx hb dL_law_605 (by decide) ?_
  refine lv_iadd hx hb dL_law_606 ?_
  refine va_sld hx hb hX hbl hbA hS hv1 dL_law_607 ?_
  refine lv_aload_n hx hb dL_law_608 rfl (lv_at hl 1 rfl) ?_
  refine lv_iload_n hx hb dL_law_609 rfl (lv_at hl 0 rfl) ?_
  refine lv_iconst (v := 2) hx hb dL_law_610 (by decide) ?_
  refine lv_iadd hx hb dL_law_611 ?_
  refine va_sld hx hb hX hbl hbA hS hv2 dL_law_612 ?_
  have gR := hRr
  refine lVi (rest := [.int r]) X (c_X12_pull l G v (xs (nI (5 * j) + 1).toNatClampNeg) (xs (nI (5 * j) + 2).toNatClampNeg) (r, v') gR) bw1658 bw1659 bw1660 bw105 bw1661 cn_X12_pull ⟨rfl, rfl, Nat.le_of_ble_eq_true rfl, Nat.le_of_ble_eq_true rfl⟩ (l_recR X hR) hrA hR hS hl rfl (Nat.le_of_ble_eq_true rfl) dL_law_613 hcs (fun H1 locs1 hN hk hS => ?_)
  have hH := cH_kept hdis hH hk
  have hR : rH G v' H1 := hN
  generalize H1 = H at hH hR hS ⊢
  generalize locs1 = locs at hS ⊢
  refine lv_icmp_eq (tgt := 1310) hx hb dL_law_616 (by decide) (fun _ => ?_) (fun hc => absurd rfl hc)
  exact hback w' v' _ _ hH hR hSim hS
set_option maxHeartbeats 4000000 in
set_option maxRecDepth 100000 in
theorem law_13 {p : Program} {e : Env} {s : State} {m : MethodId} {below : List Frame} {meth : Method} {c : Code} (l : Launch) {b L : Nat} {xs : Nat → Int32} {G : GX} {Sim : CW → CW → Prop} (hsim : SIM Sim) (hL : L ≤ 2560) (X : LX G p s m #[Value.ref b] meth c) (hX : va_X b L xs s s.heap) (hbl : b < s.heap.size) (hgA : ∀ q, gA G q → s.heap.size ≤ q) (hdis : ∀ q, cA G q → ¬ rA G q) {cells slots : Nat} (hcs : cells ≤ room_1.cells ∧ slots ≤ room_1.slots) {j : Nat} (hj : 5 * j + 5 ≤ L) {w v : CW} {H : Heap} {locs : List Loc} {ls : Array Slot} (hH : cH G w H) (hR : rH G v H) (hS : va_S (LA s) s.heap H locs) (hl : lv_has ls 4 [(3, .int (nI (5 * j))), (0, .ref b), (1, .ref (G.2.2.1 190)), (2, .ref (G.2.2.1 300))]) (hs0 : Sim w v) (hback : ∀ (w' v' : CW) (H : Heap) (locs : List Loc), cH G w' H → rH G v' H → Sim w' v' → va_S (LA s) s.heap H locs → W p l e room_1 s m #[Value.ref b] below meth c H locs cells slots (lw_Z below #[Value.ref b] s) (F0 m 1310 ls [])) : W p l e room_1 s m #[Value.ref b] below meth c H locs cells slots (lw_Z below #[Value.ref b] s) (F0 m 621 ls []) := by
  have hx := X.1.1
  have hb := X.1.2.1
  have hbA : ¬ LA s b := Nat.not_le.mpr hbl
  have hcA : ∀ q, cA G q → s.heap.size ≤ q := fun q h => hgA q (cA_g q h)
  have hrA : ∀ q, rA G q → s.heap.size ≤ q := fun q h => hgA q (rA_g q h)
  have hv1 : vp_in (nI (5 * j) + 1) L := by rw [show (1 : Int32) = nI 1 from rfl, nI_add]; exact vp_in_nI (by omega) (by omega)
  obtain ⟨r, w', v', hC, hRr, hSim⟩ := hsim 13 (by decide) w v (xs (nI (5 * j) + 1).toNatClampNeg) 0 0 0 hs0
  refine lv_aload_n hx hb dL_law_621 rfl (lv_at hl 2 rfl) ?_
  refine lv_aload_n hx hb dL_law_622 rfl (lv_at hl 1 rfl) ?_
  refine lv_iload_n hx hb dL_law_623 rfl (lv_at hl 0 rfl) ?_
  refine lv_iconst (v := 1) hx hb dL_law_624 (by decide) ?_
  refine lv_iadd hx hb dL_law_625 ?_
  refine va_sld hx hb hX hbl hbA hS hv1 dL_law_626 ?_
  have gC := hC
  refine lVi (rest := []) X (c_X11_down l G w (xs (nI (5 * j) + 1).toNatClampNeg) (r, w') gC) bw1047 bw1048 bw1049 bw86 bw1050 cn_X11_down ⟨rfl, rfl, Nat.le_of_ble_eq_true rfl, Nat.le_of_ble_eq_true rfl⟩ (l_recC X hH) hcA hH hS hl rfl (Nat.le_of_ble_eq_true rfl) dL_law_627 hcs (fun H1 locs1 hN hk hS => ?_)
  have hR := rH_kept hdis hR hk
  have hH : cH G w' H1 := hN
  generalize H1 = H at hH hR hS ⊢
  generalize locs1 = locs at hS ⊢
  refine lv_aload_n hx hb dL_law_630 rfl (lv_at hl 3 rfl) ?_
  refine lv_aload_n hx hb dL_law_631 rfl (lv_at hl 1 rfl) ?_
  refine lv_iload_n hx hb dL_law_632 rfl (lv_at hl 0 rfl) ?_
  refine lv_iconst (v := 1) hx hb dL_law_633 (by decide) ?_
  refine lv_iadd hx hb dL_law_634 ?_
  refine va_sld hx hb hX hbl hbA hS hv1 dL_law_635 ?_
  have gR := hRr
  refine lVi (rest := [.int r]) X (c_X12_down l G v (xs (nI (5 * j) + 1).toNatClampNeg) (r, v') gR) bw1666 bw1667 bw1668 bw105 bw1669 cn_X12_down ⟨rfl, rfl, Nat.le_of_ble_eq_true rfl, Nat.le_of_ble_eq_true rfl⟩ (l_recR X hR) hrA hR hS hl rfl (Nat.le_of_ble_eq_true rfl) dL_law_636 hcs (fun H1 locs1 hN hk hS => ?_)
  have hH := cH_kept hdis hH hk
  have hR : rH G v' H1 := hN
  generalize H1 = H at hH hR hS ⊢
  generalize locs1 = locs at hS ⊢
  refine lv_icmp_eq (tgt := 1310) hx hb dL_law_639 (by decide) (fun _ => ?_) (fun hc => absurd rfl hc)
  exact hback w' v' _ _ hH hR hSim hS
set_option maxHeartbeats 4000000 in
set_option maxRecDepth 100000 in
theorem law_14 {p : Program} {e : Env} {s : State} {m : MethodId} {below : List Frame} {meth : Method} {c : Code} (l : Launch) {b L : Nat} {xs : Nat → Int32} {G : GX} {Sim : CW → CW → Prop} (hsim : SIM Sim) (hL : L ≤ 2560) (X : LX G p s m #[Value.ref b] meth c) (hX : va_X b L xs s s.heap) (hbl : b < s.heap.size) (hgA : ∀ q, gA G q → s.heap.size ≤ q) (hdis : ∀ q, cA G q → ¬ rA G q) {cells slots : Nat} (hcs : cells ≤ room_1.cells ∧ slots ≤ room_1.slots) {j : Nat} (hj : 5 * j + 5 ≤ L) {w v : CW} {H : Heap} {locs : List Loc} {ls : Array Slot} (hH : cH G w H) (hR : rH G v H) (hS : va_S (LA s) s.heap H locs) (hl : lv_has ls 4 [(3, .int (nI (5 * j))), (0, .ref b), (1, .ref (G.2.2.1 190)), (2, .ref (G.2.2.1 300))]) (hs0 : Sim w v) (hback : ∀ (w' v' : CW) (H : Heap) (locs : List Loc), cH G w' H → rH G v' H → Sim w' v' → va_S (LA s) s.heap H locs → W p l e room_1 s m #[Value.ref b] below meth c H locs cells slots (lw_Z below #[Value.ref b] s) (F0 m 1310 ls [])) : W p l e room_1 s m #[Value.ref b] below meth c H locs cells slots (lw_Z below #[Value.ref b] s) (F0 m 644 ls []) := by
  have hx := X.1.1
  have hb := X.1.2.1
  have hbA : ¬ LA s b := Nat.not_le.mpr hbl
  have hcA : ∀ q, cA G q → s.heap.size ≤ q := fun q h => hgA q (cA_g q h)
  have hrA : ∀ q, rA G q → s.heap.size ≤ q := fun q h => hgA q (rA_g q h)
  have hv1 : vp_in (nI (5 * j) + 1) L := by rw [show (1 : Int32) = nI 1 from rfl, nI_add]; exact vp_in_nI (by omega) (by omega)
  have hv2 : vp_in (nI (5 * j) + 2) L := by rw [show (2 : Int32) = nI 2 from rfl, nI_add]; exact vp_in_nI (by omega) (by omega)
  obtain ⟨r, w', v', hC, hRr, hSim⟩ := hsim 14 (by decide) w v (xs (nI (5 * j) + 1).toNatClampNeg) (xs (nI (5 * j) + 2).toNatClampNeg) 0 0 hs0
  refine lv_aload_n hx hb dL_law_644 rfl (lv_at hl 2 rfl) ?_
  refine lv_aload_n hx hb dL_law_645 rfl (lv_at hl 1 rfl) ?_
  refine lv_iload_n hx hb dL_law_646 rfl (lv_at hl 0 rfl) ?_
  refine lv_iconst (v := 1) hx hb dL_law_647 (by decide) ?_
  refine lv_iadd hx hb dL_law_648 ?_
  refine va_sld hx hb hX hbl hbA hS hv1 dL_law_649 ?_
  refine lv_aload_n hx hb dL_law_650 rfl (lv_at hl 1 rfl) ?_
  refine lv_iload_n hx hb dL_law_651 rfl (lv_at hl 0 rfl) ?_
  refine lv_iconst (v := 2) hx hb dL_law_652 (by decide) ?_
  refine lv_iadd hx hb dL_law_653 ?_
  refine va_sld hx hb hX hbl hbA hS hv2 dL_law_654 ?_
  have gC := so_s hC
  refine lVi (rest := []) X (c_X11_press l G w (xs (nI (5 * j) + 1).toNatClampNeg) (xs (nI (5 * j) + 2).toNatClampNeg) (r, w') gC) bw1055 bw1056 bw1057 bw86 bw1058 cn_X11_press ⟨rfl, rfl, Nat.le_of_ble_eq_true rfl, Nat.le_of_ble_eq_true rfl⟩ (l_recC X hH) hcA hH hS hl rfl (Nat.le_of_ble_eq_true rfl) dL_law_655 hcs (fun H1 locs1 hN hk hS => ?_)
  have hR := rH_kept hdis hR hk
  have hH : cH G w' H1 := hN
  generalize H1 = H at hH hR hS ⊢
  generalize locs1 = locs at hS ⊢
  refine lv_aload_n hx hb dL_law_658 rfl (lv_at hl 3 rfl) ?_
  refine lv_aload_n hx hb dL_law_659 rfl (lv_at hl 1 rfl) ?_
  refine lv_iload_n hx hb dL_law_660 rfl (lv_at hl 0 rfl) ?_
  refine lv_iconst (v := 1) hx hb dL_law_661 (by decide) ?_
  refine lv_iadd hx hb dL_law_662 ?_
  refine va_sld hx hb hX hbl hbA hS hv1 dL_law_663 ?_
  refine lv_aload_n hx hb dL_law_664 rfl (lv_at hl 1 rfl) ?_
  refine lv_iload_n hx hb dL_law_665 rfl (lv_at hl 0 rfl) ?_
  refine lv_iconst (v := 2) hx hb dL_law_666 (by decide) ?_
  refine lv_iadd hx hb dL_law_667 ?_
  refine va_sld hx hb hX hbl hbA hS hv2 dL_law_668 ?_
  have gR := hRr
  refine lVi (rest := [.int r]) X (c_X12_press l G v (xs (nI (5 * j) + 1).toNatClampNeg) (xs (nI (5 * j) + 2).toNatClampNeg) (r, v') gR) bw1670 bw1671 bw1672 bw105 bw1673 cn_X12_press ⟨rfl, rfl, Nat.le_of_ble_eq_true rfl, Nat.le_of_ble_eq_true rfl⟩ (l_recR X hR) hrA hR hS hl rfl (Nat.le_of_ble_eq_true rfl) dL_law_669 hcs (fun H1 locs1 hN hk hS => ?_)
  have hH := cH_kept hdis hH hk
  have hR : rH G v' H1 := hN
  generalize H1 = H at hH hR hS ⊢
  generalize locs1 = locs at hS ⊢
  refine lv_icmp_eq (tgt := 1310) hx hb dL_law_672 (by decide) (fun _ => ?_) (fun hc => absurd rfl hc)
  exact hback w' v' _ _ hH hR hSim hS
set_option maxHeartbeats 4000000 in
set_option maxRecDepth 100000 in
theorem law_15 {p : Program} {e : Env} {s : State} {m : MethodId} {below : List Frame} {meth : Method} {c : Code} (l : Launch) {b L : Nat} {xs : Nat → Int32} {G : GX} {Sim : CW → CW → Prop} (hsim : SIM Sim) (hL : L ≤ 2560) (X : LX G p s m #[Value.ref b] meth c) (hX : va_X b L xs s s.heap) (hbl : b < s.heap.size) (hgA : ∀ q, gA G q → s.heap.size ≤ q) (hdis : ∀ q, cA G q → ¬ rA G q) {cells slots : Nat} (hcs : cells ≤ room_1.cells ∧ slots ≤ room_1.slots) {j : Nat} (hj : 5 * j + 5 ≤ L) {w v : CW} {H : Heap} {locs : List Loc} {ls : Array Slot} (hH : cH G w H) (hR : rH G v H) (hS : va_S (LA s) s.heap H locs) (hl : lv_has ls 4 [(3, .int (nI (5 * j))), (0, .ref b), (1, .ref (G.2.2.1 190)), (2, .ref (G.2.2.1 300))]) (hs0 : Sim w v) (hback : ∀ (w' v' : CW) (H : Heap) (locs : List Loc), cH G w' H → rH G v' H → Sim w' v' → va_S (LA s) s.heap H locs → W p l e room_1 s m #[Value.ref b] below meth c H locs cells slots (lw_Z below #[Value.ref b] s) (F0 m 1310 ls [])) : W p l e room_1 s m #[Value.ref b] below meth c H locs cells slots (lw_Z below #[Value.ref b] s) (F0 m 677 ls []) := by
  have hx := X.1.1
  have hb := X.1.2.1
  have hbA : ¬ LA s b := Nat.not_le.mpr hbl
  have hcA : ∀ q, cA G q → s.heap.size ≤ q := fun q h => hgA q (cA_g q h)
  have hrA : ∀ q, rA G q → s.heap.size ≤ q := fun q h => hgA q (rA_g q h)
  have hv1 : vp_in (nI (5 * j) + 1) L := by rw [show (1 : Int32) = nI 1 from rfl, nI_add]; exact vp_in_nI (by omega) (by omega)
  have hv2 : vp_in (nI (5 * j) + 2) L := by rw [show (2 : Int32) = nI 2 from rfl, nI_add]; exact vp_in_nI (by omega) (by omega)
  obtain ⟨r, w', v', hC, hRr, hSim⟩ := hsim 15 (by decide) w v (xs (nI (5 * j) + 1).toNatClampNeg) (xs (nI (5 * j) + 2).toNatClampNeg) 0 0 hs0
  refine lv_aload_n hx hb dL_law_677 rfl (lv_at hl 2 rfl) ?_
  refine lv_aload_n hx hb dL_law_678 rfl (lv_at hl 1 rfl) ?_
  refine lv_iload_n hx hb dL_law_679 rfl (lv_at hl 0 rfl) ?_
  refine lv_iconst (v := 1) hx hb dL_law_680 (by decide) ?_
  refine lv_iadd hx hb dL_law_681 ?_
  refine va_sld hx hb hX hbl hbA hS hv1 dL_law_682 ?_
  refine lv_aload_n hx hb dL_law_683 rfl (lv_at hl 1 rfl) ?_
  refine lv_iload_n hx hb dL_law_684 rfl (lv_at hl 0 rfl) ?_
  refine lv_iconst (v := 2) hx hb dL_law_685 (by decide) ?_
  refine lv_iadd hx hb dL_law_686 ?_
  refine va_sld hx hb hX hbl hbA hS hv2 dL_law_687 ?_
  have gC := hC
  refine lVi (rest := []) X (c_X11_order l G w (xs (nI (5 * j) + 1).toNatClampNeg) (xs (nI (5 * j) + 2).toNatClampNeg) (r, w') gC) bw1059 bw1060 bw1061 bw86 bw1062 cn_X11_order ⟨rfl, rfl, Nat.le_of_ble_eq_true rfl, Nat.le_of_ble_eq_true rfl⟩ (l_recC X hH) hcA hH hS hl rfl (Nat.le_of_ble_eq_true rfl) dL_law_688 hcs (fun H1 locs1 hN hk hS => ?_)
  have hR := rH_kept hdis hR hk
  have hH : cH G w' H1 := hN
  generalize H1 = H at hH hR hS ⊢
  generalize locs1 = locs at hS ⊢
  refine lv_aload_n hx hb dL_law_691 rfl (lv_at hl 3 rfl) ?_
  refine lv_aload_n hx hb dL_law_692 rfl (lv_at hl 1 rfl) ?_
  refine lv_iload_n hx hb dL_law_693 rfl (lv_at hl 0 rfl) ?_
  refine lv_iconst (v := 1) hx hb dL_law_694 (by decide) ?_
  refine lv_iadd hx hb dL_law_695 ?_
  refine va_sld hx hb hX hbl hbA hS hv1 dL_law_696 ?_
  refine lv_aload_n hx hb dL_law_697 rfl (lv_at hl 1 rfl) ?_
  refine lv_iload_n hx hb dL_law_698 rfl (lv_at hl 0 rfl) ?_
  refine lv_iconst (v := 2) hx hb dL_law_699 (by decide) ?_
  refine lv_iadd hx hb dL_law_700 ?_
  refine va_sld hx hb hX hbl hbA hS hv2 dL_law_701 ?_
  have gR := hRr
  refine lVi (rest := [.int r]) X (c_X12_order l G v (xs (nI (5 * j) + 1).toNatClampNeg) (xs (nI (5 * j) + 2).toNatClampNeg) (r, v') gR) bw1674 bw1675 bw1676 bw105 bw1677 cn_X12_order ⟨rfl, rfl, Nat.le_of_ble_eq_true rfl, Nat.le_of_ble_eq_true rfl⟩ (l_recR X hR) hrA hR hS hl rfl (Nat.le_of_ble_eq_true rfl) dL_law_702 hcs (fun H1 locs1 hN hk hS => ?_)
  have hH := cH_kept hdis hH hk
  have hR : rH G v' H1 := hN
  generalize H1 = H at hH hR hS ⊢
  generalize locs1 = locs at hS ⊢
  refine lv_icmp_eq (tgt := 1310) hx hb dL_law_705 (by decide) (fun _ => ?_) (fun hc => absurd rfl hc)
  exact hback w' v' _ _ hH hR hSim hS
set_option maxHeartbeats 4000000 in
set_option maxRecDepth 100000 in
theorem law_16 {p : Program} {e : Env} {s : State} {m : MethodId} {below : List Frame} {meth : Method} {c : Code} (l : Launch) {b L : Nat} {xs : Nat → Int32} {G : GX} {Sim : CW → CW → Prop} (hsim : SIM Sim) (hL : L ≤ 2560) (X : LX G p s m #[Value.ref b] meth c) (hX : va_X b L xs s s.heap) (hbl : b < s.heap.size) (hgA : ∀ q, gA G q → s.heap.size ≤ q) (hdis : ∀ q, cA G q → ¬ rA G q) {cells slots : Nat} (hcs : cells ≤ room_1.cells ∧ slots ≤ room_1.slots) {j : Nat} (hj : 5 * j + 5 ≤ L) {w v : CW} {H : Heap} {locs : List Loc} {ls : Array Slot} (hH : cH G w H) (hR : rH G v H) (hS : va_S (LA s) s.heap H locs) (hl : lv_has ls 4 [(3, .int (nI (5 * j))), (0, .ref b), (1, .ref (G.2.2.1 190)), (2, .ref (G.2.2.1 300))]) (hs0 : Sim w v) (hback : ∀ (w' v' : CW) (H : Heap) (locs : List Loc), cH G w' H → rH G v' H → Sim w' v' → va_S (LA s) s.heap H locs → W p l e room_1 s m #[Value.ref b] below meth c H locs cells slots (lw_Z below #[Value.ref b] s) (F0 m 1310 ls [])) : W p l e room_1 s m #[Value.ref b] below meth c H locs cells slots (lw_Z below #[Value.ref b] s) (F0 m 710 ls []) := by
  have hx := X.1.1
  have hb := X.1.2.1
  have hbA : ¬ LA s b := Nat.not_le.mpr hbl
  have hcA : ∀ q, cA G q → s.heap.size ≤ q := fun q h => hgA q (cA_g q h)
  have hrA : ∀ q, rA G q → s.heap.size ≤ q := fun q h => hgA q (rA_g q h)
  have hv1 : vp_in (nI (5 * j) + 1) L := by rw [show (1 : Int32) = nI 1 from rfl, nI_add]; exact vp_in_nI (by omega) (by omega)
  have hv2 : vp_in (nI (5 * j) + 2) L := by rw [show (2 : Int32) = nI 2 from rfl, nI_add]; exact vp_in_nI (by omega) (by omega)
  obtain ⟨r, w', v', hC, hRr, hSim⟩ := hsim 16 (by decide) w v (xs (nI (5 * j) + 1).toNatClampNeg) (xs (nI (5 * j) + 2).toNatClampNeg) 0 0 hs0
  refine lv_aload_n hx hb dL_law_710 rfl (lv_at hl 2 rfl) ?_
  refine lv_aload_n hx hb dL_law_711 rfl (lv_at hl 1 rfl) ?_
  refine lv_iload_n hx hb dL_law_712 rfl (lv_at hl 0 rfl) ?_
  refine lv_iconst (v := 1) hx hb dL_law_713 (by decide) ?_
  refine lv_iadd hx hb dL_law_714 ?_
  refine va_sld hx hb hX hbl hbA hS hv1 dL_law_715 ?_
  refine lv_aload_n hx hb dL_law_716 rfl (lv_at hl 1 rfl) ?_
  refine lv_iload_n hx hb dL_law_717 rfl (lv_at hl 0 rfl) ?_
  refine lv_iconst (v := 2) hx hb dL_law_718 (by decide) ?_
  refine lv_iadd hx hb dL_law_719 ?_
  refine va_sld hx hb hX hbl hbA hS hv2 dL_law_720 ?_
  obtain ⟨gC, eC⟩ := kI hC
  refine lVi (rest := []) X (c_X11_done l G w (xs (nI (5 * j) + 1).toNatClampNeg) (xs (nI (5 * j) + 2).toNatClampNeg) r gC) bw1082 bw1083 bw1084 bw86 bw1085 cn_X11_done ⟨rfl, rfl, Nat.le_of_ble_eq_true rfl, Nat.le_of_ble_eq_true rfl⟩ (l_recC X hH) hcA hH hS hl rfl (Nat.le_of_ble_eq_true rfl) dL_law_721 hcs (fun H1 locs1 hN hk hS => ?_)
  have hR := rH_kept hdis hR hk
  have hH : cH G w' H1 := eC ▸ hN
  generalize H1 = H at hH hR hS ⊢
  generalize locs1 = locs at hS ⊢
  refine lv_aload_n hx hb dL_law_724 rfl (lv_at hl 3 rfl) ?_
  refine lv_aload_n hx hb dL_law_725 rfl (lv_at hl 1 rfl) ?_
  refine lv_iload_n hx hb dL_law_726 rfl (lv_at hl 0 rfl) ?_
  refine lv_iconst (v := 1) hx hb dL_law_727 (by decide) ?_
  refine lv_iadd hx hb dL_law_728 ?_
  refine va_sld hx hb hX hbl hbA hS hv1 dL_law_729 ?_
  refine lv_aload_n hx hb dL_law_730 rfl (lv_at hl 1 rfl) ?_
  refine lv_iload_n hx hb dL_law_731 rfl (lv_at hl 0 rfl) ?_
  refine lv_iconst (v := 2) hx hb dL_law_732 (by decide) ?_
  refine lv_iadd hx hb dL_law_733 ?_
  refine va_sld hx hb hX hbl hbA hS hv2 dL_law_734 ?_
  obtain ⟨gR, eR⟩ := kIo hRr
  refine lVi (rest := [.int r]) X (c_X12_done l G v (xs (nI (5 * j) + 1).toNatClampNeg) (xs (nI (5 * j) + 2).toNatClampNeg) r gR) bw1682 bw1683 bw1684 bw105 bw1685 cn_X12_done ⟨rfl, rfl, Nat.le_of_ble_eq_true rfl, Nat.le_of_ble_eq_true rfl⟩ (l_recR X hR) hrA hR hS hl rfl (Nat.le_of_ble_eq_true rfl) dL_law_735 hcs (fun H1 locs1 hN hk hS => ?_)
  have hH := cH_kept hdis hH hk
  have hR : rH G v' H1 := eR ▸ hN
  generalize H1 = H at hH hR hS ⊢
  generalize locs1 = locs at hS ⊢
  refine lv_icmp_eq (tgt := 1310) hx hb dL_law_738 (by decide) (fun _ => ?_) (fun hc => absurd rfl hc)
  exact hback w' v' _ _ hH hR hSim hS
set_option maxHeartbeats 4000000 in
set_option maxRecDepth 100000 in
theorem law_17 {p : Program} {e : Env} {s : State} {m : MethodId} {below : List Frame} {meth : Method} {c : Code} (l : Launch) {b L : Nat} {xs : Nat → Int32} {G : GX} {Sim : CW → CW → Prop} (hsim : SIM Sim) (hL : L ≤ 2560) (X : LX G p s m #[Value.ref b] meth c) (hX : va_X b L xs s s.heap) (hbl : b < s.heap.size) (hgA : ∀ q, gA G q → s.heap.size ≤ q) (hdis : ∀ q, cA G q → ¬ rA G q) {cells slots : Nat} (hcs : cells ≤ room_1.cells ∧ slots ≤ room_1.slots) {j : Nat} (hj : 5 * j + 5 ≤ L) {w v : CW} {H : Heap} {locs : List Loc} {ls : Array Slot} (hH : cH G w H) (hR : rH G v H) (hS : va_S (LA s) s.heap H locs) (hl : lv_has ls 4 [(3, .int (nI (5 * j))), (0, .ref b), (1, .ref (G.2.2.1 190)), (2, .ref (G.2.2.1 300))]) (hs0 : Sim w v) (hback : ∀ (w' v' : CW) (H : Heap) (locs : List Loc), cH G w' H → rH G v' H → Sim w' v' → va_S (LA s) s.heap H locs → W p l e room_1 s m #[Value.ref b] below meth c H locs cells slots (lw_Z below #[Value.ref b] s) (F0 m 1310 ls [])) : W p l e room_1 s m #[Value.ref b] below meth c H locs cells slots (lw_Z below #[Value.ref b] s) (F0 m 743 ls []) := by
  have hx := X.1.1
  have hb := X.1.2.1
  have hbA : ¬ LA s b := Nat.not_le.mpr hbl
  have hcA : ∀ q, cA G q → s.heap.size ≤ q := fun q h => hgA q (cA_g q h)
  have hrA : ∀ q, rA G q → s.heap.size ≤ q := fun q h => hgA q (rA_g q h)
  have hv1 : vp_in (nI (5 * j) + 1) L := by rw [show (1 : Int32) = nI 1 from rfl, nI_add]; exact vp_in_nI (by omega) (by omega)
  have hv2 : vp_in (nI (5 * j) + 2) L := by rw [show (2 : Int32) = nI 2 from rfl, nI_add]; exact vp_in_nI (by omega) (by omega)
  have hv3 : vp_in (nI (5 * j) + 3) L := by rw [show (3 : Int32) = nI 3 from rfl, nI_add]; exact vp_in_nI (by omega) (by omega)
  have hv4 : vp_in (nI (5 * j) + 4) L := by rw [show (4 : Int32) = nI 4 from rfl, nI_add]; exact vp_in_nI (by omega) (by omega)
  obtain ⟨r, w', v', hC, hRr, hSim⟩ := hsim 17 (by decide) w v (xs (nI (5 * j) + 1).toNatClampNeg) (xs (nI (5 * j) + 2).toNatClampNeg) (xs (nI (5 * j) + 3).toNatClampNeg) (xs (nI (5 * j) + 4).toNatClampNeg) hs0
  refine lv_aload_n hx hb dL_law_743 rfl (lv_at hl 2 rfl) ?_
  refine lv_aload_n hx hb dL_law_744 rfl (lv_at hl 1 rfl) ?_
  refine lv_iload_n hx hb dL_law_745 rfl (lv_at hl 0 rfl) ?_
  refine lv_iconst (v := 1) hx hb dL_law_746 (by decide) ?_
  refine lv_iadd hx hb dL_law_747 ?_
  refine va_sld hx hb hX hbl hbA hS hv1 dL_law_748 ?_
  refine lv_aload_n hx hb dL_law_749 rfl (lv_at hl 1 rfl) ?_
  refine lv_iload_n hx hb dL_law_750 rfl (lv_at hl 0 rfl) ?_
  refine lv_iconst (v := 2) hx hb dL_law_751 (by decide) ?_
  refine lv_iadd hx hb dL_law_752 ?_
  refine va_sld hx hb hX hbl hbA hS hv2 dL_law_753 ?_
  refine lv_aload_n hx hb dL_law_754 rfl (lv_at hl 1 rfl) ?_
  refine lv_iload_n hx hb dL_law_755 rfl (lv_at hl 0 rfl) ?_
  refine lv_iconst (v := 3) hx hb dL_law_756 (by decide) ?_
  refine lv_iadd hx hb dL_law_757 ?_
  refine va_sld hx hb hX hbl hbA hS hv3 dL_law_758 ?_
  refine lv_aload_n hx hb dL_law_759 rfl (lv_at hl 1 rfl) ?_
  refine lv_iload_n hx hb dL_law_760 rfl (lv_at hl 0 rfl) ?_
  refine lv_iconst (v := 4) hx hb dL_law_761 (by decide) ?_
  refine lv_iadd hx hb dL_law_762 ?_
  refine va_sld hx hb hX hbl hbA hS hv4 dL_law_763 ?_
  have gC := so_s hC
  refine lVi (rest := []) X (c_X11_leaf l G w (xs (nI (5 * j) + 1).toNatClampNeg) (xs (nI (5 * j) + 2).toNatClampNeg) (xs (nI (5 * j) + 3).toNatClampNeg) (xs (nI (5 * j) + 4).toNatClampNeg) (r, w') gC) bw1086 bw1087 bw1088 bw86 bw1089 cn_X11_leaf ⟨rfl, rfl, Nat.le_of_ble_eq_true rfl, Nat.le_of_ble_eq_true rfl⟩ (l_recC X hH) hcA hH hS hl rfl (Nat.le_of_ble_eq_true rfl) dL_law_764 hcs (fun H1 locs1 hN hk hS => ?_)
  have hR := rH_kept hdis hR hk
  have hH : cH G w' H1 := hN
  generalize H1 = H at hH hR hS ⊢
  generalize locs1 = locs at hS ⊢
  refine lv_aload_n hx hb dL_law_767 rfl (lv_at hl 3 rfl) ?_
  refine lv_aload_n hx hb dL_law_768 rfl (lv_at hl 1 rfl) ?_
  refine lv_iload_n hx hb dL_law_769 rfl (lv_at hl 0 rfl) ?_
  refine lv_iconst (v := 1) hx hb dL_law_770 (by decide) ?_
  refine lv_iadd hx hb dL_law_771 ?_
  refine va_sld hx hb hX hbl hbA hS hv1 dL_law_772 ?_
  refine lv_aload_n hx hb dL_law_773 rfl (lv_at hl 1 rfl) ?_
  refine lv_iload_n hx hb dL_law_774 rfl (lv_at hl 0 rfl) ?_
  refine lv_iconst (v := 2) hx hb dL_law_775 (by decide) ?_
  refine lv_iadd hx hb dL_law_776 ?_
  refine va_sld hx hb hX hbl hbA hS hv2 dL_law_777 ?_
  refine lv_aload_n hx hb dL_law_778 rfl (lv_at hl 1 rfl) ?_
  refine lv_iload_n hx hb dL_law_779 rfl (lv_at hl 0 rfl) ?_
  refine lv_iconst (v := 3) hx hb dL_law_780 (by decide) ?_
  refine lv_iadd hx hb dL_law_781 ?_
  refine va_sld hx hb hX hbl hbA hS hv3 dL_law_782 ?_
  refine lv_aload_n hx hb dL_law_783 rfl (lv_at hl 1 rfl) ?_
  refine lv_iload_n hx hb dL_law_784 rfl (lv_at hl 0 rfl) ?_
  refine lv_iconst (v := 4) hx hb dL_law_785 (by decide) ?_
  refine lv_iadd hx hb dL_law_786 ?_
  refine va_sld hx hb hX hbl hbA hS hv4 dL_law_787 ?_
  have gR := hRr
  refine lVi (rest := [.int r]) X (c_X12_leaf l G v (xs (nI (5 * j) + 1).toNatClampNeg) (xs (nI (5 * j) + 2).toNatClampNeg) (xs (nI (5 * j) + 3).toNatClampNeg) (xs (nI (5 * j) + 4).toNatClampNeg) (r, v') gR) bw1686 bw1687 bw1688 bw105 bw1689 cn_X12_leaf ⟨rfl, rfl, Nat.le_of_ble_eq_true rfl, Nat.le_of_ble_eq_true rfl⟩ (l_recR X hR) hrA hR hS hl rfl (Nat.le_of_ble_eq_true rfl) dL_law_788 hcs (fun H1 locs1 hN hk hS => ?_)
  have hH := cH_kept hdis hH hk
  have hR : rH G v' H1 := hN
  generalize H1 = H at hH hR hS ⊢
  generalize locs1 = locs at hS ⊢
  refine lv_icmp_eq (tgt := 1310) hx hb dL_law_791 (by decide) (fun _ => ?_) (fun hc => absurd rfl hc)
  exact hback w' v' _ _ hH hR hSim hS
set_option maxHeartbeats 4000000 in
set_option maxRecDepth 100000 in
theorem law_18 {p : Program} {e : Env} {s : State} {m : MethodId} {below : List Frame} {meth : Method} {c : Code} (l : Launch) {b L : Nat} {xs : Nat → Int32} {G : GX} {Sim : CW → CW → Prop} (hsim : SIM Sim) (hL : L ≤ 2560) (X : LX G p s m #[Value.ref b] meth c) (hX : va_X b L xs s s.heap) (hbl : b < s.heap.size) (hgA : ∀ q, gA G q → s.heap.size ≤ q) (hdis : ∀ q, cA G q → ¬ rA G q) {cells slots : Nat} (hcs : cells ≤ room_1.cells ∧ slots ≤ room_1.slots) {j : Nat} (hj : 5 * j + 5 ≤ L) {w v : CW} {H : Heap} {locs : List Loc} {ls : Array Slot} (hH : cH G w H) (hR : rH G v H) (hS : va_S (LA s) s.heap H locs) (hl : lv_has ls 4 [(3, .int (nI (5 * j))), (0, .ref b), (1, .ref (G.2.2.1 190)), (2, .ref (G.2.2.1 300))]) (hs0 : Sim w v) (hback : ∀ (w' v' : CW) (H : Heap) (locs : List Loc), cH G w' H → rH G v' H → Sim w' v' → va_S (LA s) s.heap H locs → W p l e room_1 s m #[Value.ref b] below meth c H locs cells slots (lw_Z below #[Value.ref b] s) (F0 m 1310 ls [])) : W p l e room_1 s m #[Value.ref b] below meth c H locs cells slots (lw_Z below #[Value.ref b] s) (F0 m 796 ls []) := by
  have hx := X.1.1
  have hb := X.1.2.1
  have hbA : ¬ LA s b := Nat.not_le.mpr hbl
  have hcA : ∀ q, cA G q → s.heap.size ≤ q := fun q h => hgA q (cA_g q h)
  have hrA : ∀ q, rA G q → s.heap.size ≤ q := fun q h => hgA q (rA_g q h)
  have hv1 : vp_in (nI (5 * j) + 1) L := by rw [show (1 : Int32) = nI 1 from rfl, nI_add]; exact vp_in_nI (by omega) (by omega)
  have hv2 : vp_in (nI (5 * j) + 2) L := by rw [show (2 : Int32) = nI 2 from rfl, nI_add]; exact vp_in_nI (by omega) (by omega)
  obtain ⟨r, w', v', hC, hRr, hSim⟩ := hsim 18 (by decide) w v (xs (nI (5 * j) + 1).toNatClampNeg) (xs (nI (5 * j) + 2).toNatClampNeg) 0 0 hs0
  refine lv_aload_n hx hb dL_law_796 rfl (lv_at hl 2 rfl) ?_
  refine lv_aload_n hx hb dL_law_797 rfl (lv_at hl 1 rfl) ?_
  refine lv_iload_n hx hb dL_law_798 rfl (lv_at hl 0 rfl) ?_
  refine lv_iconst (v := 1) hx hb dL_law_799 (by decide) ?_
  refine lv_iadd hx hb dL_law_800 ?_
  refine va_sld hx hb hX hbl hbA hS hv1 dL_law_801 ?_
  refine lv_aload_n hx hb dL_law_802 rfl (lv_at hl 1 rfl) ?_
  refine lv_iload_n hx hb dL_law_803 rfl (lv_at hl 0 rfl) ?_
  refine lv_iconst (v := 2) hx hb dL_law_804 (by decide) ?_
  refine lv_iadd hx hb dL_law_805 ?_
  refine va_sld hx hb hX hbl hbA hS hv2 dL_law_806 ?_
  obtain ⟨gC, eC⟩ := kIo hC
  refine lVi (rest := []) X (c_X11_shows l G w (xs (nI (5 * j) + 1).toNatClampNeg) (xs (nI (5 * j) + 2).toNatClampNeg) r gC) bw1099 bw1100 bw1101 bw86 bw1102 cn_X11_shows ⟨rfl, rfl, Nat.le_of_ble_eq_true rfl, Nat.le_of_ble_eq_true rfl⟩ (l_recC X hH) hcA hH hS hl rfl (Nat.le_of_ble_eq_true rfl) dL_law_807 hcs (fun H1 locs1 hN hk hS => ?_)
  have hR := rH_kept hdis hR hk
  have hH : cH G w' H1 := eC ▸ hN
  generalize H1 = H at hH hR hS ⊢
  generalize locs1 = locs at hS ⊢
  refine lv_aload_n hx hb dL_law_810 rfl (lv_at hl 3 rfl) ?_
  refine lv_aload_n hx hb dL_law_811 rfl (lv_at hl 1 rfl) ?_
  refine lv_iload_n hx hb dL_law_812 rfl (lv_at hl 0 rfl) ?_
  refine lv_iconst (v := 1) hx hb dL_law_813 (by decide) ?_
  refine lv_iadd hx hb dL_law_814 ?_
  refine va_sld hx hb hX hbl hbA hS hv1 dL_law_815 ?_
  refine lv_aload_n hx hb dL_law_816 rfl (lv_at hl 1 rfl) ?_
  refine lv_iload_n hx hb dL_law_817 rfl (lv_at hl 0 rfl) ?_
  refine lv_iconst (v := 2) hx hb dL_law_818 (by decide) ?_
  refine lv_iadd hx hb dL_law_819 ?_
  refine va_sld hx hb hX hbl hbA hS hv2 dL_law_820 ?_
  obtain ⟨gR, eR⟩ := kIo hRr
  refine lVi (rest := [.int r]) X (c_X12_shows l G v (xs (nI (5 * j) + 1).toNatClampNeg) (xs (nI (5 * j) + 2).toNatClampNeg) r gR) bw1690 bw1691 bw1692 bw105 bw1693 cn_X12_shows ⟨rfl, rfl, Nat.le_of_ble_eq_true rfl, Nat.le_of_ble_eq_true rfl⟩ (l_recR X hR) hrA hR hS hl rfl (Nat.le_of_ble_eq_true rfl) dL_law_821 hcs (fun H1 locs1 hN hk hS => ?_)
  have hH := cH_kept hdis hH hk
  have hR : rH G v' H1 := eR ▸ hN
  generalize H1 = H at hH hR hS ⊢
  generalize locs1 = locs at hS ⊢
  refine lv_icmp_eq (tgt := 1310) hx hb dL_law_824 (by decide) (fun _ => ?_) (fun hc => absurd rfl hc)
  exact hback w' v' _ _ hH hR hSim hS
set_option maxHeartbeats 4000000 in
set_option maxRecDepth 100000 in
theorem law_19 {p : Program} {e : Env} {s : State} {m : MethodId} {below : List Frame} {meth : Method} {c : Code} (l : Launch) {b L : Nat} {xs : Nat → Int32} {G : GX} {Sim : CW → CW → Prop} (hsim : SIM Sim) (hL : L ≤ 2560) (X : LX G p s m #[Value.ref b] meth c) (hX : va_X b L xs s s.heap) (hbl : b < s.heap.size) (hgA : ∀ q, gA G q → s.heap.size ≤ q) (hdis : ∀ q, cA G q → ¬ rA G q) {cells slots : Nat} (hcs : cells ≤ room_1.cells ∧ slots ≤ room_1.slots) {j : Nat} (hj : 5 * j + 5 ≤ L) {w v : CW} {H : Heap} {locs : List Loc} {ls : Array Slot} (hH : cH G w H) (hR : rH G v H) (hS : va_S (LA s) s.heap H locs) (hl : lv_has ls 4 [(3, .int (nI (5 * j))), (0, .ref b), (1, .ref (G.2.2.1 190)), (2, .ref (G.2.2.1 300))]) (hs0 : Sim w v) (hback : ∀ (w' v' : CW) (H : Heap) (locs : List Loc), cH G w' H → rH G v' H → Sim w' v' → va_S (LA s) s.heap H locs → W p l e room_1 s m #[Value.ref b] below meth c H locs cells slots (lw_Z below #[Value.ref b] s) (F0 m 1310 ls [])) : W p l e room_1 s m #[Value.ref b] below meth c H locs cells slots (lw_Z below #[Value.ref b] s) (F0 m 829 ls []) := by
  have hx := X.1.1
  have hb := X.1.2.1
  have hbA : ¬ LA s b := Nat.not_le.mpr hbl
  have hcA : ∀ q, cA G q → s.heap.size ≤ q := fun q h => hgA q (cA_g q h)
  have hrA : ∀ q, rA G q → s.heap.size ≤ q := fun q h => hgA q (rA_g q h)
  have hv1 : vp_in (nI (5 * j) + 1) L := by rw [show (1 : Int32) = nI 1 from rfl, nI_add]; exact vp_in_nI (by omega) (by omega)
  have hv2 : vp_in (nI (5 * j) + 2) L := by rw [show (2 : Int32) = nI 2 from rfl, nI_add]; exact vp_in_nI (by omega) (by omega)
  obtain ⟨r, w', v', hC, hRr, hSim⟩ := hsim 19 (by decide) w v (xs (nI (5 * j) + 1).toNatClampNeg) (xs (nI (5 * j) + 2).toNatClampNeg) 0 0 hs0
  refine lv_aload_n hx hb dL_law_829 rfl (lv_at hl 2 rfl) ?_
  refine lv_aload_n hx hb dL_law_830 rfl (lv_at hl 1 rfl) ?_
  refine lv_iload_n hx hb dL_law_831 rfl (lv_at hl 0 rfl) ?_
  refine lv_iconst (v := 1) hx hb dL_law_832 (by decide) ?_
  refine lv_iadd hx hb dL_law_833 ?_
  refine va_sld hx hb hX hbl hbA hS hv1 dL_law_834 ?_
  refine lv_aload_n hx hb dL_law_835 rfl (lv_at hl 1 rfl) ?_
  refine lv_iload_n hx hb dL_law_836 rfl (lv_at hl 0 rfl) ?_
  refine lv_iconst (v := 2) hx hb dL_law_837 (by decide) ?_
  refine lv_iadd hx hb dL_law_838 ?_
  refine va_sld hx hb hX hbl hbA hS hv2 dL_law_839 ?_
  obtain ⟨gC, eC⟩ := kI hC
  refine lVi (rest := []) X (c_X11_as l G w (xs (nI (5 * j) + 1).toNatClampNeg) (xs (nI (5 * j) + 2).toNatClampNeg) r gC) bw1119 bw1120 bw1121 bw86 bw1122 cn_X11_as ⟨rfl, rfl, Nat.le_of_ble_eq_true rfl, Nat.le_of_ble_eq_true rfl⟩ (l_recC X hH) hcA hH hS hl rfl (Nat.le_of_ble_eq_true rfl) dL_law_840 hcs (fun H1 locs1 hN hk hS => ?_)
  have hR := rH_kept hdis hR hk
  have hH : cH G w' H1 := eC ▸ hN
  generalize H1 = H at hH hR hS ⊢
  generalize locs1 = locs at hS ⊢
  refine lv_aload_n hx hb dL_law_843 rfl (lv_at hl 3 rfl) ?_
  refine lv_aload_n hx hb dL_law_844 rfl (lv_at hl 1 rfl) ?_
  refine lv_iload_n hx hb dL_law_845 rfl (lv_at hl 0 rfl) ?_
  refine lv_iconst (v := 1) hx hb dL_law_846 (by decide) ?_
  refine lv_iadd hx hb dL_law_847 ?_
  refine va_sld hx hb hX hbl hbA hS hv1 dL_law_848 ?_
  refine lv_aload_n hx hb dL_law_849 rfl (lv_at hl 1 rfl) ?_
  refine lv_iload_n hx hb dL_law_850 rfl (lv_at hl 0 rfl) ?_
  refine lv_iconst (v := 2) hx hb dL_law_851 (by decide) ?_
  refine lv_iadd hx hb dL_law_852 ?_
  refine va_sld hx hb hX hbl hbA hS hv2 dL_law_853 ?_
  obtain ⟨gR, eR⟩ := kIo hRr
  refine lVi (rest := [.int r]) X (c_X12_as l G v (xs (nI (5 * j) + 1).toNatClampNeg) (xs (nI (5 * j) + 2).toNatClampNeg) r gR) bw1698 bw1699 bw1700 bw105 bw1701 cn_X12_as ⟨rfl, rfl, Nat.le_of_ble_eq_true rfl, Nat.le_of_ble_eq_true rfl⟩ (l_recR X hR) hrA hR hS hl rfl (Nat.le_of_ble_eq_true rfl) dL_law_854 hcs (fun H1 locs1 hN hk hS => ?_)
  have hH := cH_kept hdis hH hk
  have hR : rH G v' H1 := eR ▸ hN
  generalize H1 = H at hH hR hS ⊢
  generalize locs1 = locs at hS ⊢
  refine lv_icmp_eq (tgt := 1310) hx hb dL_law_857 (by decide) (fun _ => ?_) (fun hc => absurd rfl hc)
  exact hback w' v' _ _ hH hR hSim hS
set_option maxHeartbeats 4000000 in
set_option maxRecDepth 100000 in
theorem law_20 {p : Program} {e : Env} {s : State} {m : MethodId} {below : List Frame} {meth : Method} {c : Code} (l : Launch) {b L : Nat} {xs : Nat → Int32} {G : GX} {Sim : CW → CW → Prop} (hsim : SIM Sim) (hL : L ≤ 2560) (X : LX G p s m #[Value.ref b] meth c) (hX : va_X b L xs s s.heap) (hbl : b < s.heap.size) (hgA : ∀ q, gA G q → s.heap.size ≤ q) (hdis : ∀ q, cA G q → ¬ rA G q) {cells slots : Nat} (hcs : cells ≤ room_1.cells ∧ slots ≤ room_1.slots) {j : Nat} (hj : 5 * j + 5 ≤ L) {w v : CW} {H : Heap} {locs : List Loc} {ls : Array Slot} (hH : cH G w H) (hR : rH G v H) (hS : va_S (LA s) s.heap H locs) (hl : lv_has ls 4 [(3, .int (nI (5 * j))), (0, .ref b), (1, .ref (G.2.2.1 190)), (2, .ref (G.2.2.1 300))]) (hs0 : Sim w v) (hback : ∀ (w' v' : CW) (H : Heap) (locs : List Loc), cH G w' H → rH G v' H → Sim w' v' → va_S (LA s) s.heap H locs → W p l e room_1 s m #[Value.ref b] below meth c H locs cells slots (lw_Z below #[Value.ref b] s) (F0 m 1310 ls [])) : W p l e room_1 s m #[Value.ref b] below meth c H locs cells slots (lw_Z below #[Value.ref b] s) (F0 m 862 ls []) := by
  have hx := X.1.1
  have hb := X.1.2.1
  have hbA : ¬ LA s b := Nat.not_le.mpr hbl
  have hcA : ∀ q, cA G q → s.heap.size ≤ q := fun q h => hgA q (cA_g q h)
  have hrA : ∀ q, rA G q → s.heap.size ≤ q := fun q h => hgA q (rA_g q h)
  have hv1 : vp_in (nI (5 * j) + 1) L := by rw [show (1 : Int32) = nI 1 from rfl, nI_add]; exact vp_in_nI (by omega) (by omega)
  obtain ⟨r, w', v', hC, hRr, hSim⟩ := hsim 20 (by decide) w v (xs (nI (5 * j) + 1).toNatClampNeg) 0 0 0 hs0
  refine lv_aload_n hx hb dL_law_862 rfl (lv_at hl 2 rfl) ?_
  refine lv_aload_n hx hb dL_law_863 rfl (lv_at hl 1 rfl) ?_
  refine lv_iload_n hx hb dL_law_864 rfl (lv_at hl 0 rfl) ?_
  refine lv_iconst (v := 1) hx hb dL_law_865 (by decide) ?_
  refine lv_iadd hx hb dL_law_866 ?_
  refine va_sld hx hb hX hbl hbA hS hv1 dL_law_867 ?_
  have gC := hC
  refine lVi (rest := []) X (c_X11_copies l G w (xs (nI (5 * j) + 1).toNatClampNeg) (r, w') gC) bw1126 bw1127 bw1128 bw86 bw1129 cn_X11_copies ⟨rfl, rfl, Nat.le_of_ble_eq_true rfl, Nat.le_of_ble_eq_true rfl⟩ (l_recC X hH) hcA hH hS hl rfl (Nat.le_of_ble_eq_true rfl) dL_law_868 hcs (fun H1 locs1 hN hk hS => ?_)
  have hR := rH_kept hdis hR hk
  have hH : cH G w' H1 := hN
  generalize H1 = H at hH hR hS ⊢
  generalize locs1 = locs at hS ⊢
  refine lv_aload_n hx hb dL_law_871 rfl (lv_at hl 3 rfl) ?_
  refine lv_aload_n hx hb dL_law_872 rfl (lv_at hl 1 rfl) ?_
  refine lv_iload_n hx hb dL_law_873 rfl (lv_at hl 0 rfl) ?_
  refine lv_iconst (v := 1) hx hb dL_law_874 (by decide) ?_
  refine lv_iadd hx hb dL_law_875 ?_
  refine va_sld hx hb hX hbl hbA hS hv1 dL_law_876 ?_
  obtain ⟨gR, eR⟩ := kIo hRr
  refine lVi (rest := [.int r]) X (c_X12_copies l G v (xs (nI (5 * j) + 1).toNatClampNeg) r gR) bw1702 bw1703 bw1704 bw105 bw1705 cn_X12_copies ⟨rfl, rfl, Nat.le_of_ble_eq_true rfl, Nat.le_of_ble_eq_true rfl⟩ (l_recR X hR) hrA hR hS hl rfl (Nat.le_of_ble_eq_true rfl) dL_law_877 hcs (fun H1 locs1 hN hk hS => ?_)
  have hH := cH_kept hdis hH hk
  have hR : rH G v' H1 := eR ▸ hN
  generalize H1 = H at hH hR hS ⊢
  generalize locs1 = locs at hS ⊢
  refine lv_icmp_eq (tgt := 1310) hx hb dL_law_880 (by decide) (fun _ => ?_) (fun hc => absurd rfl hc)
  exact hback w' v' _ _ hH hR hSim hS
set_option maxHeartbeats 4000000 in
set_option maxRecDepth 100000 in
theorem law_21 {p : Program} {e : Env} {s : State} {m : MethodId} {below : List Frame} {meth : Method} {c : Code} (l : Launch) {b L : Nat} {xs : Nat → Int32} {G : GX} {Sim : CW → CW → Prop} (hsim : SIM Sim) (hL : L ≤ 2560) (X : LX G p s m #[Value.ref b] meth c) (hX : va_X b L xs s s.heap) (hbl : b < s.heap.size) (hgA : ∀ q, gA G q → s.heap.size ≤ q) (hdis : ∀ q, cA G q → ¬ rA G q) {cells slots : Nat} (hcs : cells ≤ room_1.cells ∧ slots ≤ room_1.slots) {j : Nat} (hj : 5 * j + 5 ≤ L) {w v : CW} {H : Heap} {locs : List Loc} {ls : Array Slot} (hH : cH G w H) (hR : rH G v H) (hS : va_S (LA s) s.heap H locs) (hl : lv_has ls 4 [(3, .int (nI (5 * j))), (0, .ref b), (1, .ref (G.2.2.1 190)), (2, .ref (G.2.2.1 300))]) (hs0 : Sim w v) (hback : ∀ (w' v' : CW) (H : Heap) (locs : List Loc), cH G w' H → rH G v' H → Sim w' v' → va_S (LA s) s.heap H locs → W p l e room_1 s m #[Value.ref b] below meth c H locs cells slots (lw_Z below #[Value.ref b] s) (F0 m 1310 ls [])) : W p l e room_1 s m #[Value.ref b] below meth c H locs cells slots (lw_Z below #[Value.ref b] s) (F0 m 885 ls []) := by
  have hx := X.1.1
  have hb := X.1.2.1
  have hbA : ¬ LA s b := Nat.not_le.mpr hbl
  have hcA : ∀ q, cA G q → s.heap.size ≤ q := fun q h => hgA q (cA_g q h)
  have hrA : ∀ q, rA G q → s.heap.size ≤ q := fun q h => hgA q (rA_g q h)
  have hv1 : vp_in (nI (5 * j) + 1) L := by rw [show (1 : Int32) = nI 1 from rfl, nI_add]; exact vp_in_nI (by omega) (by omega)
  obtain ⟨r, w', v', hC, hRr, hSim⟩ := hsim 21 (by decide) w v (xs (nI (5 * j) + 1).toNatClampNeg) 0 0 0 hs0
  refine lv_aload_n hx hb dL_law_885 rfl (lv_at hl 2 rfl) ?_
  refine lv_aload_n hx hb dL_law_886 rfl (lv_at hl 1 rfl) ?_
  refine lv_iload_n hx hb dL_law_887 rfl (lv_at hl 0 rfl) ?_
  refine lv_iconst (v := 1) hx hb dL_law_888 (by decide) ?_
  refine lv_iadd hx hb dL_law_889 ?_
  refine va_sld hx hb hX hbl hbA hS hv1 dL_law_890 ?_
  have gC := so_s hC
  refine lVi (rest := []) X (c_X11_state l G w (xs (nI (5 * j) + 1).toNatClampNeg) (r, w') gC) bw1147 bw1148 bw1149 bw86 bw1150 cn_X11_state ⟨rfl, rfl, Nat.le_of_ble_eq_true rfl, Nat.le_of_ble_eq_true rfl⟩ (l_recC X hH) hcA hH hS hl rfl (Nat.le_of_ble_eq_true rfl) dL_law_891 hcs (fun H1 locs1 hN hk hS => ?_)
  have hR := rH_kept hdis hR hk
  have hH : cH G w' H1 := hN
  generalize H1 = H at hH hR hS ⊢
  generalize locs1 = locs at hS ⊢
  refine lv_aload_n hx hb dL_law_894 rfl (lv_at hl 3 rfl) ?_
  refine lv_aload_n hx hb dL_law_895 rfl (lv_at hl 1 rfl) ?_
  refine lv_iload_n hx hb dL_law_896 rfl (lv_at hl 0 rfl) ?_
  refine lv_iconst (v := 1) hx hb dL_law_897 (by decide) ?_
  refine lv_iadd hx hb dL_law_898 ?_
  refine va_sld hx hb hX hbl hbA hS hv1 dL_law_899 ?_
  have gR := hRr
  refine lVi (rest := [.int r]) X (c_X12_state l G v (xs (nI (5 * j) + 1).toNatClampNeg) (r, v') gR) bw1706 bw1707 bw1708 bw105 bw1709 cn_X12_state ⟨rfl, rfl, Nat.le_of_ble_eq_true rfl, Nat.le_of_ble_eq_true rfl⟩ (l_recR X hR) hrA hR hS hl rfl (Nat.le_of_ble_eq_true rfl) dL_law_900 hcs (fun H1 locs1 hN hk hS => ?_)
  have hH := cH_kept hdis hH hk
  have hR : rH G v' H1 := hN
  generalize H1 = H at hH hR hS ⊢
  generalize locs1 = locs at hS ⊢
  refine lv_icmp_eq (tgt := 1310) hx hb dL_law_903 (by decide) (fun _ => ?_) (fun hc => absurd rfl hc)
  exact hback w' v' _ _ hH hR hSim hS
set_option maxHeartbeats 4000000 in
set_option maxRecDepth 100000 in
theorem law_22 {p : Program} {e : Env} {s : State} {m : MethodId} {below : List Frame} {meth : Method} {c : Code} (l : Launch) {b L : Nat} {xs : Nat → Int32} {G : GX} {Sim : CW → CW → Prop} (hsim : SIM Sim) (hL : L ≤ 2560) (X : LX G p s m #[Value.ref b] meth c) (hX : va_X b L xs s s.heap) (hbl : b < s.heap.size) (hgA : ∀ q, gA G q → s.heap.size ≤ q) (hdis : ∀ q, cA G q → ¬ rA G q) {cells slots : Nat} (hcs : cells ≤ room_1.cells ∧ slots ≤ room_1.slots) {j : Nat} (hj : 5 * j + 5 ≤ L) {w v : CW} {H : Heap} {locs : List Loc} {ls : Array Slot} (hH : cH G w H) (hR : rH G v H) (hS : va_S (LA s) s.heap H locs) (hl : lv_has ls 4 [(3, .int (nI (5 * j))), (0, .ref b), (1, .ref (G.2.2.1 190)), (2, .ref (G.2.2.1 300))]) (hs0 : Sim w v) (hback : ∀ (w' v' : CW) (H : Heap) (locs : List Loc), cH G w' H → rH G v' H → Sim w' v' → va_S (LA s) s.heap H locs → W p l e room_1 s m #[Value.ref b] below meth c H locs cells slots (lw_Z below #[Value.ref b] s) (F0 m 1310 ls [])) : W p l e room_1 s m #[Value.ref b] below meth c H locs cells slots (lw_Z below #[Value.ref b] s) (F0 m 908 ls []) := by
  have hx := X.1.1
  have hb := X.1.2.1
  have hbA : ¬ LA s b := Nat.not_le.mpr hbl
  have hcA : ∀ q, cA G q → s.heap.size ≤ q := fun q h => hgA q (cA_g q h)
  have hrA : ∀ q, rA G q → s.heap.size ≤ q := fun q h => hgA q (rA_g q h)
  have hv1 : vp_in (nI (5 * j) + 1) L := by rw [show (1 : Int32) = nI 1 from rfl, nI_add]; exact vp_in_nI (by omega) (by omega)
  obtain ⟨r, w', v', hC, hRr, hSim⟩ := hsim 22 (by decide) w v (xs (nI (5 * j) + 1).toNatClampNeg) 0 0 0 hs0
  refine lv_aload_n hx hb dL_law_908 rfl (lv_at hl 2 rfl) ?_
  refine lv_aload_n hx hb dL_law_909 rfl (lv_at hl 1 rfl) ?_
  refine lv_iload_n hx hb dL_law_910 rfl (lv_at hl 0 rfl) ?_
  refine lv_iconst (v := 1) hx hb dL_law_911 (by decide) ?_
  refine lv_iadd hx hb dL_law_912 ?_
  refine va_sld hx hb hX hbl hbA hS hv1 dL_law_913 ?_
  have gC := hC
  refine lVi (rest := []) X (c_X11_allowed l G w (xs (nI (5 * j) + 1).toNatClampNeg) (r, w') gC) bw1158 bw1159 bw1160 bw86 bw1161 cn_X11_allowed ⟨rfl, rfl, Nat.le_of_ble_eq_true rfl, Nat.le_of_ble_eq_true rfl⟩ (l_recC X hH) hcA hH hS hl rfl (Nat.le_of_ble_eq_true rfl) dL_law_914 hcs (fun H1 locs1 hN hk hS => ?_)
  have hR := rH_kept hdis hR hk
  have hH : cH G w' H1 := hN
  generalize H1 = H at hH hR hS ⊢
  generalize locs1 = locs at hS ⊢
  refine lv_aload_n hx hb dL_law_917 rfl (lv_at hl 3 rfl) ?_
  refine lv_aload_n hx hb dL_law_918 rfl (lv_at hl 1 rfl) ?_
  refine lv_iload_n hx hb dL_law_919 rfl (lv_at hl 0 rfl) ?_
  refine lv_iconst (v := 1) hx hb dL_law_920 (by decide) ?_
  refine lv_iadd hx hb dL_law_921 ?_
  refine va_sld hx hb hX hbl hbA hS hv1 dL_law_922 ?_
  have gR := hRr
  refine lVi (rest := [.int r]) X (c_X12_allowed l G v (xs (nI (5 * j) + 1).toNatClampNeg) (r, v') gR) bw1711 bw1712 bw1713 bw105 bw1714 cn_X12_allowed ⟨rfl, rfl, Nat.le_of_ble_eq_true rfl, Nat.le_of_ble_eq_true rfl⟩ (l_recR X hR) hrA hR hS hl rfl (Nat.le_of_ble_eq_true rfl) dL_law_923 hcs (fun H1 locs1 hN hk hS => ?_)
  have hH := cH_kept hdis hH hk
  have hR : rH G v' H1 := hN
  generalize H1 = H at hH hR hS ⊢
  generalize locs1 = locs at hS ⊢
  refine lv_icmp_eq (tgt := 1310) hx hb dL_law_926 (by decide) (fun _ => ?_) (fun hc => absurd rfl hc)
  exact hback w' v' _ _ hH hR hSim hS
set_option maxHeartbeats 4000000 in
set_option maxRecDepth 100000 in
theorem law_23 {p : Program} {e : Env} {s : State} {m : MethodId} {below : List Frame} {meth : Method} {c : Code} (l : Launch) {b L : Nat} {xs : Nat → Int32} {G : GX} {Sim : CW → CW → Prop} (hsim : SIM Sim) (hL : L ≤ 2560) (X : LX G p s m #[Value.ref b] meth c) (hX : va_X b L xs s s.heap) (hbl : b < s.heap.size) (hgA : ∀ q, gA G q → s.heap.size ≤ q) (hdis : ∀ q, cA G q → ¬ rA G q) {cells slots : Nat} (hcs : cells ≤ room_1.cells ∧ slots ≤ room_1.slots) {j : Nat} (hj : 5 * j + 5 ≤ L) {w v : CW} {H : Heap} {locs : List Loc} {ls : Array Slot} (hH : cH G w H) (hR : rH G v H) (hS : va_S (LA s) s.heap H locs) (hl : lv_has ls 4 [(3, .int (nI (5 * j))), (0, .ref b), (1, .ref (G.2.2.1 190)), (2, .ref (G.2.2.1 300))]) (hs0 : Sim w v) (hback : ∀ (w' v' : CW) (H : Heap) (locs : List Loc), cH G w' H → rH G v' H → Sim w' v' → va_S (LA s) s.heap H locs → W p l e room_1 s m #[Value.ref b] below meth c H locs cells slots (lw_Z below #[Value.ref b] s) (F0 m 1310 ls [])) : W p l e room_1 s m #[Value.ref b] below meth c H locs cells slots (lw_Z below #[Value.ref b] s) (F0 m 931 ls []) := by
  have hx := X.1.1
  have hb := X.1.2.1
  have hbA : ¬ LA s b := Nat.not_le.mpr hbl
  have hcA : ∀ q, cA G q → s.heap.size ≤ q := fun q h => hgA q (cA_g q h)
  have hrA : ∀ q, rA G q → s.heap.size ≤ q := fun q h => hgA q (rA_g q h)
  have hv1 : vp_in (nI (5 * j) + 1) L := by rw [show (1 : Int32) = nI 1 from rfl, nI_add]; exact vp_in_nI (by omega) (by omega)
  obtain ⟨r, w', v', hC, hRr, hSim⟩ := hsim 23 (by decide) w v (xs (nI (5 * j) + 1).toNatClampNeg) 0 0 0 hs0
  refine lv_aload_n hx hb dL_law_931 rfl (lv_at hl 2 rfl) ?_
  refine lv_aload_n hx hb dL_law_932 rfl (lv_at hl 1 rfl) ?_
  refine lv_iload_n hx hb dL_law_933 rfl (lv_at hl 0 rfl) ?_
  refine lv_iconst (v := 1) hx hb dL_law_934 (by decide) ?_
  refine lv_iadd hx hb dL_law_935 ?_
  refine va_sld hx hb hX hbl hbA hS hv1 dL_law_936 ?_
  have gC := so_s hC
  refine lVi (rest := []) X (c_X11_hand l G w (xs (nI (5 * j) + 1).toNatClampNeg) (r, w') gC) bw1178 bw1179 bw1180 bw86 bw1181 cn_X11_hand ⟨rfl, rfl, Nat.le_of_ble_eq_true rfl, Nat.le_of_ble_eq_true rfl⟩ (l_recC X hH) hcA hH hS hl rfl (Nat.le_of_ble_eq_true rfl) dL_law_937 hcs (fun H1 locs1 hN hk hS => ?_)
  have hR := rH_kept hdis hR hk
  have hH : cH G w' H1 := hN
  generalize H1 = H at hH hR hS ⊢
  generalize locs1 = locs at hS ⊢
  refine lv_aload_n hx hb dL_law_940 rfl (lv_at hl 3 rfl) ?_
  refine lv_aload_n hx hb dL_law_941 rfl (lv_at hl 1 rfl) ?_
  refine lv_iload_n hx hb dL_law_942 rfl (lv_at hl 0 rfl) ?_
  refine lv_iconst (v := 1) hx hb dL_law_943 (by decide) ?_
  refine lv_iadd hx hb dL_law_944 ?_
  refine va_sld hx hb hX hbl hbA hS hv1 dL_law_945 ?_
  have gR := hRr
  refine lVi (rest := [.int r]) X (c_X12_hand l G v (xs (nI (5 * j) + 1).toNatClampNeg) (r, v') gR) bw1719 bw1720 bw1721 bw105 bw1722 cn_X12_hand ⟨rfl, rfl, Nat.le_of_ble_eq_true rfl, Nat.le_of_ble_eq_true rfl⟩ (l_recR X hR) hrA hR hS hl rfl (Nat.le_of_ble_eq_true rfl) dL_law_946 hcs (fun H1 locs1 hN hk hS => ?_)
  have hH := cH_kept hdis hH hk
  have hR : rH G v' H1 := hN
  generalize H1 = H at hH hR hS ⊢
  generalize locs1 = locs at hS ⊢
  refine lv_icmp_eq (tgt := 1310) hx hb dL_law_949 (by decide) (fun _ => ?_) (fun hc => absurd rfl hc)
  exact hback w' v' _ _ hH hR hSim hS
set_option maxHeartbeats 4000000 in
set_option maxRecDepth 100000 in
theorem law_24 {p : Program} {e : Env} {s : State} {m : MethodId} {below : List Frame} {meth : Method} {c : Code} (l : Launch) {b L : Nat} {xs : Nat → Int32} {G : GX} {Sim : CW → CW → Prop} (hsim : SIM Sim) (hL : L ≤ 2560) (X : LX G p s m #[Value.ref b] meth c) (hX : va_X b L xs s s.heap) (hbl : b < s.heap.size) (hgA : ∀ q, gA G q → s.heap.size ≤ q) (hdis : ∀ q, cA G q → ¬ rA G q) {cells slots : Nat} (hcs : cells ≤ room_1.cells ∧ slots ≤ room_1.slots) {j : Nat} (hj : 5 * j + 5 ≤ L) {w v : CW} {H : Heap} {locs : List Loc} {ls : Array Slot} (hH : cH G w H) (hR : rH G v H) (hS : va_S (LA s) s.heap H locs) (hl : lv_has ls 4 [(3, .int (nI (5 * j))), (0, .ref b), (1, .ref (G.2.2.1 190)), (2, .ref (G.2.2.1 300))]) (hs0 : Sim w v) (hback : ∀ (w' v' : CW) (H : Heap) (locs : List Loc), cH G w' H → rH G v' H → Sim w' v' → va_S (LA s) s.heap H locs → W p l e room_1 s m #[Value.ref b] below meth c H locs cells slots (lw_Z below #[Value.ref b] s) (F0 m 1310 ls [])) : W p l e room_1 s m #[Value.ref b] below meth c H locs cells slots (lw_Z below #[Value.ref b] s) (F0 m 954 ls []) := by
  have hx := X.1.1
  have hb := X.1.2.1
  have hbA : ¬ LA s b := Nat.not_le.mpr hbl
  have hcA : ∀ q, cA G q → s.heap.size ≤ q := fun q h => hgA q (cA_g q h)
  have hrA : ∀ q, rA G q → s.heap.size ≤ q := fun q h => hgA q (rA_g q h)
  have hv1 : vp_in (nI (5 * j) + 1) L := by rw [show (1 : Int32) = nI 1 from rfl, nI_add]; exact vp_in_nI (by omega) (by omega)
  have hv2 : vp_in (nI (5 * j) + 2) L := by rw [show (2 : Int32) = nI 2 from rfl, nI_add]; exact vp_in_nI (by omega) (by omega)
  obtain ⟨r, w', v', hC, hRr, hSim⟩ := hsim 24 (by decide) w v (xs (nI (5 * j) + 1).toNatClampNeg) (xs (nI (5 * j) + 2).toNatClampNeg) 0 0 hs0
  refine lv_aload_n hx hb dL_law_954 rfl (lv_at hl 2 rfl) ?_
  refine lv_aload_n hx hb dL_law_955 rfl (lv_at hl 1 rfl) ?_
  refine lv_iload_n hx hb dL_law_956 rfl (lv_at hl 0 rfl) ?_
  refine lv_iconst (v := 1) hx hb dL_law_957 (by decide) ?_
  refine lv_iadd hx hb dL_law_958 ?_
  refine va_sld hx hb hX hbl hbA hS hv1 dL_law_959 ?_
  refine lv_aload_n hx hb dL_law_960 rfl (lv_at hl 1 rfl) ?_
  refine lv_iload_n hx hb dL_law_961 rfl (lv_at hl 0 rfl) ?_
  refine lv_iconst (v := 2) hx hb dL_law_962 (by decide) ?_
  refine lv_iadd hx hb dL_law_963 ?_
  refine va_sld hx hb hX hbl hbA hS hv2 dL_law_964 ?_
  have gC := hC
  refine lVi (rest := []) X (c_X11_rival l G w (xs (nI (5 * j) + 1).toNatClampNeg) (xs (nI (5 * j) + 2).toNatClampNeg) (r, w') gC) bw1182 bw1183 bw1184 bw86 bw1185 cn_X11_rival ⟨rfl, rfl, Nat.le_of_ble_eq_true rfl, Nat.le_of_ble_eq_true rfl⟩ (l_recC X hH) hcA hH hS hl rfl (Nat.le_of_ble_eq_true rfl) dL_law_965 hcs (fun H1 locs1 hN hk hS => ?_)
  have hR := rH_kept hdis hR hk
  have hH : cH G w' H1 := hN
  generalize H1 = H at hH hR hS ⊢
  generalize locs1 = locs at hS ⊢
  refine lv_aload_n hx hb dL_law_968 rfl (lv_at hl 3 rfl) ?_
  refine lv_aload_n hx hb dL_law_969 rfl (lv_at hl 1 rfl) ?_
  refine lv_iload_n hx hb dL_law_970 rfl (lv_at hl 0 rfl) ?_
  refine lv_iconst (v := 1) hx hb dL_law_971 (by decide) ?_
  refine lv_iadd hx hb dL_law_972 ?_
  refine va_sld hx hb hX hbl hbA hS hv1 dL_law_973 ?_
  refine lv_aload_n hx hb dL_law_974 rfl (lv_at hl 1 rfl) ?_
  refine lv_iload_n hx hb dL_law_975 rfl (lv_at hl 0 rfl) ?_
  refine lv_iconst (v := 2) hx hb dL_law_976 (by decide) ?_
  refine lv_iadd hx hb dL_law_977 ?_
  refine va_sld hx hb hX hbl hbA hS hv2 dL_law_978 ?_
  have gR := hRr
  refine lVi (rest := [.int r]) X (c_X12_rival l G v (xs (nI (5 * j) + 1).toNatClampNeg) (xs (nI (5 * j) + 2).toNatClampNeg) (r, v') gR) bw1723 bw1724 bw1725 bw105 bw1726 cn_X12_rival ⟨rfl, rfl, Nat.le_of_ble_eq_true rfl, Nat.le_of_ble_eq_true rfl⟩ (l_recR X hR) hrA hR hS hl rfl (Nat.le_of_ble_eq_true rfl) dL_law_979 hcs (fun H1 locs1 hN hk hS => ?_)
  have hH := cH_kept hdis hH hk
  have hR : rH G v' H1 := hN
  generalize H1 = H at hH hR hS ⊢
  generalize locs1 = locs at hS ⊢
  refine lv_icmp_eq (tgt := 1310) hx hb dL_law_982 (by decide) (fun _ => ?_) (fun hc => absurd rfl hc)
  exact hback w' v' _ _ hH hR hSim hS
set_option maxHeartbeats 4000000 in
set_option maxRecDepth 100000 in
theorem law_25 {p : Program} {e : Env} {s : State} {m : MethodId} {below : List Frame} {meth : Method} {c : Code} (l : Launch) {b L : Nat} {xs : Nat → Int32} {G : GX} {Sim : CW → CW → Prop} (hsim : SIM Sim) (hL : L ≤ 2560) (X : LX G p s m #[Value.ref b] meth c) (hX : va_X b L xs s s.heap) (hbl : b < s.heap.size) (hgA : ∀ q, gA G q → s.heap.size ≤ q) (hdis : ∀ q, cA G q → ¬ rA G q) {cells slots : Nat} (hcs : cells ≤ room_1.cells ∧ slots ≤ room_1.slots) {j : Nat} (hj : 5 * j + 5 ≤ L) {w v : CW} {H : Heap} {locs : List Loc} {ls : Array Slot} (hH : cH G w H) (hR : rH G v H) (hS : va_S (LA s) s.heap H locs) (hl : lv_has ls 4 [(3, .int (nI (5 * j))), (0, .ref b), (1, .ref (G.2.2.1 190)), (2, .ref (G.2.2.1 300))]) (hs0 : Sim w v) (hback : ∀ (w' v' : CW) (H : Heap) (locs : List Loc), cH G w' H → rH G v' H → Sim w' v' → va_S (LA s) s.heap H locs → W p l e room_1 s m #[Value.ref b] below meth c H locs cells slots (lw_Z below #[Value.ref b] s) (F0 m 1310 ls [])) : W p l e room_1 s m #[Value.ref b] below meth c H locs cells slots (lw_Z below #[Value.ref b] s) (F0 m 987 ls []) := by
  have hx := X.1.1
  have hb := X.1.2.1
  have hbA : ¬ LA s b := Nat.not_le.mpr hbl
  have hcA : ∀ q, cA G q → s.heap.size ≤ q := fun q h => hgA q (cA_g q h)
  have hrA : ∀ q, rA G q → s.heap.size ≤ q := fun q h => hgA q (rA_g q h)
  have hv1 : vp_in (nI (5 * j) + 1) L := by rw [show (1 : Int32) = nI 1 from rfl, nI_add]; exact vp_in_nI (by omega) (by omega)
  have hv2 : vp_in (nI (5 * j) + 2) L := by rw [show (2 : Int32) = nI 2 from rfl, nI_add]; exact vp_in_nI (by omega) (by omega)
  obtain ⟨r, w', v', hC, hRr, hSim⟩ := hsim 25 (by decide) w v (xs (nI (5 * j) + 1).toNatClampNeg) (xs (nI (5 * j) + 2).toNatClampNeg) 0 0 hs0
  refine lv_aload_n hx hb dL_law_987 rfl (lv_at hl 2 rfl) ?_
  refine lv_aload_n hx hb dL_law_988 rfl (lv_at hl 1 rfl) ?_
  refine lv_iload_n hx hb dL_law_989 rfl (lv_at hl 0 rfl) ?_
  refine lv_iconst (v := 1) hx hb dL_law_990 (by decide) ?_
  refine lv_iadd hx hb dL_law_991 ?_
  refine va_sld hx hb hX hbl hbA hS hv1 dL_law_992 ?_
  refine lv_aload_n hx hb dL_law_993 rfl (lv_at hl 1 rfl) ?_
  refine lv_iload_n hx hb dL_law_994 rfl (lv_at hl 0 rfl) ?_
  refine lv_iconst (v := 2) hx hb dL_law_995 (by decide) ?_
  refine lv_iadd hx hb dL_law_996 ?_
  refine va_sld hx hb hX hbl hbA hS hv2 dL_law_997 ?_
  have gC := so_s hC
  refine lVi (rest := []) X (c_X11_ahead l G w (xs (nI (5 * j) + 1).toNatClampNeg) (xs (nI (5 * j) + 2).toNatClampNeg) (r, w') gC) bw1222 bw1223 bw1224 bw86 bw1225 cn_X11_ahead ⟨rfl, rfl, Nat.le_of_ble_eq_true rfl, Nat.le_of_ble_eq_true rfl⟩ (l_recC X hH) hcA hH hS hl rfl (Nat.le_of_ble_eq_true rfl) dL_law_998 hcs (fun H1 locs1 hN hk hS => ?_)
  have hR := rH_kept hdis hR hk
  have hH : cH G w' H1 := hN
  generalize H1 = H at hH hR hS ⊢
  generalize locs1 = locs at hS ⊢
  refine lv_aload_n hx hb dL_law_1001 rfl (lv_at hl 3 rfl) ?_
  refine lv_aload_n hx hb dL_law_1002 rfl (lv_at hl 1 rfl) ?_
  refine lv_iload_n hx hb dL_law_1003 rfl (lv_at hl 0 rfl) ?_
  refine lv_iconst (v := 1) hx hb dL_law_1004 (by decide) ?_
  refine lv_iadd hx hb dL_law_1005 ?_
  refine va_sld hx hb hX hbl hbA hS hv1 dL_law_1006 ?_
  refine lv_aload_n hx hb dL_law_1007 rfl (lv_at hl 1 rfl) ?_
  refine lv_iload_n hx hb dL_law_1008 rfl (lv_at hl 0 rfl) ?_
  refine lv_iconst (v := 2) hx hb dL_law_1009 (by decide) ?_
  refine lv_iadd hx hb dL_law_1010 ?_
  refine va_sld hx hb hX hbl hbA hS hv2 dL_law_1011 ?_
  have gR := hRr
  refine lVi (rest := [.int r]) X (c_X12_ahead l G v (xs (nI (5 * j) + 1).toNatClampNeg) (xs (nI (5 * j) + 2).toNatClampNeg) (r, v') gR) bw1734 bw1735 bw1736 bw105 bw1737 cn_X12_ahead ⟨rfl, rfl, Nat.le_of_ble_eq_true rfl, Nat.le_of_ble_eq_true rfl⟩ (l_recR X hR) hrA hR hS hl rfl (Nat.le_of_ble_eq_true rfl) dL_law_1012 hcs (fun H1 locs1 hN hk hS => ?_)
  have hH := cH_kept hdis hH hk
  have hR : rH G v' H1 := hN
  generalize H1 = H at hH hR hS ⊢
  generalize locs1 = locs at hS ⊢
  refine lv_icmp_eq (tgt := 1310) hx hb dL_law_1015 (by decide) (fun _ => ?_) (fun hc => absurd rfl hc)
  exact hback w' v' _ _ hH hR hSim hS
set_option maxHeartbeats 4000000 in
set_option maxRecDepth 100000 in
theorem law_26 {p : Program} {e : Env} {s : State} {m : MethodId} {below : List Frame} {meth : Method} {c : Code} (l : Launch) {b L : Nat} {xs : Nat → Int32} {G : GX} {Sim : CW → CW → Prop} (hsim : SIM Sim) (hL : L ≤ 2560) (X : LX G p s m #[Value.ref b] meth c) (hX : va_X b L xs s s.heap) (hbl : b < s.heap.size) (hgA : ∀ q, gA G q → s.heap.size ≤ q) (hdis : ∀ q, cA G q → ¬ rA G q) {cells slots : Nat} (hcs : cells ≤ room_1.cells ∧ slots ≤ room_1.slots) {j : Nat} (hj : 5 * j + 5 ≤ L) {w v : CW} {H : Heap} {locs : List Loc} {ls : Array Slot} (hH : cH G w H) (hR : rH G v H) (hS : va_S (LA s) s.heap H locs) (hl : lv_has ls 4 [(3, .int (nI (5 * j))), (0, .ref b), (1, .ref (G.2.2.1 190)), (2, .ref (G.2.2.1 300))]) (hs0 : Sim w v) (hback : ∀ (w' v' : CW) (H : Heap) (locs : List Loc), cH G w' H → rH G v' H → Sim w' v' → va_S (LA s) s.heap H locs → W p l e room_1 s m #[Value.ref b] below meth c H locs cells slots (lw_Z below #[Value.ref b] s) (F0 m 1310 ls [])) : W p l e room_1 s m #[Value.ref b] below meth c H locs cells slots (lw_Z below #[Value.ref b] s) (F0 m 1020 ls []) := by
  have hx := X.1.1
  have hb := X.1.2.1
  have hbA : ¬ LA s b := Nat.not_le.mpr hbl
  have hcA : ∀ q, cA G q → s.heap.size ≤ q := fun q h => hgA q (cA_g q h)
  have hrA : ∀ q, rA G q → s.heap.size ≤ q := fun q h => hgA q (rA_g q h)
  have hv1 : vp_in (nI (5 * j) + 1) L := by rw [show (1 : Int32) = nI 1 from rfl, nI_add]; exact vp_in_nI (by omega) (by omega)
  have hv2 : vp_in (nI (5 * j) + 2) L := by rw [show (2 : Int32) = nI 2 from rfl, nI_add]; exact vp_in_nI (by omega) (by omega)
  obtain ⟨r, w', v', hC, hRr, hSim⟩ := hsim 26 (by decide) w v (xs (nI (5 * j) + 1).toNatClampNeg) (xs (nI (5 * j) + 2).toNatClampNeg) 0 0 hs0
  refine lv_aload_n hx hb dL_law_1020 rfl (lv_at hl 2 rfl) ?_
  refine lv_aload_n hx hb dL_law_1021 rfl (lv_at hl 1 rfl) ?_
  refine lv_iload_n hx hb dL_law_1022 rfl (lv_at hl 0 rfl) ?_
  refine lv_iconst (v := 1) hx hb dL_law_1023 (by decide) ?_
  refine lv_iadd hx hb dL_law_1024 ?_
  refine va_sld hx hb hX hbl hbA hS hv1 dL_law_1025 ?_
  refine lv_aload_n hx hb dL_law_1026 rfl (lv_at hl 1 rfl) ?_
  refine lv_iload_n hx hb dL_law_1027 rfl (lv_at hl 0 rfl) ?_
  refine lv_iconst (v := 2) hx hb dL_law_1028 (by decide) ?_
  refine lv_iadd hx hb dL_law_1029 ?_
  refine va_sld hx hb hX hbl hbA hS hv2 dL_law_1030 ?_
  have gC := hC
  refine lVi (rest := []) X (c_X11_runs l G w (xs (nI (5 * j) + 1).toNatClampNeg) (xs (nI (5 * j) + 2).toNatClampNeg) (r, w') gC) bw1232 bw1233 bw1234 bw86 bw1235 cn_X11_runs ⟨rfl, rfl, Nat.le_of_ble_eq_true rfl, Nat.le_of_ble_eq_true rfl⟩ (l_recC X hH) hcA hH hS hl rfl (Nat.le_of_ble_eq_true rfl) dL_law_1031 hcs (fun H1 locs1 hN hk hS => ?_)
  have hR := rH_kept hdis hR hk
  have hH : cH G w' H1 := hN
  generalize H1 = H at hH hR hS ⊢
  generalize locs1 = locs at hS ⊢
  refine lv_aload_n hx hb dL_law_1034 rfl (lv_at hl 3 rfl) ?_
  refine lv_aload_n hx hb dL_law_1035 rfl (lv_at hl 1 rfl) ?_
  refine lv_iload_n hx hb dL_law_1036 rfl (lv_at hl 0 rfl) ?_
  refine lv_iconst (v := 1) hx hb dL_law_1037 (by decide) ?_
  refine lv_iadd hx hb dL_law_1038 ?_
  refine va_sld hx hb hX hbl hbA hS hv1 dL_law_1039 ?_
  refine lv_aload_n hx hb dL_law_1040 rfl (lv_at hl 1 rfl) ?_
  refine lv_iload_n hx hb dL_law_1041 rfl (lv_at hl 0 rfl) ?_
  refine lv_iconst (v := 2) hx hb dL_law_1042 (by decide) ?_
  refine lv_iadd hx hb dL_law_1043 ?_
  refine va_sld hx hb hX hbl hbA hS hv2 dL_law_1044 ?_
  have gR := hRr
  refine lVi (rest := [.int r]) X (c_X12_runs l G v (xs (nI (5 * j) + 1).toNatClampNeg) (xs (nI (5 * j) + 2).toNatClampNeg) (r, v') gR) bw1738 bw1739 bw1740 bw105 bw1741 cn_X12_runs ⟨rfl, rfl, Nat.le_of_ble_eq_true rfl, Nat.le_of_ble_eq_true rfl⟩ (l_recR X hR) hrA hR hS hl rfl (Nat.le_of_ble_eq_true rfl) dL_law_1045 hcs (fun H1 locs1 hN hk hS => ?_)
  have hH := cH_kept hdis hH hk
  have hR : rH G v' H1 := hN
  generalize H1 = H at hH hR hS ⊢
  generalize locs1 = locs at hS ⊢
  refine lv_icmp_eq (tgt := 1310) hx hb dL_law_1048 (by decide) (fun _ => ?_) (fun hc => absurd rfl hc)
  exact hback w' v' _ _ hH hR hSim hS
set_option maxHeartbeats 4000000 in
set_option maxRecDepth 100000 in
theorem law_27 {p : Program} {e : Env} {s : State} {m : MethodId} {below : List Frame} {meth : Method} {c : Code} (l : Launch) {b L : Nat} {xs : Nat → Int32} {G : GX} {Sim : CW → CW → Prop} (hsim : SIM Sim) (hL : L ≤ 2560) (X : LX G p s m #[Value.ref b] meth c) (hX : va_X b L xs s s.heap) (hbl : b < s.heap.size) (hgA : ∀ q, gA G q → s.heap.size ≤ q) (hdis : ∀ q, cA G q → ¬ rA G q) {cells slots : Nat} (hcs : cells ≤ room_1.cells ∧ slots ≤ room_1.slots) {j : Nat} (hj : 5 * j + 5 ≤ L) {w v : CW} {H : Heap} {locs : List Loc} {ls : Array Slot} (hH : cH G w H) (hR : rH G v H) (hS : va_S (LA s) s.heap H locs) (hl : lv_has ls 4 [(3, .int (nI (5 * j))), (0, .ref b), (1, .ref (G.2.2.1 190)), (2, .ref (G.2.2.1 300))]) (hs0 : Sim w v) (hback : ∀ (w' v' : CW) (H : Heap) (locs : List Loc), cH G w' H → rH G v' H → Sim w' v' → va_S (LA s) s.heap H locs → W p l e room_1 s m #[Value.ref b] below meth c H locs cells slots (lw_Z below #[Value.ref b] s) (F0 m 1310 ls [])) : W p l e room_1 s m #[Value.ref b] below meth c H locs cells slots (lw_Z below #[Value.ref b] s) (F0 m 1053 ls []) := by
  have hx := X.1.1
  have hb := X.1.2.1
  have hbA : ¬ LA s b := Nat.not_le.mpr hbl
  have hcA : ∀ q, cA G q → s.heap.size ≤ q := fun q h => hgA q (cA_g q h)
  have hrA : ∀ q, rA G q → s.heap.size ≤ q := fun q h => hgA q (rA_g q h)
  have hv1 : vp_in (nI (5 * j) + 1) L := by rw [show (1 : Int32) = nI 1 from rfl, nI_add]; exact vp_in_nI (by omega) (by omega)
  have hv2 : vp_in (nI (5 * j) + 2) L := by rw [show (2 : Int32) = nI 2 from rfl, nI_add]; exact vp_in_nI (by omega) (by omega)
  have hv3 : vp_in (nI (5 * j) + 3) L := by rw [show (3 : Int32) = nI 3 from rfl, nI_add]; exact vp_in_nI (by omega) (by omega)
  obtain ⟨r, w', v', hC, hRr, hSim⟩ := hsim 27 (by decide) w v (xs (nI (5 * j) + 1).toNatClampNeg) (xs (nI (5 * j) + 2).toNatClampNeg) (xs (nI (5 * j) + 3).toNatClampNeg) 0 hs0
  refine lv_aload_n hx hb dL_law_1053 rfl (lv_at hl 2 rfl) ?_
  refine lv_aload_n hx hb dL_law_1054 rfl (lv_at hl 1 rfl) ?_
  refine lv_iload_n hx hb dL_law_1055 rfl (lv_at hl 0 rfl) ?_
  refine lv_iconst (v := 1) hx hb dL_law_1056 (by decide) ?_
  refine lv_iadd hx hb dL_law_1057 ?_
  refine va_sld hx hb hX hbl hbA hS hv1 dL_law_1058 ?_
  refine lv_aload_n hx hb dL_law_1059 rfl (lv_at hl 1 rfl) ?_
  refine lv_iload_n hx hb dL_law_1060 rfl (lv_at hl 0 rfl) ?_
  refine lv_iconst (v := 2) hx hb dL_law_1061 (by decide) ?_
  refine lv_iadd hx hb dL_law_1062 ?_
  refine va_sld hx hb hX hbl hbA hS hv2 dL_law_1063 ?_
  refine lv_aload_n hx hb dL_law_1064 rfl (lv_at hl 1 rfl) ?_
  refine lv_iload_n hx hb dL_law_1065 rfl (lv_at hl 0 rfl) ?_
  refine lv_iconst (v := 3) hx hb dL_law_1066 (by decide) ?_
  refine lv_iadd hx hb dL_law_1067 ?_
  refine va_sld hx hb hX hbl hbA hS hv3 dL_law_1068 ?_
  have gC := so_s hC
  refine lVi (rest := []) X (c_X11_loan l G w (xs (nI (5 * j) + 1).toNatClampNeg) (xs (nI (5 * j) + 2).toNatClampNeg) (xs (nI (5 * j) + 3).toNatClampNeg) (r, w') gC) bw1262 bw1263 bw1264 bw86 bw1265 cn_X11_loan ⟨rfl, rfl, Nat.le_of_ble_eq_true rfl, Nat.le_of_ble_eq_true rfl⟩ (l_recC X hH) hcA hH hS hl rfl (Nat.le_of_ble_eq_true rfl) dL_law_1069 hcs (fun H1 locs1 hN hk hS => ?_)
  have hR := rH_kept hdis hR hk
  have hH : cH G w' H1 := hN
  generalize H1 = H at hH hR hS ⊢
  generalize locs1 = locs at hS ⊢
  refine lv_aload_n hx hb dL_law_1072 rfl (lv_at hl 3 rfl) ?_
  refine lv_aload_n hx hb dL_law_1073 rfl (lv_at hl 1 rfl) ?_
  refine lv_iload_n hx hb dL_law_1074 rfl (lv_at hl 0 rfl) ?_
  refine lv_iconst (v := 1) hx hb dL_law_1075 (by decide) ?_
  refine lv_iadd hx hb dL_law_1076 ?_
  refine va_sld hx hb hX hbl hbA hS hv1 dL_law_1077 ?_
  refine lv_aload_n hx hb dL_law_1078 rfl (lv_at hl 1 rfl) ?_
  refine lv_iload_n hx hb dL_law_1079 rfl (lv_at hl 0 rfl) ?_
  refine lv_iconst (v := 2) hx hb dL_law_1080 (by decide) ?_
  refine lv_iadd hx hb dL_law_1081 ?_
  refine va_sld hx hb hX hbl hbA hS hv2 dL_law_1082 ?_
  refine lv_aload_n hx hb dL_law_1083 rfl (lv_at hl 1 rfl) ?_
  refine lv_iload_n hx hb dL_law_1084 rfl (lv_at hl 0 rfl) ?_
  refine lv_iconst (v := 3) hx hb dL_law_1085 (by decide) ?_
  refine lv_iadd hx hb dL_law_1086 ?_
  refine va_sld hx hb hX hbl hbA hS hv3 dL_law_1087 ?_
  have gR := hRr
  refine lVi (rest := [.int r]) X (c_X12_loan l G v (xs (nI (5 * j) + 1).toNatClampNeg) (xs (nI (5 * j) + 2).toNatClampNeg) (xs (nI (5 * j) + 3).toNatClampNeg) (r, v') gR) bw1746 bw1747 bw1748 bw105 bw1749 cn_X12_loan ⟨rfl, rfl, Nat.le_of_ble_eq_true rfl, Nat.le_of_ble_eq_true rfl⟩ (l_recR X hR) hrA hR hS hl rfl (Nat.le_of_ble_eq_true rfl) dL_law_1088 hcs (fun H1 locs1 hN hk hS => ?_)
  have hH := cH_kept hdis hH hk
  have hR : rH G v' H1 := hN
  generalize H1 = H at hH hR hS ⊢
  generalize locs1 = locs at hS ⊢
  refine lv_icmp_eq (tgt := 1310) hx hb dL_law_1091 (by decide) (fun _ => ?_) (fun hc => absurd rfl hc)
  exact hback w' v' _ _ hH hR hSim hS
set_option maxHeartbeats 4000000 in
set_option maxRecDepth 100000 in
theorem law_28 {p : Program} {e : Env} {s : State} {m : MethodId} {below : List Frame} {meth : Method} {c : Code} (l : Launch) {b L : Nat} {xs : Nat → Int32} {G : GX} {Sim : CW → CW → Prop} (hsim : SIM Sim) (hL : L ≤ 2560) (X : LX G p s m #[Value.ref b] meth c) (hX : va_X b L xs s s.heap) (hbl : b < s.heap.size) (hgA : ∀ q, gA G q → s.heap.size ≤ q) (hdis : ∀ q, cA G q → ¬ rA G q) {cells slots : Nat} (hcs : cells ≤ room_1.cells ∧ slots ≤ room_1.slots) {j : Nat} (hj : 5 * j + 5 ≤ L) {w v : CW} {H : Heap} {locs : List Loc} {ls : Array Slot} (hH : cH G w H) (hR : rH G v H) (hS : va_S (LA s) s.heap H locs) (hl : lv_has ls 4 [(3, .int (nI (5 * j))), (0, .ref b), (1, .ref (G.2.2.1 190)), (2, .ref (G.2.2.1 300))]) (hs0 : Sim w v) (hback : ∀ (w' v' : CW) (H : Heap) (locs : List Loc), cH G w' H → rH G v' H → Sim w' v' → va_S (LA s) s.heap H locs → W p l e room_1 s m #[Value.ref b] below meth c H locs cells slots (lw_Z below #[Value.ref b] s) (F0 m 1310 ls [])) : W p l e room_1 s m #[Value.ref b] below meth c H locs cells slots (lw_Z below #[Value.ref b] s) (F0 m 1096 ls []) := by
  have hx := X.1.1
  have hb := X.1.2.1
  have hbA : ¬ LA s b := Nat.not_le.mpr hbl
  have hcA : ∀ q, cA G q → s.heap.size ≤ q := fun q h => hgA q (cA_g q h)
  have hrA : ∀ q, rA G q → s.heap.size ≤ q := fun q h => hgA q (rA_g q h)
  have hv1 : vp_in (nI (5 * j) + 1) L := by rw [show (1 : Int32) = nI 1 from rfl, nI_add]; exact vp_in_nI (by omega) (by omega)
  have hv2 : vp_in (nI (5 * j) + 2) L := by rw [show (2 : Int32) = nI 2 from rfl, nI_add]; exact vp_in_nI (by omega) (by omega)
  have hv3 : vp_in (nI (5 * j) + 3) L := by rw [show (3 : Int32) = nI 3 from rfl, nI_add]; exact vp_in_nI (by omega) (by omega)
  obtain ⟨r, w', v', hC, hRr, hSim⟩ := hsim 28 (by decide) w v (xs (nI (5 * j) + 1).toNatClampNeg) (xs (nI (5 * j) + 2).toNatClampNeg) (xs (nI (5 * j) + 3).toNatClampNeg) 0 hs0
  refine lv_aload_n hx hb dL_law_1096 rfl (lv_at hl 2 rfl) ?_
  refine lv_aload_n hx hb dL_law_1097 rfl (lv_at hl 1 rfl) ?_
  refine lv_iload_n hx hb dL_law_1098 rfl (lv_at hl 0 rfl) ?_
  refine lv_iconst (v := 1) hx hb dL_law_1099 (by decide) ?_
  refine lv_iadd hx hb dL_law_1100 ?_
  refine va_sld hx hb hX hbl hbA hS hv1 dL_law_1101 ?_
  refine lv_aload_n hx hb dL_law_1102 rfl (lv_at hl 1 rfl) ?_
  refine lv_iload_n hx hb dL_law_1103 rfl (lv_at hl 0 rfl) ?_
  refine lv_iconst (v := 2) hx hb dL_law_1104 (by decide) ?_
  refine lv_iadd hx hb dL_law_1105 ?_
  refine va_sld hx hb hX hbl hbA hS hv2 dL_law_1106 ?_
  refine lv_aload_n hx hb dL_law_1107 rfl (lv_at hl 1 rfl) ?_
  refine lv_iload_n hx hb dL_law_1108 rfl (lv_at hl 0 rfl) ?_
  refine lv_iconst (v := 3) hx hb dL_law_1109 (by decide) ?_
  refine lv_iadd hx hb dL_law_1110 ?_
  refine va_sld hx hb hX hbl hbA hS hv3 dL_law_1111 ?_
  have gC := hC
  refine lVi (rest := []) X (c_X11_pay l G w (xs (nI (5 * j) + 1).toNatClampNeg) (xs (nI (5 * j) + 2).toNatClampNeg) (xs (nI (5 * j) + 3).toNatClampNeg) (r, w') gC) bw1272 bw1273 bw1274 bw86 bw1275 cn_X11_pay ⟨rfl, rfl, Nat.le_of_ble_eq_true rfl, Nat.le_of_ble_eq_true rfl⟩ (l_recC X hH) hcA hH hS hl rfl (Nat.le_of_ble_eq_true rfl) dL_law_1112 hcs (fun H1 locs1 hN hk hS => ?_)
  have hR := rH_kept hdis hR hk
  have hH : cH G w' H1 := hN
  generalize H1 = H at hH hR hS ⊢
  generalize locs1 = locs at hS ⊢
  refine lv_aload_n hx hb dL_law_1115 rfl (lv_at hl 3 rfl) ?_
  refine lv_aload_n hx hb dL_law_1116 rfl (lv_at hl 1 rfl) ?_
  refine lv_iload_n hx hb dL_law_1117 rfl (lv_at hl 0 rfl) ?_
  refine lv_iconst (v := 1) hx hb dL_law_1118 (by decide) ?_
  refine lv_iadd hx hb dL_law_1119 ?_
  refine va_sld hx hb hX hbl hbA hS hv1 dL_law_1120 ?_
  refine lv_aload_n hx hb dL_law_1121 rfl (lv_at hl 1 rfl) ?_
  refine lv_iload_n hx hb dL_law_1122 rfl (lv_at hl 0 rfl) ?_
  refine lv_iconst (v := 2) hx hb dL_law_1123 (by decide) ?_
  refine lv_iadd hx hb dL_law_1124 ?_
  refine va_sld hx hb hX hbl hbA hS hv2 dL_law_1125 ?_
  refine lv_aload_n hx hb dL_law_1126 rfl (lv_at hl 1 rfl) ?_
  refine lv_iload_n hx hb dL_law_1127 rfl (lv_at hl 0 rfl) ?_
  refine lv_iconst (v := 3) hx hb dL_law_1128 (by decide) ?_
  refine lv_iadd hx hb dL_law_1129 ?_
  refine va_sld hx hb hX hbl hbA hS hv3 dL_law_1130 ?_
  have gR := hRr
  refine lVi (rest := [.int r]) X (c_X12_pay l G v (xs (nI (5 * j) + 1).toNatClampNeg) (xs (nI (5 * j) + 2).toNatClampNeg) (xs (nI (5 * j) + 3).toNatClampNeg) (r, v') gR) bw1750 bw1751 bw1752 bw105 bw1753 cn_X12_pay ⟨rfl, rfl, Nat.le_of_ble_eq_true rfl, Nat.le_of_ble_eq_true rfl⟩ (l_recR X hR) hrA hR hS hl rfl (Nat.le_of_ble_eq_true rfl) dL_law_1131 hcs (fun H1 locs1 hN hk hS => ?_)
  have hH := cH_kept hdis hH hk
  have hR : rH G v' H1 := hN
  generalize H1 = H at hH hR hS ⊢
  generalize locs1 = locs at hS ⊢
  refine lv_icmp_eq (tgt := 1310) hx hb dL_law_1134 (by decide) (fun _ => ?_) (fun hc => absurd rfl hc)
  exact hback w' v' _ _ hH hR hSim hS
set_option maxHeartbeats 4000000 in
set_option maxRecDepth 100000 in
theorem law_29 {p : Program} {e : Env} {s : State} {m : MethodId} {below : List Frame} {meth : Method} {c : Code} (l : Launch) {b L : Nat} {xs : Nat → Int32} {G : GX} {Sim : CW → CW → Prop} (hsim : SIM Sim) (hL : L ≤ 2560) (X : LX G p s m #[Value.ref b] meth c) (hX : va_X b L xs s s.heap) (hbl : b < s.heap.size) (hgA : ∀ q, gA G q → s.heap.size ≤ q) (hdis : ∀ q, cA G q → ¬ rA G q) {cells slots : Nat} (hcs : cells ≤ room_1.cells ∧ slots ≤ room_1.slots) {j : Nat} (hj : 5 * j + 5 ≤ L) {w v : CW} {H : Heap} {locs : List Loc} {ls : Array Slot} (hH : cH G w H) (hR : rH G v H) (hS : va_S (LA s) s.heap H locs) (hl : lv_has ls 4 [(3, .int (nI (5 * j))), (0, .ref b), (1, .ref (G.2.2.1 190)), (2, .ref (G.2.2.1 300))]) (hs0 : Sim w v) (hback : ∀ (w' v' : CW) (H : Heap) (locs : List Loc), cH G w' H → rH G v' H → Sim w' v' → va_S (LA s) s.heap H locs → W p l e room_1 s m #[Value.ref b] below meth c H locs cells slots (lw_Z below #[Value.ref b] s) (F0 m 1310 ls [])) : W p l e room_1 s m #[Value.ref b] below meth c H locs cells slots (lw_Z below #[Value.ref b] s) (F0 m 1139 ls []) := by
  have hx := X.1.1
  have hb := X.1.2.1
  have hbA : ¬ LA s b := Nat.not_le.mpr hbl
  have hcA : ∀ q, cA G q → s.heap.size ≤ q := fun q h => hgA q (cA_g q h)
  have hrA : ∀ q, rA G q → s.heap.size ≤ q := fun q h => hgA q (rA_g q h)
  have hv1 : vp_in (nI (5 * j) + 1) L := by rw [show (1 : Int32) = nI 1 from rfl, nI_add]; exact vp_in_nI (by omega) (by omega)
  have hv2 : vp_in (nI (5 * j) + 2) L := by rw [show (2 : Int32) = nI 2 from rfl, nI_add]; exact vp_in_nI (by omega) (by omega)
  obtain ⟨r, w', v', hC, hRr, hSim⟩ := hsim 29 (by decide) w v (xs (nI (5 * j) + 1).toNatClampNeg) (xs (nI (5 * j) + 2).toNatClampNeg) 0 0 hs0
  refine lv_aload_n hx hb dL_law_1139 rfl (lv_at hl 2 rfl) ?_
  refine lv_aload_n hx hb dL_law_1140 rfl (lv_at hl 1 rfl) ?_
  refine lv_iload_n hx hb dL_law_1141 rfl (lv_at hl 0 rfl) ?_
  refine lv_iconst (v := 1) hx hb dL_law_1142 (by decide) ?_
  refine lv_iadd hx hb dL_law_1143 ?_
  refine va_sld hx hb hX hbl hbA hS hv1 dL_law_1144 ?_
  refine lv_aload_n hx hb dL_law_1145 rfl (lv_at hl 1 rfl) ?_
  refine lv_iload_n hx hb dL_law_1146 rfl (lv_at hl 0 rfl) ?_
  refine lv_iconst (v := 2) hx hb dL_law_1147 (by decide) ?_
  refine lv_iadd hx hb dL_law_1148 ?_
  refine va_sld hx hb hX hbl hbA hS hv2 dL_law_1149 ?_
  obtain ⟨gC, eC⟩ := kIo hC
  refine lVi (rest := []) X (c_X11_owe l G w (xs (nI (5 * j) + 1).toNatClampNeg) (xs (nI (5 * j) + 2).toNatClampNeg) r gC) bw1290 bw1291 bw1292 bw86 bw1293 cn_X11_owe ⟨rfl, rfl, Nat.le_of_ble_eq_true rfl, Nat.le_of_ble_eq_true rfl⟩ (l_recC X hH) hcA hH hS hl rfl (Nat.le_of_ble_eq_true rfl) dL_law_1150 hcs (fun H1 locs1 hN hk hS => ?_)
  have hR := rH_kept hdis hR hk
  have hH : cH G w' H1 := eC ▸ hN
  generalize H1 = H at hH hR hS ⊢
  generalize locs1 = locs at hS ⊢
  refine lv_aload_n hx hb dL_law_1153 rfl (lv_at hl 3 rfl) ?_
  refine lv_aload_n hx hb dL_law_1154 rfl (lv_at hl 1 rfl) ?_
  refine lv_iload_n hx hb dL_law_1155 rfl (lv_at hl 0 rfl) ?_
  refine lv_iconst (v := 1) hx hb dL_law_1156 (by decide) ?_
  refine lv_iadd hx hb dL_law_1157 ?_
  refine va_sld hx hb hX hbl hbA hS hv1 dL_law_1158 ?_
  refine lv_aload_n hx hb dL_law_1159 rfl (lv_at hl 1 rfl) ?_
  refine lv_iload_n hx hb dL_law_1160 rfl (lv_at hl 0 rfl) ?_
  refine lv_iconst (v := 2) hx hb dL_law_1161 (by decide) ?_
  refine lv_iadd hx hb dL_law_1162 ?_
  refine va_sld hx hb hX hbl hbA hS hv2 dL_law_1163 ?_
  obtain ⟨gR, eR⟩ := kIo hRr
  refine lVi (rest := [.int r]) X (c_X12_owe l G v (xs (nI (5 * j) + 1).toNatClampNeg) (xs (nI (5 * j) + 2).toNatClampNeg) r gR) bw1758 bw1759 bw1760 bw105 bw1761 cn_X12_owe ⟨rfl, rfl, Nat.le_of_ble_eq_true rfl, Nat.le_of_ble_eq_true rfl⟩ (l_recR X hR) hrA hR hS hl rfl (Nat.le_of_ble_eq_true rfl) dL_law_1164 hcs (fun H1 locs1 hN hk hS => ?_)
  have hH := cH_kept hdis hH hk
  have hR : rH G v' H1 := eR ▸ hN
  generalize H1 = H at hH hR hS ⊢
  generalize locs1 = locs at hS ⊢
  refine lv_icmp_eq (tgt := 1310) hx hb dL_law_1167 (by decide) (fun _ => ?_) (fun hc => absurd rfl hc)
  exact hback w' v' _ _ hH hR hSim hS
set_option maxHeartbeats 4000000 in
set_option maxRecDepth 100000 in
theorem law_30 {p : Program} {e : Env} {s : State} {m : MethodId} {below : List Frame} {meth : Method} {c : Code} (l : Launch) {b L : Nat} {xs : Nat → Int32} {G : GX} {Sim : CW → CW → Prop} (hsim : SIM Sim) (hL : L ≤ 2560) (X : LX G p s m #[Value.ref b] meth c) (hX : va_X b L xs s s.heap) (hbl : b < s.heap.size) (hgA : ∀ q, gA G q → s.heap.size ≤ q) (hdis : ∀ q, cA G q → ¬ rA G q) {cells slots : Nat} (hcs : cells ≤ room_1.cells ∧ slots ≤ room_1.slots) {j : Nat} (hj : 5 * j + 5 ≤ L) {w v : CW} {H : Heap} {locs : List Loc} {ls : Array Slot} (hH : cH G w H) (hR : rH G v H) (hS : va_S (LA s) s.heap H locs) (hl : lv_has ls 4 [(3, .int (nI (5 * j))), (0, .ref b), (1, .ref (G.2.2.1 190)), (2, .ref (G.2.2.1 300))]) (hs0 : Sim w v) (hback : ∀ (w' v' : CW) (H : Heap) (locs : List Loc), cH G w' H → rH G v' H → Sim w' v' → va_S (LA s) s.heap H locs → W p l e room_1 s m #[Value.ref b] below meth c H locs cells slots (lw_Z below #[Value.ref b] s) (F0 m 1310 ls [])) : W p l e room_1 s m #[Value.ref b] below meth c H locs cells slots (lw_Z below #[Value.ref b] s) (F0 m 1172 ls []) := by
  have hx := X.1.1
  have hb := X.1.2.1
  have hbA : ¬ LA s b := Nat.not_le.mpr hbl
  have hcA : ∀ q, cA G q → s.heap.size ≤ q := fun q h => hgA q (cA_g q h)
  have hrA : ∀ q, rA G q → s.heap.size ≤ q := fun q h => hgA q (rA_g q h)
  have hv1 : vp_in (nI (5 * j) + 1) L := by rw [show (1 : Int32) = nI 1 from rfl, nI_add]; exact vp_in_nI (by omega) (by omega)
  have hv2 : vp_in (nI (5 * j) + 2) L := by rw [show (2 : Int32) = nI 2 from rfl, nI_add]; exact vp_in_nI (by omega) (by omega)
  obtain ⟨r, w', v', hC, hRr, hSim⟩ := hsim 30 (by decide) w v (xs (nI (5 * j) + 1).toNatClampNeg) (xs (nI (5 * j) + 2).toNatClampNeg) 0 0 hs0
  refine lv_aload_n hx hb dL_law_1172 rfl (lv_at hl 2 rfl) ?_
  refine lv_aload_n hx hb dL_law_1173 rfl (lv_at hl 1 rfl) ?_
  refine lv_iload_n hx hb dL_law_1174 rfl (lv_at hl 0 rfl) ?_
  refine lv_iconst (v := 1) hx hb dL_law_1175 (by decide) ?_
  refine lv_iadd hx hb dL_law_1176 ?_
  refine va_sld hx hb hX hbl hbA hS hv1 dL_law_1177 ?_
  refine lv_aload_n hx hb dL_law_1178 rfl (lv_at hl 1 rfl) ?_
  refine lv_iload_n hx hb dL_law_1179 rfl (lv_at hl 0 rfl) ?_
  refine lv_iconst (v := 2) hx hb dL_law_1180 (by decide) ?_
  refine lv_iadd hx hb dL_law_1181 ?_
  refine va_sld hx hb hX hbl hbA hS hv2 dL_law_1182 ?_
  have gC := so_s hC
  refine lVi (rest := []) X (c_X11_thing l G w (xs (nI (5 * j) + 1).toNatClampNeg) (xs (nI (5 * j) + 2).toNatClampNeg) (r, w') gC) bw1299 bw1300 bw1301 bw86 bw1302 cn_X11_thing ⟨rfl, rfl, Nat.le_of_ble_eq_true rfl, Nat.le_of_ble_eq_true rfl⟩ (l_recC X hH) hcA hH hS hl rfl (Nat.le_of_ble_eq_true rfl) dL_law_1183 hcs (fun H1 locs1 hN hk hS => ?_)
  have hR := rH_kept hdis hR hk
  have hH : cH G w' H1 := hN
  generalize H1 = H at hH hR hS ⊢
  generalize locs1 = locs at hS ⊢
  refine lv_aload_n hx hb dL_law_1186 rfl (lv_at hl 3 rfl) ?_
  refine lv_aload_n hx hb dL_law_1187 rfl (lv_at hl 1 rfl) ?_
  refine lv_iload_n hx hb dL_law_1188 rfl (lv_at hl 0 rfl) ?_
  refine lv_iconst (v := 1) hx hb dL_law_1189 (by decide) ?_
  refine lv_iadd hx hb dL_law_1190 ?_
  refine va_sld hx hb hX hbl hbA hS hv1 dL_law_1191 ?_
  refine lv_aload_n hx hb dL_law_1192 rfl (lv_at hl 1 rfl) ?_
  refine lv_iload_n hx hb dL_law_1193 rfl (lv_at hl 0 rfl) ?_
  refine lv_iconst (v := 2) hx hb dL_law_1194 (by decide) ?_
  refine lv_iadd hx hb dL_law_1195 ?_
  refine va_sld hx hb hX hbl hbA hS hv2 dL_law_1196 ?_
  have gR := hRr
  refine lVi (rest := [.int r]) X (c_X12_thing l G v (xs (nI (5 * j) + 1).toNatClampNeg) (xs (nI (5 * j) + 2).toNatClampNeg) (r, v') gR) bw1762 bw1763 bw1764 bw105 bw1765 cn_X12_thing ⟨rfl, rfl, Nat.le_of_ble_eq_true rfl, Nat.le_of_ble_eq_true rfl⟩ (l_recR X hR) hrA hR hS hl rfl (Nat.le_of_ble_eq_true rfl) dL_law_1197 hcs (fun H1 locs1 hN hk hS => ?_)
  have hH := cH_kept hdis hH hk
  have hR : rH G v' H1 := hN
  generalize H1 = H at hH hR hS ⊢
  generalize locs1 = locs at hS ⊢
  refine lv_icmp_eq (tgt := 1310) hx hb dL_law_1200 (by decide) (fun _ => ?_) (fun hc => absurd rfl hc)
  exact hback w' v' _ _ hH hR hSim hS
set_option maxHeartbeats 4000000 in
set_option maxRecDepth 100000 in
theorem law_31 {p : Program} {e : Env} {s : State} {m : MethodId} {below : List Frame} {meth : Method} {c : Code} (l : Launch) {b L : Nat} {xs : Nat → Int32} {G : GX} {Sim : CW → CW → Prop} (hsim : SIM Sim) (hL : L ≤ 2560) (X : LX G p s m #[Value.ref b] meth c) (hX : va_X b L xs s s.heap) (hbl : b < s.heap.size) (hgA : ∀ q, gA G q → s.heap.size ≤ q) (hdis : ∀ q, cA G q → ¬ rA G q) {cells slots : Nat} (hcs : cells ≤ room_1.cells ∧ slots ≤ room_1.slots) {j : Nat} (hj : 5 * j + 5 ≤ L) {w v : CW} {H : Heap} {locs : List Loc} {ls : Array Slot} (hH : cH G w H) (hR : rH G v H) (hS : va_S (LA s) s.heap H locs) (hl : lv_has ls 4 [(3, .int (nI (5 * j))), (0, .ref b), (1, .ref (G.2.2.1 190)), (2, .ref (G.2.2.1 300))]) (hs0 : Sim w v) (hback : ∀ (w' v' : CW) (H : Heap) (locs : List Loc), cH G w' H → rH G v' H → Sim w' v' → va_S (LA s) s.heap H locs → W p l e room_1 s m #[Value.ref b] below meth c H locs cells slots (lw_Z below #[Value.ref b] s) (F0 m 1310 ls [])) : W p l e room_1 s m #[Value.ref b] below meth c H locs cells slots (lw_Z below #[Value.ref b] s) (F0 m 1205 ls []) := by
  have hx := X.1.1
  have hb := X.1.2.1
  have hbA : ¬ LA s b := Nat.not_le.mpr hbl
  have hcA : ∀ q, cA G q → s.heap.size ≤ q := fun q h => hgA q (cA_g q h)
  have hrA : ∀ q, rA G q → s.heap.size ≤ q := fun q h => hgA q (rA_g q h)
  have hv1 : vp_in (nI (5 * j) + 1) L := by rw [show (1 : Int32) = nI 1 from rfl, nI_add]; exact vp_in_nI (by omega) (by omega)
  obtain ⟨r, w', v', hC, hRr, hSim⟩ := hsim 31 (by decide) w v (xs (nI (5 * j) + 1).toNatClampNeg) 0 0 0 hs0
  refine lv_aload_n hx hb dL_law_1205 rfl (lv_at hl 2 rfl) ?_
  refine lv_aload_n hx hb dL_law_1206 rfl (lv_at hl 1 rfl) ?_
  refine lv_iload_n hx hb dL_law_1207 rfl (lv_at hl 0 rfl) ?_
  refine lv_iconst (v := 1) hx hb dL_law_1208 (by decide) ?_
  refine lv_iadd hx hb dL_law_1209 ?_
  refine va_sld hx hb hX hbl hbA hS hv1 dL_law_1210 ?_
  obtain ⟨gC, eC⟩ := kIo hC
  refine lVi (rest := []) X (c_X11_suit l G w (xs (nI (5 * j) + 1).toNatClampNeg) r gC) bw1303 bw1304 bw1305 bw86 bw1306 cn_X11_suit ⟨rfl, rfl, Nat.le_of_ble_eq_true rfl, Nat.le_of_ble_eq_true rfl⟩ (l_recC X hH) hcA hH hS hl rfl (Nat.le_of_ble_eq_true rfl) dL_law_1211 hcs (fun H1 locs1 hN hk hS => ?_)
  have hR := rH_kept hdis hR hk
  have hH : cH G w' H1 := eC ▸ hN
  generalize H1 = H at hH hR hS ⊢
  generalize locs1 = locs at hS ⊢
  refine lv_aload_n hx hb dL_law_1214 rfl (lv_at hl 3 rfl) ?_
  refine lv_aload_n hx hb dL_law_1215 rfl (lv_at hl 1 rfl) ?_
  refine lv_iload_n hx hb dL_law_1216 rfl (lv_at hl 0 rfl) ?_
  refine lv_iconst (v := 1) hx hb dL_law_1217 (by decide) ?_
  refine lv_iadd hx hb dL_law_1218 ?_
  refine va_sld hx hb hX hbl hbA hS hv1 dL_law_1219 ?_
  obtain ⟨gR, eR⟩ := kIo hRr
  refine lVi (rest := [.int r]) X (c_X12_suit l G v (xs (nI (5 * j) + 1).toNatClampNeg) r gR) bw1766 bw1767 bw1768 bw105 bw1769 cn_X12_suit ⟨rfl, rfl, Nat.le_of_ble_eq_true rfl, Nat.le_of_ble_eq_true rfl⟩ (l_recR X hR) hrA hR hS hl rfl (Nat.le_of_ble_eq_true rfl) dL_law_1220 hcs (fun H1 locs1 hN hk hS => ?_)
  have hH := cH_kept hdis hH hk
  have hR : rH G v' H1 := eR ▸ hN
  generalize H1 = H at hH hR hS ⊢
  generalize locs1 = locs at hS ⊢
  refine lv_icmp_eq (tgt := 1310) hx hb dL_law_1223 (by decide) (fun _ => ?_) (fun hc => absurd rfl hc)
  exact hback w' v' _ _ hH hR hSim hS
set_option maxHeartbeats 4000000 in
set_option maxRecDepth 100000 in
theorem law_32 {p : Program} {e : Env} {s : State} {m : MethodId} {below : List Frame} {meth : Method} {c : Code} (l : Launch) {b L : Nat} {xs : Nat → Int32} {G : GX} {Sim : CW → CW → Prop} (hsim : SIM Sim) (hL : L ≤ 2560) (X : LX G p s m #[Value.ref b] meth c) (hX : va_X b L xs s s.heap) (hbl : b < s.heap.size) (hgA : ∀ q, gA G q → s.heap.size ≤ q) (hdis : ∀ q, cA G q → ¬ rA G q) {cells slots : Nat} (hcs : cells ≤ room_1.cells ∧ slots ≤ room_1.slots) {j : Nat} (hj : 5 * j + 5 ≤ L) {w v : CW} {H : Heap} {locs : List Loc} {ls : Array Slot} (hH : cH G w H) (hR : rH G v H) (hS : va_S (LA s) s.heap H locs) (hl : lv_has ls 4 [(3, .int (nI (5 * j))), (0, .ref b), (1, .ref (G.2.2.1 190)), (2, .ref (G.2.2.1 300))]) (hs0 : Sim w v) (hback : ∀ (w' v' : CW) (H : Heap) (locs : List Loc), cH G w' H → rH G v' H → Sim w' v' → va_S (LA s) s.heap H locs → W p l e room_1 s m #[Value.ref b] below meth c H locs cells slots (lw_Z below #[Value.ref b] s) (F0 m 1310 ls [])) : W p l e room_1 s m #[Value.ref b] below meth c H locs cells slots (lw_Z below #[Value.ref b] s) (F0 m 1228 ls []) := by
  have hx := X.1.1
  have hb := X.1.2.1
  have hbA : ¬ LA s b := Nat.not_le.mpr hbl
  have hcA : ∀ q, cA G q → s.heap.size ≤ q := fun q h => hgA q (cA_g q h)
  have hrA : ∀ q, rA G q → s.heap.size ≤ q := fun q h => hgA q (rA_g q h)
  have hv1 : vp_in (nI (5 * j) + 1) L := by rw [show (1 : Int32) = nI 1 from rfl, nI_add]; exact vp_in_nI (by omega) (by omega)
  have hv2 : vp_in (nI (5 * j) + 2) L := by rw [show (2 : Int32) = nI 2 from rfl, nI_add]; exact vp_in_nI (by omega) (by omega)
  obtain ⟨r, w', v', hC, hRr, hSim⟩ := hsim 32 (by decide) w v (xs (nI (5 * j) + 1).toNatClampNeg) (xs (nI (5 * j) + 2).toNatClampNeg) 0 0 hs0
  refine lv_aload_n hx hb dL_law_1228 rfl (lv_at hl 2 rfl) ?_
  refine lv_aload_n hx hb dL_law_1229 rfl (lv_at hl 1 rfl) ?_
  refine lv_iload_n hx hb dL_law_1230 rfl (lv_at hl 0 rfl) ?_
  refine lv_iconst (v := 1) hx hb dL_law_1231 (by decide) ?_
  refine lv_iadd hx hb dL_law_1232 ?_
  refine va_sld hx hb hX hbl hbA hS hv1 dL_law_1233 ?_
  refine lv_aload_n hx hb dL_law_1234 rfl (lv_at hl 1 rfl) ?_
  refine lv_iload_n hx hb dL_law_1235 rfl (lv_at hl 0 rfl) ?_
  refine lv_iconst (v := 2) hx hb dL_law_1236 (by decide) ?_
  refine lv_iadd hx hb dL_law_1237 ?_
  refine va_sld hx hb hX hbl hbA hS hv2 dL_law_1238 ?_
  have gC := hC
  refine lVi (rest := []) X (c_X11_tried l G w (xs (nI (5 * j) + 1).toNatClampNeg) (xs (nI (5 * j) + 2).toNatClampNeg) (r, w') gC) bw1329 bw1330 bw1331 bw86 bw1332 cn_X11_tried ⟨rfl, rfl, Nat.le_of_ble_eq_true rfl, Nat.le_of_ble_eq_true rfl⟩ (l_recC X hH) hcA hH hS hl rfl (Nat.le_of_ble_eq_true rfl) dL_law_1239 hcs (fun H1 locs1 hN hk hS => ?_)
  have hR := rH_kept hdis hR hk
  have hH : cH G w' H1 := hN
  generalize H1 = H at hH hR hS ⊢
  generalize locs1 = locs at hS ⊢
  refine lv_aload_n hx hb dL_law_1242 rfl (lv_at hl 3 rfl) ?_
  refine lv_aload_n hx hb dL_law_1243 rfl (lv_at hl 1 rfl) ?_
  refine lv_iload_n hx hb dL_law_1244 rfl (lv_at hl 0 rfl) ?_
  refine lv_iconst (v := 1) hx hb dL_law_1245 (by decide) ?_
  refine lv_iadd hx hb dL_law_1246 ?_
  refine va_sld hx hb hX hbl hbA hS hv1 dL_law_1247 ?_
  refine lv_aload_n hx hb dL_law_1248 rfl (lv_at hl 1 rfl) ?_
  refine lv_iload_n hx hb dL_law_1249 rfl (lv_at hl 0 rfl) ?_
  refine lv_iconst (v := 2) hx hb dL_law_1250 (by decide) ?_
  refine lv_iadd hx hb dL_law_1251 ?_
  refine va_sld hx hb hX hbl hbA hS hv2 dL_law_1252 ?_
  have gR := hRr
  refine lVi (rest := [.int r]) X (c_X12_tried l G v (xs (nI (5 * j) + 1).toNatClampNeg) (xs (nI (5 * j) + 2).toNatClampNeg) (r, v') gR) bw1774 bw1775 bw1776 bw105 bw1777 cn_X12_tried ⟨rfl, rfl, Nat.le_of_ble_eq_true rfl, Nat.le_of_ble_eq_true rfl⟩ (l_recR X hR) hrA hR hS hl rfl (Nat.le_of_ble_eq_true rfl) dL_law_1253 hcs (fun H1 locs1 hN hk hS => ?_)
  have hH := cH_kept hdis hH hk
  have hR : rH G v' H1 := hN
  generalize H1 = H at hH hR hS ⊢
  generalize locs1 = locs at hS ⊢
  refine lv_icmp_eq (tgt := 1310) hx hb dL_law_1256 (by decide) (fun _ => ?_) (fun hc => absurd rfl hc)
  exact hback w' v' _ _ hH hR hSim hS
set_option maxHeartbeats 4000000 in
set_option maxRecDepth 100000 in
theorem law_33 {p : Program} {e : Env} {s : State} {m : MethodId} {below : List Frame} {meth : Method} {c : Code} (l : Launch) {b L : Nat} {xs : Nat → Int32} {G : GX} {Sim : CW → CW → Prop} (hsim : SIM Sim) (hL : L ≤ 2560) (X : LX G p s m #[Value.ref b] meth c) (hX : va_X b L xs s s.heap) (hbl : b < s.heap.size) (hgA : ∀ q, gA G q → s.heap.size ≤ q) (hdis : ∀ q, cA G q → ¬ rA G q) {cells slots : Nat} (hcs : cells ≤ room_1.cells ∧ slots ≤ room_1.slots) {j : Nat} (hj : 5 * j + 5 ≤ L) {w v : CW} {H : Heap} {locs : List Loc} {ls : Array Slot} (hH : cH G w H) (hR : rH G v H) (hS : va_S (LA s) s.heap H locs) (hl : lv_has ls 4 [(3, .int (nI (5 * j))), (0, .ref b), (1, .ref (G.2.2.1 190)), (2, .ref (G.2.2.1 300))]) (hs0 : Sim w v) (hback : ∀ (w' v' : CW) (H : Heap) (locs : List Loc), cH G w' H → rH G v' H → Sim w' v' → va_S (LA s) s.heap H locs → W p l e room_1 s m #[Value.ref b] below meth c H locs cells slots (lw_Z below #[Value.ref b] s) (F0 m 1310 ls [])) : W p l e room_1 s m #[Value.ref b] below meth c H locs cells slots (lw_Z below #[Value.ref b] s) (F0 m 1261 ls []) := by
  have hx := X.1.1
  have hb := X.1.2.1
  have hbA : ¬ LA s b := Nat.not_le.mpr hbl
  have hcA : ∀ q, cA G q → s.heap.size ≤ q := fun q h => hgA q (cA_g q h)
  have hrA : ∀ q, rA G q → s.heap.size ≤ q := fun q h => hgA q (rA_g q h)
  obtain ⟨r, w', v', hC, hRr, hSim⟩ := hsim 33 (by decide) w v 0 0 0 0 hs0
  refine lv_aload_n hx hb dL_law_1261 rfl (lv_at hl 2 rfl) ?_
  have gC := so_s hC
  refine lVi (rest := []) X (c_X11_image l G w (r, w') gC) bw1333 bw1334 bw1335 bw86 bw1336 cn_X11_image ⟨rfl, rfl, Nat.le_of_ble_eq_true rfl, Nat.le_of_ble_eq_true rfl⟩ (l_recC X hH) hcA hH hS hl rfl (Nat.le_of_ble_eq_true rfl) dL_law_1262 hcs (fun H1 locs1 hN hk hS => ?_)
  have hR := rH_kept hdis hR hk
  have hH : cH G w' H1 := hN
  generalize H1 = H at hH hR hS ⊢
  generalize locs1 = locs at hS ⊢
  refine lv_aload_n hx hb dL_law_1265 rfl (lv_at hl 3 rfl) ?_
  have gR := hRr
  refine lVi (rest := [.int r]) X (c_X12_image l G v (r, v') gR) bw1778 bw1779 bw1780 bw105 bw1781 cn_X12_image ⟨rfl, rfl, Nat.le_of_ble_eq_true rfl, Nat.le_of_ble_eq_true rfl⟩ (l_recR X hR) hrA hR hS hl rfl (Nat.le_of_ble_eq_true rfl) dL_law_1266 hcs (fun H1 locs1 hN hk hS => ?_)
  have hH := cH_kept hdis hH hk
  have hR : rH G v' H1 := hN
  generalize H1 = H at hH hR hS ⊢
  generalize locs1 = locs at hS ⊢
  refine lv_icmp_eq (tgt := 1310) hx hb dL_law_1269 (by decide) (fun _ => ?_) (fun hc => absurd rfl hc)
  exact hback w' v' _ _ hH hR hSim hS
set_option maxHeartbeats 4000000 in
set_option maxRecDepth 100000 in
theorem law_34 {p : Program} {e : Env} {s : State} {m : MethodId} {below : List Frame} {meth : Method} {c : Code} (l : Launch) {b L : Nat} {xs : Nat → Int32} {G : GX} {Sim : CW → CW → Prop} (hsim : SIM Sim) (hL : L ≤ 2560) (X : LX G p s m #[Value.ref b] meth c) (hX : va_X b L xs s s.heap) (hbl : b < s.heap.size) (hgA : ∀ q, gA G q → s.heap.size ≤ q) (hdis : ∀ q, cA G q → ¬ rA G q) {cells slots : Nat} (hcs : cells ≤ room_1.cells ∧ slots ≤ room_1.slots) {j : Nat} (hj : 5 * j + 5 ≤ L) {w v : CW} {H : Heap} {locs : List Loc} {ls : Array Slot} (hH : cH G w H) (hR : rH G v H) (hS : va_S (LA s) s.heap H locs) (hl : lv_has ls 4 [(3, .int (nI (5 * j))), (0, .ref b), (1, .ref (G.2.2.1 190)), (2, .ref (G.2.2.1 300))]) (hs0 : Sim w v) (hback : ∀ (w' v' : CW) (H : Heap) (locs : List Loc), cH G w' H → rH G v' H → Sim w' v' → va_S (LA s) s.heap H locs → W p l e room_1 s m #[Value.ref b] below meth c H locs cells slots (lw_Z below #[Value.ref b] s) (F0 m 1310 ls [])) : W p l e room_1 s m #[Value.ref b] below meth c H locs cells slots (lw_Z below #[Value.ref b] s) (F0 m 1274 ls []) := by
  have hx := X.1.1
  have hb := X.1.2.1
  have hbA : ¬ LA s b := Nat.not_le.mpr hbl
  have hcA : ∀ q, cA G q → s.heap.size ≤ q := fun q h => hgA q (cA_g q h)
  have hrA : ∀ q, rA G q → s.heap.size ≤ q := fun q h => hgA q (rA_g q h)
  obtain ⟨r, w', v', hC, hRr, hSim⟩ := hsim 34 (by decide) w v 0 0 0 0 hs0
  refine lv_aload_n hx hb dL_law_1274 rfl (lv_at hl 2 rfl) ?_
  have gC := so_s hC
  refine lVi (rest := []) X (c_X11_undo l G w (r, w') gC) bw1361 bw1362 bw1363 bw86 bw1364 cn_X11_undo ⟨rfl, rfl, Nat.le_of_ble_eq_true rfl, Nat.le_of_ble_eq_true rfl⟩ (l_recC X hH) hcA hH hS hl rfl (Nat.le_of_ble_eq_true rfl) dL_law_1275 hcs (fun H1 locs1 hN hk hS => ?_)
  have hR := rH_kept hdis hR hk
  have hH : cH G w' H1 := hN
  generalize H1 = H at hH hR hS ⊢
  generalize locs1 = locs at hS ⊢
  refine lv_aload_n hx hb dL_law_1278 rfl (lv_at hl 3 rfl) ?_
  have gR := hRr
  refine lVi (rest := [.int r]) X (c_X12_undo l G v (r, v') gR) bw1782 bw1783 bw1784 bw105 bw1785 cn_X12_undo ⟨rfl, rfl, Nat.le_of_ble_eq_true rfl, Nat.le_of_ble_eq_true rfl⟩ (l_recR X hR) hrA hR hS hl rfl (Nat.le_of_ble_eq_true rfl) dL_law_1279 hcs (fun H1 locs1 hN hk hS => ?_)
  have hH := cH_kept hdis hH hk
  have hR : rH G v' H1 := hN
  generalize H1 = H at hH hR hS ⊢
  generalize locs1 = locs at hS ⊢
  refine lv_icmp_eq (tgt := 1310) hx hb dL_law_1282 (by decide) (fun _ => ?_) (fun hc => absurd rfl hc)
  exact hback w' v' _ _ hH hR hSim hS
set_option maxHeartbeats 4000000 in
set_option maxRecDepth 100000 in
theorem law_35 {p : Program} {e : Env} {s : State} {m : MethodId} {below : List Frame} {meth : Method} {c : Code} (l : Launch) {b L : Nat} {xs : Nat → Int32} {G : GX} {Sim : CW → CW → Prop} (hsim : SIM Sim) (hL : L ≤ 2560) (X : LX G p s m #[Value.ref b] meth c) (hX : va_X b L xs s s.heap) (hbl : b < s.heap.size) (hgA : ∀ q, gA G q → s.heap.size ≤ q) (hdis : ∀ q, cA G q → ¬ rA G q) {cells slots : Nat} (hcs : cells ≤ room_1.cells ∧ slots ≤ room_1.slots) {j : Nat} (hj : 5 * j + 5 ≤ L) {w v : CW} {H : Heap} {locs : List Loc} {ls : Array Slot} (hH : cH G w H) (hR : rH G v H) (hS : va_S (LA s) s.heap H locs) (hl : lv_has ls 4 [(3, .int (nI (5 * j))), (0, .ref b), (1, .ref (G.2.2.1 190)), (2, .ref (G.2.2.1 300))]) (hs0 : Sim w v) (hback : ∀ (w' v' : CW) (H : Heap) (locs : List Loc), cH G w' H → rH G v' H → Sim w' v' → va_S (LA s) s.heap H locs → W p l e room_1 s m #[Value.ref b] below meth c H locs cells slots (lw_Z below #[Value.ref b] s) (F0 m 1310 ls [])) : W p l e room_1 s m #[Value.ref b] below meth c H locs cells slots (lw_Z below #[Value.ref b] s) (F0 m 1287 ls []) := by
  have hx := X.1.1
  have hb := X.1.2.1
  have hbA : ¬ LA s b := Nat.not_le.mpr hbl
  have hcA : ∀ q, cA G q → s.heap.size ≤ q := fun q h => hgA q (cA_g q h)
  have hrA : ∀ q, rA G q → s.heap.size ≤ q := fun q h => hgA q (rA_g q h)
  have hv1 : vp_in (nI (5 * j) + 1) L := by rw [show (1 : Int32) = nI 1 from rfl, nI_add]; exact vp_in_nI (by omega) (by omega)
  obtain ⟨r, w', v', hC, hRr, hSim⟩ := hsim 35 (by decide) w v (xs (nI (5 * j) + 1).toNatClampNeg) 0 0 0 hs0
  refine lv_aload_n hx hb dL_law_1287 rfl (lv_at hl 2 rfl) ?_
  refine lv_aload_n hx hb dL_law_1288 rfl (lv_at hl 1 rfl) ?_
  refine lv_iload_n hx hb dL_law_1289 rfl (lv_at hl 0 rfl) ?_
  refine lv_iconst (v := 1) hx hb dL_law_1290 (by decide) ?_
  refine lv_iadd hx hb dL_law_1291 ?_
  refine va_sld hx hb hX hbl hbA hS hv1 dL_law_1292 ?_
  obtain ⟨gC, eC⟩ := kIo hC
  refine lVi (rest := []) X (c_X11_count l G w (xs (nI (5 * j) + 1).toNatClampNeg) r gC) bw1369 bw1370 bw1371 bw86 bw1372 cn_X11_count ⟨rfl, rfl, Nat.le_of_ble_eq_true rfl, Nat.le_of_ble_eq_true rfl⟩ (l_recC X hH) hcA hH hS hl rfl (Nat.le_of_ble_eq_true rfl) dL_law_1293 hcs (fun H1 locs1 hN hk hS => ?_)
  have hR := rH_kept hdis hR hk
  have hH : cH G w' H1 := eC ▸ hN
  generalize H1 = H at hH hR hS ⊢
  generalize locs1 = locs at hS ⊢
  refine lv_aload_n hx hb dL_law_1296 rfl (lv_at hl 3 rfl) ?_
  refine lv_aload_n hx hb dL_law_1297 rfl (lv_at hl 1 rfl) ?_
  refine lv_iload_n hx hb dL_law_1298 rfl (lv_at hl 0 rfl) ?_
  refine lv_iconst (v := 1) hx hb dL_law_1299 (by decide) ?_
  refine lv_iadd hx hb dL_law_1300 ?_
  refine va_sld hx hb hX hbl hbA hS hv1 dL_law_1301 ?_
  obtain ⟨gR, eR⟩ := kIo hRr
  refine lVi (rest := [.int r]) X (c_X12_count l G v (xs (nI (5 * j) + 1).toNatClampNeg) r gR) bw1786 bw1787 bw1788 bw105 bw1789 cn_X12_count ⟨rfl, rfl, Nat.le_of_ble_eq_true rfl, Nat.le_of_ble_eq_true rfl⟩ (l_recR X hR) hrA hR hS hl rfl (Nat.le_of_ble_eq_true rfl) dL_law_1302 hcs (fun H1 locs1 hN hk hS => ?_)
  have hH := cH_kept hdis hH hk
  have hR : rH G v' H1 := eR ▸ hN
  generalize H1 = H at hH hR hS ⊢
  generalize locs1 = locs at hS ⊢
  refine lv_icmp_eq (tgt := 1310) hx hb dL_law_1305 (by decide) (fun _ => ?_) (fun hc => absurd rfl hc)
  exact hback w' v' _ _ hH hR hSim hS
theorem law_cmp {L k : Nat} (hL : L ≤ 2560) (hk : k ≤ 2600) : Int32.ofNat L - 5 < nI k ↔ L < k + 5 := by
  rw [Int32.lt_iff_toInt_lt, show (5 : Int32) = nI 5 from rfl, show Int32.ofNat L = nI L from rfl, pk_sub_toInt (by omega) (by omega), nI_toInt (by omega)]
  omega
set_option maxHeartbeats 4000000 in
set_option maxRecDepth 100000 in
theorem law_loop {p : Program} {e : Env} {s : State} {m : MethodId} {below : List Frame} {meth : Method} {c : Code} (l : Launch) {b L : Nat} {xs : Nat → Int32} {G : GX} {Sim : CW → CW → Prop} (hsim : SIM Sim) (hL : L ≤ 2560) (X : LX G p s m #[Value.ref b] meth c) (hX : va_X b L xs s s.heap) (hbl : b < s.heap.size) (hgA : ∀ q, gA G q → s.heap.size ≤ q) (hdis : ∀ q, cA G q → ¬ rA G q) {cells slots : Nat} (hcs : cells ≤ room_1.cells ∧ slots ≤ room_1.slots) : ∀ (n j : Nat) (w v : CW) (H : Heap) (locs : List Loc) (ls : Array Slot), 5 * j ≤ L + 4 → L + 5 < n + 5 * j → cH G w H → rH G v H → Sim w v → va_S (LA s) s.heap H locs → lv_has ls 4 [(3, .int (nI (5 * j))), (0, .ref b), (1, .ref (G.2.2.1 190)), (2, .ref (G.2.2.1 300))] → (∀ (H : Heap) (locs : List Loc) (ls : Array Slot), va_S (LA s) s.heap H locs → W p l e room_1 s m #[Value.ref b] below meth c H locs cells slots (lw_Z below #[Value.ref b] s) (F0 m 1316 ls [])) → W p l e room_1 s m #[Value.ref b] below meth c H locs cells slots (lw_Z below #[Value.ref b] s) (F0 m 18 ls []) := by
  have hx := X.1.1
  have hb := X.1.2.1
  have hbA : ¬ LA s b := Nat.not_le.mpr hbl
  have hcA : ∀ q, cA G q → s.heap.size ≤ q := fun q h => hgA q (cA_g q h)
  have hrA : ∀ q, rA G q → s.heap.size ≤ q := fun q h => hgA q (rA_g q h)
  intro n
  induction n with
  | zero =>
    intro j w v H locs ls h1 h2 hH hR hs0 hS hl hend
    omega
  | succ n ih =>
    intro j w v H locs ls h1 h2 hH hR hs0 hS hl hend
    refine lv_iload_n hx hb dL_law_18 rfl (lv_at hl 0 rfl) ?_
    refine lv_aload_n hx hb dL_law_19 rfl (lv_at hl 1 rfl) ?_
    refine va_slen hx hb hX hbl hbA hS dL_law_20 ?_
    refine lv_iconst (v := 5) hx hb dL_law_21 (by decide) ?_
    refine lv_isub hx hb dL_law_22 ?_
    have hcmp : Int32.ofNat L - 5 < nI (5 * j) ↔ L < 5 * j + 5 := law_cmp hL (by omega)
    refine lv_icmp_gt (tgt := 1316) hx hb dL_law_23 (by decide) (fun hc => hend _ _ _ hS) (fun hc => ?_)
    have hj : 5 * j + 5 ≤ L := Nat.not_lt.mp (fun z => hc (hcmp.mpr z))
    have hv0 : vp_in (nI (5 * j)) L := vp_in_nI (by omega) (by omega)
    refine lv_aload_n hx hb dL_law_26 rfl (lv_at hl 1 rfl) ?_
    refine lv_iload_n hx hb dL_law_27 rfl (lv_at hl 0 rfl) ?_
    refine va_sld hx hb hX hbl hbA hS hv0 dL_law_28 ?_
    refine lv_bipush (v := 63) hx hb dL_law_29 (by decide) ?_
    refine lv_iand hx hb dL_law_31 ?_
    refine lv_topi (fun x ex => ?_)
    have hback : ∀ (w' v' : CW) (H : Heap) (locs : List Loc), cH G w' H → rH G v' H → Sim w' v' → va_S (LA s) s.heap H locs → W p l e room_1 s m #[Value.ref b] below meth c H locs cells slots (lw_Z below #[Value.ref b] s) (F0 m 1310 ls []) := by
      intro w' v' H locs hH hR hs0 hS
      refine lv_iinc (v := nI (5 * (j + 1))) (lv' := [(3, .int (nI (5 * (j + 1)))), (0, .ref b), (1, .ref (G.2.2.1 190)), (2, .ref (G.2.2.1 300))]) hx hb dL_law_1310 hl (k := 0) rfl (by rw [show Int32.ofInt 5 = nI 5 from rfl, nI_add]; rfl) (by decide) rfl (fun ls hl => ?_)
      refine lv_goto (tgt := 18) hx hb dL_law_1313 (by decide) ?_
      exact ih (j + 1) w' v' _ _ _ (by omega) (by omega) hH hR hs0 hS hl hend
    by_cases hc0 : x = 0
    · refine lv_tableIn (tgt := 192) hx hb dL_law_32 (by rw [hc0]; decide) (by rw [hc0]; decide) (by rw [hc0]; rfl) (by decide) ?_
      exact law_0 l hsim hL X hX hbl hgA hdis hcs hj hH hR hS hl hs0 hback
    by_cases hc1 : x = 1
    · refine lv_tableIn (tgt := 225) hx hb dL_law_32 (by rw [hc1]; decide) (by rw [hc1]; decide) (by rw [hc1]; rfl) (by decide) ?_
      exact law_1 l hsim hL X hX hbl hgA hdis hcs hj hH hR hS hl hs0 hback
    by_cases hc2 : x = 2
    · refine lv_tableIn (tgt := 258) hx hb dL_law_32 (by rw [hc2]; decide) (by rw [hc2]; decide) (by rw [hc2]; rfl) (by decide) ?_
      exact law_2 l hsim hL X hX hbl hgA hdis hcs hj hH hR hS hl hs0 hback
    by_cases hc3 : x = 3
    · refine lv_tableIn (tgt := 291) hx hb dL_law_32 (by rw [hc3]; decide) (by rw [hc3]; decide) (by rw [hc3]; rfl) (by decide) ?_
      exact law_3 l hsim hL X hX hbl hgA hdis hcs hj hH hR hS hl hs0 hback
    by_cases hc4 : x = 4
    · refine lv_tableIn (tgt := 314) hx hb dL_law_32 (by rw [hc4]; decide) (by rw [hc4]; decide) (by rw [hc4]; rfl) (by decide) ?_
      exact law_4 l hsim hL X hX hbl hgA hdis hcs hj hH hR hS hl hs0 hback
    by_cases hc5 : x = 5
    · refine lv_tableIn (tgt := 377) hx hb dL_law_32 (by rw [hc5]; decide) (by rw [hc5]; decide) (by rw [hc5]; rfl) (by decide) ?_
      exact law_5 l hsim hL X hX hbl hgA hdis hcs hj hH hR hS hl hs0 hback
    by_cases hc6 : x = 6
    · refine lv_tableIn (tgt := 400) hx hb dL_law_32 (by rw [hc6]; decide) (by rw [hc6]; decide) (by rw [hc6]; rfl) (by decide) ?_
      exact law_6 l hsim hL X hX hbl hgA hdis hcs hj hH hR hS hl hs0 hback
    by_cases hc7 : x = 7
    · refine lv_tableIn (tgt := 433) hx hb dL_law_32 (by rw [hc7]; decide) (by rw [hc7]; decide) (by rw [hc7]; rfl) (by decide) ?_
      exact law_7 l hsim hL X hX hbl hgA hdis hcs hj hH hR hS hl hs0 hback
    by_cases hc8 : x = 8
    · refine lv_tableIn (tgt := 446) hx hb dL_law_32 (by rw [hc8]; decide) (by rw [hc8]; decide) (by rw [hc8]; rfl) (by decide) ?_
      exact law_8 l hsim hL X hX hbl hgA hdis hcs hj hH hR hS hl hs0 hback
    by_cases hc9 : x = 9
    · refine lv_tableIn (tgt := 489) hx hb dL_law_32 (by rw [hc9]; decide) (by rw [hc9]; decide) (by rw [hc9]; rfl) (by decide) ?_
      exact law_9 l hsim hL X hX hbl hgA hdis hcs hj hH hR hS hl hs0 hback
    by_cases hc10 : x = 10
    · refine lv_tableIn (tgt := 532) hx hb dL_law_32 (by rw [hc10]; decide) (by rw [hc10]; decide) (by rw [hc10]; rfl) (by decide) ?_
      exact law_10 l hsim hL X hX hbl hgA hdis hcs hj hH hR hS hl hs0 hback
    by_cases hc11 : x = 11
    · refine lv_tableIn (tgt := 565) hx hb dL_law_32 (by rw [hc11]; decide) (by rw [hc11]; decide) (by rw [hc11]; rfl) (by decide) ?_
      exact law_11 l hsim hL X hX hbl hgA hdis hcs hj hH hR hS hl hs0 hback
    by_cases hc12 : x = 12
    · refine lv_tableIn (tgt := 588) hx hb dL_law_32 (by rw [hc12]; decide) (by rw [hc12]; decide) (by rw [hc12]; rfl) (by decide) ?_
      exact law_12 l hsim hL X hX hbl hgA hdis hcs hj hH hR hS hl hs0 hback
    by_cases hc13 : x = 13
    · refine lv_tableIn (tgt := 621) hx hb dL_law_32 (by rw [hc13]; decide) (by rw [hc13]; decide) (by rw [hc13]; rfl) (by decide) ?_
      exact law_13 l hsim hL X hX hbl hgA hdis hcs hj hH hR hS hl hs0 hback
    by_cases hc14 : x = 14
    · refine lv_tableIn (tgt := 644) hx hb dL_law_32 (by rw [hc14]; decide) (by rw [hc14]; decide) (by rw [hc14]; rfl) (by decide) ?_
      exact law_14 l hsim hL X hX hbl hgA hdis hcs hj hH hR hS hl hs0 hback
    by_cases hc15 : x = 15
    · refine lv_tableIn (tgt := 677) hx hb dL_law_32 (by rw [hc15]; decide) (by rw [hc15]; decide) (by rw [hc15]; rfl) (by decide) ?_
      exact law_15 l hsim hL X hX hbl hgA hdis hcs hj hH hR hS hl hs0 hback
    by_cases hc16 : x = 16
    · refine lv_tableIn (tgt := 710) hx hb dL_law_32 (by rw [hc16]; decide) (by rw [hc16]; decide) (by rw [hc16]; rfl) (by decide) ?_
      exact law_16 l hsim hL X hX hbl hgA hdis hcs hj hH hR hS hl hs0 hback
    by_cases hc17 : x = 17
    · refine lv_tableIn (tgt := 743) hx hb dL_law_32 (by rw [hc17]; decide) (by rw [hc17]; decide) (by rw [hc17]; rfl) (by decide) ?_
      exact law_17 l hsim hL X hX hbl hgA hdis hcs hj hH hR hS hl hs0 hback
    by_cases hc18 : x = 18
    · refine lv_tableIn (tgt := 796) hx hb dL_law_32 (by rw [hc18]; decide) (by rw [hc18]; decide) (by rw [hc18]; rfl) (by decide) ?_
      exact law_18 l hsim hL X hX hbl hgA hdis hcs hj hH hR hS hl hs0 hback
    by_cases hc19 : x = 19
    · refine lv_tableIn (tgt := 829) hx hb dL_law_32 (by rw [hc19]; decide) (by rw [hc19]; decide) (by rw [hc19]; rfl) (by decide) ?_
      exact law_19 l hsim hL X hX hbl hgA hdis hcs hj hH hR hS hl hs0 hback
    by_cases hc20 : x = 20
    · refine lv_tableIn (tgt := 862) hx hb dL_law_32 (by rw [hc20]; decide) (by rw [hc20]; decide) (by rw [hc20]; rfl) (by decide) ?_
      exact law_20 l hsim hL X hX hbl hgA hdis hcs hj hH hR hS hl hs0 hback
    by_cases hc21 : x = 21
    · refine lv_tableIn (tgt := 885) hx hb dL_law_32 (by rw [hc21]; decide) (by rw [hc21]; decide) (by rw [hc21]; rfl) (by decide) ?_
      exact law_21 l hsim hL X hX hbl hgA hdis hcs hj hH hR hS hl hs0 hback
    by_cases hc22 : x = 22
    · refine lv_tableIn (tgt := 908) hx hb dL_law_32 (by rw [hc22]; decide) (by rw [hc22]; decide) (by rw [hc22]; rfl) (by decide) ?_
      exact law_22 l hsim hL X hX hbl hgA hdis hcs hj hH hR hS hl hs0 hback
    by_cases hc23 : x = 23
    · refine lv_tableIn (tgt := 931) hx hb dL_law_32 (by rw [hc23]; decide) (by rw [hc23]; decide) (by rw [hc23]; rfl) (by decide) ?_
      exact law_23 l hsim hL X hX hbl hgA hdis hcs hj hH hR hS hl hs0 hback
    by_cases hc24 : x = 24
    · refine lv_tableIn (tgt := 954) hx hb dL_law_32 (by rw [hc24]; decide) (by rw [hc24]; decide) (by rw [hc24]; rfl) (by decide) ?_
      exact law_24 l hsim hL X hX hbl hgA hdis hcs hj hH hR hS hl hs0 hback
    by_cases hc25 : x = 25
    · refine lv_tableIn (tgt := 987) hx hb dL_law_32 (by rw [hc25]; decide) (by rw [hc25]; decide) (by rw [hc25]; rfl) (by decide) ?_
      exact law_25 l hsim hL X hX hbl hgA hdis hcs hj hH hR hS hl hs0 hback
    by_cases hc26 : x = 26
    · refine lv_tableIn (tgt := 1020) hx hb dL_law_32 (by rw [hc26]; decide) (by rw [hc26]; decide) (by rw [hc26]; rfl) (by decide) ?_
      exact law_26 l hsim hL X hX hbl hgA hdis hcs hj hH hR hS hl hs0 hback
    by_cases hc27 : x = 27
    · refine lv_tableIn (tgt := 1053) hx hb dL_law_32 (by rw [hc27]; decide) (by rw [hc27]; decide) (by rw [hc27]; rfl) (by decide) ?_
      exact law_27 l hsim hL X hX hbl hgA hdis hcs hj hH hR hS hl hs0 hback
    by_cases hc28 : x = 28
    · refine lv_tableIn (tgt := 1096) hx hb dL_law_32 (by rw [hc28]; decide) (by rw [hc28]; decide) (by rw [hc28]; rfl) (by decide) ?_
      exact law_28 l hsim hL X hX hbl hgA hdis hcs hj hH hR hS hl hs0 hback
    by_cases hc29 : x = 29
    · refine lv_tableIn (tgt := 1139) hx hb dL_law_32 (by rw [hc29]; decide) (by rw [hc29]; decide) (by rw [hc29]; rfl) (by decide) ?_
      exact law_29 l hsim hL X hX hbl hgA hdis hcs hj hH hR hS hl hs0 hback
    by_cases hc30 : x = 30
    · refine lv_tableIn (tgt := 1172) hx hb dL_law_32 (by rw [hc30]; decide) (by rw [hc30]; decide) (by rw [hc30]; rfl) (by decide) ?_
      exact law_30 l hsim hL X hX hbl hgA hdis hcs hj hH hR hS hl hs0 hback
    by_cases hc31 : x = 31
    · refine lv_tableIn (tgt := 1205) hx hb dL_law_32 (by rw [hc31]; decide) (by rw [hc31]; decide) (by rw [hc31]; rfl) (by decide) ?_
      exact law_31 l hsim hL X hX hbl hgA hdis hcs hj hH hR hS hl hs0 hback
    by_cases hc32 : x = 32
    · refine lv_tableIn (tgt := 1228) hx hb dL_law_32 (by rw [hc32]; decide) (by rw [hc32]; decide) (by rw [hc32]; rfl) (by decide) ?_
      exact law_32 l hsim hL X hX hbl hgA hdis hcs hj hH hR hS hl hs0 hback
    by_cases hc33 : x = 33
    · refine lv_tableIn (tgt := 1261) hx hb dL_law_32 (by rw [hc33]; decide) (by rw [hc33]; decide) (by rw [hc33]; rfl) (by decide) ?_
      exact law_33 l hsim hL X hX hbl hgA hdis hcs hj hH hR hS hl hs0 hback
    by_cases hc34 : x = 34
    · refine lv_tableIn (tgt := 1274) hx hb dL_law_32 (by rw [hc34]; decide) (by rw [hc34]; decide) (by rw [hc34]; rfl) (by decide) ?_
      exact law_34 l hsim hL X hX hbl hgA hdis hcs hj hH hR hS hl hs0 hback
    by_cases hc35 : x = 35
    · refine lv_tableIn (tgt := 1287) hx hb dL_law_32 (by rw [hc35]; decide) (by rw [hc35]; decide) (by rw [hc35]; rfl) (by decide) ?_
      exact law_35 l hsim hL X hX hbl hgA hdis hcs hj hH hR hS hl hs0 hback
    refine lv_tableOut (tgt := 1310) hx hb dL_law_32 (sw_out (ks := [0, 1, 2, 3, 4, 5, 6, 7, 8, 9, 10, 11, 12, 13, 14, 15, 16, 17, 18, 19, 20, 21, 22, 23, 24, 25, 26, 27, 28, 29, 30, 31, 32, 33, 34, 35]) (by intro k hk; simp only [List.mem_cons, List.not_mem_nil, or_false] at hk; rcases hk with rfl | rfl | rfl | rfl | rfl | rfl | rfl | rfl | rfl | rfl | rfl | rfl | rfl | rfl | rfl | rfl | rfl | rfl | rfl | rfl | rfl | rfl | rfl | rfl | rfl | rfl | rfl | rfl | rfl | rfl | rfl | rfl | rfl | rfl | rfl | rfl <;> assumption) (sw_all 0 [0, 1, 2, 3, 4, 5, 6, 7, 8, 9, 10, 11, 12, 13, 14, 15, 16, 17, 18, 19, 20, 21, 22, 23, 24, 25, 26, 27, 28, 29, 30, 31, 32, 33, 34, 35] (by decide))) (by decide) ?_
    exact hback w v _ _ hH hR hs0 hS
