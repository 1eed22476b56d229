theorem inBJx4a65c : ∀ w ∈ u_ws RJx4a65c TJx4a65c 3, w ∈ BG := by
  intro w h
  obtain ⟨k, hk, rfl⟩ := List.mem_map.mp h
  have hk := List.mem_range.mp hk
  match k, hk with
  | 0, _ => exact bw149
  | 1, _ => exact bw145
  | 2, _ => exact bw147
  | k + 3, h => exact absurd h (by omega)
theorem inBX0 : ∀ w ∈ u_ws RX0 TX0 8, w ∈ BG := by
  intro w h
  obtain ⟨k, hk, rfl⟩ := List.mem_map.mp h
  have hk := List.mem_range.mp hk
  match k, hk with
  | 0, _ => exact bw308
  | 1, _ => exact bw310
  | 2, _ => exact bw312
  | 3, _ => exact bw314
  | 4, _ => exact bw316
  | 5, _ => exact bw318
  | 6, _ => exact bw320
  | 7, _ => exact bw322
  | k + 8, h => exact absurd h (by omega)
theorem inBX1 : ∀ w ∈ u_ws RX1 TX1 10, w ∈ BG := by
  intro w h
  obtain ⟨k, hk, rfl⟩ := List.mem_map.mp h
  have hk := List.mem_range.mp hk
  match k, hk with
  | 0, _ => exact bw518
  | 1, _ => exact bw520
  | 2, _ => exact bw522
  | 3, _ => exact bw524
  | 4, _ => exact bw526
  | 5, _ => exact bw528
  | 6, _ => exact bw530
  | 7, _ => exact bw532
  | 8, _ => exact bw534
  | 9, _ => exact bw536
  | k + 10, h => exact absurd h (by omega)
theorem inBX2 : ∀ w ∈ u_ws RX2 TX2 5, w ∈ BG := by
  intro w h
  obtain ⟨k, hk, rfl⟩ := List.mem_map.mp h
  have hk := List.mem_range.mp hk
  match k, hk with
  | 0, _ => exact bw484
  | 1, _ => exact bw486
  | 2, _ => exact bw488
  | 3, _ => exact bw490
  | 4, _ => exact bw492
  | k + 5, h => exact absurd h (by omega)
theorem inBX3 : ∀ w ∈ u_ws RX3 TX3 7, w ∈ BG := by
  intro w h
  obtain ⟨k, hk, rfl⟩ := List.mem_map.mp h
  have hk := List.mem_range.mp hk
  match k, hk with
  | 0, _ => exact bw557
  | 1, _ => exact bw559
  | 2, _ => exact bw561
  | 3, _ => exact bw563
  | 4, _ => exact bw565
  | 5, _ => exact bw567
  | 6, _ => exact bw569
  | k + 7, h => exact absurd h (by omega)
theorem inBX4 : ∀ w ∈ u_ws RX4 TX4 5, w ∈ BG := by
  intro w h
  obtain ⟨k, hk, rfl⟩ := List.mem_map.mp h
  have hk := List.mem_range.mp hk
  match k, hk with
  | 0, _ => exact bw457
  | 1, _ => exact bw459
  | 2, _ => exact bw461
  | 3, _ => exact bw463
  | 4, _ => exact bw465
  | k + 5, h => exact absurd h (by omega)
theorem inBX5 : ∀ w ∈ u_ws RX5 TX5 2, w ∈ BG := by
  intro w h
  obtain ⟨k, hk, rfl⟩ := List.mem_map.mp h
  have hk := List.mem_range.mp hk
  match k, hk with
  | 0, _ => exact bw171
  | 1, _ => exact bw173
  | k + 2, h => exact absurd h (by omega)
theorem inBX6 : ∀ w ∈ u_ws RX6 TX6 16, w ∈ BG := by
  intro w h
  obtain ⟨k, hk, rfl⟩ := List.mem_map.mp h
  have hk := List.mem_range.mp hk
  match k, hk with
  | 0, _ => exact bw408
  | 1, _ => exact bw410
  | 2, _ => exact bw412
  | 3, _ => exact bw414
  | 4, _ => exact bw416
  | 5, _ => exact bw418
  | 6, _ => exact bw420
  | 7, _ => exact bw422
  | 8, _ => exact bw424
  | 9, _ => exact bw426
  | 10, _ => exact bw428
  | 11, _ => exact bw430
  | 12, _ => exact bw432
  | 13, _ => exact bw434
  | 14, _ => exact bw436
  | 15, _ => exact bw438
  | k + 16, h => exact absurd h (by omega)
theorem inBX7 : ∀ w ∈ u_ws RX7 TX7 2, w ∈ BG := by
  intro w h
  obtain ⟨k, hk, rfl⟩ := List.mem_map.mp h
  have hk := List.mem_range.mp hk
  match k, hk with
  | 0, _ => exact bw154
  | 1, _ => exact bw156
  | k + 2, h => exact absurd h (by omega)
theorem inBX8 : ∀ w ∈ u_ws RX8 TX8 6, w ∈ BG := by
  intro w h
  obtain ⟨k, hk, rfl⟩ := List.mem_map.mp h
  have hk := List.mem_range.mp hk
  match k, hk with
  | 0, _ => exact bw365
  | 1, _ => exact bw367
  | 2, _ => exact bw369
  | 3, _ => exact bw371
  | 4, _ => exact bw373
  | 5, _ => exact bw375
  | k + 6, h => exact absurd h (by omega)
theorem inBX9 : ∀ w ∈ u_ws RX9 TX9 2, w ∈ BG := by
  intro w h
  obtain ⟨k, hk, rfl⟩ := List.mem_map.mp h
  have hk := List.mem_range.mp hk
  match k, hk with
  | 0, _ => exact bw335
  | 1, _ => exact bw337
  | k + 2, h => exact absurd h (by omega)
theorem inBX10 : ∀ w ∈ u_ws RX10 TX10 10, w ∈ BG := by
  intro w h
  obtain ⟨k, hk, rfl⟩ := List.mem_map.mp h
  have hk := List.mem_range.mp hk
  match k, hk with
  | 0, _ => exact bw263
  | 1, _ => exact bw265
  | 2, _ => exact bw267
  | 3, _ => exact bw269
  | 4, _ => exact bw271
  | 5, _ => exact bw273
  | 6, _ => exact bw275
  | 7, _ => exact bw277
  | 8, _ => exact bw279
  | 9, _ => exact bw281
  | k + 10, h => exact absurd h (by omega)
theorem inBX11 : ∀ w ∈ u_ws RX11 TX11 13, w ∈ BG := by
  intro w h
  obtain ⟨k, hk, rfl⟩ := List.mem_map.mp h
  have hk := List.mem_range.mp hk
  match k, hk with
  | 0, _ => exact bw585
  | 1, _ => exact bw587
  | 2, _ => exact bw589
  | 3, _ => exact bw591
  | 4, _ => exact bw593
  | 5, _ => exact bw595
  | 6, _ => exact bw597
  | 7, _ => exact bw599
  | 8, _ => exact bw601
  | 9, _ => exact bw603
  | 10, _ => exact bw605
  | 11, _ => exact bw607
  | 12, _ => exact bw609
  | k + 13, h => exact absurd h (by omega)
theorem inBX12 : ∀ w ∈ u_ws RX12 TX12 30, w ∈ BG := by
  intro w h
  obtain ⟨k, hk, rfl⟩ := List.mem_map.mp h
  have hk := List.mem_range.mp hk
  match k, hk with
  | 0, _ => exact bw1408
  | 1, _ => exact bw1410
  | 2, _ => exact bw1412
  | 3, _ => exact bw1414
  | 4, _ => exact bw1416
  | 5, _ => exact bw1418
  | 6, _ => exact bw1420
  | 7, _ => exact bw1422
  | 8, _ => exact bw1424
  | 9, _ => exact bw1426
  | 10, _ => exact bw1428
  | 11, _ => exact bw1430
  | 12, _ => exact bw1432
  | 13, _ => exact bw1434
  | 14, _ => exact bw1436
  | 15, _ => exact bw1438
  | 16, _ => exact bw1440
  | 17, _ => exact bw1442
  | 18, _ => exact bw1444
  | 19, _ => exact bw1446
  | 20, _ => exact bw1448
  | 21, _ => exact bw1450
  | 22, _ => exact bw1452
  | 23, _ => exact bw1454
  | 24, _ => exact bw1456
  | 25, _ => exact bw1458
  | 26, _ => exact bw1460
  | 27, _ => exact bw1462
  | 28, _ => exact bw1464
  | 29, _ => exact bw1466
  | k + 30, h => exact absurd h (by omega)
def rcL : List Nat := [3250, 3250, 9, 8, 80, 80, 80, 30, 5002, 61, 61, 27, 10, 10, 10, 10, 1024]
def rcp (k : Nat) : Nat := rcL.getD k 0
def rE (G : GX) (w : CW) (k : Nat) : va_E :=
  if k = 0 then .inr (13, [.int (w.2.2 0), .ref (G.2.2.1 301), .ref (G.2.2.1 302), .int (w.2.2 3), .int (w.2.2 4), .int (w.2.2 5), .int (w.2.2 6), .ref (G.2.2.1 303), .ref (G.2.2.1 304), .ref (G.2.2.1 305), .ref (G.2.2.1 306), .ref (G.2.2.1 307), .ref (G.2.2.1 308), .int (w.2.2 13), .ref (G.2.2.1 309), .ref (G.2.2.1 310), .ref (G.2.2.1 311), .ref (G.2.2.1 312), .int (w.2.2 18), .int (w.2.2 19), .int (w.2.2 20), .int (w.2.2 21), .ref (G.2.2.1 313), .ref (G.2.2.1 314), .int (w.2.2 24), .ref (G.2.2.1 315), .ref (G.2.2.1 316), .int (w.2.2 27), .int (w.2.2 28), .ref (G.2.2.1 317)])
  else if k = 8 then .inl (G.2.1.2.1, 30, .inl (w.1 7))
  else .inl (G.2.1.1, rcp (k - 1), .inl (w.1 (k - 1)))
def rWs (G : GX) (w : CW) : va_W := gW G.2.2.1 300 18 (rE G w)
def rH (G : GX) (w : CW) (H : Heap) : Prop := va_P G.1 vwCl (rWs G w) H ∧ va_D (rA G) (rWs G w)
theorem rWs_at {G : GX} {w : CW} (k : Nat) (hk : k < 18) {x : va_E} (hx : rE G w k = x) : (rWs G w)[k]? = some (G.2.2.1 (300 + k), x) := by
  subst hx
  exact gW_at (ρ := G.2.2.1) (b := 300) (n := 18) (e := rE G w) k hk
theorem rWs_set {G : GX} {w w' : CW} (k : Nat) (h : ∀ j, j < 18 → j ≠ k → rE G w' j = rE G w j) {x : va_E} (hx : rE G w' k = x) : (rWs G w).set k (G.2.2.1 (300 + k), x) = rWs G w' :=
  gW_set (ρ := G.2.2.1) (b := 300) (n := 18) k h hx
theorem rO {G : GX} {w : CW} : rE G w 0 = .inr (13, [.int (w.2.2 0), .ref (G.2.2.1 301), .ref (G.2.2.1 302), .int (w.2.2 3), .int (w.2.2 4), .int (w.2.2 5), .int (w.2.2 6), .ref (G.2.2.1 303), .ref (G.2.2.1 304), .ref (G.2.2.1 305), .ref (G.2.2.1 306), .ref (G.2.2.1 307), .ref (G.2.2.1 308), .int (w.2.2 13), .ref (G.2.2.1 309), .ref (G.2.2.1 310), .ref (G.2.2.1 311), .ref (G.2.2.1 312), .int (w.2.2 18), .int (w.2.2 19), .int (w.2.2 20), .int (w.2.2 21), .ref (G.2.2.1 313), .ref (G.2.2.1 314), .int (w.2.2 24), .ref (G.2.2.1 315), .ref (G.2.2.1 316), .int (w.2.2 27), .int (w.2.2 28), .ref (G.2.2.1 317)]) := rfl
theorem rE_arr {G : GX} {w : CW} {k : Nat} (h : k ≠ 7) : rE G w (1 + k) = .inl (G.2.1.1, rcp k, .inl (w.1 k)) := by
  unfold rE; rw [if_neg (by omega), if_neg (by omega), Nat.add_sub_cancel_left]
theorem rE_fe {G : GX} {w : CW} : rE G w 8 = .inl (G.2.1.2.1, 30, .inl (w.1 7)) := rfl
theorem rE_sC {G : GX} {w : CW} {k i : Nat} {v : Int32} : ∀ j, j < 18 → j ≠ 1 + k → rE G (sC w k i v) j = rE G w j := by
  intro j hj hn
  unfold rE
  simp only [sC]
  by_cases h1 : j = 0
  · rw [if_pos h1, if_pos h1]
  · rw [if_neg h1, if_neg h1]
    by_cases h2 : j = 8
    · rw [if_pos h2, if_pos h2, if_neg (by omega)]
    · rw [if_neg h2, if_neg h2, if_neg (by omega)]
theorem rE_sS {G : GX} {w : CW} {k : Nat} {v : Int32} : ∀ j, j < 18 → j ≠ 0 → rE G (sS w k v) j = rE G w j := by
  intro j hj hn
  unfold rE
  simp only [sS]
  rw [if_neg hn, if_neg hn]
section ACC
variable {p : Program} {l : Launch} {e : Env} {R : Room} {s : State} {m : MethodId} {args : Array Value} {below : List Frame} {meth : Method} {c : Code} {H : Heap} {locs : List Loc} {cells slots : Nat} {Q : State → Prop}
variable {G : GX} {y : MethodName} {cc : ByteArray} {nL idx pc : Nat} {ret : Option FieldType} {rest : List Value} {ls : Array Slot} {w w' : CW} {C : String} {T : u_T} {N ci : Nat} {fs : List Value} {v : Value}
abbrev FL (own : String) (idx : Nat) (T : u_T) (k : Nat) : Cond := .fieldLink own idx (T k).1 (T k).2.1 (T k).2.2.1
theorem co_get (X : CX G p s m args meth c y cc nL ret) (hH : cH G w H) (j : Nat) (hj : j < 205) (he : cE G w j = .inr (ci, fs)) (hc : vwCl[ci]? = some (C, T, N)) (hin : ∀ w ∈ u_ws C T N, w ∈ BG) (k : Nat) (hk : k < N) (hv : fs[k]? = some v) (hlink : FL y.cls idx T k ∈ BG) (hdg : decode cc pc = .ok (.getfield idx, 3))
    (kk : W p l e R s m args below meth c H locs cells slots Q (F0 m (pc + 3) ls (v :: rest))) : W p l e R s m args below meth c H locs cells slots Q (F0 m pc ls (.ref (G.2.2.1 (j)) :: rest)) :=
  va_get X.1.1 X.1.2.1 X.1.2.2.2.2 (fun w h => List.mem_cons_of_mem _ (hin w h)) X.1.2.2.2.1 X.2.2.2.1 hH.1 j (cWs_at j hj he) hc k hk (X.w hlink) (fun _ h => h) hv hdg kk
theorem co_put (X : CX G p s m args meth c y cc nL ret) (hH : cH G w H) (hS : va_S (cA G) s.heap H locs) (j : Nat) (hj : j < 205) (he : cE G w j = .inr (ci, fs)) (hc : vwCl[ci]? = some (C, T, N)) (hin : ∀ w ∈ u_ws C T N, w ∈ BG) (ty0 : Nat → FieldType) (hty : ∀ k, k < N → parseFieldDescriptor (T k).2.2.1 = some (ty0 k)) (hnm : ∀ a, a < N → ∀ b, b < N → a ≠ b → (T a).2.1 ≠ (T b).2.1) (k : Nat) (hk : k < N) (hlink : FL y.cls idx T k ∈ BG) (hfin : (T k).2.2.2 = false) (hn : narrow (ty0 k) v = v) (hfit : fits (ty0 k) v = true) (hl : k < fs.length)
    (w' : CW) (he' : cE G w' j = .inr (ci, fs.set k v)) (ho : ∀ i, i < 205 → i ≠ j → cE G w' i = cE G w i) (hdg : decode cc pc = .ok (.putfield idx, 3))
    (kk : ∀ (H1 : Heap) (locs1 : List Loc), cH G w' H1 → va_S (cA G) s.heap H1 locs1 → W p l e R s m args below meth c H1 locs1 cells slots Q (F0 m (pc + 3) ls rest)) : W p l e R s m args below meth c H locs cells slots Q (F0 m pc ls (v :: .ref (G.2.2.1 (j)) :: rest)) :=
  va_put X.1.1 X.1.2.1 X.1.2.2.2.2 (fun w h => List.mem_cons_of_mem _ (hin w h)) ty0 hty hnm X.1.2.2.2.1 X.2.2.2.1 hH.1 hH.2 hS j (cWs_at j hj he) hc k hk (X.w hlink) (fun _ h => h) hfin (hty k hk) hn hfit hl hdg (fun H1 locs1 hP hD hS => kk H1 locs1 ⟨by rw [cWs_set j ho he'] at hP; exact hP, by rw [cWs_set j ho he'] at hD; exact hD⟩ hS)
theorem ro_get (X : CX G p s m args meth c y cc nL ret) (hH : rH G w H) (j : Nat) (hj : j < 18) (he : rE G w j = .inr (ci, fs)) (hc : vwCl[ci]? = some (C, T, N)) (hin : ∀ w ∈ u_ws C T N, w ∈ BG) (k : Nat) (hk : k < N) (hv : fs[k]? = some v) (hlink : FL y.cls idx T k ∈ BG) (hdg : decode cc pc = .ok (.getfield idx, 3))
    (kk : W p l e R s m args below meth c H locs cells slots Q (F0 m (pc + 3) ls (v :: rest))) : W p l e R s m args below meth c H locs cells slots Q (F0 m pc ls (.ref (G.2.2.1 (300 + j)) :: rest)) :=
  va_get X.1.1 X.1.2.1 X.1.2.2.2.2 (fun w h => List.mem_cons_of_mem _ (hin w h)) X.1.2.2.2.1 X.2.2.2.1 hH.1 j (rWs_at j hj he) hc k hk (X.w hlink) (fun _ h => h) hv hdg kk
theorem ro_put (X : CX G p s m args meth c y cc nL ret) (hH : rH G w H) (hS : va_S (rA G) s.heap H locs) (j : Nat) (hj : j < 18) (he : rE G w j = .inr (ci, fs)) (hc : vwCl[ci]? = some (C, T, N)) (hin : ∀ w ∈ u_ws C T N, w ∈ BG) (ty0 : Nat → FieldType) (hty : ∀ k, k < N → parseFieldDescriptor (T k).2.2.1 = some (ty0 k)) (hnm : ∀ a, a < N → ∀ b, b < N → a ≠ b → (T a).2.1 ≠ (T b).2.1) (k : Nat) (hk : k < N) (hlink : FL y.cls idx T k ∈ BG) (hfin : (T k).2.2.2 = false) (hn : narrow (ty0 k) v = v) (hfit : fits (ty0 k) v = true) (hl : k < fs.length)
    (w' : CW) (he' : rE G w' j = .inr (ci, fs.set k v)) (ho : ∀ i, i < 18 → i ≠ j → rE G w' i = rE G w i) (hdg : decode cc pc = .ok (.putfield idx, 3))
    (kk : ∀ (H1 : Heap) (locs1 : List Loc), rH G w' H1 → va_S (rA G) s.heap H1 locs1 → W p l e R s m args below meth c H1 locs1 cells slots Q (F0 m (pc + 3) ls rest)) : W p l e R s m args below meth c H locs cells slots Q (F0 m pc ls (v :: .ref (G.2.2.1 (300 + j)) :: rest)) :=
  va_put X.1.1 X.1.2.1 X.1.2.2.2.2 (fun w h => List.mem_cons_of_mem _ (hin w h)) ty0 hty hnm X.1.2.2.2.1 X.2.2.2.1 hH.1 hH.2 hS j (rWs_at j hj he) hc k hk (X.w hlink) (fun _ h => h) hfin (hty k hk) hn hfit hl hdg (fun H1 locs1 hP hD hS => kk H1 locs1 ⟨by rw [rWs_set j ho he'] at hP; exact hP, by rw [rWs_set j ho he'] at hD; exact hD⟩ hS)
theorem co_getN {host : String} (X : CX G p s m args meth c y cc nL ret) (hH : cH G w H) (j : Nat) (hj : j < 205) (he : cE G w j = .inr (ci, fs)) (hc : vwCl[ci]? = some (C, T, N)) (hin : ∀ w ∈ u_ws C T N, w ∈ BG) (k : Nat) (hk : k < N) (hv : fs[k]? = some v) (hlink : Cond.fieldLinkNest y.cls idx (T k).1 (T k).2.1 (T k).2.2.1 host ∈ lw_tbl) (hdg : decode cc pc = .ok (.getfield idx, 3))
    (kk : W p l e R s m args below meth c H locs cells slots Q (F0 m (pc + 3) ls (v :: rest))) : W p l e R s m args below meth c H locs cells slots Q (F0 m pc ls (.ref (G.2.2.1 j) :: rest)) :=
  va_getN X.1.1 X.1.2.1 X.1.2.2.2.2 (fun w h => List.mem_cons_of_mem _ (hin w h)) X.1.2.2.2.1 X.2.2.2.1 hH.1 j (cWs_at j hj he) hc k hk (va_Nw.use rfl (X.n hlink rfl)) (fun _ h => h) hv hdg kk
theorem c_rec (X : CX G p s m args meth c y cc nL ret) (hH : cH G w H) (j : Nat) (hj : j < 205) (he : cE G w j = .inr (ci, fs)) (hc : vwCl[ci]? = some (C, T, N)) : REC s H C (G.2.2.1 j) := va_recv X.2.2.2.1 hH.1 hc (cWs_at j hj he)
theorem r_rec (X : CX G p s m args meth c y cc nL ret) (hH : rH G w H) : REC s H RX12 (G.2.2.1 300) := va_recv (q := (RX12, TX12, 30)) X.2.2.2.1 hH.1 rfl (rWs_at 0 (by decide) rO)
theorem c_recR (X : CX G p s m args meth c y cc nL ret) (hH : cH G w H) {k : Nat} (hk : k < 95) : REC s H RX5 (G.2.2.1 k) := va_recv (q := (RX5, TX5, 2)) X.2.2.2.1 hH.1 rfl (cWs_at k (by omega) (cE_row hk))
/-- a row's cells -/
theorem ca_ld (X : CX G p s m args meth c y cc nL ret) (hH : cH G w H) {k : Nat} (hk : k < 95) {i : Int32} (hi : vp_in i (cp k)) (hdg : decode cc pc = .ok (.iaload, 1))
    (kk : W p l e R s m args below meth c H locs cells slots Q (F0 m (pc + 1) ls (.int (w.1 k i.toNatClampNeg) :: rest))) : W p l e R s m args below meth c H locs cells slots Q (F0 m pc ls (.int i :: .ref (G.2.2.1 (95 + k)) :: rest)) :=
  va_iald X.1.1 X.1.2.1 X.2.2.2.1 hH.1 (95 + k) 0 (cWs_at (95 + k) (by omega) (cE_arr hk)) rfl hi hdg kk
theorem ca_st (X : CX G p s m args meth c y cc nL ret) (hH : cH G w H) (hS : va_S (cA G) s.heap H locs) {k : Nat} (hk : k < 95) {i x : Int32} (hi : vp_in i (cp k)) (hdg : decode cc pc = .ok (.iastore, 1))
    (kk : ∀ (H1 : Heap) (locs1 : List Loc), cH G (sC w k i.toNatClampNeg x) H1 → va_S (cA G) s.heap H1 locs1 → W p l e R s m args below meth c H1 locs1 cells slots Q (F0 m (pc + 1) ls rest)) : W p l e R s m args below meth c H locs cells slots Q (F0 m pc ls (.int x :: .int i :: .ref (G.2.2.1 (95 + k)) :: rest)) := by
  have he : cE G (sC w k i.toNatClampNeg x) (95 + k) = .inl (G.2.1.1, cp k, .inl (upd (w.1 k) i.toNatClampNeg x)) := by
    rw [cE_arr hk]; simp [sC]
  exact va_iast X.1.1 X.1.2.1 X.2.2.2.1 hH.1 hH.2 hS (95 + k) 0 (cWs_at (95 + k) (by omega) (cE_arr hk)) rfl hi hdg (fun H1 locs1 hP hD hS => kk H1 locs1 ⟨by rw [cWs_set _ cE_sC he] at hP; exact hP, by rw [cWs_set _ cE_sC he] at hD; exact hD⟩ hS)
theorem ca_len (X : CX G p s m args meth c y cc nL ret) (hH : cH G w H) {k : Nat} (hk : k < 95) (hdg : decode cc pc = .ok (.arraylength, 1))
    (kk : W p l e R s m args below meth c H locs cells slots Q (F0 m (pc + 1) ls (.int (Int32.ofNat (cp k)) :: rest))) : W p l e R s m args below meth c H locs cells slots Q (F0 m pc ls (.ref (G.2.2.1 (95 + k)) :: rest)) :=
  va_alen X.1.1 X.1.2.1 X.2.2.2.1 hH.1 (95 + k) 0 (cWs_at (95 + k) (by omega) (cE_arr hk)) rfl rfl hdg kk
theorem c_putsize (X : CX G p s m args meth c y cc nL ret) (hH : cH G w H) (hS : va_S (cA G) s.heap H locs) {k : Nat} (hk : k < 95) {x : Int32} (hlink : FL y.cls idx TX5 1 ∈ BG) (hdg : decode cc pc = .ok (.putfield idx, 3))
    (kk : ∀ (H1 : Heap) (locs1 : List Loc), cH G (sN w k x) H1 → va_S (cA G) s.heap H1 locs1 → W p l e R s m args below meth c H1 locs1 cells slots Q (F0 m (pc + 3) ls rest)) : W p l e R s m args below meth c H locs cells slots Q (F0 m pc ls (.int x :: .ref (G.2.2.1 k) :: rest)) :=
  co_put (N := 2) (C := RX5) X hH hS k (by omega) (cE_row hk) rfl inBX5 tyX5 tyX5_ok nmX5 1 (by decide) hlink rfl rfl rfl (by simp) (sN w k x) (by rw [cE_row hk]; simp [sN]) (cE_sN hk) hdg kk
/-- the reference's arrays -/
theorem ra_ld (X : CX G p s m args meth c y cc nL ret) (hH : rH G w H) (k : Nat) (hk : k < 17) (hf : k ≠ 7) {i : Int32} (hi : vp_in i (rcp k)) (hdg : decode cc pc = .ok (.iaload, 1))
    (kk : W p l e R s m args below meth c H locs cells slots Q (F0 m (pc + 1) ls (.int (w.1 k i.toNatClampNeg) :: rest))) : W p l e R s m args below meth c H locs cells slots Q (F0 m pc ls (.int i :: .ref (G.2.2.1 (300 + (1 + k))) :: rest)) :=
  va_iald X.1.1 X.1.2.1 X.2.2.2.1 hH.1 (1 + k) 0 (rWs_at (1 + k) (by omega) (rE_arr hf)) rfl hi hdg kk
theorem ra_st (X : CX G p s m args meth c y cc nL ret) (hH : rH G w H) (hS : va_S (rA G) s.heap H locs) (k : Nat) (hk : k < 17) (hf : k ≠ 7) {i x : Int32} (hi : vp_in i (rcp k)) (hdg : decode cc pc = .ok (.iastore, 1))
    (kk : ∀ (H1 : Heap) (locs1 : List Loc), rH G (sC w k i.toNatClampNeg x) H1 → va_S (rA G) s.heap H1 locs1 → W p l e R s m args below meth c H1 locs1 cells slots Q (F0 m (pc + 1) ls rest)) : W p l e R s m args below meth c H locs cells slots Q (F0 m pc ls (.int x :: .int i :: .ref (G.2.2.1 (300 + (1 + k))) :: rest)) := by
  have he : rE G (sC w k i.toNatClampNeg x) (1 + k) = .inl (G.2.1.1, rcp k, .inl (upd (w.1 k) i.toNatClampNeg x)) := by
    rw [rE_arr hf]; simp [sC]
  exact va_iast X.1.1 X.1.2.1 X.2.2.2.1 hH.1 hH.2 hS (1 + k) 0 (rWs_at (1 + k) (by omega) (rE_arr hf)) rfl hi hdg (fun H1 locs1 hP hD hS => kk H1 locs1 ⟨by rw [rWs_set _ rE_sC he] at hP; exact hP, by rw [rWs_set _ rE_sC he] at hD; exact hD⟩ hS)
theorem rz_ld (X : CX G p s m args meth c y cc nL ret) (hH : rH G w H) {i : Int32} (hi : vp_in i 30) (hdg : decode cc pc = .ok (.baload, 1))
    (kk : W p l e R s m args below meth c H locs cells slots Q (F0 m (pc + 1) ls (.int (w.1 7 i.toNatClampNeg) :: rest))) : W p l e R s m args below meth c H locs cells slots Q (F0 m pc ls (.int i :: .ref (G.2.2.1 (300 + (1 + 7))) :: rest)) :=
  va_zald X.1.1 X.1.2.1 X.2.2.2.1 hH.1 (1 + 7) 1 (rWs_at (1 + 7) (by decide) rE_fe) rfl hi hdg kk
theorem rz_st (X : CX G p s m args meth c y cc nL ret) (hH : rH G w H) (hS : va_S (rA G) s.heap H locs) {i x : Int32} (hi : vp_in i 30) (hdg : decode cc pc = .ok (.bastore, 1))
    (kk : ∀ (H1 : Heap) (locs1 : List Loc), rH G (sC w 7 i.toNatClampNeg (vp_nar .boolean x)) H1 → va_S (rA G) s.heap H1 locs1 → W p l e R s m args below meth c H1 locs1 cells slots Q (F0 m (pc + 1) ls rest)) : W p l e R s m args below meth c H locs cells slots Q (F0 m pc ls (.int x :: .int i :: .ref (G.2.2.1 (300 + (1 + 7))) :: rest)) := by
  have he : rE G (sC w 7 i.toNatClampNeg (vp_nar .boolean x)) (1 + 7) = .inl (G.2.1.2.1, 30, .inl (upd (w.1 7) i.toNatClampNeg (vp_nar .boolean x))) := rE_fe
  exact va_zast X.1.1 X.1.2.1 X.2.2.2.1 hH.1 hH.2 hS (1 + 7) 1 (rWs_at (1 + 7) (by decide) rE_fe) rfl hi hdg (fun H1 locs1 hP hD hS => kk H1 locs1 ⟨by rw [rWs_set _ rE_sC he] at hP; exact hP, by rw [rWs_set _ rE_sC he] at hD; exact hD⟩ hS)
end ACC
/-! walking with a function's value at hand -/
theorem fo_t {α : Sort _} {c : Prop} [Decidable c] {a b r : α} (hc : c) (h : (if c then a else b) = r) : a = r := by rw [if_pos hc] at h; exact h
theorem fo_f {α : Sort _} {c : Prop} [Decidable c] {a b r : α} (hc : ¬ c) (h : (if c then a else b) = r) : b = r := by rw [if_neg hc] at h; exact h
def nmk {α β : Type} (a : α) (f : α → β) : β := f a
theorem nm_s {α β : Type} {a : α} {f : α → β} {r : β} (h : nmk a f = r) : ∀ x, x = a → f x = r := by intro x hx; subst hx; exact h
theorem bd_s {α β : Type} {a : Option α} {f : α → Option β} {r : β} (h : a.bind f = some r) : ∃ x, a = some x ∧ f x = some r := by
  cases a with
  | none => cases h
  | some x => exact ⟨x, rfl, h⟩
theorem so_s {α : Type} {a r : α} (h : some a = some r) : a = r := Option.some.inj h
/-! answers of boolean methods -/
abbrev QZ (A : Nat → Prop) (P' : Heap → Prop) (r : Int32) : Array Value → State → Outcome → State → Prop := va_Qi (fun x (_ : Unit) => x = r ∧ (x = 0 ∨ x = 1)) (fun _ t => P' t.heap) A
abbrev MZ (l : Launch) (G : GX) (y : MethodName) (cc : ByteArray) (nL : Nat) (ret : Option FieldType) (rm : Room) (As : List Value) (A : Nat → Prop) (P P' : Heap → Prop) (r : Int32) : Prop := Met l y (Cond.code y cc nL ret :: BG) rm (PC G As P) (QZ A P' r) 0 0 A
theorem zb0 : (0 : Int32) = 0 ∨ (0 : Int32) = 1 := Or.inl rfl
theorem zb1 : (1 : Int32) = 0 ∨ (1 : Int32) = 1 := Or.inr rfl
theorem zb_ite {c : Prop} [Decidable c] {a b : Int32} (ha : a = 0 ∨ a = 1) (hb : b = 0 ∨ b = 1) : (if c then a else b) = 0 ∨ (if c then a else b) = 1 := by
  by_cases h : c
  · rw [if_pos h]; exact ha
  · rw [if_neg h]; exact hb
theorem zb_e {a b : Int32} (e : a = b) (h : b = 0 ∨ b = 1) : a = 0 ∨ a = 1 := by rw [e]; exact h
theorem nz {v : Int32} (h : v = 0 ∨ v = 1) : narrow .boolean (.int v) = .int v := by rcases h with rfl | rfl <;> rfl
theorem cH1 {G : GX} {w q : CW} {H : Heap} (h : w = q) (hp : cH G w H) : cH G q H := by rw [← h]; exact hp
theorem rH1 {G : GX} {w q : CW} {H : Heap} (h : w = q) (hp : rH G w H) : rH G q H := by rw [← h]; exact hp

theorem cH2 {G : GX} {a : Int32} {w : CW} {q : Int32 × CW} {H : Heap} (h : (a, w) = q) (hp : cH G w H) : cH G q.2 H := by rw [← h]; exact hp
theorem rH2 {G : GX} {a : Int32} {w : CW} {q : Int32 × CW} {H : Heap} (h : (a, w) = q) (hp : rH G w H) : rH G q.2 H := by rw [← h]; exact hp
section ZG
variable {p : Program} {l : Launch} {e : Env} {R : Room} {s : State} {m : MethodId} {args : Array Value} {below : List Frame} {meth : Method} {c : Code} {H : Heap} {locs : List Loc} {Q : State → Prop}
variable {G : GX} {y : MethodName} {cc : ByteArray} {nL pc : Nat} {ret : Option FieldType} {rest st0 : List Value} {A : Nat → Prop} {P' : Heap → Prop} {ls : Array Slot}
theorem cGz {a : Array Value} {r : Int32} (hr : va_Run p l e R s m args below meth c H locs 0 0 0 0 (F0 m pc ls st0) rest (QZ A P' r a) A) (hS : va_S A s.heap H locs)
    (kk : (r = 0 ∨ r = 1) → ∀ (H1 : Heap) (locs1 : List Loc), P' H1 → va_S A s.heap H1 locs1 → W p l e R s m args below meth c H1 locs1 0 0 Q (F0 m (pc + 3) ls (.int r :: rest))) : W p l e R s m args below meth c H locs 0 0 Q (F0 m pc ls st0) :=
  va_calli hr hS (fun _ _ h => h) (fun _ h => h) (fun r' _ t H1 locs1 ht _ hp hb _ _ hS1 => by obtain ⟨rfl, hz⟩ := hp; exact kk hz H1 locs1 (by rw [← ht]; exact hb) hS1)
theorem cEzz {r v : Int32} (X : CX G p s m args meth c y cc nL (some .boolean)) (hP : P' H) (hS : va_S A s.heap H locs) (hv : v = r) (hz : v = 0 ∨ v = 1) (hdg : decode cc pc = .ok (.ireturn, 1)) : W p l e R s m args below meth c H locs 0 0 (MQ below (QZ A P' r) args s 0 0 A) (F0 m pc ls [.int v]) :=
  W.zret X.1.1 X.1.2.1 X.2.1 (nz hz) (fun t ht _ => ⟨⟨v, (), rfl, ⟨hv, hz⟩, by show P' t.heap; rw [ht]; exact hP⟩, hS.F ht⟩) hS.2.2 hdg X.2.2.1
/-- a table of a switch: the case, all cases out -/
theorem sw_out {x : Int32} {lo hi : Int} {ks : List Int32} (h : ∀ k ∈ ks, ¬ x = k) (hk : ∀ i : Int, lo ≤ i → i ≤ hi → ∃ k ∈ ks, k.toInt = i) : x.toInt < lo ∨ hi < x.toInt := by
  by_cases h1 : x.toInt < lo
  · exact Or.inl h1
  · by_cases h2 : hi < x.toInt
    · exact Or.inr h2
    · obtain ⟨k, hm, e⟩ := hk x.toInt (by omega) (by omega)
      exact absurd (Int32.toInt_inj.mp e.symm) (h k hm)
end ZG
theorem nm_x {α β : Type} {a : α} {f : α → β} {r : β} (h : nmk a f = r) : ∃ x, x = a ∧ f x = r := ⟨a, rfl, h⟩
theorem jb1 {α1 β : Type} {F j : α1 → β} (e : j = F) {x1 : α1} {r : β} (h : j x1 = r) : F x1 = r := by rw [← e]; exact h
theorem jb2 {α1 α2 β : Type} {F j : α1 → α2 → β} (e : j = F) {x1 : α1} {x2 : α2} {r : β} (h : j x1 x2 = r) : F x1 x2 = r := by rw [← e]; exact h
theorem jb3 {α1 α2 α3 β : Type} {F j : α1 → α2 → α3 → β} (e : j = F) {x1 : α1} {x2 : α2} {x3 : α3} {r : β} (h : j x1 x2 x3 = r) : F x1 x2 x3 = r := by rw [← e]; exact h
theorem jb4 {α1 α2 α3 α4 β : Type} {F j : α1 → α2 → α3 → α4 → β} (e : j = F) {x1 : α1} {x2 : α2} {x3 : α3} {x4 : α4} {r : β} (h : j x1 x2 x3 x4 = r) : F x1 x2 x3 x4 = r := by rw [← e]; exact h
theorem jb5 {α1 α2 α3 α4 α5 β : Type} {F j : α1 → α2 → α3 → α4 → α5 → β} (e : j = F) {x1 : α1} {x2 : α2} {x3 : α3} {x4 : α4} {x5 : α5} {r : β} (h : j x1 x2 x3 x4 x5 = r) : F x1 x2 x3 x4 x5 = r := by rw [← e]; exact h
theorem jb6 {α1 α2 α3 α4 α5 α6 β : Type} {F j : α1 → α2 → α3 → α4 → α5 → α6 → β} (e : j = F) {x1 : α1} {x2 : α2} {x3 : α3} {x4 : α4} {x5 : α5} {x6 : α6} {r : β} (h : j x1 x2 x3 x4 x5 x6 = r) : F x1 x2 x3 x4 x5 x6 = r := by rw [← e]; exact h
theorem jb7 {α1 α2 α3 α4 α5 α6 α7 β : Type} {F j : α1 → α2 → α3 → α4 → α5 → α6 → α7 → β} (e : j = F) {x1 : α1} {x2 : α2} {x3 : α3} {x4 : α4} {x5 : α5} {x6 : α6} {x7 : α7} {r : β} (h : j x1 x2 x3 x4 x5 x6 x7 = r) : F x1 x2 x3 x4 x5 x6 x7 = r := by rw [← e]; exact h
theorem jb8 {α1 α2 α3 α4 α5 α6 α7 α8 β : Type} {F j : α1 → α2 → α3 → α4 → α5 → α6 → α7 → α8 → β} (e : j = F) {x1 : α1} {x2 : α2} {x3 : α3} {x4 : α4} {x5 : α5} {x6 : α6} {x7 : α7} {x8 : α8} {r : β} (h : j x1 x2 x3 x4 x5 x6 x7 x8 = r) : F x1 x2 x3 x4 x5 x6 x7 x8 = r := by rw [← e]; exact h
theorem sw_all (lo : Int) (ks : List Int32) {hi : Int} (h : (decide (hi = lo + ks.length - 1) && (List.range ks.length).all (fun j => decide ((ks.getD j 0).toInt = lo + j))) = true) : ∀ i : Int, lo ≤ i → i ≤ hi → ∃ k ∈ ks, k.toInt = i := by
  intro i h1 h2
  simp only [Bool.and_eq_true, decide_eq_true_eq, List.all_eq_true, List.mem_range] at h
  obtain ⟨e, h⟩ := h
  have hj : (i - lo).toNat < ks.length := by omega
  refine ⟨ks.getD (i - lo).toNat 0, ?_, ?_⟩
  · rw [List.getD_eq_getElem?_getD, List.getElem?_eq_getElem hj]; exact List.getElem_mem hj
  · rw [h _ hj]; omega
def FU : Nat := 10000
