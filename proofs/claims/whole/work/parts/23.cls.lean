def f_X6_startAnew (w : CW) : CW := (nmk (rFill w 48 0) fun q5 => (nmk (rFill q5 49 0) fun q13 => (nmk (rPut q13 47 0 0) fun q22 => (nmk (sS q22 8 1) fun w27 => (nmk (sS w27 9 0) fun w32 => (w32))))))
abbrev rm_X6_startAnew : Room := { frames := 2, cells := 0, slots := 0, locals := 22 }
theorem cn_X6_startAnew : CN yX6_startAnew 0 := ⟨by decide +kernel, by decide +kernel, by decide +kernel⟩
set_option maxHeartbeats 4000000 in
set_option maxRecDepth 100000 in
theorem c_X6_startAnew (l : Launch) (G : GX) (w : CW) (q : CW) (hf : f_X6_startAnew w = q) : MV l G yX6_startAnew cX6_startAnew 1 rm_X6_startAnew [.ref (G.2.2.1 196)] (cA G) (cH G w) (cH G q) := by
  refine cM_start (by decide +kernel) (Nat.le_of_ble_eq_true rfl) ?_
  intro p e s m below meth c ls X hH hl
  have hS : va_S (cA G) s.heap s.heap [] := va_S.rf
  have hx := X.1.1
  have hb := X.1.2.1
  generalize hargs : ([.ref (G.2.2.1 196)] : List Value).toArray = args at X ⊢
  generalize hQ : MQ below (QV (cA G) (cH G q)) args s 0 0 (cA G) = Q
  have hl : lv_has ls 1 [(0, .ref (G.2.2.1 196))] := hl
  unfold f_X6_startAnew at hf
  refine lv_aload_n hx hb dX6_startAnew_0 rfl (lv_at hl 0 rfl) ?_
  refine co_get X hH 196 (by decide) eO196 rfl inBX6 10 (by decide) rfl bw398 dX6_startAnew_1 ?_
  refine lv_iconst (v := 0) hx hb dX6_startAnew_4 (by decide) ?_
  obtain ⟨q5, hq5, hf⟩ := nm_x hf
  have hq5 := hq5.symm
  refine cGv (cVrun (rest := []) X (cl_X5_fill l G w 48 (by decide) 0 q5 hq5) bw986 bw348 bw349 bw91 bw350 cn_X5_fill ⟨rfl, rfl, Nat.le_of_ble_eq_true rfl, Nat.le_of_ble_eq_true rfl⟩ (c_recR X hH (by decide)) cA_g hH hS hl rfl (Nat.le_of_ble_eq_true rfl) dX6_startAnew_5) hS (fun H locs hH hS => ?_)
  refine lv_aload_n hx hb dX6_startAnew_8 rfl (lv_at hl 0 rfl) ?_
  refine co_get X hH 196 (by decide) eO196 rfl inBX6 11 (by decide) rfl bw400 dX6_startAnew_9 ?_
  refine lv_iconst (v := 0) hx hb dX6_startAnew_12 (by decide) ?_
  obtain ⟨q13, hq13, hf⟩ := nm_x hf
  have hq13 := hq13.symm
  refine cGv (cVrun (rest := []) X (cl_X5_fill l G q5 49 (by decide) 0 q13 hq13) bw986 bw348 bw349 bw91 bw350 cn_X5_fill ⟨rfl, rfl, Nat.le_of_ble_eq_true rfl, Nat.le_of_ble_eq_true rfl⟩ (c_recR X hH (by decide)) cA_g hH hS hl rfl (Nat.le_of_ble_eq_true rfl) dX6_startAnew_13) hS (fun H locs hH hS => ?_)
  refine lv_aload_n hx hb dX6_startAnew_16 rfl (lv_at hl 0 rfl) ?_
  refine co_get X hH 196 (by decide) eO196 rfl inBX6 9 (by decide) rfl bw396 dX6_startAnew_17 ?_
  refine lv_iconst (v := 0) hx hb dX6_startAnew_20 (by decide) ?_
  refine lv_iconst (v := 0) hx hb dX6_startAnew_21 (by decide) ?_
  obtain ⟨q22, hq22, hf⟩ := nm_x hf
  have hq22 := hq22.symm
  refine cGv (cVrun (rest := []) X (cl_X5_put l G q13 47 (by decide) 0 0 q22 hq22) bw942 bw352 bw353 bw91 bw354 cn_X5_put ⟨rfl, rfl, Nat.le_of_ble_eq_true rfl, Nat.le_of_ble_eq_true rfl⟩ (c_recR X hH (by decide)) cA_g hH hS hl rfl (Nat.le_of_ble_eq_true rfl) dX6_startAnew_22) hS (fun H locs hH hS => ?_)
  refine lv_aload_n hx hb dX6_startAnew_25 rfl (lv_at hl 0 rfl) ?_
  refine lv_iconst (v := 1) hx hb dX6_startAnew_26 (by decide) ?_
  refine co_put (C := RX6) (N := 16) X hH hS 196 (by decide) eO196 rfl inBX6 tyX6 tyX6_ok nmX6 14 (by decide) bw405 rfl rfl rfl (by simp) (sS q22 8 1) rfl cE_s8 dX6_startAnew_27 (fun H locs hH hS => ?_)
  obtain ⟨w27, ew27⟩ : ∃ z : CW, z = (sS q22 8 1) := ⟨_, rfl⟩
  have hf := nm_s hf w27 ew27
  have hH : cH G w27 H := ew27 ▸ hH
  refine lv_aload_n hx hb dX6_startAnew_30 rfl (lv_at hl 0 rfl) ?_
  refine lv_iconst (v := 0) hx hb dX6_startAnew_31 (by decide) ?_
  refine co_put (C := RX6) (N := 16) X hH hS 196 (by decide) eO196 rfl inBX6 tyX6 tyX6_ok nmX6 15 (by decide) bw407 rfl rfl rfl (by simp) (sS w27 9 0) rfl cE_s9 dX6_startAnew_32 (fun H locs hH hS => ?_)
  obtain ⟨w32, ew32⟩ : ∃ z : CW, z = (sS w27 9 0) := ⟨_, rfl⟩
  have hf := nm_s hf w32 ew32
  have hH : cH G w32 H := ew32 ▸ hH
  subst hQ
  exact cEv X (cH1 (hf) hH) hS dX6_startAnew_35
def f_X6_bestChoice_L18 (w : CW) (a1 : Int32) (a2 : Int32) (a3 : Int32) (x13 : Int32) : Nat → Int32 → Option (Int32)
  | 0, _ => none
  | n18 + 1, v18_5 => (if (f_X5_size w 43) ≤ v18_5 then (some (-1)) else (if (f_X6_uglyBy w a1 a2 a3 v18_5) = x13 then (some v18_5) else (nmk (v18_5 + 1) fun (x47 : Int32) => (f_X6_bestChoice_L18 w a1 a2 a3 x13 n18 x47))))
def f_X6_bestChoice (w : CW) (a1 : Int32) (a2 : Int32) (a3 : Int32) : Option (Int32) := (nmk (rAt w 46 (f_X6_index a1 a2 a3)) fun (x13 : Int32) => (f_X6_bestChoice_L18 w a1 a2 a3 x13 FU 0))
abbrev rm_X6_bestChoice : Room := { frames := 3, cells := 0, slots := 0, locals := 71 }
theorem cn_X6_bestChoice : CN yX6_bestChoice 3 := ⟨by decide +kernel, by decide +kernel, by decide +kernel⟩
set_option maxHeartbeats 4000000 in
set_option maxRecDepth 100000 in
theorem c_X6_bestChoice (l : Launch) (G : GX) (w : CW) (a1 : Int32) (a2 : Int32) (a3 : Int32) (q : Int32) (hf : f_X6_bestChoice w a1 a2 a3 = some q) : MI l G yX6_bestChoice cX6_bestChoice 6 (some .int) rm_X6_bestChoice [.ref (G.2.2.1 196), .int a1, .int a2, .int a3] (cA G) (cH G w) (cH G w) q := by
  refine cM_start (by decide +kernel) (Nat.le_of_ble_eq_true rfl) ?_
  intro p e s m below meth c ls X hH hl
  have hS : va_S (cA G) s.heap s.heap [] := va_S.rf
  have hx := X.1.1
  have hb := X.1.2.1
  generalize hargs : ([.ref (G.2.2.1 196), .int a1, .int a2, .int a3] : List Value).toArray = args at X ⊢
  generalize hQ : MQ below (QI (cA G) (cH G w) q) args s 0 0 (cA G) = Q
  have hl : lv_has ls 6 [(0, .ref (G.2.2.1 196)), (1, .int a1), (2, .int a2), (3, .int a3)] := hl
  unfold f_X6_bestChoice at hf
  refine lv_aload_n hx hb dX6_bestChoice_0 rfl (lv_at hl 0 rfl) ?_
  refine co_get X hH 196 (by decide) eO196 rfl inBX6 8 (by decide) rfl bw395 dX6_bestChoice_1 ?_
  refine lv_iload_n hx hb dX6_bestChoice_4 rfl (lv_at hl 1 rfl) ?_
  refine lv_iload_n hx hb dX6_bestChoice_5 rfl (lv_at hl 2 rfl) ?_
  refine lv_iload_n hx hb dX6_bestChoice_6 rfl (lv_at hl 3 rfl) ?_
  refine cGi (cSrun (rest := [.ref (G.2.2.1 46)]) X (c_X6_index l G (cH G w) (cA G) cA_g a1 a2 a3 _ rfl) bw957 bw958 bw100 bw959 cn_X6_index ⟨rfl, rfl, Nat.le_of_ble_eq_true rfl, Nat.le_of_ble_eq_true rfl⟩ cA_g hH hS hl rfl (Nat.le_of_ble_eq_true rfl) dX6_bestChoice_7) hS (fun H locs hH hS => ?_)
  refine cGi (cVrun (rest := []) X (cl_X5_at l G w 46 (by decide) (f_X6_index a1 a2 a3) _ rfl) bw929 bw628 bw629 bw91 bw630 cn_X5_at ⟨rfl, rfl, Nat.le_of_ble_eq_true rfl, Nat.le_of_ble_eq_true rfl⟩ (c_recR X hH (by decide)) cA_g hH hS hl rfl (Nat.le_of_ble_eq_true rfl) dX6_bestChoice_10) hS (fun H locs hH hS => ?_)
  refine lv_topi (fun x13 ex13 => ?_)
  have hf := nm_s hf x13 ex13
  refine lv_istore (lv' := [(4, .int x13), (0, .ref (G.2.2.1 196)), (1, .int a1), (2, .int a2), (3, .int a3)]) hx hb dX6_bestChoice_13 hl (by decide) rfl (fun ls hl => ?_)
  refine lv_iconst (v := 0) hx hb dX6_bestChoice_15 (by decide) ?_
  refine lv_istore (lv' := [(5, .int 0), (4, .int x13), (0, .ref (G.2.2.1 196)), (1, .int a1), (2, .int a2), (3, .int a3)]) hx hb dX6_bestChoice_16 hl (by decide) rfl (fun ls hl => ?_)
  have hL18 : ∀ (n18 : Nat) (v18_5 : Int32) (H : Heap) (locs : List Loc) (ls : Array Slot), f_X6_bestChoice_L18 w a1 a2 a3 x13 n18 v18_5 = some q → cH G w H → va_S (cA G) s.heap H locs → lv_has ls 6 [(5, .int v18_5), (4, .int x13), (0, .ref (G.2.2.1 196)), (1, .int a1), (2, .int a2), (3, .int a3)] → W p l e rm_X6_bestChoice s m args below meth c H locs 0 0 Q (F0 m 18 ls []) := by
    intro n18
    induction n18 with
    | zero => intro v18_5 H locs ls hf; rw [f_X6_bestChoice_L18] at hf; cases hf
    | succ n18 ih18 =>
      intro v18_5 H locs ls hf hH hS hl
      rw [f_X6_bestChoice_L18] at hf
      refine lv_iload hx hb dX6_bestChoice_18 (lv_at hl 0 rfl) ?_
      refine lv_aload_n hx hb dX6_bestChoice_20 rfl (lv_at hl 2 rfl) ?_
      refine co_get X hH 196 (by decide) eO196 rfl inBX6 5 (by decide) rfl bw392 dX6_bestChoice_21 ?_
      refine cGi (cVrun (rest := [.int v18_5]) X (c_X5_size l G w 43 (by decide) _ rfl) bw928 bw624 bw625 bw91 bw626 cn_X5_size ⟨rfl, rfl, Nat.le_of_ble_eq_true rfl, Nat.le_of_ble_eq_true rfl⟩ (c_recR X hH (by decide)) cA_g hH hS hl rfl (Nat.le_of_ble_eq_true rfl) dX6_bestChoice_24) hS (fun H locs hH hS => ?_)
      refine lv_icmp_ge (tgt := 53) hx hb dX6_bestChoice_27 (by decide) (fun hc => ?_) (fun hc => ?_)
      · have hf := fo_t hc hf
        refine lv_iconst (v := (-1)) hx hb dX6_bestChoice_53 (by decide) ?_
        subst hQ
        exact cEi X hH hS (so_s hf) dX6_bestChoice_54
      have hf := fo_f hc hf
      refine lv_aload_n hx hb dX6_bestChoice_30 rfl (lv_at hl 2 rfl) ?_
      refine lv_iload_n hx hb dX6_bestChoice_31 rfl (lv_at hl 3 rfl) ?_
      refine lv_iload_n hx hb dX6_bestChoice_32 rfl (lv_at hl 4 rfl) ?_
      refine lv_iload_n hx hb dX6_bestChoice_33 rfl (lv_at hl 5 rfl) ?_
      refine lv_iload hx hb dX6_bestChoice_34 (lv_at hl 0 rfl) ?_
      refine cGi (cVrun (rest := []) X (c_X6_uglyBy l G w a1 a2 a3 v18_5 _ rfl) bw969 bw971 bw26 bw100 bw972 cn_X6_uglyBy ⟨rfl, rfl, Nat.le_of_ble_eq_true rfl, Nat.le_of_ble_eq_true rfl⟩ (c_rec X hH 196 (by decide) eO196 rfl) cA_g hH hS hl rfl (Nat.le_of_ble_eq_true rfl) dX6_bestChoice_36) hS (fun H locs hH hS => ?_)
      refine lv_iload hx hb dX6_bestChoice_39 (lv_at hl 1 rfl) ?_
      refine lv_icmp_ne (tgt := 47) hx hb dX6_bestChoice_41 (by decide) (fun hc => ?_) (fun hc => ?_)
      rotate_left
      · have hf := fo_t hc hf
        refine lv_iload hx hb dX6_bestChoice_44 (lv_at hl 0 rfl) ?_
        subst hQ
        exact cEi X hH hS (so_s hf) dX6_bestChoice_46
      have hf := fo_f hc hf
      obtain ⟨x47, ex47⟩ : ∃ z : Int32, z = (v18_5 + 1) := ⟨_, rfl⟩
      have hf := nm_s hf x47 ex47
      refine lv_iinc (v := x47) (lv' := [(5, .int x47), (4, .int x13), (0, .ref (G.2.2.1 196)), (1, .int a1), (2, .int a2), (3, .int a3)]) hx hb dX6_bestChoice_47 hl (k := 0) rfl (by rw [ex47]; rfl) (by decide) rfl (fun ls hl => ?_)
      refine lv_goto (tgt := 18) hx hb dX6_bestChoice_50 (by decide) ?_
      exact ih18 _ _ _ _ hf hH hS (lv_sub hl [0, 1, 2, 3, 4, 5] rfl)
  exact hL18 _ _ _ _ _ hf hH hS (lv_sub hl [0, 1, 2, 3, 4, 5] rfl)
def f_X6_endLine (w : CW) (a1 : Int32) : Int32 × CW := (nmk (a1 + 1) fun (x3 : Int32) => (nmk (fun (y23_2 : Int32) (w23_ : CW) => (nmk (rPut w23_ 47 (w23_.2.2 8) y23_2) fun q32 => (nmk (sS q32 8 ((q32.2.2 8) + 1)) fun w42 => ((y23_2, w42))))) fun j23 => (if (w.2.2 6) = 0 then (nmk (rAdd w 48 26 1) fun q18 => (j23 a1 q18)) else (j23 x3 w))))
abbrev rm_X6_endLine : Room := { frames := 3, cells := 0, slots := 0, locals := 44 }
theorem cn_X6_endLine : CN yX6_endLine 1 := ⟨by decide +kernel, by decide +kernel, by decide +kernel⟩
set_option maxHeartbeats 4000000 in
set_option maxRecDepth 100000 in
theorem c_X6_endLine (l : Launch) (G : GX) (w : CW) (a1 : Int32) (q : Int32 × CW) (hf : f_X6_endLine w a1 = q) : MI l G yX6_endLine cX6_endLine 3 (some .int) rm_X6_endLine [.ref (G.2.2.1 196), .int a1] (cA G) (cH G w) (cH G q.2) q.1 := by
  refine cM_start (by decide +kernel) (Nat.le_of_ble_eq_true rfl) ?_
  intro p e s m below meth c ls X hH hl
  have hS : va_S (cA G) s.heap s.heap [] := va_S.rf
  have hx := X.1.1
  have hb := X.1.2.1
  generalize hargs : ([.ref (G.2.2.1 196), .int a1] : List Value).toArray = args at X ⊢
  generalize hQ : MQ below (QI (cA G) (cH G q.2) q.1) args s 0 0 (cA G) = Q
  have hl : lv_has ls 3 [(0, .ref (G.2.2.1 196)), (1, .int a1)] := hl
  unfold f_X6_endLine at hf
  refine lv_iload_n hx hb dX6_endLine_0 rfl (lv_at hl 1 rfl) ?_
  refine lv_iconst (v := 1) hx hb dX6_endLine_1 (by decide) ?_
  refine lv_iadd hx hb dX6_endLine_2 ?_
  refine lv_topi (fun x3 ex3 => ?_)
  have hf := nm_s hf x3 ex3
  refine lv_istore_n (lv' := [(2, .int x3), (0, .ref (G.2.2.1 196)), (1, .int a1)]) hx hb dX6_endLine_3 rfl hl (by decide) rfl (fun ls hl => ?_)
  refine lv_aload_n hx hb dX6_endLine_4 rfl (lv_at hl 1 rfl) ?_
  refine co_get X hH 196 (by decide) eO196 rfl inBX6 12 (by decide) rfl bw401 dX6_endLine_5 ?_
  obtain ⟨j23, ej23, hf⟩ := nm_x hf
  have hj23 : ∀ (y23_2 : Int32) (w23_ : CW) (H : Heap) (locs : List Loc) (ls : Array Slot), j23 y23_2 w23_ = q → cH G w23_ H → va_S (cA G) s.heap H locs → lv_has ls 3 [(2, .int y23_2), (0, .ref (G.2.2.1 196))] → W p l e rm_X6_endLine s m args below meth c H locs 0 0 Q (F0 m 23 ls []) := by
    intro y23_2 w23_ H locs ls hf hH hS hl
    have hf := jb2 ej23 hf
    refine lv_aload_n hx hb dX6_endLine_23 rfl (lv_at hl 1 rfl) ?_
    refine co_get X hH 196 (by decide) eO196 rfl inBX6 9 (by decide) rfl bw396 dX6_endLine_24 ?_
    refine lv_aload_n hx hb dX6_endLine_27 rfl (lv_at hl 1 rfl) ?_
    refine co_get X hH 196 (by decide) eO196 rfl inBX6 14 (by decide) rfl bw405 dX6_endLine_28 ?_
    refine lv_iload_n hx hb dX6_endLine_31 rfl (lv_at hl 0 rfl) ?_
    obtain ⟨q32, hq32, hf⟩ := nm_x hf
    have hq32 := hq32.symm
    refine cGv (cVrun (rest := []) X (cl_X5_put l G w23_ 47 (by decide) (w23_.2.2 8) y23_2 q32 hq32) bw942 bw352 bw353 bw91 bw354 cn_X5_put ⟨rfl, rfl, Nat.le_of_ble_eq_true rfl, Nat.le_of_ble_eq_true rfl⟩ (c_recR X hH (by decide)) cA_g hH hS hl rfl (Nat.le_of_ble_eq_true rfl) dX6_endLine_32) hS (fun H locs hH hS => ?_)
    refine lv_aload_n hx hb dX6_endLine_35 rfl (lv_at hl 1 rfl) ?_
    refine lv_dup hx hb dX6_endLine_36 rfl ?_
    refine co_get X hH 196 (by decide) eO196 rfl inBX6 14 (by decide) rfl bw405 dX6_endLine_37 ?_
    refine lv_iconst (v := 1) hx hb dX6_endLine_40 (by decide) ?_
    refine lv_iadd hx hb dX6_endLine_41 ?_
    refine co_put (C := RX6) (N := 16) X hH hS 196 (by decide) eO196 rfl inBX6 tyX6 tyX6_ok nmX6 14 (by decide) bw405 rfl rfl rfl (by simp) (sS q32 8 ((q32.2.2 8) + 1)) rfl cE_s8 dX6_endLine_42 (fun H locs hH hS => ?_)
    obtain ⟨w42, ew42⟩ : ∃ z : CW, z = (sS q32 8 ((q32.2.2 8) + 1)) := ⟨_, rfl⟩
    have hf := nm_s hf w42 ew42
    have hH : cH G w42 H := ew42 ▸ hH
    refine lv_iload_n hx hb dX6_endLine_45 rfl (lv_at hl 0 rfl) ?_
    subst hQ
    exact cEi X (cH2 (hf) hH) hS (pf1 (hf)) dX6_endLine_46
  refine lv_if_ne (tgt := 23) hx hb dX6_endLine_8 (by decide) (fun hc => ?_) (fun hc => ?_)
  · have hf := fo_f hc hf
    exact hj23 _ _ _ _ _ hf hH hS (lv_sub hl [0, 1] rfl)
  have hf := fo_t hc hf
  refine lv_aload_n hx hb dX6_endLine_11 rfl (lv_at hl 1 rfl) ?_
  refine co_get X hH 196 (by decide) eO196 rfl inBX6 10 (by decide) rfl bw398 dX6_endLine_12 ?_
  refine lv_bipush (v := 26) hx hb dX6_endLine_15 (by decide) ?_
  refine lv_iconst (v := 1) hx hb dX6_endLine_17 (by decide) ?_
  obtain ⟨q18, hq18, hf⟩ := nm_x hf
  have hq18 := hq18.symm
  refine cGv (cVrun (rest := []) X (cl_X5_add l G w 48 (by decide) 26 1 q18 hq18) bw995 bw648 bw649 bw91 bw650 cn_X5_add ⟨rfl, rfl, Nat.le_of_ble_eq_true rfl, Nat.le_of_ble_eq_true rfl⟩ (c_recR X hH (by decide)) cA_g hH hS hl rfl (Nat.le_of_ble_eq_true rfl) dX6_endLine_18) hS (fun H locs hH hS => ?_)
  refine lv_iload_n hx hb dX6_endLine_21 rfl (lv_at hl 2 rfl) ?_
  refine lv_istore_n (lv' := [(2, .int a1), (0, .ref (G.2.2.1 196)), (1, .int a1)]) hx hb dX6_endLine_22 rfl hl (by decide) rfl (fun ls hl => ?_)
  exact hj23 _ _ _ _ _ hf hH hS (lv_sub hl [0, 1] rfl)
def f_X6_setPiece (w : CW) (a1 : Int32) (a2 : Int32) : Int32 × CW := (if a2 ≤ 1 then (if (w.2.2 6) = 0 then (nmk (rAdd w 48 (rAt w 40 a1) 1) fun q38 => (nmk (rPut q38 49 a1 1) fun q47 => (((a1 + a2), q47)))) else (((a1 + a2), w))) else (nmk (sS w 9 ((w.2.2 9) + 1)) fun w12 => (((a1 + a2), w12))))
abbrev rm_X6_setPiece : Room := { frames := 3, cells := 0, slots := 0, locals := 44 }
theorem cn_X6_setPiece : CN yX6_setPiece 2 := ⟨by decide +kernel, by decide +kernel, by decide +kernel⟩
set_option maxHeartbeats 4000000 in
set_option maxRecDepth 100000 in
theorem c_X6_setPiece (l : Launch) (G : GX) (w : CW) (a1 : Int32) (a2 : Int32) (q : Int32 × CW) (hf : f_X6_setPiece w a1 a2 = q) : MI l G yX6_setPiece cX6_setPiece 3 (some .int) rm_X6_setPiece [.ref (G.2.2.1 196), .int a1, .int a2] (cA G) (cH G w) (cH G q.2) q.1 := by
  refine cM_start (by decide +kernel) (Nat.le_of_ble_eq_true rfl) ?_
  intro p e s m below meth c ls X hH hl
  have hS : va_S (cA G) s.heap s.heap [] := va_S.rf
  have hx := X.1.1
  have hb := X.1.2.1
  generalize hargs : ([.ref (G.2.2.1 196), .int a1, .int a2] : List Value).toArray = args at X ⊢
  generalize hQ : MQ below (QI (cA G) (cH G q.2) q.1) args s 0 0 (cA G) = Q
  have hl : lv_has ls 3 [(0, .ref (G.2.2.1 196)), (1, .int a1), (2, .int a2)] := hl
  unfold f_X6_setPiece at hf
  refine lv_iload_n hx hb dX6_setPiece_0 rfl (lv_at hl 2 rfl) ?_
  refine lv_iconst (v := 1) hx hb dX6_setPiece_1 (by decide) ?_
  refine lv_icmp_le (tgt := 18) hx hb dX6_setPiece_2 (by decide) (fun hc => ?_) (fun hc => ?_)
  rotate_left
  · have hf := fo_f hc hf
    refine lv_aload_n hx hb dX6_setPiece_5 rfl (lv_at hl 0 rfl) ?_
    refine lv_dup hx hb dX6_setPiece_6 rfl ?_
    refine co_get X hH 196 (by decide) eO196 rfl inBX6 15 (by decide) rfl bw407 dX6_setPiece_7 ?_
    refine lv_iconst (v := 1) hx hb dX6_setPiece_10 (by decide) ?_
    refine lv_iadd hx hb dX6_setPiece_11 ?_
    refine co_put (C := RX6) (N := 16) X hH hS 196 (by decide) eO196 rfl inBX6 tyX6 tyX6_ok nmX6 15 (by decide) bw407 rfl rfl rfl (by simp) (sS w 9 ((w.2.2 9) + 1)) rfl cE_s9 dX6_setPiece_12 (fun H locs hH hS => ?_)
    obtain ⟨w12, ew12⟩ : ∃ z : CW, z = (sS w 9 ((w.2.2 9) + 1)) := ⟨_, rfl⟩
    have hf := nm_s hf w12 ew12
    have hH : cH G w12 H := ew12 ▸ hH
    refine lv_goto (tgt := 50) hx hb dX6_setPiece_15 (by decide) ?_
    refine lv_iload_n hx hb dX6_setPiece_50 rfl (lv_at hl 1 rfl) ?_
    refine lv_iload_n hx hb dX6_setPiece_51 rfl (lv_at hl 2 rfl) ?_
    refine lv_iadd hx hb dX6_setPiece_52 ?_
    subst hQ
    exact cEi X (cH2 (hf) hH) hS (pf1 (hf)) dX6_setPiece_53
  have hf := fo_t hc hf
  refine lv_aload_n hx hb dX6_setPiece_18 rfl (lv_at hl 0 rfl) ?_
  refine co_get X hH 196 (by decide) eO196 rfl inBX6 12 (by decide) rfl bw401 dX6_setPiece_19 ?_
  refine lv_if_ne (tgt := 50) hx hb dX6_setPiece_22 (by decide) (fun hc => ?_) (fun hc => ?_)
  · have hf := fo_f hc hf
    refine lv_iload_n hx hb dX6_setPiece_50 rfl (lv_at hl 1 rfl) ?_
    refine lv_iload_n hx hb dX6_setPiece_51 rfl (lv_at hl 2 rfl) ?_
    refine lv_iadd hx hb dX6_setPiece_52 ?_
    subst hQ
    exact cEi X (cH2 (hf) hH) hS (pf1 (hf)) dX6_setPiece_53
  have hf := fo_t hc hf
  refine lv_aload_n hx hb dX6_setPiece_25 rfl (lv_at hl 0 rfl) ?_
  refine co_get X hH 196 (by decide) eO196 rfl inBX6 10 (by decide) rfl bw398 dX6_setPiece_26 ?_
  refine lv_aload_n hx hb dX6_setPiece_29 rfl (lv_at hl 0 rfl) ?_
  refine co_get X hH 196 (by decide) eO196 rfl inBX6 2 (by decide) rfl bw388 dX6_setPiece_30 ?_
  refine lv_iload_n hx hb dX6_setPiece_33 rfl (lv_at hl 1 rfl) ?_
  refine cGi (cVrun (rest := [.ref (G.2.2.1 48)]) X (cl_X5_at l G w 40 (by decide) a1 _ rfl) bw929 bw628 bw629 bw91 bw630 cn_X5_at ⟨rfl, rfl, Nat.le_of_ble_eq_true rfl, Nat.le_of_ble_eq_true rfl⟩ (c_recR X hH (by decide)) cA_g hH hS hl rfl (Nat.le_of_ble_eq_true rfl) dX6_setPiece_34) hS (fun H locs hH hS => ?_)
  refine lv_iconst (v := 1) hx hb dX6_setPiece_37 (by decide) ?_
  obtain ⟨q38, hq38, hf⟩ := nm_x hf
  have hq38 := hq38.symm
  refine cGv (cVrun (rest := []) X (cl_X5_add l G w 48 (by decide) (rAt w 40 a1) 1 q38 hq38) bw995 bw648 bw649 bw91 bw650 cn_X5_add ⟨rfl, rfl, Nat.le_of_ble_eq_true rfl, Nat.le_of_ble_eq_true rfl⟩ (c_recR X hH (by decide)) cA_g hH hS hl rfl (Nat.le_of_ble_eq_true rfl) dX6_setPiece_38) hS (fun H locs hH hS => ?_)
  refine lv_aload_n hx hb dX6_setPiece_41 rfl (lv_at hl 0 rfl) ?_
  refine co_get X hH 196 (by decide) eO196 rfl inBX6 11 (by decide) rfl bw400 dX6_setPiece_42 ?_
  refine lv_iload_n hx hb dX6_setPiece_45 rfl (lv_at hl 1 rfl) ?_
  refine lv_iconst (v := 1) hx hb dX6_setPiece_46 (by decide) ?_
  obtain ⟨q47, hq47, hf⟩ := nm_x hf
  have hq47 := hq47.symm
  refine cGv (cVrun (rest := []) X (cl_X5_put l G q38 49 (by decide) a1 1 q47 hq47) bw942 bw352 bw353 bw91 bw354 cn_X5_put ⟨rfl, rfl, Nat.le_of_ble_eq_true rfl, Nat.le_of_ble_eq_true rfl⟩ (c_recR X hH (by decide)) cA_g hH hS hl rfl (Nat.le_of_ble_eq_true rfl) dX6_setPiece_47) hS (fun H locs hH hS => ?_)
  refine lv_iload_n hx hb dX6_setPiece_50 rfl (lv_at hl 1 rfl) ?_
  refine lv_iload_n hx hb dX6_setPiece_51 rfl (lv_at hl 2 rfl) ?_
  refine lv_iadd hx hb dX6_setPiece_52 ?_
  subst hQ
  exact cEi X (cH2 (hf) hH) hS (pf1 (hf)) dX6_setPiece_53
def f_X6_setOut_L13  : Nat → Int32 → Int32 → Int32 → Int32 → CW → Option (CW)
  | 0, _, _, _, _, _ => none
  | n13 + 1, v13_1, v13_2, v13_3, v13_4, w13_ => (if 120 ≤ v13_4 then (some w13_) else (if (f_X5_size w13_ 40) ≤ v13_1 then (some w13_) else (Option.bind (f_X6_listChoices w13_ v13_1) fun q33 => (Option.bind (f_X6_bestChoice q33 v13_1 v13_2 v13_3) fun q40 => (nmk (fun (y96_1 : Int32) (y96_2 : Int32) (y96_3 : Int32) (w96_ : CW) => (nmk (v13_4 + 1) fun (x96 : Int32) => (f_X6_setOut_L13 n13 y96_1 y96_2 y96_3 x96 w96_))) fun j96 => (if 0 ≤ q40 then (nmk (v13_2 + (rAt q33 44 q40)) fun (x74 : Int32) => (nmk (f_X6_piecesBehind q33 v13_3) fun (x80 : Int32) => (nmk (f_X6_setPiece q33 v13_1 (rAt q33 43 q40)) fun q92 => (j96 q92.1 x74 x80 q92.2)))) else (nmk (f_X6_endLine q33 v13_1) fun q52 => (j96 q52.1 0 0 q52.2))))))))
def f_X6_setOut (w : CW) : Option (CW) := (nmk (f_X6_startAnew w) fun q1 => (f_X6_setOut_L13 FU 0 0 0 0 q1))
abbrev rm_X6_setOut : Room := { frames := 4, cells := 0, slots := 0, locals := 96 }
theorem cn_X6_setOut : CN yX6_setOut 0 := ⟨by decide +kernel, by decide +kernel, by decide +kernel⟩
set_option maxHeartbeats 4000000 in
set_option maxRecDepth 100000 in
theorem c_X6_setOut (l : Launch) (G : GX) (w : CW) (q : CW) (hf : f_X6_setOut w = some q) : MV l G yX6_setOut cX6_setOut 6 rm_X6_setOut [.ref (G.2.2.1 196)] (cA G) (cH G w) (cH G q) := by
  refine cM_start (by decide +kernel) (Nat.le_of_ble_eq_true rfl) ?_
  intro p e s m below meth c ls X hH hl
  have hS : va_S (cA G) s.heap s.heap [] := va_S.rf
  have hx := X.1.1
  have hb := X.1.2.1
  generalize hargs : ([.ref (G.2.2.1 196)] : List Value).toArray = args at X ⊢
  generalize hQ : MQ below (QV (cA G) (cH G q)) args s 0 0 (cA G) = Q
  have hl : lv_has ls 6 [(0, .ref (G.2.2.1 196))] := hl
  unfold f_X6_setOut at hf
  refine lv_aload_n hx hb dX6_setOut_0 rfl (lv_at hl 0 rfl) ?_
  obtain ⟨q1, hq1, hf⟩ := nm_x hf
  have hq1 := hq1.symm
  refine cGv (cVrun (rest := []) X (c_X6_startAnew l G w q1 hq1) bw982 bw984 bw29 bw100 bw985 cn_X6_startAnew ⟨rfl, rfl, Nat.le_of_ble_eq_true rfl, Nat.le_of_ble_eq_true rfl⟩ (c_rec X hH 196 (by decide) eO196 rfl) cA_g hH hS hl rfl (Nat.le_of_ble_eq_true rfl) dX6_setOut_1) hS (fun H locs hH hS => ?_)
  refine lv_iconst (v := 0) hx hb dX6_setOut_4 (by decide) ?_
  refine lv_istore_n (lv' := [(1, .int 0), (0, .ref (G.2.2.1 196))]) hx hb dX6_setOut_5 rfl hl (by decide) rfl (fun ls hl => ?_)
  refine lv_iconst (v := 0) hx hb dX6_setOut_6 (by decide) ?_
  refine lv_istore_n (lv' := [(2, .int 0), (1, .int 0), (0, .ref (G.2.2.1 196))]) hx hb dX6_setOut_7 rfl hl (by decide) rfl (fun ls hl => ?_)
  refine lv_iconst (v := 0) hx hb dX6_setOut_8 (by decide) ?_
  refine lv_istore_n (lv' := [(3, .int 0), (2, .int 0), (1, .int 0), (0, .ref (G.2.2.1 196))]) hx hb dX6_setOut_9 rfl hl (by decide) rfl (fun ls hl => ?_)
  refine lv_iconst (v := 0) hx hb dX6_setOut_10 (by decide) ?_
  refine lv_istore (lv' := [(4, .int 0), (3, .int 0), (2, .int 0), (1, .int 0), (0, .ref (G.2.2.1 196))]) hx hb dX6_setOut_11 hl (by decide) rfl (fun ls hl => ?_)
  have hL13 : ∀ (n13 : Nat) (v13_1 : Int32) (v13_2 : Int32) (v13_3 : Int32) (v13_4 : Int32) (w13_ : CW) (H : Heap) (locs : List Loc) (ls : Array Slot), f_X6_setOut_L13 n13 v13_1 v13_2 v13_3 v13_4 w13_ = some q → cH G w13_ H → va_S (cA G) s.heap H locs → lv_has ls 6 [(4, .int v13_4), (3, .int v13_3), (2, .int v13_2), (1, .int v13_1), (0, .ref (G.2.2.1 196))] → W p l e rm_X6_setOut s m args below meth c H locs 0 0 Q (F0 m 13 ls []) := by
    intro n13
    induction n13 with
    | zero => intro v13_1 v13_2 v13_3 v13_4 w13_ H locs ls hf; rw [f_X6_setOut_L13] at hf; cases hf
    | succ n13 ih13 =>
      intro v13_1 v13_2 v13_3 v13_4 w13_ H locs ls hf hH hS hl
      rw [f_X6_setOut_L13] at hf
      refine lv_iload hx hb dX6_setOut_13 (lv_at hl 0 rfl) ?_
      refine lv_bipush (v := 120) hx hb dX6_setOut_15 (by decide) ?_
      refine lv_icmp_ge (tgt := 102) hx hb dX6_setOut_17 (by decide) (fun hc => ?_) (fun hc => ?_)
      · have hf := fo_t hc hf
        subst hQ
        exact cEv X (cH1 (so_s hf) hH) hS dX6_setOut_102
      have hf := fo_f hc hf
      refine lv_iload_n hx hb dX6_setOut_20 rfl (lv_at hl 3 rfl) ?_
      refine lv_aload_n hx hb dX6_setOut_21 rfl (lv_at hl 4 rfl) ?_
      refine co_get X hH 196 (by decide) eO196 rfl inBX6 2 (by decide) rfl bw388 dX6_setOut_22 ?_
      refine cGi (cVrun (rest := [.int v13_1]) X (c_X5_size l G w13_ 40 (by decide) _ rfl) bw928 bw624 bw625 bw91 bw626 cn_X5_size ⟨rfl, rfl, Nat.le_of_ble_eq_true rfl, Nat.le_of_ble_eq_true rfl⟩ (c_recR X hH (by decide)) cA_g hH hS hl rfl (Nat.le_of_ble_eq_true rfl) dX6_setOut_25) hS (fun H locs hH hS => ?_)
      refine lv_icmp_ge (tgt := 102) hx hb dX6_setOut_28 (by decide) (fun hc => ?_) (fun hc => ?_)
      · have hf := fo_t hc hf
        subst hQ
        exact cEv X (cH1 (so_s hf) hH) hS dX6_setOut_102
      have hf := fo_f hc hf
      refine lv_aload_n hx hb dX6_setOut_31 rfl (lv_at hl 4 rfl) ?_
      refine lv_iload_n hx hb dX6_setOut_32 rfl (lv_at hl 3 rfl) ?_
      obtain ⟨q33, hq33, hf⟩ := bd_s hf
      refine cGv (cVrun (rest := []) X (c_X6_listChoices l G w13_ v13_1 q33 hq33) bw947 bw949 bw22 bw100 bw950 cn_X6_listChoices ⟨rfl, rfl, Nat.le_of_ble_eq_true rfl, Nat.le_of_ble_eq_true rfl⟩ (c_rec X hH 196 (by decide) eO196 rfl) cA_g hH hS hl rfl (Nat.le_of_ble_eq_true rfl) dX6_setOut_33) hS (fun H locs hH hS => ?_)
      refine lv_aload_n hx hb dX6_setOut_36 rfl (lv_at hl 4 rfl) ?_
      refine lv_iload_n hx hb dX6_setOut_37 rfl (lv_at hl 3 rfl) ?_
      refine lv_iload_n hx hb dX6_setOut_38 rfl (lv_at hl 2 rfl) ?_
      refine lv_iload_n hx hb dX6_setOut_39 rfl (lv_at hl 1 rfl) ?_
      obtain ⟨q40, hq40, hf⟩ := bd_s hf
      refine cGi (cVrun (rest := []) X (c_X6_bestChoice l G q33 v13_1 v13_2 v13_3 q40 hq40) bw987 bw989 bw30 bw100 bw990 cn_X6_bestChoice ⟨rfl, rfl, Nat.le_of_ble_eq_true rfl, Nat.le_of_ble_eq_true rfl⟩ (c_rec X hH 196 (by decide) eO196 rfl) cA_g hH hS hl rfl (Nat.le_of_ble_eq_true rfl) dX6_setOut_40) hS (fun H locs hH hS => ?_)
      refine lv_istore (lv' := [(5, .int q40), (4, .int v13_4), (3, .int v13_3), (2, .int v13_2), (1, .int v13_1), (0, .ref (G.2.2.1 196))]) hx hb dX6_setOut_43 hl (by decide) rfl (fun ls hl => ?_)
      refine lv_iload hx hb dX6_setOut_45 (lv_at hl 0 rfl) ?_
      obtain ⟨j96, ej96, hf⟩ := nm_x hf
      have hj96 : ∀ (y96_1 : Int32) (y96_2 : Int32) (y96_3 : Int32) (w96_ : CW) (H : Heap) (locs : List Loc) (ls : Array Slot), j96 y96_1 y96_2 y96_3 w96_ = some q → cH G w96_ H → va_S (cA G) s.heap H locs → lv_has ls 6 [(4, .int v13_4), (3, .int y96_3), (2, .int y96_2), (1, .int y96_1), (0, .ref (G.2.2.1 196))] → W p l e rm_X6_setOut s m args below meth c H locs 0 0 Q (F0 m 96 ls []) := by
        intro y96_1 y96_2 y96_3 w96_ H locs ls hf hH hS hl
        have hf := jb4 ej96 hf
        obtain ⟨x96, ex96⟩ : ∃ z : Int32, z = (v13_4 + 1) := ⟨_, rfl⟩
        have hf := nm_s hf x96 ex96
        refine lv_iinc (v := x96) (lv' := [(4, .int x96), (3, .int y96_3), (2, .int y96_2), (1, .int y96_1), (0, .ref (G.2.2.1 196))]) hx hb dX6_setOut_96 hl (k := 0) rfl (by rw [ex96]; rfl) (by decide) rfl (fun ls hl => ?_)
        refine lv_goto (tgt := 13) hx hb dX6_setOut_99 (by decide) ?_
        exact ih13 _ _ _ _ _ _ _ _ hf hH hS (lv_sub hl [0, 1, 2, 3, 4] rfl)
      refine lv_if_ge (tgt := 63) hx hb dX6_setOut_47 (by decide) (fun hc => ?_) (fun hc => ?_)
      rotate_left
      · have hf := fo_f hc hf
        refine lv_aload_n hx hb dX6_setOut_50 rfl (lv_at hl 5 rfl) ?_
        refine lv_iload_n hx hb dX6_setOut_51 rfl (lv_at hl 4 rfl) ?_
        obtain ⟨q52, hq52, hf⟩ := nm_x hf
        have hq52 := hq52.symm
        refine cGi (cVrun (rest := []) X (c_X6_endLine l G q33 v13_1 q52 hq52) bw991 bw993 bw31 bw100 bw994 cn_X6_endLine ⟨rfl, rfl, Nat.le_of_ble_eq_true rfl, Nat.le_of_ble_eq_true rfl⟩ (c_rec X hH 196 (by decide) eO196 rfl) cA_g hH hS hl rfl (Nat.le_of_ble_eq_true rfl) dX6_setOut_52) hS (fun H locs hH hS => ?_)
        refine lv_istore_n (lv' := [(1, .int q52.1), (5, .int q40), (4, .int v13_4), (3, .int v13_3), (2, .int v13_2), (0, .ref (G.2.2.1 196))]) hx hb dX6_setOut_55 rfl hl (by decide) rfl (fun ls hl => ?_)
        refine lv_iconst (v := 0) hx hb dX6_setOut_56 (by decide) ?_
        refine lv_istore_n (lv' := [(2, .int 0), (1, .int q52.1), (5, .int q40), (4, .int v13_4), (3, .int v13_3), (0, .ref (G.2.2.1 196))]) hx hb dX6_setOut_57 rfl hl (by decide) rfl (fun ls hl => ?_)
        refine lv_iconst (v := 0) hx hb dX6_setOut_58 (by decide) ?_
        refine lv_istore_n (lv' := [(3, .int 0), (2, .int 0), (1, .int q52.1), (5, .int q40), (4, .int v13_4), (0, .ref (G.2.2.1 196))]) hx hb dX6_setOut_59 rfl hl (by decide) rfl (fun ls hl => ?_)
        refine lv_goto (tgt := 96) hx hb dX6_setOut_60 (by decide) ?_
        exact hj96 _ _ _ _ _ _ _ hf hH hS (lv_sub hl [4, 0, 1, 2, 5] rfl)
      have hf := fo_t hc hf
      refine lv_iload_n hx hb dX6_setOut_63 rfl (lv_at hl 3 rfl) ?_
      refine lv_aload_n hx hb dX6_setOut_64 rfl (lv_at hl 5 rfl) ?_
      refine co_get X hH 196 (by decide) eO196 rfl inBX6 6 (by decide) rfl bw393 dX6_setOut_65 ?_
      refine lv_iload hx hb dX6_setOut_68 (lv_at hl 0 rfl) ?_
      refine cGi (cVrun (rest := [.int v13_2]) X (cl_X5_at l G q33 44 (by decide) q40 _ rfl) bw929 bw628 bw629 bw91 bw630 cn_X5_at ⟨rfl, rfl, Nat.le_of_ble_eq_true rfl, Nat.le_of_ble_eq_true rfl⟩ (c_recR X hH (by decide)) cA_g hH hS hl rfl (Nat.le_of_ble_eq_true rfl) dX6_setOut_70) hS (fun H locs hH hS => ?_)
      refine lv_iadd hx hb dX6_setOut_73 ?_
      refine lv_topi (fun x74 ex74 => ?_)
      have hf := nm_s hf x74 ex74
      refine lv_istore_n (lv' := [(2, .int x74), (5, .int q40), (4, .int v13_4), (3, .int v13_3), (1, .int v13_1), (0, .ref (G.2.2.1 196))]) hx hb dX6_setOut_74 rfl hl (by decide) rfl (fun ls hl => ?_)
      refine lv_aload_n hx hb dX6_setOut_75 rfl (lv_at hl 5 rfl) ?_
      refine lv_iload_n hx hb dX6_setOut_76 rfl (lv_at hl 3 rfl) ?_
      refine cGi (cVrun (rest := []) X (c_X6_piecesBehind l G q33 v13_3 _ rfl) bw973 bw975 bw27 bw100 bw976 cn_X6_piecesBehind ⟨rfl, rfl, Nat.le_of_ble_eq_true rfl, Nat.le_of_ble_eq_true rfl⟩ (c_rec X hH 196 (by decide) eO196 rfl) cA_g hH hS hl rfl (Nat.le_of_ble_eq_true rfl) dX6_setOut_77) hS (fun H locs hH hS => ?_)
      refine lv_topi (fun x80 ex80 => ?_)
      have hf := nm_s hf x80 ex80
      refine lv_istore_n (lv' := [(3, .int x80), (2, .int x74), (5, .int q40), (4, .int v13_4), (1, .int v13_1), (0, .ref (G.2.2.1 196))]) hx hb dX6_setOut_80 rfl hl (by decide) rfl (fun ls hl => ?_)
      refine lv_aload_n hx hb dX6_setOut_81 rfl (lv_at hl 5 rfl) ?_
      refine lv_iload_n hx hb dX6_setOut_82 rfl (lv_at hl 4 rfl) ?_
      refine lv_aload_n hx hb dX6_setOut_83 rfl (lv_at hl 5 rfl) ?_
      refine co_get X hH 196 (by decide) eO196 rfl inBX6 5 (by decide) rfl bw392 dX6_setOut_84 ?_
      refine lv_iload hx hb dX6_setOut_87 (lv_at hl 2 rfl) ?_
      refine cGi (cVrun (rest := [.int v13_1, .ref (G.2.2.1 196)]) X (cl_X5_at l G q33 43 (by decide) q40 _ rfl) bw929 bw628 bw629 bw91 bw630 cn_X5_at ⟨rfl, rfl, Nat.le_of_ble_eq_true rfl, Nat.le_of_ble_eq_true rfl⟩ (c_recR X hH (by decide)) cA_g hH hS hl rfl (Nat.le_of_ble_eq_true rfl) dX6_setOut_89) hS (fun H locs hH hS => ?_)
      obtain ⟨q92, hq92, hf⟩ := nm_x hf
      have hq92 := hq92.symm
      refine cGi (cVrun (rest := []) X (c_X6_setPiece l G q33 v13_1 (rAt q33 43 q40) q92 hq92) bw996 bw998 bw32 bw100 bw999 cn_X6_setPiece ⟨rfl, rfl, Nat.le_of_ble_eq_true rfl, Nat.le_of_ble_eq_true rfl⟩ (c_rec X hH 196 (by decide) eO196 rfl) cA_g hH hS hl rfl (Nat.le_of_ble_eq_true rfl) dX6_setOut_92) hS (fun H locs hH hS => ?_)
      refine lv_istore_n (lv' := [(1, .int q92.1), (3, .int x80), (2, .int x74), (5, .int q40), (4, .int v13_4), (0, .ref (G.2.2.1 196))]) hx hb dX6_setOut_95 rfl hl (by decide) rfl (fun ls hl => ?_)
      exact hj96 _ _ _ _ _ _ _ hf hH hS (lv_sub hl [4, 1, 2, 0, 5] rfl)
  exact hL13 _ _ _ _ _ _ _ _ _ hf hH hS (lv_sub hl [0, 1, 2, 3, 4] rfl)
def f_X6_find_L12 (j27 : CW → Option (Int32 × CW)) : Nat → Int32 → CW → Option (Int32 × CW)
  | 0, _, _ => none
  | n12 + 1, v12_1, w12_ => (if v12_1 < 0 then (j27 w12_) else (Option.bind (f_X6_reckonPlace w12_ v12_1) fun q18 => (nmk (v12_1 + (-1)) fun (x21 : Int32) => (f_X6_find_L12 j27 n12 x21 q18))))
def f_X6_find (w : CW) : Option (Int32 × CW) := (Option.bind (f_X6_findForms w) fun q1 => (nmk (f_X5_size q1 40) fun (x11 : Int32) => (nmk (fun (w27_ : CW) => (nmk (sS w27_ 7 (rAt w27_ 46 0)) fun w36 => (if (w36.2.2 7) < 1000000 then (Option.bind (f_X6_setOut w36) fun q51 => (some (1, q51))) else (some (0, w36))))) fun j27 => (f_X6_find_L12 j27 FU x11 q1))))
abbrev rm_X6_find : Room := { frames := 5, cells := 0, slots := 0, locals := 121 }
theorem cn_X6_find : CN yX6_find 0 := ⟨by decide +kernel, by decide +kernel, by decide +kernel⟩
set_option maxHeartbeats 4000000 in
set_option maxRecDepth 100000 in
theorem c_X6_find (l : Launch) (G : GX) (w : CW) (q : Int32 × CW) (hf : f_X6_find w = some q) : MZ l G yX6_find cX6_find 2 (some .boolean) rm_X6_find [.ref (G.2.2.1 196)] (cA G) (cH G w) (cH G q.2) q.1 := by
  refine cM_start (by decide +kernel) (Nat.le_of_ble_eq_true rfl) ?_
  intro p e s m below meth c ls X hH hl
  have hS : va_S (cA G) s.heap s.heap [] := va_S.rf
  have hx := X.1.1
  have hb := X.1.2.1
  generalize hargs : ([.ref (G.2.2.1 196)] : List Value).toArray = args at X ⊢
  generalize hQ : MQ below (QZ (cA G) (cH G q.2) q.1) args s 0 0 (cA G) = Q
  have hl : lv_has ls 2 [(0, .ref (G.2.2.1 196))] := hl
  unfold f_X6_find at hf
  refine lv_aload_n hx hb dX6_find_0 rfl (lv_at hl 0 rfl) ?_
  obtain ⟨q1, hq1, hf⟩ := bd_s hf
  refine cGv (cVrun (rest := []) X (c_X6_findForms l G w q1 hq1) bw924 bw926 bw18 bw100 bw927 cn_X6_findForms ⟨rfl, rfl, Nat.le_of_ble_eq_true rfl, Nat.le_of_ble_eq_true rfl⟩ (c_rec X hH 196 (by decide) eO196 rfl) cA_g hH hS hl rfl (Nat.le_of_ble_eq_true rfl) dX6_find_1) hS (fun H locs hH hS => ?_)
  refine lv_aload_n hx hb dX6_find_4 rfl (lv_at hl 0 rfl) ?_
  refine co_get X hH 196 (by decide) eO196 rfl inBX6 2 (by decide) rfl bw388 dX6_find_5 ?_
  refine cGi (cVrun (rest := []) X (c_X5_size l G q1 40 (by decide) _ rfl) bw928 bw624 bw625 bw91 bw626 cn_X5_size ⟨rfl, rfl, Nat.le_of_ble_eq_true rfl, Nat.le_of_ble_eq_true rfl⟩ (c_recR X hH (by decide)) cA_g hH hS hl rfl (Nat.le_of_ble_eq_true rfl) dX6_find_8) hS (fun H locs hH hS => ?_)
  refine lv_topi (fun x11 ex11 => ?_)
  have hf := nm_s hf x11 ex11
  refine lv_istore_n (lv' := [(1, .int x11), (0, .ref (G.2.2.1 196))]) hx hb dX6_find_11 rfl hl (by decide) rfl (fun ls hl => ?_)
  obtain ⟨j27, ej27, hf⟩ := nm_x hf
  have hj27 : ∀ (w27_ : CW) (H : Heap) (locs : List Loc) (ls : Array Slot), j27 w27_ = some q → cH G w27_ H → va_S (cA G) s.heap H locs → lv_has ls 2 [(0, .ref (G.2.2.1 196))] → W p l e rm_X6_find s m args below meth c H locs 0 0 Q (F0 m 27 ls []) := by
    intro w27_ H locs ls hf hH hS hl
    have hf := jb1 ej27 hf
    refine lv_aload_n hx hb dX6_find_27 rfl (lv_at hl 0 rfl) ?_
    refine lv_aload_n hx hb dX6_find_28 rfl (lv_at hl 0 rfl) ?_
    refine co_get X hH 196 (by decide) eO196 rfl inBX6 8 (by decide) rfl bw395 dX6_find_29 ?_
    refine lv_iconst (v := 0) hx hb dX6_find_32 (by decide) ?_
    refine cGi (cVrun (rest := [.ref (G.2.2.1 196)]) X (cl_X5_at l G w27_ 46 (by decide) 0 _ rfl) bw929 bw628 bw629 bw91 bw630 cn_X5_at ⟨rfl, rfl, Nat.le_of_ble_eq_true rfl, Nat.le_of_ble_eq_true rfl⟩ (c_recR X hH (by decide)) cA_g hH hS hl rfl (Nat.le_of_ble_eq_true rfl) dX6_find_33) hS (fun H locs hH hS => ?_)
    refine co_put (C := RX6) (N := 16) X hH hS 196 (by decide) eO196 rfl inBX6 tyX6 tyX6_ok nmX6 13 (by decide) bw402 rfl rfl rfl (by simp) (sS w27_ 7 (rAt w27_ 46 0)) rfl cE_s7 dX6_find_36 (fun H locs hH hS => ?_)
    obtain ⟨w36, ew36⟩ : ∃ z : CW, z = (sS w27_ 7 (rAt w27_ 46 0)) := ⟨_, rfl⟩
    have hf := nm_s hf w36 ew36
    have hH : cH G w36 H := ew36 ▸ hH
    refine lv_aload_n hx hb dX6_find_39 rfl (lv_at hl 0 rfl) ?_
    refine co_get X hH 196 (by decide) eO196 rfl inBX6 13 (by decide) rfl bw402 dX6_find_40 ?_
    refine lv_ldc (v := 1000000) hx hb X.1.2.2.2.1 (X.w bw968) dX6_find_43 ?_
    refine lv_icmp_lt (tgt := 50) hx hb dX6_find_45 (by decide) (fun hc => ?_) (fun hc => ?_)
    rotate_left
    · have hf := fo_f hc hf
      refine lv_iconst (v := 0) hx hb dX6_find_48 (by decide) ?_
      subst hQ
      exact cEzz X (cH2 (so_s hf) hH) hS (pf1 (so_s hf)) zb0 dX6_find_49
    have hf := fo_t hc hf
    refine lv_aload_n hx hb dX6_find_50 rfl (lv_at hl 0 rfl) ?_
    obtain ⟨q51, hq51, hf⟩ := bd_s hf
    refine cGv (cVrun (rest := []) X (c_X6_setOut l G w36 q51 hq51) bw978 bw980 bw28 bw100 bw981 cn_X6_setOut ⟨rfl, rfl, Nat.le_of_ble_eq_true rfl, Nat.le_of_ble_eq_true rfl⟩ (c_rec X hH 196 (by decide) eO196 rfl) cA_g hH hS hl rfl (Nat.le_of_ble_eq_true rfl) dX6_find_51) hS (fun H locs hH hS => ?_)
    refine lv_iconst (v := 1) hx hb dX6_find_54 (by decide) ?_
    subst hQ
    exact cEzz X (cH2 (so_s hf) hH) hS (pf1 (so_s hf)) zb1 dX6_find_55
  have hL12 : ∀ (n12 : Nat) (v12_1 : Int32) (w12_ : CW) (H : Heap) (locs : List Loc) (ls : Array Slot), f_X6_find_L12 j27 n12 v12_1 w12_ = some q → cH G w12_ H → va_S (cA G) s.heap H locs → lv_has ls 2 [(1, .int v12_1), (0, .ref (G.2.2.1 196))] → W p l e rm_X6_find s m args below meth c H locs 0 0 Q (F0 m 12 ls []) := by
    intro n12
    induction n12 with
    | zero => intro v12_1 w12_ H locs ls hf; rw [f_X6_find_L12] at hf; cases hf
    | succ n12 ih12 =>
      intro v12_1 w12_ H locs ls hf hH hS hl
      rw [f_X6_find_L12] at hf
      refine lv_iload_n hx hb dX6_find_12 rfl (lv_at hl 0 rfl) ?_
      refine lv_if_lt (tgt := 27) hx hb dX6_find_13 (by decide) (fun hc => ?_) (fun hc => ?_)
      · have hf := fo_t hc hf
        exact hj27 _ _ _ _ hf hH hS (lv_sub hl [1] rfl)
      have hf := fo_f hc hf
      refine lv_aload_n hx hb dX6_find_16 rfl (lv_at hl 1 rfl) ?_
      refine lv_iload_n hx hb dX6_find_17 rfl (lv_at hl 0 rfl) ?_
      obtain ⟨q18, hq18, hf⟩ := bd_s hf
      refine cGv (cVrun (rest := []) X (c_X6_reckonPlace l G w12_ v12_1 q18 hq18) bw943 bw945 bw21 bw100 bw946 cn_X6_reckonPlace ⟨rfl, rfl, Nat.le_of_ble_eq_true rfl, Nat.le_of_ble_eq_true rfl⟩ (c_rec X hH 196 (by decide) eO196 rfl) cA_g hH hS hl rfl (Nat.le_of_ble_eq_true rfl) dX6_find_18) hS (fun H locs hH hS => ?_)
      obtain ⟨x21, ex21⟩ : ∃ z : Int32, z = (v12_1 + (-1)) := ⟨_, rfl⟩
      have hf := nm_s hf x21 ex21
      refine lv_iinc (v := x21) (lv' := [(1, .int x21), (0, .ref (G.2.2.1 196))]) hx hb dX6_find_21 hl (k := 0) rfl (by rw [ex21]; rfl) (by decide) rfl (fun ls hl => ?_)
      refine lv_goto (tgt := 12) hx hb dX6_find_24 (by decide) ?_
      exact ih12 _ _ _ _ _ hf hH hS (lv_sub hl [0, 1] rfl)
  exact hL12 _ _ _ _ _ _ hf hH hS (lv_sub hl [0, 1] rfl)
def f_X6_standsAlone_L6 (w : CW) (a1 : Int32) (a2 : Int32) (a3 : Int32) : Nat → Int32 → Int32 → Option (Int32)
  | 0, _, _ => none
  | n6 + 1, v6_4, v6_5 => (if (a1 + a2) ≤ v6_5 then (if (v6_4 = 0 ∨ v6_4 = 1) then some v6_4 else none) else (if (rAt w 49 v6_5) = 0 then (some 0) else (nmk (if v6_4 = 0 then (if (rAt w 40 v6_5) = a3 then 1 else 0) else 1) fun (x51 : Int32) => (nmk (v6_5 + 1) fun (x53 : Int32) => (f_X6_standsAlone_L6 w a1 a2 a3 n6 x51 x53)))))
def f_X6_standsAlone (w : CW) (a1 : Int32) (a2 : Int32) (a3 : Int32) : Option (Int32) := (f_X6_standsAlone_L6 w a1 a2 a3 FU 0 a1)
abbrev rm_X6_standsAlone : Room := { frames := 2, cells := 0, slots := 0, locals := 21 }
theorem cn_X6_standsAlone : CN yX6_standsAlone 3 := ⟨by decide +kernel, by decide +kernel, by decide +kernel⟩
set_option maxHeartbeats 4000000 in
set_option maxRecDepth 100000 in
theorem c_X6_standsAlone (l : Launch) (G : GX) (w : CW) (a1 : Int32) (a2 : Int32) (a3 : Int32) (q : Int32) (hf : f_X6_standsAlone w a1 a2 a3 = some q) : MZ l G yX6_standsAlone cX6_standsAlone 6 (some .boolean) rm_X6_standsAlone [.ref (G.2.2.1 196), .int a1, .int a2, .int a3] (cA G) (cH G w) (cH G w) q := by
  refine cM_start (by decide +kernel) (Nat.le_of_ble_eq_true rfl) ?_
  intro p e s m below meth c ls X hH hl
  have hS : va_S (cA G) s.heap s.heap [] := va_S.rf
  have hx := X.1.1
  have hb := X.1.2.1
  generalize hargs : ([.ref (G.2.2.1 196), .int a1, .int a2, .int a3] : List Value).toArray = args at X ⊢
  generalize hQ : MQ below (QZ (cA G) (cH G w) q) args s 0 0 (cA G) = Q
  have hl : lv_has ls 6 [(0, .ref (G.2.2.1 196)), (1, .int a1), (2, .int a2), (3, .int a3)] := hl
  unfold f_X6_standsAlone at hf
  refine lv_iconst (v := 0) hx hb dX6_standsAlone_0 (by decide) ?_
  refine lv_istore (lv' := [(4, .int 0), (0, .ref (G.2.2.1 196)), (1, .int a1), (2, .int a2), (3, .int a3)]) hx hb dX6_standsAlone_1 hl (by decide) rfl (fun ls hl => ?_)
  refine lv_iload_n hx hb dX6_standsAlone_3 rfl (lv_at hl 2 rfl) ?_
  refine lv_istore (lv' := [(5, .int a1), (4, .int 0), (0, .ref (G.2.2.1 196)), (1, .int a1), (2, .int a2), (3, .int a3)]) hx hb dX6_standsAlone_4 hl (by decide) rfl (fun ls hl => ?_)
  have hL6 : ∀ (n6 : Nat) (v6_4 : Int32) (v6_5 : Int32) (H : Heap) (locs : List Loc) (ls : Array Slot), f_X6_standsAlone_L6 w a1 a2 a3 n6 v6_4 v6_5 = some q → cH G w H → va_S (cA G) s.heap H locs → lv_has ls 6 [(5, .int v6_5), (4, .int v6_4), (0, .ref (G.2.2.1 196)), (1, .int a1), (2, .int a2), (3, .int a3)] → W p l e rm_X6_standsAlone s m args below meth c H locs 0 0 Q (F0 m 6 ls []) := by
    intro n6
    induction n6 with
    | zero => intro v6_4 v6_5 H locs ls hf; rw [f_X6_standsAlone_L6] at hf; cases hf
    | succ n6 ih6 =>
      intro v6_4 v6_5 H locs ls hf hH hS hl
      rw [f_X6_standsAlone_L6] at hf
      refine lv_iload hx hb dX6_standsAlone_6 (lv_at hl 0 rfl) ?_
      refine lv_iload_n hx hb dX6_standsAlone_8 rfl (lv_at hl 3 rfl) ?_
      refine lv_iload_n hx hb dX6_standsAlone_9 rfl (lv_at hl 4 rfl) ?_
      refine lv_iadd hx hb dX6_standsAlone_10 ?_
      refine lv_icmp_ge (tgt := 59) hx hb dX6_standsAlone_11 (by decide) (fun hc => ?_) (fun hc => ?_)
      · have hf := fo_t hc hf
        refine lv_iload hx hb dX6_standsAlone_59 (lv_at hl 1 rfl) ?_
        by_cases hz : (v6_4 = 0 ∨ v6_4 = 1)
        rotate_left
        · cases (fo_f hz hf)
        have hf := fo_t hz hf
        subst hQ
        exact cEzz X hH hS (so_s hf) hz dX6_standsAlone_61
      have hf := fo_f hc hf
      refine lv_aload_n hx hb dX6_standsAlone_14 rfl (lv_at hl 2 rfl) ?_
      refine co_get X hH 196 (by decide) eO196 rfl inBX6 11 (by decide) rfl bw400 dX6_standsAlone_15 ?_
      refine lv_iload hx hb dX6_standsAlone_18 (lv_at hl 0 rfl) ?_
      refine cGi (cVrun (rest := []) X (cl_X5_at l G w 49 (by decide) v6_5 _ rfl) bw929 bw628 bw629 bw91 bw630 cn_X5_at ⟨rfl, rfl, Nat.le_of_ble_eq_true rfl, Nat.le_of_ble_eq_true rfl⟩ (c_recR X hH (by decide)) cA_g hH hS hl rfl (Nat.le_of_ble_eq_true rfl) dX6_standsAlone_20) hS (fun H locs hH hS => ?_)
      refine lv_if_ne (tgt := 28) hx hb dX6_standsAlone_23 (by decide) (fun hc => ?_) (fun hc => ?_)
      rotate_left
      · have hf := fo_t hc hf
        refine lv_iconst (v := 0) hx hb dX6_standsAlone_26 (by decide) ?_
        subst hQ
        exact cEzz X hH hS (so_s hf) zb0 dX6_standsAlone_27
      have hf := fo_f hc hf
      refine lv_iload hx hb dX6_standsAlone_28 (lv_at hl 1 rfl) ?_
      have hJ : ∀ (H : Heap) (locs : List Loc), cH G w H → va_S (cA G) s.heap H locs → W p l e rm_X6_standsAlone s m args below meth c H locs 0 0 Q (F0 m 51 ls [.int (if v6_4 = 0 then (if (rAt w 40 v6_5) = a3 then 1 else 0) else 1)]) := by
        intro H locs hH hS
        refine lv_topi (fun x51 ex51 => ?_)
        have hf := nm_s hf x51 ex51
        refine lv_istore (lv' := [(4, .int x51), (5, .int v6_5), (0, .ref (G.2.2.1 196)), (1, .int a1), (2, .int a2), (3, .int a3)]) hx hb dX6_standsAlone_51 hl (by decide) rfl (fun ls hl => ?_)
        obtain ⟨x53, ex53⟩ : ∃ z : Int32, z = (v6_5 + 1) := ⟨_, rfl⟩
        have hf := nm_s hf x53 ex53
        refine lv_iinc (v := x53) (lv' := [(5, .int x53), (4, .int x51), (0, .ref (G.2.2.1 196)), (1, .int a1), (2, .int a2), (3, .int a3)]) hx hb dX6_standsAlone_53 hl (k := 1) rfl (by rw [ex53]; rfl) (by decide) rfl (fun ls hl => ?_)
        refine lv_goto (tgt := 6) hx hb dX6_standsAlone_56 (by decide) ?_
        exact ih6 _ _ _ _ _ hf hH hS (lv_sub hl [0, 1, 2, 3, 4, 5] rfl)
      refine lv_if_ne (tgt := 46) hx hb dX6_standsAlone_30 (by decide) (fun hc30 => ?_) (fun hc30 => ?_)
      · refine lv_iconst (v := 1) hx hb dX6_standsAlone_46 (by decide) ?_
        refine lv_goto (tgt := 51) hx hb dX6_standsAlone_47 (by decide) ?_
        exact W.eq (by rw [if_neg hc30] <;> rfl) (hJ _ _ hH hS)
      · refine lv_aload_n hx hb dX6_standsAlone_33 rfl (lv_at hl 2 rfl) ?_
        refine co_get X hH 196 (by decide) eO196 rfl inBX6 2 (by decide) rfl bw388 dX6_standsAlone_34 ?_
        refine lv_iload hx hb dX6_standsAlone_37 (lv_at hl 0 rfl) ?_
        refine cGi (cVrun (rest := []) X (cl_X5_at l G w 40 (by decide) v6_5 _ rfl) bw929 bw628 bw629 bw91 bw630 cn_X5_at ⟨rfl, rfl, Nat.le_of_ble_eq_true rfl, Nat.le_of_ble_eq_true rfl⟩ (c_recR X hH (by decide)) cA_g hH hS hl rfl (Nat.le_of_ble_eq_true rfl) dX6_standsAlone_39) hS (fun H locs hH hS => ?_)
        refine lv_iload_n hx hb dX6_standsAlone_42 rfl (lv_at hl 5 rfl) ?_
        refine lv_icmp_ne (tgt := 50) hx hb dX6_standsAlone_43 (by decide) (fun hc43 => ?_) (fun hc43 => ?_)
        · refine lv_iconst (v := 0) hx hb dX6_standsAlone_50 (by decide) ?_
          exact W.eq (by rw [if_pos hc30, if_neg hc43] <;> rfl) (hJ _ _ hH hS)
        · refine lv_iconst (v := 1) hx hb dX6_standsAlone_46 (by decide) ?_
          refine lv_goto (tgt := 51) hx hb dX6_standsAlone_47 (by decide) ?_
          exact W.eq (by rw [if_pos hc30, if_pos hc43] <;> rfl) (hJ _ _ hH hS)
  exact hL6 _ _ _ _ _ _ hf hH hS (lv_sub hl [0, 1, 2, 3, 4, 5] rfl)
def f_X6_lesser (w : CW) (a1 : Int32) (a2 : Int32) : Int32 := (nmk (if 0 ≤ a2 then (rAt w 37 a2) else a1) fun (x19 : Int32) => ((if a1 = (-5) then x19 else (if x19 < a1 then x19 else a1))))
abbrev rm_X6_lesser : Room := { frames := 2, cells := 0, slots := 0, locals := 24 }
theorem cn_X6_lesser : CN yX6_lesser 2 := ⟨by decide +kernel, by decide +kernel, by decide +kernel⟩
set_option maxHeartbeats 4000000 in
set_option maxRecDepth 100000 in
theorem c_X6_lesser (l : Launch) (G : GX) (w : CW) (a1 : Int32) (a2 : Int32) (q : Int32) (hf : f_X6_lesser w a1 a2 = q) : MI l G yX6_lesser cX6_lesser 4 (some .int) rm_X6_lesser [.ref (G.2.2.1 196), .int a1, .int a2] (cA G) (cH G w) (cH G w) q := by
  refine cM_start (by decide +kernel) (Nat.le_of_ble_eq_true rfl) ?_
  intro p e s m below meth c ls X hH hl
  have hS : va_S (cA G) s.heap s.heap [] := va_S.rf
  have hx := X.1.1
  have hb := X.1.2.1
  generalize hargs : ([.ref (G.2.2.1 196), .int a1, .int a2] : List Value).toArray = args at X ⊢
  generalize hQ : MQ below (QI (cA G) (cH G w) q) args s 0 0 (cA G) = Q
  have hl : lv_has ls 4 [(0, .ref (G.2.2.1 196)), (1, .int a1), (2, .int a2)] := hl
  unfold f_X6_lesser at hf
  refine lv_iload_n hx hb dX6_lesser_0 rfl (lv_at hl 2 rfl) ?_
  have hJ : ∀ (H : Heap) (locs : List Loc), cH G w H → va_S (cA G) s.heap H locs → W p l e rm_X6_lesser s m args below meth c H locs 0 0 Q (F0 m 19 ls [.int (if 0 ≤ a2 then (rAt w 37 a2) else a1)]) := by
    intro H locs hH hS
    refine lv_topi (fun x19 ex19 => ?_)
    have hf := nm_s hf x19 ex19
    refine lv_istore_n (lv' := [(3, .int x19), (0, .ref (G.2.2.1 196)), (1, .int a1), (2, .int a2)]) hx hb dX6_lesser_19 rfl hl (by decide) rfl (fun ls hl => ?_)
    refine lv_iload_n hx hb dX6_lesser_20 rfl (lv_at hl 2 rfl) ?_
    refine lv_bipush (v := (-5)) hx hb dX6_lesser_21 (by decide) ?_
    have hJ : ∀ (H : Heap) (locs : List Loc), cH G w H → va_S (cA G) s.heap H locs → W p l e rm_X6_lesser s m args below meth c H locs 0 0 Q (F0 m 35 ls [.int (if a1 = (-5) then x19 else (if x19 < a1 then x19 else a1))]) := by
      intro H locs hH hS
      subst hQ
      exact cEi X hH hS (hf) dX6_lesser_35
    refine lv_icmp_ne (tgt := 30) hx hb dX6_lesser_23 (by decide) (fun hc23 => ?_) (fun hc23 => ?_)
    · refine lv_iload_n hx hb dX6_lesser_30 rfl (lv_at hl 2 rfl) ?_
      refine lv_iload_n hx hb dX6_lesser_31 rfl (lv_at hl 0 rfl) ?_
      refine va_mmin hx hb (X.1.2.2.1.trans hl.1.symm) X.1.2.2.2.1 (X.w bw977) (X.w bw231) (X.w bw93) (X.w bw232) (Nat.le_of_ble_eq_true rfl) (Nat.le_of_ble_eq_true rfl) (Nat.zero_le _) (Nat.zero_le _) dX6_lesser_32 ?_
      exact W.eq (by rw [if_neg hc23] <;> rfl) (hJ _ _ hH hS)
    · refine lv_iload_n hx hb dX6_lesser_26 rfl (lv_at hl 0 rfl) ?_
      refine lv_goto (tgt := 35) hx hb dX6_lesser_27 (by decide) ?_
      exact W.eq (by rw [if_pos hc23] <;> rfl) (hJ _ _ hH hS)
  refine lv_if_ge (tgt := 8) hx hb dX6_lesser_1 (by decide) (fun hc1 => ?_) (fun hc1 => ?_)
  · refine lv_aload_n hx hb dX6_lesser_8 rfl (lv_at hl 0 rfl) ?_
    refine co_get X hH 196 (by decide) eO196 rfl inBX6 0 (by decide) rfl bw386 dX6_lesser_9 ?_
    refine co_getN X hH 193 (by decide) eO193 rfl inBX0 5 (by decide) rfl bw303 dX6_lesser_12 ?_
    refine lv_iload_n hx hb dX6_lesser_15 rfl (lv_at hl 2 rfl) ?_
    refine cGi (cVrun (rest := []) X (cl_X5_at l G w 37 (by decide) a2 _ rfl) bw929 bw628 bw629 bw91 bw630 cn_X5_at ⟨rfl, rfl, Nat.le_of_ble_eq_true rfl, Nat.le_of_ble_eq_true rfl⟩ (c_recR X hH (by decide)) cA_g hH hS hl rfl (Nat.le_of_ble_eq_true rfl) dX6_lesser_16) hS (fun H locs hH hS => ?_)
    exact W.eq (by rw [if_pos hc1] <;> rfl) (hJ _ _ hH hS)
  · refine lv_iload_n hx hb dX6_lesser_4 rfl (lv_at hl 1 rfl) ?_
    refine lv_goto (tgt := 19) hx hb dX6_lesser_5 (by decide) ?_
    exact W.eq (by rw [if_neg hc1] <;> rfl) (hJ _ _ hH hS)
def f_X6_sparing_L5 (w : CW) (a1 : Int32) : Nat → Int32 → Int32 → Option (Int32)
  | 0, _, _ => none
  | n5 + 1, v5_2, v5_3 => (if (f_X5_size w 40) ≤ v5_3 then (some v5_2) else (Option.bind (f_X6_standsAlone w v5_3 3 a1) fun q22 => (nmk (f_X6_lesser w v5_2 (if q22 = 0 then (-1) else (rAt w 41 v5_3))) fun (x43 : Int32) => (Option.bind (f_X6_standsAlone w v5_3 2 a1) fun q50 => (nmk (f_X6_lesser w x43 (if q50 = 0 then (-1) else (rAt w 42 v5_3))) fun (x71 : Int32) => (nmk (v5_3 + 1) fun (x72 : Int32) => (f_X6_sparing_L5 w a1 n5 x71 x72)))))))
def f_X6_sparing (w : CW) (a1 : Int32) : Option (Int32) := (f_X6_sparing_L5 w a1 FU (-5) 0)
abbrev rm_X6_sparing : Room := { frames := 3, cells := 0, slots := 0, locals := 47 }
theorem cn_X6_sparing : CN yX6_sparing 1 := ⟨by decide +kernel, by decide +kernel, by decide +kernel⟩
set_option maxHeartbeats 4000000 in
set_option maxRecDepth 100000 in
theorem c_X6_sparing (l : Launch) (G : GX) (w : CW) (a1 : Int32) (q : Int32) (hf : f_X6_sparing w a1 = some q) : MI l G yX6_sparing cX6_sparing 4 (some .int) rm_X6_sparing [.ref (G.2.2.1 196), .int a1] (cA G) (cH G w) (cH G w) q := by
  refine cM_start (by decide +kernel) (Nat.le_of_ble_eq_true rfl) ?_
  intro p e s m below meth c ls X hH hl
  have hS : va_S (cA G) s.heap s.heap [] := va_S.rf
  have hx := X.1.1
  have hb := X.1.2.1
  generalize hargs : ([.ref (G.2.2.1 196), .int a1] : List Value).toArray = args at X ⊢
  generalize hQ : MQ below (QI (cA G) (cH G w) q) args s 0 0 (cA G) = Q
  have hl : lv_has ls 4 [(0, .ref (G.2.2.1 196)), (1, .int a1)] := hl
  unfold f_X6_sparing at hf
  refine lv_bipush (v := (-5)) hx hb dX6_sparing_0 (by decide) ?_
  refine lv_istore_n (lv' := [(2, .int (-5)), (0, .ref (G.2.2.1 196)), (1, .int a1)]) hx hb dX6_sparing_2 rfl hl (by decide) rfl (fun ls hl => ?_)
  refine lv_iconst (v := 0) hx hb dX6_sparing_3 (by decide) ?_
  refine lv_istore_n (lv' := [(3, .int 0), (2, .int (-5)), (0, .ref (G.2.2.1 196)), (1, .int a1)]) hx hb dX6_sparing_4 rfl hl (by decide) rfl (fun ls hl => ?_)
  have hL5 : ∀ (n5 : Nat) (v5_2 : Int32) (v5_3 : Int32) (H : Heap) (locs : List Loc) (ls : Array Slot), f_X6_sparing_L5 w a1 n5 v5_2 v5_3 = some q → cH G w H → va_S (cA G) s.heap H locs → lv_has ls 4 [(3, .int v5_3), (2, .int v5_2), (0, .ref (G.2.2.1 196)), (1, .int a1)] → W p l e rm_X6_sparing s m args below meth c H locs 0 0 Q (F0 m 5 ls []) := by
    intro n5
    induction n5 with
    | zero => intro v5_2 v5_3 H locs ls hf; rw [f_X6_sparing_L5] at hf; cases hf
    | succ n5 ih5 =>
      intro v5_2 v5_3 H locs ls hf hH hS hl
      rw [f_X6_sparing_L5] at hf
      refine lv_iload_n hx hb dX6_sparing_5 rfl (lv_at hl 0 rfl) ?_
      refine lv_aload_n hx hb dX6_sparing_6 rfl (lv_at hl 2 rfl) ?_
      refine co_get X hH 196 (by decide) eO196 rfl inBX6 2 (by decide) rfl bw388 dX6_sparing_7 ?_
      refine cGi (cVrun (rest := [.int v5_3]) X (c_X5_size l G w 40 (by decide) _ rfl) bw928 bw624 bw625 bw91 bw626 cn_X5_size ⟨rfl, rfl, Nat.le_of_ble_eq_true rfl, Nat.le_of_ble_eq_true rfl⟩ (c_recR X hH (by decide)) cA_g hH hS hl rfl (Nat.le_of_ble_eq_true rfl) dX6_sparing_10) hS (fun H locs hH hS => ?_)
      refine lv_icmp_ge (tgt := 78) hx hb dX6_sparing_13 (by decide) (fun hc => ?_) (fun hc => ?_)
      · have hf := fo_t hc hf
        refine lv_iload_n hx hb dX6_sparing_78 rfl (lv_at hl 1 rfl) ?_
        subst hQ
        exact cEi X hH hS (so_s hf) dX6_sparing_79
      have hf := fo_f hc hf
      refine lv_aload_n hx hb dX6_sparing_16 rfl (lv_at hl 2 rfl) ?_
      refine lv_iload_n hx hb dX6_sparing_17 rfl (lv_at hl 1 rfl) ?_
      refine lv_aload_n hx hb dX6_sparing_18 rfl (lv_at hl 2 rfl) ?_
      refine lv_iload_n hx hb dX6_sparing_19 rfl (lv_at hl 0 rfl) ?_
      refine lv_iconst (v := 3) hx hb dX6_sparing_20 (by decide) ?_
      refine lv_iload_n hx hb dX6_sparing_21 rfl (lv_at hl 3 rfl) ?_
      obtain ⟨q22, hq22, hf⟩ := bd_s hf
      refine cGz (cVrun (rest := [.int v5_2, .ref (G.2.2.1 196)]) X (c_X6_standsAlone l G w v5_3 3 a1 q22 hq22) bw1016 bw1018 bw33 bw100 bw1019 cn_X6_standsAlone ⟨rfl, rfl, Nat.le_of_ble_eq_true rfl, Nat.le_of_ble_eq_true rfl⟩ (c_rec X hH 196 (by decide) eO196 rfl) cA_g hH hS hl rfl (Nat.le_of_ble_eq_true rfl) dX6_sparing_22) hS (fun hz22 H locs hH hS => ?_)
      have hJ : ∀ (H : Heap) (locs : List Loc), cH G w H → va_S (cA G) s.heap H locs → W p l e rm_X6_sparing s m args below meth c H locs 0 0 Q (F0 m 40 ls [.int (if q22 = 0 then (-1) else (rAt w 41 v5_3)), .int v5_2, .ref (G.2.2.1 196)]) := by
        intro H locs hH hS
        refine cGi (cVrun (rest := []) X (c_X6_lesser l G w v5_2 (if q22 = 0 then (-1) else (rAt w 41 v5_3)) _ rfl) bw1020 bw1022 bw34 bw100 bw1023 cn_X6_lesser ⟨rfl, rfl, Nat.le_of_ble_eq_true rfl, Nat.le_of_ble_eq_true rfl⟩ (c_rec X hH 196 (by decide) eO196 rfl) cA_g hH hS hl rfl (Nat.le_of_ble_eq_true rfl) dX6_sparing_40) hS (fun H locs hH hS => ?_)
        refine lv_topi (fun x43 ex43 => ?_)
        have hf := nm_s hf x43 ex43
        refine lv_istore_n (lv' := [(2, .int x43), (3, .int v5_3), (0, .ref (G.2.2.1 196)), (1, .int a1)]) hx hb dX6_sparing_43 rfl hl (by decide) rfl (fun ls hl => ?_)
        refine lv_aload_n hx hb dX6_sparing_44 rfl (lv_at hl 2 rfl) ?_
        refine lv_iload_n hx hb dX6_sparing_45 rfl (lv_at hl 0 rfl) ?_
        refine lv_aload_n hx hb dX6_sparing_46 rfl (lv_at hl 2 rfl) ?_
        refine lv_iload_n hx hb dX6_sparing_47 rfl (lv_at hl 1 rfl) ?_
        refine lv_iconst (v := 2) hx hb dX6_sparing_48 (by decide) ?_
        refine lv_iload_n hx hb dX6_sparing_49 rfl (lv_at hl 3 rfl) ?_
        obtain ⟨q50, hq50, hf⟩ := bd_s hf
        refine cGz (cVrun (rest := [.int x43, .ref (G.2.2.1 196)]) X (c_X6_standsAlone l G w v5_3 2 a1 q50 hq50) bw1016 bw1018 bw33 bw100 bw1019 cn_X6_standsAlone ⟨rfl, rfl, Nat.le_of_ble_eq_true rfl, Nat.le_of_ble_eq_true rfl⟩ (c_rec X hH 196 (by decide) eO196 rfl) cA_g hH hS hl rfl (Nat.le_of_ble_eq_true rfl) dX6_sparing_50) hS (fun hz50 H locs hH hS => ?_)
        have hJ : ∀ (H : Heap) (locs : List Loc), cH G w H → va_S (cA G) s.heap H locs → W p l e rm_X6_sparing s m args below meth c H locs 0 0 Q (F0 m 68 ls [.int (if q50 = 0 then (-1) else (rAt w 42 v5_3)), .int x43, .ref (G.2.2.1 196)]) := by
          intro H locs hH hS
          refine cGi (cVrun (rest := []) X (c_X6_lesser l G w x43 (if q50 = 0 then (-1) else (rAt w 42 v5_3)) _ rfl) bw1020 bw1022 bw34 bw100 bw1023 cn_X6_lesser ⟨rfl, rfl, Nat.le_of_ble_eq_true rfl, Nat.le_of_ble_eq_true rfl⟩ (c_rec X hH 196 (by decide) eO196 rfl) cA_g hH hS hl rfl (Nat.le_of_ble_eq_true rfl) dX6_sparing_68) hS (fun H locs hH hS => ?_)
          refine lv_topi (fun x71 ex71 => ?_)
          have hf := nm_s hf x71 ex71
          refine lv_istore_n (lv' := [(2, .int x71), (3, .int v5_3), (0, .ref (G.2.2.1 196)), (1, .int a1)]) hx hb dX6_sparing_71 rfl hl (by decide) rfl (fun ls hl => ?_)
          obtain ⟨x72, ex72⟩ : ∃ z : Int32, z = (v5_3 + 1) := ⟨_, rfl⟩
          have hf := nm_s hf x72 ex72
          refine lv_iinc (v := x72) (lv' := [(3, .int x72), (2, .int x71), (0, .ref (G.2.2.1 196)), (1, .int a1)]) hx hb dX6_sparing_72 hl (k := 1) rfl (by rw [ex72]; rfl) (by decide) rfl (fun ls hl => ?_)
          refine lv_goto (tgt := 5) hx hb dX6_sparing_75 (by decide) ?_
          exact ih5 _ _ _ _ _ hf hH hS (lv_sub hl [0, 1, 2, 3] rfl)
        refine lv_if_eq (tgt := 67) hx hb dX6_sparing_53 (by decide) (fun hc53 => ?_) (fun hc53 => ?_)
        · refine lv_iconst (v := (-1)) hx hb dX6_sparing_67 (by decide) ?_
          exact W.eq (by rw [if_pos hc53] <;> rfl) (hJ _ _ hH hS)
        · refine lv_aload_n hx hb dX6_sparing_56 rfl (lv_at hl 2 rfl) ?_
          refine co_get X hH 196 (by decide) eO196 rfl inBX6 4 (by decide) rfl bw391 dX6_sparing_57 ?_
          refine lv_iload_n hx hb dX6_sparing_60 rfl (lv_at hl 1 rfl) ?_
          refine cGi (cVrun (rest := [.int x43, .ref (G.2.2.1 196)]) X (cl_X5_at l G w 42 (by decide) v5_3 _ rfl) bw929 bw628 bw629 bw91 bw630 cn_X5_at ⟨rfl, rfl, Nat.le_of_ble_eq_true rfl, Nat.le_of_ble_eq_true rfl⟩ (c_recR X hH (by decide)) cA_g hH hS hl rfl (Nat.le_of_ble_eq_true rfl) dX6_sparing_61) hS (fun H locs hH hS => ?_)
          refine lv_goto (tgt := 68) hx hb dX6_sparing_64 (by decide) ?_
          exact W.eq (by rw [if_neg hc53] <;> rfl) (hJ _ _ hH hS)
      refine lv_if_eq (tgt := 39) hx hb dX6_sparing_25 (by decide) (fun hc25 => ?_) (fun hc25 => ?_)
      · refine lv_iconst (v := (-1)) hx hb dX6_sparing_39 (by decide) ?_
        exact W.eq (by rw [if_pos hc25] <;> rfl) (hJ _ _ hH hS)
      · refine lv_aload_n hx hb dX6_sparing_28 rfl (lv_at hl 2 rfl) ?_
        refine co_get X hH 196 (by decide) eO196 rfl inBX6 3 (by decide) rfl bw390 dX6_sparing_29 ?_
        refine lv_iload_n hx hb dX6_sparing_32 rfl (lv_at hl 0 rfl) ?_
        refine cGi (cVrun (rest := [.int v5_2, .ref (G.2.2.1 196)]) X (cl_X5_at l G w 41 (by decide) v5_3 _ rfl) bw929 bw628 bw629 bw91 bw630 cn_X5_at ⟨rfl, rfl, Nat.le_of_ble_eq_true rfl, Nat.le_of_ble_eq_true rfl⟩ (c_recR X hH (by decide)) cA_g hH hS hl rfl (Nat.le_of_ble_eq_true rfl) dX6_sparing_33) hS (fun H locs hH hS => ?_)
        refine lv_goto (tgt := 40) hx hb dX6_sparing_36 (by decide) ?_
        exact W.eq (by rw [if_neg hc25] <;> rfl) (hJ _ _ hH hS)
  exact hL5 _ _ _ _ _ _ hf hH hS (lv_sub hl [0, 1, 2, 3] rfl)
def f_X1_keepFirst_L13 (a1 : Int32) : Nat → Int32 → CW → Option (CW)
  | 0, _, _ => none
  | n13 + 1, v13_2, w13_ => (if a1 ≤ v13_2 then (some w13_) else (nmk (rPush w13_ 52 (rAt w13_ 51 v13_2)) fun q30 => (nmk (v13_2 + 1) fun (x33 : Int32) => (f_X1_keepFirst_L13 a1 n13 x33 q30))))
def f_X1_keepFirst (w : CW) (a1 : Int32) : Option (CW) := (if (f_X5_size w 52) ≤ 0 then (f_X1_keepFirst_L13 a1 FU 0 w) else (some w))
abbrev rm_X1_keepFirst : Room := { frames := 2, cells := 0, slots := 0, locals := 21 }
theorem cn_X1_keepFirst : CN yX1_keepFirst 1 := ⟨by decide +kernel, by decide +kernel, by decide +kernel⟩
set_option maxHeartbeats 4000000 in
set_option maxRecDepth 100000 in
theorem c_X1_keepFirst (l : Launch) (G : GX) (w : CW) (a1 : Int32) (q : CW) (hf : f_X1_keepFirst w a1 = some q) : MV l G yX1_keepFirst cX1_keepFirst 3 rm_X1_keepFirst [.ref (G.2.2.1 199), .int a1] (cA G) (cH G w) (cH G q) := by
  refine cM_start (by decide +kernel) (Nat.le_of_ble_eq_true rfl) ?_
  intro p e s m below meth c ls X hH hl
  have hS : va_S (cA G) s.heap s.heap [] := va_S.rf
  have hx := X.1.1
  have hb := X.1.2.1
  generalize hargs : ([.ref (G.2.2.1 199), .int a1] : List Value).toArray = args at X ⊢
  generalize hQ : MQ below (QV (cA G) (cH G q)) args s 0 0 (cA G) = Q
  have hl : lv_has ls 3 [(0, .ref (G.2.2.1 199)), (1, .int a1)] := hl
  unfold f_X1_keepFirst at hf
  refine lv_aload_n hx hb dX1_keepFirst_0 rfl (lv_at hl 0 rfl) ?_
  refine co_get X hH 199 (by decide) eO199 rfl inBX1 4 (by decide) rfl bw511 dX1_keepFirst_1 ?_
  refine cGi (cVrun (rest := []) X (c_X5_size l G w 52 (by decide) _ rfl) bw1170 bw624 bw625 bw91 bw626 cn_X5_size ⟨rfl, rfl, Nat.le_of_ble_eq_true rfl, Nat.le_of_ble_eq_true rfl⟩ (c_recR X hH (by decide)) cA_g hH hS hl rfl (Nat.le_of_ble_eq_true rfl) dX1_keepFirst_4) hS (fun H locs hH hS => ?_)
  refine lv_if_le (tgt := 11) hx hb dX1_keepFirst_7 (by decide) (fun hc => ?_) (fun hc => ?_)
  rotate_left
  · have hf := fo_f hc hf
    subst hQ
    exact cEv X (cH1 (so_s hf) hH) hS dX1_keepFirst_10
  have hf := fo_t hc hf
  refine lv_iconst (v := 0) hx hb dX1_keepFirst_11 (by decide) ?_
  refine lv_istore_n (lv' := [(2, .int 0), (0, .ref (G.2.2.1 199)), (1, .int a1)]) hx hb dX1_keepFirst_12 rfl hl (by decide) rfl (fun ls hl => ?_)
  have hL13 : ∀ (n13 : Nat) (v13_2 : Int32) (w13_ : CW) (H : Heap) (locs : List Loc) (ls : Array Slot), f_X1_keepFirst_L13 a1 n13 v13_2 w13_ = some q → cH G w13_ H → va_S (cA G) s.heap H locs → lv_has ls 3 [(2, .int v13_2), (0, .ref (G.2.2.1 199)), (1, .int a1)] → W p l e rm_X1_keepFirst s m args below meth c H locs 0 0 Q (F0 m 13 ls []) := by
    intro n13
    induction n13 with
    | zero => intro v13_2 w13_ H locs ls hf; rw [f_X1_keepFirst_L13] at hf; cases hf
    | succ n13 ih13 =>
      intro v13_2 w13_ H locs ls hf hH hS hl
      rw [f_X1_keepFirst_L13] at hf
      refine lv_iload_n hx hb dX1_keepFirst_13 rfl (lv_at hl 0 rfl) ?_
      refine lv_iload_n hx hb dX1_keepFirst_14 rfl (lv_at hl 2 rfl) ?_
      refine lv_icmp_ge (tgt := 39) hx hb dX1_keepFirst_15 (by decide) (fun hc => ?_) (fun hc => ?_)
      · have hf := fo_t hc hf
        subst hQ
        exact cEv X (cH1 (so_s hf) hH) hS dX1_keepFirst_39
      have hf := fo_f hc hf
      refine lv_aload_n hx hb dX1_keepFirst_18 rfl (lv_at hl 1 rfl) ?_
      refine co_get X hH 199 (by decide) eO199 rfl inBX1 4 (by decide) rfl bw511 dX1_keepFirst_19 ?_
      refine lv_aload_n hx hb dX1_keepFirst_22 rfl (lv_at hl 1 rfl) ?_
      refine co_get X hH 199 (by decide) eO199 rfl inBX1 3 (by decide) rfl bw510 dX1_keepFirst_23 ?_
      refine lv_iload_n hx hb dX1_keepFirst_26 rfl (lv_at hl 0 rfl) ?_
      refine cGi (cVrun (rest := [.ref (G.2.2.1 52)]) X (cl_X5_at l G w13_ 51 (by decide) v13_2 _ rfl) bw1175 bw628 bw629 bw91 bw630 cn_X5_at ⟨rfl, rfl, Nat.le_of_ble_eq_true rfl, Nat.le_of_ble_eq_true rfl⟩ (c_recR X hH (by decide)) cA_g hH hS hl rfl (Nat.le_of_ble_eq_true rfl) dX1_keepFirst_27) hS (fun H locs hH hS => ?_)
      obtain ⟨q30, hq30, hf⟩ := nm_x hf
      have hq30 := hq30.symm
      refine cGv (cVrun (rest := []) X (cl_X5_push l G w13_ 52 (by decide) (rAt w13_ 51 v13_2) q30 hq30) bw1176 bw679 bw680 bw91 bw681 cn_X5_push ⟨rfl, rfl, Nat.le_of_ble_eq_true rfl, Nat.le_of_ble_eq_true rfl⟩ (c_recR X hH (by decide)) cA_g hH hS hl rfl (Nat.le_of_ble_eq_true rfl) dX1_keepFirst_30) hS (fun H locs hH hS => ?_)
      obtain ⟨x33, ex33⟩ : ∃ z : Int32, z = (v13_2 + 1) := ⟨_, rfl⟩
      have hf := nm_s hf x33 ex33
      refine lv_iinc (v := x33) (lv' := [(2, .int x33), (0, .ref (G.2.2.1 199)), (1, .int a1)]) hx hb dX1_keepFirst_33 hl (k := 0) rfl (by rw [ex33]; rfl) (by decide) rfl (fun ls hl => ?_)
      refine lv_goto (tgt := 13) hx hb dX1_keepFirst_36 (by decide) ?_
      exact ih13 _ _ _ _ _ hf hH hS (lv_sub hl [0, 1, 2] rfl)
  exact hL13 _ _ _ _ _ _ hf hH hS (lv_sub hl [0, 1, 2] rfl)
def f_X1_distance_L10  : Nat → Int32 → Int32 → Int32 → Int32 → Option (Int32)
  | 0, _, _, _, _ => none
  | n10 + 1, v10_2, v10_3, v10_4, v10_5 => (if 4 ≤ v10_5 then (some v10_2) else (nmk (v10_2 + (if 0 ≤ ((v10_3 - v10_3 / 10 * 10) - (v10_4 - v10_4 / 10 * 10)) then ((v10_3 - v10_3 / 10 * 10) - (v10_4 - v10_4 / 10 * 10)) else 0 - ((v10_3 - v10_3 / 10 * 10) - (v10_4 - v10_4 / 10 * 10)))) fun (x31 : Int32) => (nmk (v10_3 / 10) fun (x36 : Int32) => (nmk (v10_4 / 10) fun (x42 : Int32) => (nmk (v10_5 + 1) fun (x44 : Int32) => (f_X1_distance_L10 n10 x31 x36 x42 x44))))))
def f_X1_distance (a0 : Int32) (a1 : Int32) : Option (Int32) := (f_X1_distance_L10 FU 0 a0 a1 0)
abbrev rm_X1_distance : Room := { frames := 1, cells := 0, slots := 0, locals := 24 }
theorem cn_X1_distance : CN yX1_distance 2 := ⟨by decide +kernel, by decide +kernel, by decide +kernel⟩
set_option maxHeartbeats 4000000 in
set_option maxRecDepth 100000 in
theorem c_X1_distance (l : Launch) (G : GX) (P : Heap → Prop) (A : Nat → Prop) (hAG : ∀ q, A q → gA G q) (a0 : Int32) (a1 : Int32) (q : Int32) (hf : f_X1_distance a0 a1 = some q) : MI l G yX1_distance cX1_distance 6 (some .int) rm_X1_distance [.int a0, .int a1] A P P q := by
  refine cM_start (by decide +kernel) (Nat.le_of_ble_eq_true rfl) ?_
  intro p e s m below meth c ls X hH hl
  have hS : va_S A s.heap s.heap [] := va_S.rf
  have hx := X.1.1
  have hb := X.1.2.1
  generalize hargs : ([.int a0, .int a1] : List Value).toArray = args at X ⊢
  generalize hQ : MQ below (QI A P q) args s 0 0 A = Q
  have hl : lv_has ls 6 [(0, .int a0), (1, .int a1)] := hl
  unfold f_X1_distance at hf
  refine lv_iconst (v := 0) hx hb dX1_distance_0 (by decide) ?_
  refine lv_istore_n (lv' := [(2, .int 0), (0, .int a0), (1, .int a1)]) hx hb dX1_distance_1 rfl hl (by decide) rfl (fun ls hl => ?_)
  refine lv_iload_n hx hb dX1_distance_2 rfl (lv_at hl 1 rfl) ?_
  refine lv_istore_n (lv' := [(3, .int a0), (2, .int 0), (0, .int a0), (1, .int a1)]) hx hb dX1_distance_3 rfl hl (by decide) rfl (fun ls hl => ?_)
  refine lv_iload_n hx hb dX1_distance_4 rfl (lv_at hl 3 rfl) ?_
  refine lv_istore (lv' := [(4, .int a1), (3, .int a0), (2, .int 0), (0, .int a0), (1, .int a1)]) hx hb dX1_distance_5 hl (by decide) rfl (fun ls hl => ?_)
  refine lv_iconst (v := 0) hx hb dX1_distance_7 (by decide) ?_
  refine lv_istore (lv' := [(5, .int 0), (4, .int a1), (3, .int a0), (2, .int 0), (0, .int a0), (1, .int a1)]) hx hb dX1_distance_8 hl (by decide) rfl (fun ls hl => ?_)
  have hL10 : ∀ (n10 : Nat) (v10_2 : Int32) (v10_3 : Int32) (v10_4 : Int32) (v10_5 : Int32) (H : Heap) (locs : List Loc) (ls : Array Slot), f_X1_distance_L10 n10 v10_2 v10_3 v10_4 v10_5 = some q → P H → va_S A s.heap H locs → lv_has ls 6 [(5, .int v10_5), (4, .int v10_4), (3, .int v10_3), (2, .int v10_2)] → W p l e rm_X1_distance s m args below meth c H locs 0 0 Q (F0 m 10 ls []) := by
    intro n10
    induction n10 with
    | zero => intro v10_2 v10_3 v10_4 v10_5 H locs ls hf; rw [f_X1_distance_L10] at hf; cases hf
    | succ n10 ih10 =>
      intro v10_2 v10_3 v10_4 v10_5 H locs ls hf hH hS hl
      rw [f_X1_distance_L10] at hf
      refine lv_iload hx hb dX1_distance_10 (lv_at hl 0 rfl) ?_
      refine lv_iconst (v := 4) hx hb dX1_distance_12 (by decide) ?_
      refine lv_icmp_ge (tgt := 50) hx hb dX1_distance_13 (by decide) (fun hc => ?_) (fun hc => ?_)
      · have hf := fo_t hc hf
        refine lv_iload_n hx hb dX1_distance_50 rfl (lv_at hl 3 rfl) ?_
        subst hQ
        exact cEi X hH hS (so_s hf) dX1_distance_51
      have hf := fo_f hc hf
      refine lv_iload_n hx hb dX1_distance_16 rfl (lv_at hl 3 rfl) ?_
      refine lv_iload_n hx hb dX1_distance_17 rfl (lv_at hl 2 rfl) ?_
      refine lv_bipush (v := 10) hx hb dX1_distance_18 (by decide) ?_
      refine lv_irem hx hb dX1_distance_20 (by decide) ?_
      refine lv_iload hx hb dX1_distance_21 (lv_at hl 1 rfl) ?_
      refine lv_bipush (v := 10) hx hb dX1_distance_23 (by decide) ?_
      refine lv_irem hx hb dX1_distance_25 (by decide) ?_
      refine lv_isub hx hb dX1_distance_26 ?_
      refine va_mabs hx hb (X.1.2.2.1.trans hl.1.symm) X.1.2.2.2.1 (X.w bw1197) (X.w bw1198) (X.w bw93) (X.w bw1199) (Nat.le_of_ble_eq_true rfl) (Nat.le_of_ble_eq_true rfl) (Nat.zero_le _) (Nat.zero_le _) dX1_distance_27 ?_
      refine lv_iadd hx hb dX1_distance_30 ?_
      refine lv_topi (fun x31 ex31 => ?_)
      have hf := nm_s hf x31 ex31
      refine lv_istore_n (lv' := [(2, .int x31), (5, .int v10_5), (4, .int v10_4), (3, .int v10_3)]) hx hb dX1_distance_31 rfl hl (by decide) rfl (fun ls hl => ?_)
      refine lv_iload_n hx hb dX1_distance_32 rfl (lv_at hl 3 rfl) ?_
      refine lv_bipush (v := 10) hx hb dX1_distance_33 (by decide) ?_
      refine lv_idiv hx hb dX1_distance_35 (by decide) ?_
      refine lv_topi (fun x36 ex36 => ?_)
      have hf := nm_s hf x36 ex36
      refine lv_istore_n (lv' := [(3, .int x36), (2, .int x31), (5, .int v10_5), (4, .int v10_4)]) hx hb dX1_distance_36 rfl hl (by decide) rfl (fun ls hl => ?_)
      refine lv_iload hx hb dX1_distance_37 (lv_at hl 3 rfl) ?_
      refine lv_bipush (v := 10) hx hb dX1_distance_39 (by decide) ?_
      refine lv_idiv hx hb dX1_distance_41 (by decide) ?_
      refine lv_topi (fun x42 ex42 => ?_)
      have hf := nm_s hf x42 ex42
      refine lv_istore (lv' := [(4, .int x42), (3, .int x36), (2, .int x31), (5, .int v10_5)]) hx hb dX1_distance_42 hl (by decide) rfl (fun ls hl => ?_)
      obtain ⟨x44, ex44⟩ : ∃ z : Int32, z = (v10_5 + 1) := ⟨_, rfl⟩
      have hf := nm_s hf x44 ex44
      refine lv_iinc (v := x44) (lv' := [(5, .int x44), (4, .int x42), (3, .int x36), (2, .int x31)]) hx hb dX1_distance_44 hl (k := 3) rfl (by rw [ex44]; rfl) (by decide) rfl (fun ls hl => ?_)
      refine lv_goto (tgt := 10) hx hb dX1_distance_47 (by decide) ?_
      exact ih10 _ _ _ _ _ _ _ hf hH hS (lv_sub hl [0, 1, 2, 3] rfl)
  exact hL10 _ _ _ _ _ _ _ _ hf hH hS (lv_sub hl [0, 1, 2, 3] rfl)
def f_X1_findPartners_L18 (a1 : Int32) (v2_2 : Int32) (w2_ : CW) (j71 : Int32 → Option (CW)) : Nat → Int32 → Int32 → Option (CW)
  | 0, _, _ => none
  | n18 + 1, v18_3, v18_4 => (if (f_X5_size w2_ 28) ≤ v18_4 then (j71 v18_3) else (Option.bind (f_X1_distance (rAt w2_ 28 v2_2) (rAt w2_ 28 v18_4)) fun q48 => (nmk (v18_3 ||| (if a1 < q48 then 0 else ((1 : Int32) <<< (v18_4 &&& 31)))) fun (x64 : Int32) => (nmk (v18_4 + 1) fun (x65 : Int32) => (f_X1_findPartners_L18 a1 v2_2 w2_ j71 n18 x64 x65)))))
def f_X1_findPartners_L2 (a1 : Int32) : Nat → Int32 → CW → Option (CW)
  | 0, _, _ => none
  | n2 + 1, v2_2, w2_ => (if (f_X5_size w2_ 28) ≤ v2_2 then (some w2_) else (nmk (fun (y71_3 : Int32) => (nmk (rPut w2_ 53 v2_2 y71_3) fun q77 => (nmk (v2_2 + 1) fun (x80 : Int32) => (f_X1_findPartners_L2 a1 n2 x80 q77)))) fun j71 => (f_X1_findPartners_L18 a1 v2_2 w2_ j71 FU 0 0)))
def f_X1_findPartners (w : CW) (a1 : Int32) : Option (CW) := (f_X1_findPartners_L2 a1 FU 0 w)
abbrev rm_X1_findPartners : Room := { frames := 2, cells := 0, slots := 0, locals := 49 }
theorem cn_X1_findPartners : CN yX1_findPartners 1 := ⟨by decide +kernel, by decide +kernel, by decide +kernel⟩
set_option maxHeartbeats 4000000 in
set_option maxRecDepth 100000 in
theorem c_X1_findPartners (l : Launch) (G : GX) (w : CW) (a1 : Int32) (q : CW) (hf : f_X1_findPartners w a1 = some q) : MV l G yX1_findPartners cX1_findPartners 5 rm_X1_findPartners [.ref (G.2.2.1 199), .int a1] (cA G) (cH G w) (cH G q) := by
  refine cM_start (by decide +kernel) (Nat.le_of_ble_eq_true rfl) ?_
  intro p e s m below meth c ls X hH hl
  have hS : va_S (cA G) s.heap s.heap [] := va_S.rf
  have hx := X.1.1
  have hb := X.1.2.1
  generalize hargs : ([.ref (G.2.2.1 199), .int a1] : List Value).toArray = args at X ⊢
  generalize hQ : MQ below (QV (cA G) (cH G q)) args s 0 0 (cA G) = Q
  have hl : lv_has ls 5 [(0, .ref (G.2.2.1 199)), (1, .int a1)] := hl
  unfold f_X1_findPartners at hf
  refine lv_iconst (v := 0) hx hb dX1_findPartners_0 (by decide) ?_
  refine lv_istore_n (lv' := [(2, .int 0), (0, .ref (G.2.2.1 199)), (1, .int a1)]) hx hb dX1_findPartners_1 rfl hl (by decide) rfl (fun ls hl => ?_)
  have hL2 : ∀ (n2 : Nat) (v2_2 : Int32) (w2_ : CW) (H : Heap) (locs : List Loc) (ls : Array Slot), f_X1_findPartners_L2 a1 n2 v2_2 w2_ = some q → cH G w2_ H → va_S (cA G) s.heap H locs → lv_has ls 5 [(2, .int v2_2), (0, .ref (G.2.2.1 199)), (1, .int a1)] → W p l e rm_X1_findPartners s m args below meth c H locs 0 0 Q (F0 m 2 ls []) := by
    intro n2
    induction n2 with
    | zero => intro v2_2 w2_ H locs ls hf; rw [f_X1_findPartners_L2] at hf; cases hf
    | succ n2 ih2 =>
      intro v2_2 w2_ H locs ls hf hH hS hl
      rw [f_X1_findPartners_L2] at hf
      refine lv_iload_n hx hb dX1_findPartners_2 rfl (lv_at hl 0 rfl) ?_
      refine lv_aload_n hx hb dX1_findPartners_3 rfl (lv_at hl 1 rfl) ?_
      refine co_get X hH 199 (by decide) eO199 rfl inBX1 1 (by decide) rfl bw506 dX1_findPartners_4 ?_
      refine cGi (cVrun (rest := [.int v2_2]) X (c_X5_size l G w2_ 28 (by decide) _ rfl) bw1170 bw624 bw625 bw91 bw626 cn_X5_size ⟨rfl, rfl, Nat.le_of_ble_eq_true rfl, Nat.le_of_ble_eq_true rfl⟩ (c_recR X hH (by decide)) cA_g hH hS hl rfl (Nat.le_of_ble_eq_true rfl) dX1_findPartners_7) hS (fun H locs hH hS => ?_)
      refine lv_icmp_ge (tgt := 86) hx hb dX1_findPartners_10 (by decide) (fun hc => ?_) (fun hc => ?_)
      · have hf := fo_t hc hf
        subst hQ
        exact cEv X (cH1 (so_s hf) hH) hS dX1_findPartners_86
      have hf := fo_f hc hf
      refine lv_iconst (v := 0) hx hb dX1_findPartners_13 (by decide) ?_
      refine lv_istore_n (lv' := [(3, .int 0), (2, .int v2_2), (0, .ref (G.2.2.1 199)), (1, .int a1)]) hx hb dX1_findPartners_14 rfl hl (by decide) rfl (fun ls hl => ?_)
      refine lv_iconst (v := 0) hx hb dX1_findPartners_15 (by decide) ?_
      refine lv_istore (lv' := [(4, .int 0), (3, .int 0), (2, .int v2_2), (0, .ref (G.2.2.1 199)), (1, .int a1)]) hx hb dX1_findPartners_16 hl (by decide) rfl (fun ls hl => ?_)
      obtain ⟨j71, ej71, hf⟩ := nm_x hf
      have hj71 : ∀ (y71_3 : Int32) (H : Heap) (locs : List Loc) (ls : Array Slot), j71 y71_3 = some q → cH G w2_ H → va_S (cA G) s.heap H locs → lv_has ls 5 [(3, .int y71_3), (2, .int v2_2), (0, .ref (G.2.2.1 199)), (1, .int a1)] → W p l e rm_X1_findPartners s m args below meth c H locs 0 0 Q (F0 m 71 ls []) := by
        intro y71_3 H locs ls hf hH hS hl
        have hf := jb1 ej71 hf
        refine lv_aload_n hx hb dX1_findPartners_71 rfl (lv_at hl 2 rfl) ?_
        refine co_get X hH 199 (by decide) eO199 rfl inBX1 5 (by decide) rfl bw513 dX1_findPartners_72 ?_
        refine lv_iload_n hx hb dX1_findPartners_75 rfl (lv_at hl 1 rfl) ?_
        refine lv_iload_n hx hb dX1_findPartners_76 rfl (lv_at hl 0 rfl) ?_
        obtain ⟨q77, hq77, hf⟩ := nm_x hf
        have hq77 := hq77.symm
        refine cGv (cVrun (rest := []) X (cl_X5_put l G w2_ 53 (by decide) v2_2 y71_3 q77 hq77) bw1177 bw352 bw353 bw91 bw354 cn_X5_put ⟨rfl, rfl, Nat.le_of_ble_eq_true rfl, Nat.le_of_ble_eq_true rfl⟩ (c_recR X hH (by decide)) cA_g hH hS hl rfl (Nat.le_of_ble_eq_true rfl) dX1_findPartners_77) hS (fun H locs hH hS => ?_)
        obtain ⟨x80, ex80⟩ : ∃ z : Int32, z = (v2_2 + 1) := ⟨_, rfl⟩
        have hf := nm_s hf x80 ex80
        refine lv_iinc (v := x80) (lv' := [(2, .int x80), (3, .int y71_3), (0, .ref (G.2.2.1 199)), (1, .int a1)]) hx hb dX1_findPartners_80 hl (k := 1) rfl (by rw [ex80]; rfl) (by decide) rfl (fun ls hl => ?_)
        refine lv_goto (tgt := 2) hx hb dX1_findPartners_83 (by decide) ?_
        exact ih2 _ _ _ _ _ hf hH hS (lv_sub hl [0, 2, 3] rfl)
      have hL18 : ∀ (n18 : Nat) (v18_3 : Int32) (v18_4 : Int32) (H : Heap) (locs : List Loc) (ls : Array Slot), f_X1_findPartners_L18 a1 v2_2 w2_ j71 n18 v18_3 v18_4 = some q → cH G w2_ H → va_S (cA G) s.heap H locs → lv_has ls 5 [(4, .int v18_4), (3, .int v18_3), (2, .int v2_2), (0, .ref (G.2.2.1 199)), (1, .int a1)] → W p l e rm_X1_findPartners s m args below meth c H locs 0 0 Q (F0 m 18 ls []) := by
        intro n18
        induction n18 with
        | zero => intro v18_3 v18_4 H locs ls hf; rw [f_X1_findPartners_L18] at hf; cases hf
        | succ n18 ih18 =>
          intro v18_3 v18_4 H locs ls hf hH hS hl
          rw [f_X1_findPartners_L18] at hf
          refine lv_iload hx hb dX1_findPartners_18 (lv_at hl 0 rfl) ?_
          refine lv_aload_n hx hb dX1_findPartners_20 rfl (lv_at hl 3 rfl) ?_
          refine co_get X hH 199 (by decide) eO199 rfl inBX1 1 (by decide) rfl bw506 dX1_findPartners_21 ?_
          refine cGi (cVrun (rest := [.int v18_4]) X (c_X5_size l G w2_ 28 (by decide) _ rfl) bw1170 bw624 bw625 bw91 bw626 cn_X5_size ⟨rfl, rfl, Nat.le_of_ble_eq_true rfl, Nat.le_of_ble_eq_true rfl⟩ (c_recR X hH (by decide)) cA_g hH hS hl rfl (Nat.le_of_ble_eq_true rfl) dX1_findPartners_24) hS (fun H locs hH hS => ?_)
          refine lv_icmp_ge (tgt := 71) hx hb dX1_findPartners_27 (by decide) (fun hc => ?_) (fun hc => ?_)
          · have hf := fo_t hc hf
            exact hj71 _ _ _ _ hf hH hS (lv_sub hl [1, 2, 3, 4] rfl)
          have hf := fo_f hc hf
          refine lv_iload_n hx hb dX1_findPartners_30 rfl (lv_at hl 1 rfl) ?_
          refine lv_aload_n hx hb dX1_findPartners_31 rfl (lv_at hl 3 rfl) ?_
          refine co_get X hH 199 (by decide) eO199 rfl inBX1 1 (by decide) rfl bw506 dX1_findPartners_32 ?_
          refine lv_iload_n hx hb dX1_findPartners_35 rfl (lv_at hl 2 rfl) ?_
          refine cGi (cVrun (rest := [.int v18_3]) X (cl_X5_at l G w2_ 28 (by decide) v2_2 _ rfl) bw1175 bw628 bw629 bw91 bw630 cn_X5_at ⟨rfl, rfl, Nat.le_of_ble_eq_true rfl, Nat.le_of_ble_eq_true rfl⟩ (c_recR X hH (by decide)) cA_g hH hS hl rfl (Nat.le_of_ble_eq_true rfl) dX1_findPartners_36) hS (fun H locs hH hS => ?_)
          refine lv_aload_n hx hb dX1_findPartners_39 rfl (lv_at hl 3 rfl) ?_
          refine co_get X hH 199 (by decide) eO199 rfl inBX1 1 (by decide) rfl bw506 dX1_findPartners_40 ?_
          refine lv_iload hx hb dX1_findPartners_43 (lv_at hl 0 rfl) ?_
          refine cGi (cVrun (rest := [.int (rAt w2_ 28 v2_2), .int v18_3]) X (cl_X5_at l G w2_ 28 (by decide) v18_4 _ rfl) bw1175 bw628 bw629 bw91 bw630 cn_X5_at ⟨rfl, rfl, Nat.le_of_ble_eq_true rfl, Nat.le_of_ble_eq_true rfl⟩ (c_recR X hH (by decide)) cA_g hH hS hl rfl (Nat.le_of_ble_eq_true rfl) dX1_findPartners_45) hS (fun H locs hH hS => ?_)
          obtain ⟨q48, hq48, hf⟩ := bd_s hf
          refine cGi (cSrun (rest := [.int v18_3]) X (c_X1_distance l G (cH G w2_) (cA G) cA_g (rAt w2_ 28 v2_2) (rAt w2_ 28 v18_4) q48 hq48) bw1194 bw1195 bw103 bw1196 cn_X1_distance ⟨rfl, rfl, Nat.le_of_ble_eq_true rfl, Nat.le_of_ble_eq_true rfl⟩ cA_g hH hS hl rfl (Nat.le_of_ble_eq_true rfl) dX1_findPartners_48) hS (fun H locs hH hS => ?_)
          refine lv_iload_n hx hb dX1_findPartners_51 rfl (lv_at hl 4 rfl) ?_
          have hJ : ∀ (H : Heap) (locs : List Loc), cH G w2_ H → va_S (cA G) s.heap H locs → W p l e rm_X1_findPartners s m args below meth c H locs 0 0 Q (F0 m 63 ls [.int (if a1 < q48 then 0 else ((1 : Int32) <<< (v18_4 &&& 31))), .int v18_3]) := by
            intro H locs hH hS
            refine lv_ior hx hb dX1_findPartners_63 ?_
            refine lv_topi (fun x64 ex64 => ?_)
            have hf := nm_s hf x64 ex64
            refine lv_istore_n (lv' := [(3, .int x64), (4, .int v18_4), (2, .int v2_2), (0, .ref (G.2.2.1 199)), (1, .int a1)]) hx hb dX1_findPartners_64 rfl hl (by decide) rfl (fun ls hl => ?_)
            obtain ⟨x65, ex65⟩ : ∃ z : Int32, z = (v18_4 + 1) := ⟨_, rfl⟩
            have hf := nm_s hf x65 ex65
            refine lv_iinc (v := x65) (lv' := [(4, .int x65), (3, .int x64), (2, .int v2_2), (0, .ref (G.2.2.1 199)), (1, .int a1)]) hx hb dX1_findPartners_65 hl (k := 1) rfl (by rw [ex65]; rfl) (by decide) rfl (fun ls hl => ?_)
            refine lv_goto (tgt := 18) hx hb dX1_findPartners_68 (by decide) ?_
            exact ih18 _ _ _ _ _ hf hH hS (lv_sub hl [0, 1, 2, 3, 4] rfl)
          refine lv_icmp_gt (tgt := 62) hx hb dX1_findPartners_52 (by decide) (fun hc52 => ?_) (fun hc52 => ?_)
          · refine lv_iconst (v := 0) hx hb dX1_findPartners_62 (by decide) ?_
            exact W.eq (by rw [if_pos hc52] <;> rfl) (hJ _ _ hH hS)
          · refine lv_iconst (v := 1) hx hb dX1_findPartners_55 (by decide) ?_
            refine lv_iload hx hb dX1_findPartners_56 (lv_at hl 0 rfl) ?_
            refine lv_ishl hx hb dX1_findPartners_58 ?_
            refine lv_goto (tgt := 63) hx hb dX1_findPartners_59 (by decide) ?_
            exact W.eq (by rw [if_neg hc52] <;> rfl) (hJ _ _ hH hS)
      exact hL18 _ _ _ _ _ _ hf hH hS (lv_sub hl [0, 1, 2, 3, 4] rfl)
  exact hL2 _ _ _ _ _ _ hf hH hS (lv_sub hl [0, 1, 2] rfl)
def f_X1_tryHand (w : CW) (a1 : Int32) (a2 : Int32) : CW := (if (rAt w 55 a2) = 0 then (w) else (nmk (1 + (rAt w 56 (a1 &&& (a2 ^^^ (-1))))) fun (x26 : Int32) => (nmk (fun (w57_ : CW) => (if x26 = (rAt w57_ 56 a1) then (nmk (rAdd w57_ 57 a1 (rAt w57_ 57 (a1 &&& (a2 ^^^ (-1))))) fun q86 => (q86)) else (w57_))) fun j57 => (if (rAt w 56 a1) ≤ x26 then (j57 w) else (nmk (rPut w 56 a1 x26) fun q45 => (nmk (rPut q45 57 a1 0) fun q54 => (j57 q54)))))))
abbrev rm_X1_tryHand : Room := { frames := 3, cells := 0, slots := 0, locals := 44 }
theorem cn_X1_tryHand : CN yX1_tryHand 2 := ⟨by decide +kernel, by decide +kernel, by decide +kernel⟩
set_option maxHeartbeats 4000000 in
set_option maxRecDepth 100000 in
theorem c_X1_tryHand (l : Launch) (G : GX) (w : CW) (a1 : Int32) (a2 : Int32) (q : CW) (hf : f_X1_tryHand w a1 a2 = q) : MV l G yX1_tryHand cX1_tryHand 4 rm_X1_tryHand [.ref (G.2.2.1 199), .int a1, .int a2] (cA G) (cH G w) (cH G q) := by
  refine cM_start (by decide +kernel) (Nat.le_of_ble_eq_true rfl) ?_
  intro p e s m below meth c ls X hH hl
  have hS : va_S (cA G) s.heap s.heap [] := va_S.rf
  have hx := X.1.1
  have hb := X.1.2.1
  generalize hargs : ([.ref (G.2.2.1 199), .int a1, .int a2] : List Value).toArray = args at X ⊢
  generalize hQ : MQ below (QV (cA G) (cH G q)) args s 0 0 (cA G) = Q
  have hl : lv_has ls 4 [(0, .ref (G.2.2.1 199)), (1, .int a1), (2, .int a2)] := hl
  unfold f_X1_tryHand at hf
  refine lv_aload_n hx hb dX1_tryHand_0 rfl (lv_at hl 0 rfl) ?_
  refine co_get X hH 199 (by decide) eO199 rfl inBX1 7 (by decide) rfl bw515 dX1_tryHand_1 ?_
  refine lv_iload_n hx hb dX1_tryHand_4 rfl (lv_at hl 2 rfl) ?_
  refine cGi (cVrun (rest := []) X (cl_X5_at l G w 55 (by decide) a2 _ rfl) bw1175 bw628 bw629 bw91 bw630 cn_X5_at ⟨rfl, rfl, Nat.le_of_ble_eq_true rfl, Nat.le_of_ble_eq_true rfl⟩ (c_recR X hH (by decide)) cA_g hH hS hl rfl (Nat.le_of_ble_eq_true rfl) dX1_tryHand_5) hS (fun H locs hH hS => ?_)
  refine lv_if_ne (tgt := 12) hx hb dX1_tryHand_8 (by decide) (fun hc => ?_) (fun hc => ?_)
  rotate_left
  · have hf := fo_t hc hf
    subst hQ
    exact cEv X (cH1 (hf) hH) hS dX1_tryHand_11
  have hf := fo_f hc hf
  refine lv_iconst (v := 1) hx hb dX1_tryHand_12 (by decide) ?_
  refine lv_aload_n hx hb dX1_tryHand_13 rfl (lv_at hl 0 rfl) ?_
  refine co_get X hH 199 (by decide) eO199 rfl inBX1 8 (by decide) rfl bw516 dX1_tryHand_14 ?_
  refine lv_iload_n hx hb dX1_tryHand_17 rfl (lv_at hl 1 rfl) ?_
  refine lv_iload_n hx hb dX1_tryHand_18 rfl (lv_at hl 2 rfl) ?_
  refine lv_iconst (v := (-1)) hx hb dX1_tryHand_19 (by decide) ?_
  refine lv_ixor hx hb dX1_tryHand_20 ?_
  refine lv_iand hx hb dX1_tryHand_21 ?_
  refine cGi (cVrun (rest := [.int 1]) X (cl_X5_at l G w 56 (by decide) (a1 &&& (a2 ^^^ (-1))) _ rfl) bw1175 bw628 bw629 bw91 bw630 cn_X5_at ⟨rfl, rfl, Nat.le_of_ble_eq_true rfl, Nat.le_of_ble_eq_true rfl⟩ (c_recR X hH (by decide)) cA_g hH hS hl rfl (Nat.le_of_ble_eq_true rfl) dX1_tryHand_22) hS (fun H locs hH hS => ?_)
  refine lv_iadd hx hb dX1_tryHand_25 ?_
  refine lv_topi (fun x26 ex26 => ?_)
  have hf := nm_s hf x26 ex26
  refine lv_istore_n (lv' := [(3, .int x26), (0, .ref (G.2.2.1 199)), (1, .int a1), (2, .int a2)]) hx hb dX1_tryHand_26 rfl hl (by decide) rfl (fun ls hl => ?_)
  refine lv_iload_n hx hb dX1_tryHand_27 rfl (lv_at hl 0 rfl) ?_
  refine lv_aload_n hx hb dX1_tryHand_28 rfl (lv_at hl 1 rfl) ?_
  refine co_get X hH 199 (by decide) eO199 rfl inBX1 8 (by decide) rfl bw516 dX1_tryHand_29 ?_
  refine lv_iload_n hx hb dX1_tryHand_32 rfl (lv_at hl 2 rfl) ?_
  refine cGi (cVrun (rest := [.int x26]) X (cl_X5_at l G w 56 (by decide) a1 _ rfl) bw1175 bw628 bw629 bw91 bw630 cn_X5_at ⟨rfl, rfl, Nat.le_of_ble_eq_true rfl, Nat.le_of_ble_eq_true rfl⟩ (c_recR X hH (by decide)) cA_g hH hS hl rfl (Nat.le_of_ble_eq_true rfl) dX1_tryHand_33) hS (fun H locs hH hS => ?_)
  obtain ⟨j57, ej57, hf⟩ := nm_x hf
  have hj57 : ∀ (w57_ : CW) (H : Heap) (locs : List Loc) (ls : Array Slot), j57 w57_ = q → cH G w57_ H → va_S (cA G) s.heap H locs → lv_has ls 4 [(3, .int x26), (0, .ref (G.2.2.1 199)), (1, .int a1), (2, .int a2)] → W p l e rm_X1_tryHand s m args below meth c H locs 0 0 Q (F0 m 57 ls []) := by
    intro w57_ H locs ls hf hH hS hl
    have hf := jb1 ej57 hf
    refine lv_iload_n hx hb dX1_tryHand_57 rfl (lv_at hl 0 rfl) ?_
    refine lv_aload_n hx hb dX1_tryHand_58 rfl (lv_at hl 1 rfl) ?_
    refine co_get X hH 199 (by decide) eO199 rfl inBX1 8 (by decide) rfl bw516 dX1_tryHand_59 ?_
    refine lv_iload_n hx hb dX1_tryHand_62 rfl (lv_at hl 2 rfl) ?_
    refine cGi (cVrun (rest := [.int x26]) X (cl_X5_at l G w57_ 56 (by decide) a1 _ rfl) bw1175 bw628 bw629 bw91 bw630 cn_X5_at ⟨rfl, rfl, Nat.le_of_ble_eq_true rfl, Nat.le_of_ble_eq_true rfl⟩ (c_recR X hH (by decide)) cA_g hH hS hl rfl (Nat.le_of_ble_eq_true rfl) dX1_tryHand_63) hS (fun H locs hH hS => ?_)
    refine lv_icmp_ne (tgt := 89) hx hb dX1_tryHand_66 (by decide) (fun hc => ?_) (fun hc => ?_)
    · have hf := fo_f hc hf
      subst hQ
      exact cEv X (cH1 (hf) hH) hS dX1_tryHand_89
    have hf := fo_t hc hf
    refine lv_aload_n hx hb dX1_tryHand_69 rfl (lv_at hl 1 rfl) ?_
    refine co_get X hH 199 (by decide) eO199 rfl inBX1 9 (by decide) rfl bw517 dX1_tryHand_70 ?_
    refine lv_iload_n hx hb dX1_tryHand_73 rfl (lv_at hl 2 rfl) ?_
    refine lv_aload_n hx hb dX1_tryHand_74 rfl (lv_at hl 1 rfl) ?_
    refine co_get X hH 199 (by decide) eO199 rfl inBX1 9 (by decide) rfl bw517 dX1_tryHand_75 ?_
    refine lv_iload_n hx hb dX1_tryHand_78 rfl (lv_at hl 2 rfl) ?_
    refine lv_iload_n hx hb dX1_tryHand_79 rfl (lv_at hl 3 rfl) ?_
    refine lv_iconst (v := (-1)) hx hb dX1_tryHand_80 (by decide) ?_
    refine lv_ixor hx hb dX1_tryHand_81 ?_
    refine lv_iand hx hb dX1_tryHand_82 ?_
    refine cGi (cVrun (rest := [.int a1, .ref (G.2.2.1 57)]) X (cl_X5_at l G w57_ 57 (by decide) (a1 &&& (a2 ^^^ (-1))) _ rfl) bw1175 bw628 bw629 bw91 bw630 cn_X5_at ⟨rfl, rfl, Nat.le_of_ble_eq_true rfl, Nat.le_of_ble_eq_true rfl⟩ (c_recR X hH (by decide)) cA_g hH hS hl rfl (Nat.le_of_ble_eq_true rfl) dX1_tryHand_83) hS (fun H locs hH hS => ?_)
    obtain ⟨q86, hq86, hf⟩ := nm_x hf
    have hq86 := hq86.symm
    refine cGv (cVrun (rest := []) X (cl_X5_add l G w57_ 57 (by decide) a1 (rAt w57_ 57 (a1 &&& (a2 ^^^ (-1)))) q86 hq86) bw1213 bw648 bw649 bw91 bw650 cn_X5_add ⟨rfl, rfl, Nat.le_of_ble_eq_true rfl, Nat.le_of_ble_eq_true rfl⟩ (c_recR X hH (by decide)) cA_g hH hS hl rfl (Nat.le_of_ble_eq_true rfl) dX1_tryHand_86) hS (fun H locs hH hS => ?_)
    subst hQ
    exact cEv X (cH1 (hf) hH) hS dX1_tryHand_89
  refine lv_icmp_ge (tgt := 57) hx hb dX1_tryHand_36 (by decide) (fun hc => ?_) (fun hc => ?_)
  · have hf := fo_t hc hf
    exact hj57 _ _ _ _ hf hH hS (lv_sub hl [0, 1, 2, 3] rfl)
  have hf := fo_f hc hf
  refine lv_aload_n hx hb dX1_tryHand_39 rfl (lv_at hl 1 rfl) ?_
  refine co_get X hH 199 (by decide) eO199 rfl inBX1 8 (by decide) rfl bw516 dX1_tryHand_40 ?_
  refine lv_iload_n hx hb dX1_tryHand_43 rfl (lv_at hl 2 rfl) ?_
  refine lv_iload_n hx hb dX1_tryHand_44 rfl (lv_at hl 0 rfl) ?_
  obtain ⟨q45, hq45, hf⟩ := nm_x hf
  have hq45 := hq45.symm
  refine cGv (cVrun (rest := []) X (cl_X5_put l G w 56 (by decide) a1 x26 q45 hq45) bw1177 bw352 bw353 bw91 bw354 cn_X5_put ⟨rfl, rfl, Nat.le_of_ble_eq_true rfl, Nat.le_of_ble_eq_true rfl⟩ (c_recR X hH (by decide)) cA_g hH hS hl rfl (Nat.le_of_ble_eq_true rfl) dX1_tryHand_45) hS (fun H locs hH hS => ?_)
  refine lv_aload_n hx hb dX1_tryHand_48 rfl (lv_at hl 1 rfl) ?_
  refine co_get X hH 199 (by decide) eO199 rfl inBX1 9 (by decide) rfl bw517 dX1_tryHand_49 ?_
  refine lv_iload_n hx hb dX1_tryHand_52 rfl (lv_at hl 2 rfl) ?_
  refine lv_iconst (v := 0) hx hb dX1_tryHand_53 (by decide) ?_
  obtain ⟨q54, hq54, hf⟩ := nm_x hf
  have hq54 := hq54.symm
  refine cGv (cVrun (rest := []) X (cl_X5_put l G q45 57 (by decide) a1 0 q54 hq54) bw1177 bw352 bw353 bw91 bw354 cn_X5_put ⟨rfl, rfl, Nat.le_of_ble_eq_true rfl, Nat.le_of_ble_eq_true rfl⟩ (c_recR X hH (by decide)) cA_g hH hS hl rfl (Nat.le_of_ble_eq_true rfl) dX1_tryHand_54) hS (fun H locs hH hS => ?_)
  exact hj57 _ _ _ _ hf hH hS (lv_sub hl [0, 1, 2, 3] rfl)
def f_X1_explain_L13 (a1 : Int32) (a2 : Int32) (a3 : Int32) (j38 : CW → Option (CW)) : Nat → Int32 → CW → Option (CW)
  | 0, _, _ => none
  | n13 + 1, v13_4, w13_ => (if v13_4 ≤ 0 then (j38 w13_) else (nmk (f_X1_tryHand w13_ a1 (a2 ||| v13_4)) fun q24 => (nmk ((v13_4 - 1) &&& a3) fun (x33 : Int32) => (f_X1_explain_L13 a1 a2 a3 j38 n13 x33 q24))))
def f_X1_explain (w : CW) (a1 : Int32) (a2 : Int32) (a3 : Int32) : Option (CW) := (nmk (rPut w 56 a1 11) fun q7 => (nmk (fun (w38_ : CW) => (nmk (f_X1_tryHand w38_ a1 a2) fun q41 => (some q41))) fun j38 => (f_X1_explain_L13 a1 a2 a3 j38 FU a3 q7)))
abbrev rm_X1_explain : Room := { frames := 4, cells := 0, slots := 0, locals := 67 }
theorem cn_X1_explain : CN yX1_explain 3 := ⟨by decide +kernel, by decide +kernel, by decide +kernel⟩
set_option maxHeartbeats 4000000 in
set_option maxRecDepth 100000 in
theorem c_X1_explain (l : Launch) (G : GX) (w : CW) (a1 : Int32) (a2 : Int32) (a3 : Int32) (q : CW) (hf : f_X1_explain w a1 a2 a3 = some q) : MV l G yX1_explain cX1_explain 5 rm_X1_explain [.ref (G.2.2.1 199), .int a1, .int a2, .int a3] (cA G) (cH G w) (cH G q) := by
  refine cM_start (by decide +kernel) (Nat.le_of_ble_eq_true rfl) ?_
  intro p e s m below meth c ls X hH hl
  have hS : va_S (cA G) s.heap s.heap [] := va_S.rf
  have hx := X.1.1
  have hb := X.1.2.1
  generalize hargs : ([.ref (G.2.2.1 199), .int a1, .int a2, .int a3] : List Value).toArray = args at X ⊢
  generalize hQ : MQ below (QV (cA G) (cH G q)) args s 0 0 (cA G) = Q
  have hl : lv_has ls 5 [(0, .ref (G.2.2.1 199)), (1, .int a1), (2, .int a2), (3, .int a3)] := hl
  unfold f_X1_explain at hf
  refine lv_aload_n hx hb dX1_explain_0 rfl (lv_at hl 0 rfl) ?_
  refine co_get X hH 199 (by decide) eO199 rfl inBX1 8 (by decide) rfl bw516 dX1_explain_1 ?_
  refine lv_iload_n hx hb dX1_explain_4 rfl (lv_at hl 1 rfl) ?_
  refine lv_bipush (v := 11) hx hb dX1_explain_5 (by decide) ?_
  obtain ⟨q7, hq7, hf⟩ := nm_x hf
  have hq7 := hq7.symm
  refine cGv (cVrun (rest := []) X (cl_X5_put l G w 56 (by decide) a1 11 q7 hq7) bw1177 bw352 bw353 bw91 bw354 cn_X5_put ⟨rfl, rfl, Nat.le_of_ble_eq_true rfl, Nat.le_of_ble_eq_true rfl⟩ (c_recR X hH (by decide)) cA_g hH hS hl rfl (Nat.le_of_ble_eq_true rfl) dX1_explain_7) hS (fun H locs hH hS => ?_)
  refine lv_iload_n hx hb dX1_explain_10 rfl (lv_at hl 3 rfl) ?_
  refine lv_istore (lv' := [(4, .int a3), (0, .ref (G.2.2.1 199)), (1, .int a1), (2, .int a2), (3, .int a3)]) hx hb dX1_explain_11 hl (by decide) rfl (fun ls hl => ?_)
  obtain ⟨j38, ej38, hf⟩ := nm_x hf
  have hj38 : ∀ (w38_ : CW) (H : Heap) (locs : List Loc) (ls : Array Slot), j38 w38_ = some q → cH G w38_ H → va_S (cA G) s.heap H locs → lv_has ls 5 [(0, .ref (G.2.2.1 199)), (1, .int a1), (2, .int a2)] → W p l e rm_X1_explain s m args below meth c H locs 0 0 Q (F0 m 38 ls []) := by
    intro w38_ H locs ls hf hH hS hl
    have hf := jb1 ej38 hf
    refine lv_aload_n hx hb dX1_explain_38 rfl (lv_at hl 0 rfl) ?_
    refine lv_iload_n hx hb dX1_explain_39 rfl (lv_at hl 1 rfl) ?_
    refine lv_iload_n hx hb dX1_explain_40 rfl (lv_at hl 2 rfl) ?_
    obtain ⟨q41, hq41, hf⟩ := nm_x hf
    have hq41 := hq41.symm
    refine cGv (cVrun (rest := []) X (c_X1_tryHand l G w38_ a1 a2 q41 hq41) bw1209 bw1211 bw42 bw103 bw1212 cn_X1_tryHand ⟨rfl, rfl, Nat.le_of_ble_eq_true rfl, Nat.le_of_ble_eq_true rfl⟩ (c_rec X hH 199 (by decide) eO199 rfl) cA_g hH hS hl rfl (Nat.le_of_ble_eq_true rfl) dX1_explain_41) hS (fun H locs hH hS => ?_)
    subst hQ
    exact cEv X (cH1 (so_s hf) hH) hS dX1_explain_44
  have hL13 : ∀ (n13 : Nat) (v13_4 : Int32) (w13_ : CW) (H : Heap) (locs : List Loc) (ls : Array Slot), f_X1_explain_L13 a1 a2 a3 j38 n13 v13_4 w13_ = some q → cH G w13_ H → va_S (cA G) s.heap H locs → lv_has ls 5 [(4, .int v13_4), (0, .ref (G.2.2.1 199)), (1, .int a1), (2, .int a2), (3, .int a3)] → W p l e rm_X1_explain s m args below meth c H locs 0 0 Q (F0 m 13 ls []) := by
    intro n13
    induction n13 with
    | zero => intro v13_4 w13_ H locs ls hf; rw [f_X1_explain_L13] at hf; cases hf
    | succ n13 ih13 =>
      intro v13_4 w13_ H locs ls hf hH hS hl
      rw [f_X1_explain_L13] at hf
      refine lv_iload hx hb dX1_explain_13 (lv_at hl 0 rfl) ?_
      refine lv_if_le (tgt := 38) hx hb dX1_explain_15 (by decide) (fun hc => ?_) (fun hc => ?_)
      · have hf := fo_t hc hf
        exact hj38 _ _ _ _ hf hH hS (lv_sub hl [1, 2, 3] rfl)
      have hf := fo_f hc hf
      refine lv_aload_n hx hb dX1_explain_18 rfl (lv_at hl 1 rfl) ?_
      refine lv_iload_n hx hb dX1_explain_19 rfl (lv_at hl 2 rfl) ?_
      refine lv_iload_n hx hb dX1_explain_20 rfl (lv_at hl 3 rfl) ?_
      refine lv_iload hx hb dX1_explain_21 (lv_at hl 0 rfl) ?_
      refine lv_ior hx hb dX1_explain_23 ?_
      obtain ⟨q24, hq24, hf⟩ := nm_x hf
      have hq24 := hq24.symm
      refine cGv (cVrun (rest := []) X (c_X1_tryHand l G w13_ a1 (a2 ||| v13_4) q24 hq24) bw1209 bw1211 bw42 bw103 bw1212 cn_X1_tryHand ⟨rfl, rfl, Nat.le_of_ble_eq_true rfl, Nat.le_of_ble_eq_true rfl⟩ (c_rec X hH 199 (by decide) eO199 rfl) cA_g hH hS hl rfl (Nat.le_of_ble_eq_true rfl) dX1_explain_24) hS (fun H locs hH hS => ?_)
      refine lv_iload hx hb dX1_explain_27 (lv_at hl 0 rfl) ?_
      refine lv_iconst (v := 1) hx hb dX1_explain_29 (by decide) ?_
      refine lv_isub hx hb dX1_explain_30 ?_
      refine lv_iload_n hx hb dX1_explain_31 rfl (lv_at hl 4 rfl) ?_
      refine lv_iand hx hb dX1_explain_32 ?_
      refine lv_topi (fun x33 ex33 => ?_)
      have hf := nm_s hf x33 ex33
      refine lv_istore (lv' := [(4, .int x33), (0, .ref (G.2.2.1 199)), (1, .int a1), (2, .int a2), (3, .int a3)]) hx hb dX1_explain_33 hl (by decide) rfl (fun ls hl => ?_)
      refine lv_goto (tgt := 13) hx hb dX1_explain_35 (by decide) ?_
      exact ih13 _ _ _ _ _ hf hH hS (lv_sub hl [0, 1, 2, 3, 4] rfl)
  exact hL13 _ _ _ _ _ _ hf hH hS (lv_sub hl [0, 1, 2, 3, 4] rfl)
def f_X1_findHands_L49 (x19 : Int32) : Nat → Int32 → CW → Option (CW)
  | 0, _, _ => none
  | n49 + 1, v49_3, w49_ => (if x19 ≤ v49_3 then (some w49_) else (nmk (f_J6_numberOfTrailingZeros_0f7a4 v49_3) fun (x58 : Int32) => (nmk (v49_3 &&& (v49_3 - 1)) fun (x65 : Int32) => (nmk (if (rAt w49_ 55 x65) = 1 then (if (x65 &&& ((rAt w49_ 53 x58) ^^^ (-1))) = 0 then 1 else 0) else 0) fun (x102 : Int32) => (nmk (rPut w49_ 55 v49_3 (if x102 = 0 then 0 else 1)) fun q119 => (Option.bind (f_X1_explain q119 v49_3 ((1 : Int32) <<< (x58 &&& 31)) x65) fun q130 => (nmk (v49_3 + 1) fun (x133 : Int32) => (f_X1_findHands_L49 x19 n49 x133 q130))))))))
def f_X1_findHands (w : CW) (a1 : Int32) : Option (CW) := (Option.bind (f_X1_findPartners w a1) fun q2 => (nmk ((1 : Int32) <<< ((if 10 < (f_X5_size q2 28) then 10 else (f_X5_size q2 28)) &&& 31)) fun (x19 : Int32) => (nmk (rPut q2 55 0 1) fun q26 => (nmk (rPut q26 56 0 0) fun q35 => (nmk (rPut q35 57 0 1) fun q44 => (f_X1_findHands_L49 x19 FU 1 q44))))))
abbrev rm_X1_findHands : Room := { frames := 5, cells := 0, slots := 0, locals := 91 }
theorem cn_X1_findHands : CN yX1_findHands 1 := ⟨by decide +kernel, by decide +kernel, by decide +kernel⟩
set_option maxHeartbeats 4000000 in
set_option maxRecDepth 100000 in
theorem c_X1_findHands (l : Launch) (G : GX) (w : CW) (a1 : Int32) (q : CW) (hf : f_X1_findHands w a1 = some q) : MV l G yX1_findHands cX1_findHands 7 rm_X1_findHands [.ref (G.2.2.1 199), .int a1] (cA G) (cH G w) (cH G q) := by
  refine cM_start (by decide +kernel) (Nat.le_of_ble_eq_true rfl) ?_
  intro p e s m below meth c ls X hH hl
  have hS : va_S (cA G) s.heap s.heap [] := va_S.rf
  have hx := X.1.1
  have hb := X.1.2.1
  generalize hargs : ([.ref (G.2.2.1 199), .int a1] : List Value).toArray = args at X ⊢
  generalize hQ : MQ below (QV (cA G) (cH G q)) args s 0 0 (cA G) = Q
  have hl : lv_has ls 7 [(0, .ref (G.2.2.1 199)), (1, .int a1)] := hl
  unfold f_X1_findHands at hf
  refine lv_aload_n hx hb dX1_findHands_0 rfl (lv_at hl 0 rfl) ?_
  refine lv_iload_n hx hb dX1_findHands_1 rfl (lv_at hl 1 rfl) ?_
  obtain ⟨q2, hq2, hf⟩ := bd_s hf
  refine cGv (cVrun (rest := []) X (c_X1_findPartners l G w a1 q2 hq2) bw1190 bw1192 bw40 bw103 bw1193 cn_X1_findPartners ⟨rfl, rfl, Nat.le_of_ble_eq_true rfl, Nat.le_of_ble_eq_true rfl⟩ (c_rec X hH 199 (by decide) eO199 rfl) cA_g hH hS hl rfl (Nat.le_of_ble_eq_true rfl) dX1_findHands_2) hS (fun H locs hH hS => ?_)
  refine lv_iconst (v := 1) hx hb dX1_findHands_5 (by decide) ?_
  refine lv_aload_n hx hb dX1_findHands_6 rfl (lv_at hl 0 rfl) ?_
  refine co_get X hH 199 (by decide) eO199 rfl inBX1 1 (by decide) rfl bw506 dX1_findHands_7 ?_
  refine cGi (cVrun (rest := [.int 1]) X (c_X5_size l G q2 28 (by decide) _ rfl) bw1170 bw624 bw625 bw91 bw626 cn_X5_size ⟨rfl, rfl, Nat.le_of_ble_eq_true rfl, Nat.le_of_ble_eq_true rfl⟩ (c_recR X hH (by decide)) cA_g hH hS hl rfl (Nat.le_of_ble_eq_true rfl) dX1_findHands_10) hS (fun H locs hH hS => ?_)
  refine lv_bipush (v := 10) hx hb dX1_findHands_13 (by decide) ?_
  refine va_mmin hx hb (X.1.2.2.1.trans hl.1.symm) X.1.2.2.2.1 (X.w bw1200) (X.w bw231) (X.w bw93) (X.w bw232) (Nat.le_of_ble_eq_true rfl) (Nat.le_of_ble_eq_true rfl) (Nat.zero_le _) (Nat.zero_le _) dX1_findHands_15 ?_
  refine lv_ishl hx hb dX1_findHands_18 ?_
  refine lv_topi (fun x19 ex19 => ?_)
  have hf := nm_s hf x19 ex19
  refine lv_istore_n (lv' := [(2, .int x19), (0, .ref (G.2.2.1 199)), (1, .int a1)]) hx hb dX1_findHands_19 rfl hl (by decide) rfl (fun ls hl => ?_)
  refine lv_aload_n hx hb dX1_findHands_20 rfl (lv_at hl 1 rfl) ?_
  refine co_get X hH 199 (by decide) eO199 rfl inBX1 7 (by decide) rfl bw515 dX1_findHands_21 ?_
  refine lv_iconst (v := 0) hx hb dX1_findHands_24 (by decide) ?_
  refine lv_iconst (v := 1) hx hb dX1_findHands_25 (by decide) ?_
  obtain ⟨q26, hq26, hf⟩ := nm_x hf
  have hq26 := hq26.symm
  refine cGv (cVrun (rest := []) X (cl_X5_put l G q2 55 (by decide) 0 1 q26 hq26) bw1177 bw352 bw353 bw91 bw354 cn_X5_put ⟨rfl, rfl, Nat.le_of_ble_eq_true rfl, Nat.le_of_ble_eq_true rfl⟩ (c_recR X hH (by decide)) cA_g hH hS hl rfl (Nat.le_of_ble_eq_true rfl) dX1_findHands_26) hS (fun H locs hH hS => ?_)
  refine lv_aload_n hx hb dX1_findHands_29 rfl (lv_at hl 1 rfl) ?_
  refine co_get X hH 199 (by decide) eO199 rfl inBX1 8 (by decide) rfl bw516 dX1_findHands_30 ?_
  refine lv_iconst (v := 0) hx hb dX1_findHands_33 (by decide) ?_
  refine lv_iconst (v := 0) hx hb dX1_findHands_34 (by decide) ?_
  obtain ⟨q35, hq35, hf⟩ := nm_x hf
  have hq35 := hq35.symm
  refine cGv (cVrun (rest := []) X (cl_X5_put l G q26 56 (by decide) 0 0 q35 hq35) bw1177 bw352 bw353 bw91 bw354 cn_X5_put ⟨rfl, rfl, Nat.le_of_ble_eq_true rfl, Nat.le_of_ble_eq_true rfl⟩ (c_recR X hH (by decide)) cA_g hH hS hl rfl (Nat.le_of_ble_eq_true rfl) dX1_findHands_35) hS (fun H locs hH hS => ?_)
  refine lv_aload_n hx hb dX1_findHands_38 rfl (lv_at hl 1 rfl) ?_
  refine co_get X hH 199 (by decide) eO199 rfl inBX1 9 (by decide) rfl bw517 dX1_findHands_39 ?_
  refine lv_iconst (v := 0) hx hb dX1_findHands_42 (by decide) ?_
  refine lv_iconst (v := 1) hx hb dX1_findHands_43 (by decide) ?_
  obtain ⟨q44, hq44, hf⟩ := nm_x hf
  have hq44 := hq44.symm
  refine cGv (cVrun (rest := []) X (cl_X5_put l G q35 57 (by decide) 0 1 q44 hq44) bw1177 bw352 bw353 bw91 bw354 cn_X5_put ⟨rfl, rfl, Nat.le_of_ble_eq_true rfl, Nat.le_of_ble_eq_true rfl⟩ (c_recR X hH (by decide)) cA_g hH hS hl rfl (Nat.le_of_ble_eq_true rfl) dX1_findHands_44) hS (fun H locs hH hS => ?_)
  refine lv_iconst (v := 1) hx hb dX1_findHands_47 (by decide) ?_
  refine lv_istore_n (lv' := [(3, .int 1), (2, .int x19), (0, .ref (G.2.2.1 199)), (1, .int a1)]) hx hb dX1_findHands_48 rfl hl (by decide) rfl (fun ls hl => ?_)
  have hL49 : ∀ (n49 : Nat) (v49_3 : Int32) (w49_ : CW) (H : Heap) (locs : List Loc) (ls : Array Slot), f_X1_findHands_L49 x19 n49 v49_3 w49_ = some q → cH G w49_ H → va_S (cA G) s.heap H locs → lv_has ls 7 [(3, .int v49_3), (2, .int x19), (0, .ref (G.2.2.1 199))] → W p l e rm_X1_findHands s m args below meth c H locs 0 0 Q (F0 m 49 ls []) := by
    intro n49
    induction n49 with
    | zero => intro v49_3 w49_ H locs ls hf; rw [f_X1_findHands_L49] at hf; cases hf
    | succ n49 ih49 =>
      intro v49_3 w49_ H locs ls hf hH hS hl
      rw [f_X1_findHands_L49] at hf
      refine lv_iload_n hx hb dX1_findHands_49 rfl (lv_at hl 0 rfl) ?_
      refine lv_iload_n hx hb dX1_findHands_50 rfl (lv_at hl 1 rfl) ?_
      refine lv_icmp_ge (tgt := 139) hx hb dX1_findHands_51 (by decide) (fun hc => ?_) (fun hc => ?_)
      · have hf := fo_t hc hf
        subst hQ
        exact cEv X (cH1 (so_s hf) hH) hS dX1_findHands_139
      have hf := fo_f hc hf
      refine lv_iload_n hx hb dX1_findHands_54 rfl (lv_at hl 0 rfl) ?_
      refine cGi (cSrun (rest := []) X (c_J6_numberOfTrailingZeros_0f7a4 l G (cH G w49_) (cA G) cA_g v49_3 _ rfl) bw1201 bw1202 bw110 bw1203 cn_J6_numberOfTrailingZeros_0f7a4 ⟨rfl, rfl, Nat.le_of_ble_eq_true rfl, Nat.le_of_ble_eq_true rfl⟩ cA_g hH hS hl rfl (Nat.le_of_ble_eq_true rfl) dX1_findHands_55) hS (fun H locs hH hS => ?_)
      refine lv_topi (fun x58 ex58 => ?_)
      have hf := nm_s hf x58 ex58
      refine lv_istore (lv' := [(4, .int x58), (3, .int v49_3), (2, .int x19), (0, .ref (G.2.2.1 199))]) hx hb dX1_findHands_58 hl (by decide) rfl (fun ls hl => ?_)
      refine lv_iload_n hx hb dX1_findHands_60 rfl (lv_at hl 1 rfl) ?_
      refine lv_iload_n hx hb dX1_findHands_61 rfl (lv_at hl 1 rfl) ?_
      refine lv_iconst (v := 1) hx hb dX1_findHands_62 (by decide) ?_
      refine lv_isub hx hb dX1_findHands_63 ?_
      refine lv_iand hx hb dX1_findHands_64 ?_
      refine lv_topi (fun x65 ex65 => ?_)
      have hf := nm_s hf x65 ex65
      refine lv_istore (lv' := [(5, .int x65), (4, .int x58), (3, .int v49_3), (2, .int x19), (0, .ref (G.2.2.1 199))]) hx hb dX1_findHands_65 hl (by decide) rfl (fun ls hl => ?_)
      refine lv_aload_n hx hb dX1_findHands_67 rfl (lv_at hl 4 rfl) ?_
      refine co_get X hH 199 (by decide) eO199 rfl inBX1 7 (by decide) rfl bw515 dX1_findHands_68 ?_
      refine lv_iload hx hb dX1_findHands_71 (lv_at hl 0 rfl) ?_
      refine cGi (cVrun (rest := []) X (cl_X5_at l G w49_ 55 (by decide) x65 _ rfl) bw1175 bw628 bw629 bw91 bw630 cn_X5_at ⟨rfl, rfl, Nat.le_of_ble_eq_true rfl, Nat.le_of_ble_eq_true rfl⟩ (c_recR X hH (by decide)) cA_g hH hS hl rfl (Nat.le_of_ble_eq_true rfl) dX1_findHands_73) hS (fun H locs hH hS => ?_)
      refine lv_iconst (v := 1) hx hb dX1_findHands_76 (by decide) ?_
      have hJ : ∀ (H : Heap) (locs : List Loc), cH G w49_ H → va_S (cA G) s.heap H locs → W p l e rm_X1_findHands s m args below meth c H locs 0 0 Q (F0 m 102 ls [.int (if (rAt w49_ 55 x65) = 1 then (if (x65 &&& ((rAt w49_ 53 x58) ^^^ (-1))) = 0 then 1 else 0) else 0)]) := by
        intro H locs hH hS
        refine lv_topi (fun x102 ex102 => ?_)
        have hf := nm_s hf x102 ex102
        refine lv_istore (lv' := [(6, .int x102), (5, .int x65), (4, .int x58), (3, .int v49_3), (2, .int x19), (0, .ref (G.2.2.1 199))]) hx hb dX1_findHands_102 hl (by decide) rfl (fun ls hl => ?_)
        refine lv_aload_n hx hb dX1_findHands_104 rfl (lv_at hl 5 rfl) ?_
        refine co_get X hH 199 (by decide) eO199 rfl inBX1 7 (by decide) rfl bw515 dX1_findHands_105 ?_
        refine lv_iload_n hx hb dX1_findHands_108 rfl (lv_at hl 3 rfl) ?_
        refine lv_iload hx hb dX1_findHands_109 (lv_at hl 0 rfl) ?_
        have hJ : ∀ (H : Heap) (locs : List Loc), cH G w49_ H → va_S (cA G) s.heap H locs → W p l e rm_X1_findHands s m args below meth c H locs 0 0 Q (F0 m 119 ls [.int (if x102 = 0 then 0 else 1), .int v49_3, .ref (G.2.2.1 55)]) := by
          intro H locs hH hS
          obtain ⟨q119, hq119, hf⟩ := nm_x hf
          have hq119 := hq119.symm
          refine cGv (cVrun (rest := []) X (cl_X5_put l G w49_ 55 (by decide) v49_3 (if x102 = 0 then 0 else 1) q119 hq119) bw1177 bw352 bw353 bw91 bw354 cn_X5_put ⟨rfl, rfl, Nat.le_of_ble_eq_true rfl, Nat.le_of_ble_eq_true rfl⟩ (c_recR X hH (by decide)) cA_g hH hS hl rfl (Nat.le_of_ble_eq_true rfl) dX1_findHands_119) hS (fun H locs hH hS => ?_)
          refine lv_aload_n hx hb dX1_findHands_122 rfl (lv_at hl 5 rfl) ?_
          refine lv_iload_n hx hb dX1_findHands_123 rfl (lv_at hl 3 rfl) ?_
          refine lv_iconst (v := 1) hx hb dX1_findHands_124 (by decide) ?_
          refine lv_iload hx hb dX1_findHands_125 (lv_at hl 2 rfl) ?_
          refine lv_ishl hx hb dX1_findHands_127 ?_
          refine lv_iload hx hb dX1_findHands_128 (lv_at hl 1 rfl) ?_
          obtain ⟨q130, hq130, hf⟩ := bd_s hf
          refine cGv (cVrun (rest := []) X (c_X1_explain l G q119 v49_3 ((1 : Int32) <<< (x58 &&& 31)) x65 q130 hq130) bw1205 bw1207 bw41 bw103 bw1208 cn_X1_explain ⟨rfl, rfl, Nat.le_of_ble_eq_true rfl, Nat.le_of_ble_eq_true rfl⟩ (c_rec X hH 199 (by decide) eO199 rfl) cA_g hH hS hl rfl (Nat.le_of_ble_eq_true rfl) dX1_findHands_130) hS (fun H locs hH hS => ?_)
          obtain ⟨x133, ex133⟩ : ∃ z : Int32, z = (v49_3 + 1) := ⟨_, rfl⟩
          have hf := nm_s hf x133 ex133
          refine lv_iinc (v := x133) (lv' := [(3, .int x133), (6, .int x102), (5, .int x65), (4, .int x58), (2, .int x19), (0, .ref (G.2.2.1 199))]) hx hb dX1_findHands_133 hl (k := 3) rfl (by rw [ex133]; rfl) (by decide) rfl (fun ls hl => ?_)
          refine lv_goto (tgt := 49) hx hb dX1_findHands_136 (by decide) ?_
          exact ih49 _ _ _ _ _ hf hH hS (lv_sub hl [0, 4, 5] rfl)
        refine lv_if_eq (tgt := 118) hx hb dX1_findHands_111 (by decide) (fun hc111 => ?_) (fun hc111 => ?_)
        · refine lv_iconst (v := 0) hx hb dX1_findHands_118 (by decide) ?_
          exact W.eq (by rw [if_pos hc111] <;> rfl) (hJ _ _ hH hS)
        · refine lv_iconst (v := 1) hx hb dX1_findHands_114 (by decide) ?_
          refine lv_goto (tgt := 119) hx hb dX1_findHands_115 (by decide) ?_
          exact W.eq (by rw [if_neg hc111] <;> rfl) (hJ _ _ hH hS)
      refine lv_icmp_ne (tgt := 101) hx hb dX1_findHands_77 (by decide) (fun hc77 => ?_) (fun hc77 => ?_)
      · refine lv_iconst (v := 0) hx hb dX1_findHands_101 (by decide) ?_
        exact W.eq (by rw [if_neg hc77] <;> rfl) (hJ _ _ hH hS)
      · refine lv_iload hx hb dX1_findHands_80 (lv_at hl 0 rfl) ?_
        refine lv_aload_n hx hb dX1_findHands_82 rfl (lv_at hl 4 rfl) ?_
        refine co_get X hH 199 (by decide) eO199 rfl inBX1 5 (by decide) rfl bw513 dX1_findHands_83 ?_
        refine lv_iload hx hb dX1_findHands_86 (lv_at hl 1 rfl) ?_
        refine cGi (cVrun (rest := [.int x65]) X (cl_X5_at l G w49_ 53 (by decide) x58 _ rfl) bw1175 bw628 bw629 bw91 bw630 cn_X5_at ⟨rfl, rfl, Nat.le_of_ble_eq_true rfl, Nat.le_of_ble_eq_true rfl⟩ (c_recR X hH (by decide)) cA_g hH hS hl rfl (Nat.le_of_ble_eq_true rfl) dX1_findHands_88) hS (fun H locs hH hS => ?_)
        refine lv_iconst (v := (-1)) hx hb dX1_findHands_91 (by decide) ?_
        refine lv_ixor hx hb dX1_findHands_92 ?_
        refine lv_iand hx hb dX1_findHands_93 ?_
        refine lv_if_ne (tgt := 101) hx hb dX1_findHands_94 (by decide) (fun hc94 => ?_) (fun hc94 => ?_)
        · refine lv_iconst (v := 0) hx hb dX1_findHands_101 (by decide) ?_
          exact W.eq (by rw [if_pos hc77, if_neg hc94] <;> rfl) (hJ _ _ hH hS)
        · refine lv_iconst (v := 1) hx hb dX1_findHands_97 (by decide) ?_
          refine lv_goto (tgt := 102) hx hb dX1_findHands_98 (by decide) ?_
          exact W.eq (by rw [if_pos hc77, if_pos hc94] <;> rfl) (hJ _ _ hH hS)
  exact hL49 _ _ _ _ _ _ hf hH hS (lv_sub hl [0, 1, 2] rfl)
def f_X1_hands (w : CW) : Int32 := ((rAt w 56 (((1 : Int32) <<< ((f_X5_size w 28) &&& 31)) - 1)))
abbrev rm_X1_hands : Room := { frames := 2, cells := 0, slots := 0, locals := 21 }
theorem cn_X1_hands : CN yX1_hands 0 := ⟨by decide +kernel, by decide +kernel, by decide +kernel⟩
set_option maxHeartbeats 4000000 in
set_option maxRecDepth 100000 in
theorem c_X1_hands (l : Launch) (G : GX) (w : CW) (q : Int32) (hf : f_X1_hands w = q) : MI l G yX1_hands cX1_hands 1 (some .int) rm_X1_hands [.ref (G.2.2.1 199)] (cA G) (cH G w) (cH G w) q := by
  refine cM_start (by decide +kernel) (Nat.le_of_ble_eq_true rfl) ?_
  intro p e s m below meth c ls X hH hl
  have hS : va_S (cA G) s.heap s.heap [] := va_S.rf
  have hx := X.1.1
  have hb := X.1.2.1
  generalize hargs : ([.ref (G.2.2.1 199)] : List Value).toArray = args at X ⊢
  generalize hQ : MQ below (QI (cA G) (cH G w) q) args s 0 0 (cA G) = Q
  have hl : lv_has ls 1 [(0, .ref (G.2.2.1 199))] := hl
  unfold f_X1_hands at hf
  refine lv_aload_n hx hb dX1_hands_0 rfl (lv_at hl 0 rfl) ?_
  refine co_get X hH 199 (by decide) eO199 rfl inBX1 8 (by decide) rfl bw516 dX1_hands_1 ?_
  refine lv_iconst (v := 1) hx hb dX1_hands_4 (by decide) ?_
  refine lv_aload_n hx hb dX1_hands_5 rfl (lv_at hl 0 rfl) ?_
  refine co_get X hH 199 (by decide) eO199 rfl inBX1 1 (by decide) rfl bw506 dX1_hands_6 ?_
  refine cGi (cVrun (rest := [.int 1, .ref (G.2.2.1 56)]) X (c_X5_size l G w 28 (by decide) _ rfl) bw1170 bw624 bw625 bw91 bw626 cn_X5_size ⟨rfl, rfl, Nat.le_of_ble_eq_true rfl, Nat.le_of_ble_eq_true rfl⟩ (c_recR X hH (by decide)) cA_g hH hS hl rfl (Nat.le_of_ble_eq_true rfl) dX1_hands_9) hS (fun H locs hH hS => ?_)
  refine lv_ishl hx hb dX1_hands_12 ?_
  refine lv_iconst (v := 1) hx hb dX1_hands_13 (by decide) ?_
  refine lv_isub hx hb dX1_hands_14 ?_
  refine cGi (cVrun (rest := []) X (cl_X5_at l G w 56 (by decide) (((1 : Int32) <<< ((f_X5_size w 28) &&& 31)) - 1) _ rfl) bw1175 bw628 bw629 bw91 bw630 cn_X5_at ⟨rfl, rfl, Nat.le_of_ble_eq_true rfl, Nat.le_of_ble_eq_true rfl⟩ (c_recR X hH (by decide)) cA_g hH hS hl rfl (Nat.le_of_ble_eq_true rfl) dX1_hands_15) hS (fun H locs hH hS => ?_)
  subst hQ
  exact cEi X hH hS (hf) dX1_hands_18
