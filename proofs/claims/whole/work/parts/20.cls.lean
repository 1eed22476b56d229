def f_X8_castAnew (w : CW) (a1 : Int32) (a2 : Int32) : Int32 × CW := (nmk (rAdd w 14 a1 (-(if (rAt w 14 a1) < a2 then (rAt w 14 a1) else a2))) fun q18 => (nmk (rAdd q18 13 a1 a2) fun q27 => (((rAt q27 13 a1), q27))))
abbrev rm_X8_castAnew : Room := { frames := 3, cells := 0, slots := 0, locals := 44 }
theorem cn_X8_castAnew : CN yX8_castAnew 2 := ⟨by decide +kernel, by decide +kernel, by decide +kernel⟩
set_option maxHeartbeats 4000000 in
set_option maxRecDepth 100000 in
theorem c_X8_castAnew (l : Launch) (G : GX) (w : CW) (a1 : Int32) (a2 : Int32) (q : Int32 × CW) (hf : f_X8_castAnew w a1 a2 = q) : MI l G yX8_castAnew cX8_castAnew 3 (some .int) rm_X8_castAnew [.ref (G.2.2.1 195), .int a1, .int a2] (cA G) (cH G w) (cH G q.2) q.1 := by
  refine cM_start (by decide +kernel) (Nat.le_of_ble_eq_true rfl) ?_
  intro p e s m below meth c ls X hH hl
  have hS : va_S (cA G) s.heap s.heap [] := va_S.rf
  have hx := X.1.1
  have hb := X.1.2.1
  generalize hargs : ([.ref (G.2.2.1 195), .int a1, .int a2] : List Value).toArray = args at X ⊢
  generalize hQ : MQ below (QI (cA G) (cH G q.2) q.1) args s 0 0 (cA G) = Q
  have hl : lv_has ls 3 [(0, .ref (G.2.2.1 195)), (1, .int a1), (2, .int a2)] := hl
  unfold f_X8_castAnew at hf
  refine lv_aload_n hx hb dX8_castAnew_0 rfl (lv_at hl 0 rfl) ?_
  refine co_get X hH 195 (by decide) eO195 rfl inBX8 2 (by decide) rfl bw359 dX8_castAnew_1 ?_
  refine lv_iload_n hx hb dX8_castAnew_4 rfl (lv_at hl 1 rfl) ?_
  refine lv_iload_n hx hb dX8_castAnew_5 rfl (lv_at hl 2 rfl) ?_
  refine lv_aload_n hx hb dX8_castAnew_6 rfl (lv_at hl 0 rfl) ?_
  refine co_get X hH 195 (by decide) eO195 rfl inBX8 2 (by decide) rfl bw359 dX8_castAnew_7 ?_
  refine lv_iload_n hx hb dX8_castAnew_10 rfl (lv_at hl 1 rfl) ?_
  refine cGi (cVrun (rest := [.int a2, .int a1, .ref (G.2.2.1 14)]) X (cl_X5_at l G w 14 (by decide) a1 _ rfl) bw627 bw628 bw629 bw91 bw630 cn_X5_at ⟨rfl, rfl, Nat.le_of_ble_eq_true rfl, Nat.le_of_ble_eq_true rfl⟩ (c_recR X hH (by decide)) cA_g hH hS hl rfl (Nat.le_of_ble_eq_true rfl) dX8_castAnew_11) hS (fun H locs hH hS => ?_)
  refine va_mmin hx hb (X.1.2.2.1.trans hl.1.symm) X.1.2.2.2.1 (X.w bw646) (X.w bw231) (X.w bw93) (X.w bw232) (Nat.le_of_ble_eq_true rfl) (Nat.le_of_ble_eq_true rfl) (Nat.zero_le _) (Nat.zero_le _) dX8_castAnew_14 ?_
  refine lv_ineg hx hb dX8_castAnew_17 ?_
  obtain ⟨q18, hq18, hf⟩ := nm_x hf
  have hq18 := hq18.symm
  refine cGv (cVrun (rest := []) X (cl_X5_add l G w 14 (by decide) a1 (-(if (rAt w 14 a1) < a2 then (rAt w 14 a1) else a2)) q18 hq18) bw647 bw648 bw649 bw91 bw650 cn_X5_add ⟨rfl, rfl, Nat.le_of_ble_eq_true rfl, Nat.le_of_ble_eq_true rfl⟩ (c_recR X hH (by decide)) cA_g hH hS hl rfl (Nat.le_of_ble_eq_true rfl) dX8_castAnew_18) hS (fun H locs hH hS => ?_)
  refine lv_aload_n hx hb dX8_castAnew_21 rfl (lv_at hl 0 rfl) ?_
  refine co_get X hH 195 (by decide) eO195 rfl inBX8 1 (by decide) rfl bw357 dX8_castAnew_22 ?_
  refine lv_iload_n hx hb dX8_castAnew_25 rfl (lv_at hl 1 rfl) ?_
  refine lv_iload_n hx hb dX8_castAnew_26 rfl (lv_at hl 2 rfl) ?_
  obtain ⟨q27, hq27, hf⟩ := nm_x hf
  have hq27 := hq27.symm
  refine cGv (cVrun (rest := []) X (cl_X5_add l G q18 13 (by decide) a1 a2 q27 hq27) bw647 bw648 bw649 bw91 bw650 cn_X5_add ⟨rfl, rfl, Nat.le_of_ble_eq_true rfl, Nat.le_of_ble_eq_true rfl⟩ (c_recR X hH (by decide)) cA_g hH hS hl rfl (Nat.le_of_ble_eq_true rfl) dX8_castAnew_27) hS (fun H locs hH hS => ?_)
  refine lv_aload_n hx hb dX8_castAnew_30 rfl (lv_at hl 0 rfl) ?_
  refine co_get X hH 195 (by decide) eO195 rfl inBX8 1 (by decide) rfl bw357 dX8_castAnew_31 ?_
  refine lv_iload_n hx hb dX8_castAnew_34 rfl (lv_at hl 1 rfl) ?_
  refine cGi (cVrun (rest := []) X (cl_X5_at l G q27 13 (by decide) a1 _ rfl) bw627 bw628 bw629 bw91 bw630 cn_X5_at ⟨rfl, rfl, Nat.le_of_ble_eq_true rfl, Nat.le_of_ble_eq_true rfl⟩ (c_recR X hH (by decide)) cA_g hH hS hl rfl (Nat.le_of_ble_eq_true rfl) dX8_castAnew_35) hS (fun H locs hH hS => ?_)
  subst hQ
  exact cEi X (cH2 (hf) hH) hS (pf1 (hf)) dX8_castAnew_38
def f_X8_hasPage (w : CW) (a1 : Int32) : Int32 := ((if a1 < 0 then 0 else (if (f_X5_size w 15) ≤ a1 then 0 else 1)))
abbrev rm_X8_hasPage : Room := { frames := 2, cells := 0, slots := 0, locals := 20 }
theorem cn_X8_hasPage : CN yX8_hasPage 1 := ⟨by decide +kernel, by decide +kernel, by decide +kernel⟩
set_option maxHeartbeats 4000000 in
set_option maxRecDepth 100000 in
theorem c_X8_hasPage (l : Launch) (G : GX) (w : CW) (a1 : Int32) (q : Int32) (hf : f_X8_hasPage w a1 = q) : MI l G yX8_hasPage cX8_hasPage 2 (some .boolean) rm_X8_hasPage [.ref (G.2.2.1 195), .int a1] (cA G) (cH G w) (cH G w) q := by
  refine cM_start (by decide +kernel) (Nat.le_of_ble_eq_true rfl) ?_
  intro p e s m below meth c ls X hH hl
  have hS : va_S (cA G) s.heap s.heap [] := va_S.rf
  have hx := X.1.1
  have hb := X.1.2.1
  generalize hargs : ([.ref (G.2.2.1 195), .int a1] : List Value).toArray = args at X ⊢
  generalize hQ : MQ below (QI (cA G) (cH G w) q) args s 0 0 (cA G) = Q
  have hl : lv_has ls 2 [(0, .ref (G.2.2.1 195)), (1, .int a1)] := hl
  unfold f_X8_hasPage at hf
  refine lv_iload_n hx hb dX8_hasPage_0 rfl (lv_at hl 1 rfl) ?_
  have hJ : ∀ (H : Heap) (locs : List Loc), cH G w H → va_S (cA G) s.heap H locs → W p l e rm_X8_hasPage s m args below meth c H locs 0 0 Q (F0 m 20 ls [.int (if a1 < 0 then 0 else (if (f_X5_size w 15) ≤ a1 then 0 else 1))]) := by
    intro H locs hH hS
    subst hQ
    exact cEz X hH hS (hf) (nz (zb_ite zb0 (zb_ite zb0 zb1))) dX8_hasPage_20
  refine lv_if_lt (tgt := 19) hx hb dX8_hasPage_1 (by decide) (fun hc1 => ?_) (fun hc1 => ?_)
  · refine lv_iconst (v := 0) hx hb dX8_hasPage_19 (by decide) ?_
    exact W.eq (by rw [if_pos hc1] <;> rfl) (hJ _ _ hH hS)
  · refine lv_iload_n hx hb dX8_hasPage_4 rfl (lv_at hl 1 rfl) ?_
    refine lv_aload_n hx hb dX8_hasPage_5 rfl (lv_at hl 0 rfl) ?_
    refine co_get X hH 195 (by decide) eO195 rfl inBX8 3 (by decide) rfl bw361 dX8_hasPage_6 ?_
    refine cGi (cVrun (rest := [.int a1]) X (c_X5_size l G w 15 (by decide) _ rfl) bw623 bw624 bw625 bw91 bw626 cn_X5_size ⟨rfl, rfl, Nat.le_of_ble_eq_true rfl, Nat.le_of_ble_eq_true rfl⟩ (c_recR X hH (by decide)) cA_g hH hS hl rfl (Nat.le_of_ble_eq_true rfl) dX8_hasPage_9) hS (fun H locs hH hS => ?_)
    refine lv_icmp_ge (tgt := 19) hx hb dX8_hasPage_12 (by decide) (fun hc12 => ?_) (fun hc12 => ?_)
    · refine lv_iconst (v := 0) hx hb dX8_hasPage_19 (by decide) ?_
      exact W.eq (by rw [if_neg hc1, if_pos hc12] <;> rfl) (hJ _ _ hH hS)
    · refine lv_iconst (v := 1) hx hb dX8_hasPage_15 (by decide) ?_
      refine lv_goto (tgt := 20) hx hb dX8_hasPage_16 (by decide) ?_
      exact W.eq (by rw [if_neg hc1, if_neg hc12] <;> rfl) (hJ _ _ hH hS)
theorem zb_X8_hasPage (w : CW) (a1 : Int32) : f_X8_hasPage w a1 = 0 ∨ f_X8_hasPage w a1 = 1 := by
  unfold f_X8_hasPage
  try simp only [nmk]
  repeat' (first | exact zb0 | exact zb1 | refine zb_ite ?_ ?_)
def f_X8_hasAllPages (w : CW) : Int32 := ((f_X5_isFull w 15))
abbrev rm_X8_hasAllPages : Room := { frames := 2, cells := 0, slots := 0, locals := 20 }
theorem cn_X8_hasAllPages : CN yX8_hasAllPages 0 := ⟨by decide +kernel, by decide +kernel, by decide +kernel⟩
set_option maxHeartbeats 4000000 in
set_option maxRecDepth 100000 in
theorem c_X8_hasAllPages (l : Launch) (G : GX) (w : CW) (q : Int32) (hf : f_X8_hasAllPages w = q) : MI l G yX8_hasAllPages cX8_hasAllPages 1 (some .boolean) rm_X8_hasAllPages [.ref (G.2.2.1 195)] (cA G) (cH G w) (cH G w) q := by
  refine cM_start (by decide +kernel) (Nat.le_of_ble_eq_true rfl) ?_
  intro p e s m below meth c ls X hH hl
  have hS : va_S (cA G) s.heap s.heap [] := va_S.rf
  have hx := X.1.1
  have hb := X.1.2.1
  generalize hargs : ([.ref (G.2.2.1 195)] : List Value).toArray = args at X ⊢
  generalize hQ : MQ below (QI (cA G) (cH G w) q) args s 0 0 (cA G) = Q
  have hl : lv_has ls 1 [(0, .ref (G.2.2.1 195))] := hl
  unfold f_X8_hasAllPages at hf
  refine lv_aload_n hx hb dX8_hasAllPages_0 rfl (lv_at hl 0 rfl) ?_
  refine co_get X hH 195 (by decide) eO195 rfl inBX8 3 (by decide) rfl bw361 dX8_hasAllPages_1 ?_
  refine cGi (cVrun (rest := []) X (c_X5_isFull l G w 15 (by decide) _ rfl) bw1032 bw694 bw695 bw91 bw696 cn_X5_isFull ⟨rfl, rfl, Nat.le_of_ble_eq_true rfl, Nat.le_of_ble_eq_true rfl⟩ (c_recR X hH (by decide)) cA_g hH hS hl rfl (Nat.le_of_ble_eq_true rfl) dX8_hasAllPages_4) hS (fun H locs hH hS => ?_)
  subst hQ
  exact cEz X hH hS (hf) (nz (zb_X5_isFull w 15)) dX8_hasAllPages_7
theorem zb_X8_hasAllPages (w : CW) : f_X8_hasAllPages w = 0 ∨ f_X8_hasAllPages w = 1 := by
  unfold f_X8_hasAllPages
  try simp only [nmk]
  repeat' (first | exact zb0 | exact zb1 | apply zb_X5_isFull | refine zb_ite ?_ ?_)
def f_X8_stands (w : CW) (a1 : Int32) : Int32 := ((if (rAt w 16 a1) = 1 then 1 else 0))
abbrev rm_X8_stands : Room := { frames := 2, cells := 0, slots := 0, locals := 21 }
theorem cn_X8_stands : CN yX8_stands 1 := ⟨by decide +kernel, by decide +kernel, by decide +kernel⟩
set_option maxHeartbeats 4000000 in
set_option maxRecDepth 100000 in
theorem c_X8_stands (l : Launch) (G : GX) (w : CW) (a1 : Int32) (q : Int32) (hf : f_X8_stands w a1 = q) : MI l G yX8_stands cX8_stands 2 (some .boolean) rm_X8_stands [.ref (G.2.2.1 195), .int a1] (cA G) (cH G w) (cH G w) q := by
  refine cM_start (by decide +kernel) (Nat.le_of_ble_eq_true rfl) ?_
  intro p e s m below meth c ls X hH hl
  have hS : va_S (cA G) s.heap s.heap [] := va_S.rf
  have hx := X.1.1
  have hb := X.1.2.1
  generalize hargs : ([.ref (G.2.2.1 195), .int a1] : List Value).toArray = args at X ⊢
  generalize hQ : MQ below (QI (cA G) (cH G w) q) args s 0 0 (cA G) = Q
  have hl : lv_has ls 2 [(0, .ref (G.2.2.1 195)), (1, .int a1)] := hl
  unfold f_X8_stands at hf
  refine lv_aload_n hx hb dX8_stands_0 rfl (lv_at hl 0 rfl) ?_
  refine co_get X hH 195 (by decide) eO195 rfl inBX8 4 (by decide) rfl bw363 dX8_stands_1 ?_
  refine lv_iload_n hx hb dX8_stands_4 rfl (lv_at hl 1 rfl) ?_
  refine cGi (cVrun (rest := []) X (cl_X5_at l G w 16 (by decide) a1 _ rfl) bw627 bw628 bw629 bw91 bw630 cn_X5_at ⟨rfl, rfl, Nat.le_of_ble_eq_true rfl, Nat.le_of_ble_eq_true rfl⟩ (c_recR X hH (by decide)) cA_g hH hS hl rfl (Nat.le_of_ble_eq_true rfl) dX8_stands_5) hS (fun H locs hH hS => ?_)
  refine lv_iconst (v := 1) hx hb dX8_stands_8 (by decide) ?_
  have hJ : ∀ (H : Heap) (locs : List Loc), cH G w H → va_S (cA G) s.heap H locs → W p l e rm_X8_stands s m args below meth c H locs 0 0 Q (F0 m 17 ls [.int (if (rAt w 16 a1) = 1 then 1 else 0)]) := by
    intro H locs hH hS
    subst hQ
    exact cEz X hH hS (hf) (nz (zb_ite zb1 zb0)) dX8_stands_17
  refine lv_icmp_ne (tgt := 16) hx hb dX8_stands_9 (by decide) (fun hc9 => ?_) (fun hc9 => ?_)
  · refine lv_iconst (v := 0) hx hb dX8_stands_16 (by decide) ?_
    exact W.eq (by rw [if_neg hc9] <;> rfl) (hJ _ _ hH hS)
  · refine lv_iconst (v := 1) hx hb dX8_stands_12 (by decide) ?_
    refine lv_goto (tgt := 17) hx hb dX8_stands_13 (by decide) ?_
    exact W.eq (by rw [if_pos hc9] <;> rfl) (hJ _ _ hH hS)
theorem zb_X8_stands (w : CW) (a1 : Int32) : f_X8_stands w a1 = 0 ∨ f_X8_stands w a1 = 1 := by
  unfold f_X8_stands
  try simp only [nmk]
  repeat' (first | exact zb0 | exact zb1 | refine zb_ite ?_ ?_)
def f_X8_standing_L4 (w : CW) : Nat → Int32 → Int32 → Option (Int32)
  | 0, _, _ => none
  | n4 + 1, v4_1, v4_2 => (if (f_X5_size w 15) ≤ v4_2 then (some v4_1) else (nmk (v4_1 + (rAt w 16 v4_2)) fun (x25 : Int32) => (nmk (v4_2 + 1) fun (x26 : Int32) => (f_X8_standing_L4 w n4 x25 x26))))
def f_X8_standing (w : CW) : Option (Int32) := (f_X8_standing_L4 w FU 0 0)
abbrev rm_X8_standing : Room := { frames := 2, cells := 0, slots := 0, locals := 21 }
theorem cn_X8_standing : CN yX8_standing 0 := ⟨by decide +kernel, by decide +kernel, by decide +kernel⟩
set_option maxHeartbeats 4000000 in
set_option maxRecDepth 100000 in
theorem c_X8_standing (l : Launch) (G : GX) (w : CW) (q : Int32) (hf : f_X8_standing w = some q) : MI l G yX8_standing cX8_standing 3 (some .int) rm_X8_standing [.ref (G.2.2.1 195)] (cA G) (cH G w) (cH G w) q := by
  refine cM_start (by decide +kernel) (Nat.le_of_ble_eq_true rfl) ?_
  intro p e s m below meth c ls X hH hl
  have hS : va_S (cA G) s.heap s.heap [] := va_S.rf
  have hx := X.1.1
  have hb := X.1.2.1
  generalize hargs : ([.ref (G.2.2.1 195)] : List Value).toArray = args at X ⊢
  generalize hQ : MQ below (QI (cA G) (cH G w) q) args s 0 0 (cA G) = Q
  have hl : lv_has ls 3 [(0, .ref (G.2.2.1 195))] := hl
  unfold f_X8_standing at hf
  refine lv_iconst (v := 0) hx hb dX8_standing_0 (by decide) ?_
  refine lv_istore_n (lv' := [(1, .int 0), (0, .ref (G.2.2.1 195))]) hx hb dX8_standing_1 rfl hl (by decide) rfl (fun ls hl => ?_)
  refine lv_iconst (v := 0) hx hb dX8_standing_2 (by decide) ?_
  refine lv_istore_n (lv' := [(2, .int 0), (1, .int 0), (0, .ref (G.2.2.1 195))]) hx hb dX8_standing_3 rfl hl (by decide) rfl (fun ls hl => ?_)
  have hL4 : ∀ (n4 : Nat) (v4_1 : Int32) (v4_2 : Int32) (H : Heap) (locs : List Loc) (ls : Array Slot), f_X8_standing_L4 w n4 v4_1 v4_2 = some q → cH G w H → va_S (cA G) s.heap H locs → lv_has ls 3 [(2, .int v4_2), (1, .int v4_1), (0, .ref (G.2.2.1 195))] → W p l e rm_X8_standing s m args below meth c H locs 0 0 Q (F0 m 4 ls []) := by
    intro n4
    induction n4 with
    | zero => intro v4_1 v4_2 H locs ls hf; rw [f_X8_standing_L4] at hf; cases hf
    | succ n4 ih4 =>
      intro v4_1 v4_2 H locs ls hf hH hS hl
      rw [f_X8_standing_L4] at hf
      refine lv_iload_n hx hb dX8_standing_4 rfl (lv_at hl 0 rfl) ?_
      refine lv_aload_n hx hb dX8_standing_5 rfl (lv_at hl 2 rfl) ?_
      refine co_get X hH 195 (by decide) eO195 rfl inBX8 3 (by decide) rfl bw361 dX8_standing_6 ?_
      refine cGi (cVrun (rest := [.int v4_2]) X (c_X5_size l G w 15 (by decide) _ rfl) bw623 bw624 bw625 bw91 bw626 cn_X5_size ⟨rfl, rfl, Nat.le_of_ble_eq_true rfl, Nat.le_of_ble_eq_true rfl⟩ (c_recR X hH (by decide)) cA_g hH hS hl rfl (Nat.le_of_ble_eq_true rfl) dX8_standing_9) hS (fun H locs hH hS => ?_)
      refine lv_icmp_ge (tgt := 32) hx hb dX8_standing_12 (by decide) (fun hc => ?_) (fun hc => ?_)
      · have hf := fo_t hc hf
        refine lv_iload_n hx hb dX8_standing_32 rfl (lv_at hl 1 rfl) ?_
        subst hQ
        exact cEi X hH hS (so_s hf) dX8_standing_33
      have hf := fo_f hc hf
      refine lv_iload_n hx hb dX8_standing_15 rfl (lv_at hl 1 rfl) ?_
      refine lv_aload_n hx hb dX8_standing_16 rfl (lv_at hl 2 rfl) ?_
      refine co_get X hH 195 (by decide) eO195 rfl inBX8 4 (by decide) rfl bw363 dX8_standing_17 ?_
      refine lv_iload_n hx hb dX8_standing_20 rfl (lv_at hl 0 rfl) ?_
      refine cGi (cVrun (rest := [.int v4_1]) X (cl_X5_at l G w 16 (by decide) v4_2 _ rfl) bw627 bw628 bw629 bw91 bw630 cn_X5_at ⟨rfl, rfl, Nat.le_of_ble_eq_true rfl, Nat.le_of_ble_eq_true rfl⟩ (c_recR X hH (by decide)) cA_g hH hS hl rfl (Nat.le_of_ble_eq_true rfl) dX8_standing_21) hS (fun H locs hH hS => ?_)
      refine lv_iadd hx hb dX8_standing_24 ?_
      refine lv_topi (fun x25 ex25 => ?_)
      have hf := nm_s hf x25 ex25
      refine lv_istore_n (lv' := [(1, .int x25), (2, .int v4_2), (0, .ref (G.2.2.1 195))]) hx hb dX8_standing_25 rfl hl (by decide) rfl (fun ls hl => ?_)
      obtain ⟨x26, ex26⟩ : ∃ z : Int32, z = (v4_2 + 1) := ⟨_, rfl⟩
      have hf := nm_s hf x26 ex26
      refine lv_iinc (v := x26) (lv' := [(2, .int x26), (1, .int x25), (0, .ref (G.2.2.1 195))]) hx hb dX8_standing_26 hl (k := 1) rfl (by rw [ex26]; rfl) (by decide) rfl (fun ls hl => ?_)
      refine lv_goto (tgt := 4) hx hb dX8_standing_29 (by decide) ?_
      exact ih4 _ _ _ _ _ hf hH hS (lv_sub hl [0, 1, 2] rfl)
  exact hL4 _ _ _ _ _ _ hf hH hS (lv_sub hl [0, 1, 2] rfl)
def f_X8_inPages_L4 (w : CW) (a1 : Int32) : Nat → Int32 → Int32 → Option (Int32)
  | 0, _, _ => none
  | n4 + 1, v4_2, v4_3 => (if (f_X5_size w 15) ≤ v4_3 then (some v4_2) else (nmk (v4_2 + (if (f_X8_stands w v4_3) = 0 then 0 else (rAt w 17 ((v4_3 * 27) + a1)))) fun (x42 : Int32) => (nmk (v4_3 + 1) fun (x43 : Int32) => (f_X8_inPages_L4 w a1 n4 x42 x43))))
def f_X8_inPages (w : CW) (a1 : Int32) : Option (Int32) := (f_X8_inPages_L4 w a1 FU 0 0)
abbrev rm_X8_inPages : Room := { frames := 3, cells := 0, slots := 0, locals := 42 }
theorem cn_X8_inPages : CN yX8_inPages 1 := ⟨by decide +kernel, by decide +kernel, by decide +kernel⟩
set_option maxHeartbeats 4000000 in
set_option maxRecDepth 100000 in
theorem c_X8_inPages (l : Launch) (G : GX) (w : CW) (a1 : Int32) (q : Int32) (hf : f_X8_inPages w a1 = some q) : MI l G yX8_inPages cX8_inPages 4 (some .int) rm_X8_inPages [.ref (G.2.2.1 195), .int a1] (cA G) (cH G w) (cH G w) q := by
  refine cM_start (by decide +kernel) (Nat.le_of_ble_eq_true rfl) ?_
  intro p e s m below meth c ls X hH hl
  have hS : va_S (cA G) s.heap s.heap [] := va_S.rf
  have hx := X.1.1
  have hb := X.1.2.1
  generalize hargs : ([.ref (G.2.2.1 195), .int a1] : List Value).toArray = args at X ⊢
  generalize hQ : MQ below (QI (cA G) (cH G w) q) args s 0 0 (cA G) = Q
  have hl : lv_has ls 4 [(0, .ref (G.2.2.1 195)), (1, .int a1)] := hl
  unfold f_X8_inPages at hf
  refine lv_iconst (v := 0) hx hb dX8_inPages_0 (by decide) ?_
  refine lv_istore_n (lv' := [(2, .int 0), (0, .ref (G.2.2.1 195)), (1, .int a1)]) hx hb dX8_inPages_1 rfl hl (by decide) rfl (fun ls hl => ?_)
  refine lv_iconst (v := 0) hx hb dX8_inPages_2 (by decide) ?_
  refine lv_istore_n (lv' := [(3, .int 0), (2, .int 0), (0, .ref (G.2.2.1 195)), (1, .int a1)]) hx hb dX8_inPages_3 rfl hl (by decide) rfl (fun ls hl => ?_)
  have hL4 : ∀ (n4 : Nat) (v4_2 : Int32) (v4_3 : Int32) (H : Heap) (locs : List Loc) (ls : Array Slot), f_X8_inPages_L4 w a1 n4 v4_2 v4_3 = some q → cH G w H → va_S (cA G) s.heap H locs → lv_has ls 4 [(3, .int v4_3), (2, .int v4_2), (0, .ref (G.2.2.1 195)), (1, .int a1)] → W p l e rm_X8_inPages s m args below meth c H locs 0 0 Q (F0 m 4 ls []) := by
    intro n4
    induction n4 with
    | zero => intro v4_2 v4_3 H locs ls hf; rw [f_X8_inPages_L4] at hf; cases hf
    | succ n4 ih4 =>
      intro v4_2 v4_3 H locs ls hf hH hS hl
      rw [f_X8_inPages_L4] at hf
      refine lv_iload_n hx hb dX8_inPages_4 rfl (lv_at hl 0 rfl) ?_
      refine lv_aload_n hx hb dX8_inPages_5 rfl (lv_at hl 2 rfl) ?_
      refine co_get X hH 195 (by decide) eO195 rfl inBX8 3 (by decide) rfl bw361 dX8_inPages_6 ?_
      refine cGi (cVrun (rest := [.int v4_3]) X (c_X5_size l G w 15 (by decide) _ rfl) bw623 bw624 bw625 bw91 bw626 cn_X5_size ⟨rfl, rfl, Nat.le_of_ble_eq_true rfl, Nat.le_of_ble_eq_true rfl⟩ (c_recR X hH (by decide)) cA_g hH hS hl rfl (Nat.le_of_ble_eq_true rfl) dX8_inPages_9) hS (fun H locs hH hS => ?_)
      refine lv_icmp_ge (tgt := 49) hx hb dX8_inPages_12 (by decide) (fun hc => ?_) (fun hc => ?_)
      · have hf := fo_t hc hf
        refine lv_iload_n hx hb dX8_inPages_49 rfl (lv_at hl 1 rfl) ?_
        subst hQ
        exact cEi X hH hS (so_s hf) dX8_inPages_50
      have hf := fo_f hc hf
      refine lv_iload_n hx hb dX8_inPages_15 rfl (lv_at hl 1 rfl) ?_
      refine lv_aload_n hx hb dX8_inPages_16 rfl (lv_at hl 2 rfl) ?_
      refine lv_iload_n hx hb dX8_inPages_17 rfl (lv_at hl 0 rfl) ?_
      refine cGi (cVrun (rest := [.int v4_2]) X (c_X8_stands l G w v4_3 _ rfl) bw659 bw660 bw661 bw99 bw662 cn_X8_stands ⟨rfl, rfl, Nat.le_of_ble_eq_true rfl, Nat.le_of_ble_eq_true rfl⟩ (c_rec X hH 195 (by decide) eO195 rfl) cA_g hH hS hl rfl (Nat.le_of_ble_eq_true rfl) dX8_inPages_18) hS (fun H locs hH hS => ?_)
      have hJ : ∀ (H : Heap) (locs : List Loc), cH G w H → va_S (cA G) s.heap H locs → W p l e rm_X8_inPages s m args below meth c H locs 0 0 Q (F0 m 41 ls [.int (if (f_X8_stands w v4_3) = 0 then 0 else (rAt w 17 ((v4_3 * 27) + a1))), .int v4_2]) := by
        intro H locs hH hS
        refine lv_iadd hx hb dX8_inPages_41 ?_
        refine lv_topi (fun x42 ex42 => ?_)
        have hf := nm_s hf x42 ex42
        refine lv_istore_n (lv' := [(2, .int x42), (3, .int v4_3), (0, .ref (G.2.2.1 195)), (1, .int a1)]) hx hb dX8_inPages_42 rfl hl (by decide) rfl (fun ls hl => ?_)
        obtain ⟨x43, ex43⟩ : ∃ z : Int32, z = (v4_3 + 1) := ⟨_, rfl⟩
        have hf := nm_s hf x43 ex43
        refine lv_iinc (v := x43) (lv' := [(3, .int x43), (2, .int x42), (0, .ref (G.2.2.1 195)), (1, .int a1)]) hx hb dX8_inPages_43 hl (k := 1) rfl (by rw [ex43]; rfl) (by decide) rfl (fun ls hl => ?_)
        refine lv_goto (tgt := 4) hx hb dX8_inPages_46 (by decide) ?_
        exact ih4 _ _ _ _ _ hf hH hS (lv_sub hl [0, 1, 2, 3] rfl)
      refine lv_if_eq (tgt := 40) hx hb dX8_inPages_21 (by decide) (fun hc21 => ?_) (fun hc21 => ?_)
      · refine lv_iconst (v := 0) hx hb dX8_inPages_40 (by decide) ?_
        exact W.eq (by rw [if_pos hc21] <;> rfl) (hJ _ _ hH hS)
      · refine lv_aload_n hx hb dX8_inPages_24 rfl (lv_at hl 2 rfl) ?_
        refine co_get X hH 195 (by decide) eO195 rfl inBX8 5 (by decide) rfl bw364 dX8_inPages_25 ?_
        refine lv_iload_n hx hb dX8_inPages_28 rfl (lv_at hl 0 rfl) ?_
        refine lv_bipush (v := 27) hx hb dX8_inPages_29 (by decide) ?_
        refine lv_imul hx hb dX8_inPages_31 ?_
        refine lv_iload_n hx hb dX8_inPages_32 rfl (lv_at hl 3 rfl) ?_
        refine lv_iadd hx hb dX8_inPages_33 ?_
        refine cGi (cVrun (rest := [.int v4_2]) X (cl_X5_at l G w 17 (by decide) ((v4_3 * 27) + a1) _ rfl) bw627 bw628 bw629 bw91 bw630 cn_X5_at ⟨rfl, rfl, Nat.le_of_ble_eq_true rfl, Nat.le_of_ble_eq_true rfl⟩ (c_recR X hH (by decide)) cA_g hH hS hl rfl (Nat.le_of_ble_eq_true rfl) dX8_inPages_34) hS (fun H locs hH hS => ?_)
        refine lv_goto (tgt := 41) hx hb dX8_inPages_37 (by decide) ?_
        exact W.eq (by rw [if_neg hc21] <;> rfl) (hJ _ _ hH hS)
  exact hL4 _ _ _ _ _ _ hf hH hS (lv_sub hl [0, 1, 2, 3] rfl)
def f_X8_lacking_L2 (w : CW) (k1 : Nat) : Nat → Int32 → Option (Int32)
  | 0, _ => none
  | n2 + 1, v2_2 => (if 27 ≤ v2_2 then (some (-5)) else (if (rAt w k1 v2_2) ≤ (rAt w 13 v2_2) then (nmk (v2_2 + 1) fun (x26 : Int32) => (f_X8_lacking_L2 w k1 n2 x26)) else (some v2_2)))
def f_X8_lacking (w : CW) (k1 : Nat) : Option (Int32) := (f_X8_lacking_L2 w k1 FU 0)
abbrev rm_X8_lacking : Room := { frames := 2, cells := 0, slots := 0, locals := 21 }
theorem cn_X8_lacking : CN yX8_lacking 1 := ⟨by decide +kernel, by decide +kernel, by decide +kernel⟩
set_option maxHeartbeats 4000000 in
set_option maxRecDepth 100000 in
theorem c_X8_lacking (l : Launch) (G : GX) (w : CW) (k1 : Nat) (hk1 : k1 < 95) (q : Int32) (hf : f_X8_lacking w k1 = some q) : MI l G yX8_lacking cX8_lacking 3 (some .int) rm_X8_lacking [.ref (G.2.2.1 195), .ref (G.2.2.1 k1)] (cA G) (cH G w) (cH G w) q := by
  refine cM_start (by decide +kernel) (Nat.le_of_ble_eq_true rfl) ?_
  intro p e s m below meth c ls X hH hl
  have hS : va_S (cA G) s.heap s.heap [] := va_S.rf
  have hx := X.1.1
  have hb := X.1.2.1
  generalize hargs : ([.ref (G.2.2.1 195), .ref (G.2.2.1 k1)] : List Value).toArray = args at X ⊢
  generalize hQ : MQ below (QI (cA G) (cH G w) q) args s 0 0 (cA G) = Q
  have hl : lv_has ls 3 [(0, .ref (G.2.2.1 195)), (1, .ref (G.2.2.1 k1))] := hl
  unfold f_X8_lacking at hf
  refine lv_iconst (v := 0) hx hb dX8_lacking_0 (by decide) ?_
  refine lv_istore_n (lv' := [(2, .int 0), (0, .ref (G.2.2.1 195)), (1, .ref (G.2.2.1 k1))]) hx hb dX8_lacking_1 rfl hl (by decide) rfl (fun ls hl => ?_)
  have hL2 : ∀ (n2 : Nat) (v2_2 : Int32) (H : Heap) (locs : List Loc) (ls : Array Slot), f_X8_lacking_L2 w k1 n2 v2_2 = some q → cH G w H → va_S (cA G) s.heap H locs → lv_has ls 3 [(2, .int v2_2), (0, .ref (G.2.2.1 195)), (1, .ref (G.2.2.1 k1))] → W p l e rm_X8_lacking s m args below meth c H locs 0 0 Q (F0 m 2 ls []) := by
    intro n2
    induction n2 with
    | zero => intro v2_2 H locs ls hf; rw [f_X8_lacking_L2] at hf; cases hf
    | succ n2 ih2 =>
      intro v2_2 H locs ls hf hH hS hl
      rw [f_X8_lacking_L2] at hf
      refine lv_iload_n hx hb dX8_lacking_2 rfl (lv_at hl 0 rfl) ?_
      refine lv_bipush (v := 27) hx hb dX8_lacking_3 (by decide) ?_
      refine lv_icmp_ge (tgt := 32) hx hb dX8_lacking_5 (by decide) (fun hc => ?_) (fun hc => ?_)
      · have hf := fo_t hc hf
        refine lv_bipush (v := (-5)) hx hb dX8_lacking_32 (by decide) ?_
        subst hQ
        exact cEi X hH hS (so_s hf) dX8_lacking_34
      have hf := fo_f hc hf
      refine lv_aload_n hx hb dX8_lacking_8 rfl (lv_at hl 1 rfl) ?_
      refine co_get X hH 195 (by decide) eO195 rfl inBX8 1 (by decide) rfl bw357 dX8_lacking_9 ?_
      refine lv_iload_n hx hb dX8_lacking_12 rfl (lv_at hl 0 rfl) ?_
      refine cGi (cVrun (rest := []) X (cl_X5_at l G w 13 (by decide) v2_2 _ rfl) bw627 bw628 bw629 bw91 bw630 cn_X5_at ⟨rfl, rfl, Nat.le_of_ble_eq_true rfl, Nat.le_of_ble_eq_true rfl⟩ (c_recR X hH (by decide)) cA_g hH hS hl rfl (Nat.le_of_ble_eq_true rfl) dX8_lacking_13) hS (fun H locs hH hS => ?_)
      refine lv_aload_n hx hb dX8_lacking_16 rfl (lv_at hl 2 rfl) ?_
      refine lv_iload_n hx hb dX8_lacking_17 rfl (lv_at hl 0 rfl) ?_
      refine cGi (cVrun (rest := [.int (rAt w 13 v2_2)]) X (cl_X5_at l G w k1 hk1 v2_2 _ rfl) bw627 bw628 bw629 bw91 bw630 cn_X5_at ⟨rfl, rfl, Nat.le_of_ble_eq_true rfl, Nat.le_of_ble_eq_true rfl⟩ (c_recR X hH hk1) cA_g hH hS hl rfl (Nat.le_of_ble_eq_true rfl) dX8_lacking_18) hS (fun H locs hH hS => ?_)
      refine lv_icmp_ge (tgt := 26) hx hb dX8_lacking_21 (by decide) (fun hc => ?_) (fun hc => ?_)
      rotate_left
      · have hf := fo_f hc hf
        refine lv_iload_n hx hb dX8_lacking_24 rfl (lv_at hl 0 rfl) ?_
        subst hQ
        exact cEi X hH hS (so_s hf) dX8_lacking_25
      have hf := fo_t hc hf
      obtain ⟨x26, ex26⟩ : ∃ z : Int32, z = (v2_2 + 1) := ⟨_, rfl⟩
      have hf := nm_s hf x26 ex26
      refine lv_iinc (v := x26) (lv' := [(2, .int x26), (0, .ref (G.2.2.1 195)), (1, .ref (G.2.2.1 k1))]) hx hb dX8_lacking_26 hl (k := 0) rfl (by rw [ex26]; rfl) (by decide) rfl (fun ls hl => ?_)
      refine lv_goto (tgt := 2) hx hb dX8_lacking_29 (by decide) ?_
      exact ih2 _ _ _ _ hf hH hS (lv_sub hl [0, 1, 2] rfl)
  exact hL2 _ _ _ _ _ hf hH hS (lv_sub hl [0, 1, 2] rfl)
def f_X8_putUp_L20 (k1 : Nat) (q5 : (Int32 × CW)) : Nat → Int32 → CW → Option (Int32 × CW)
  | 0, _, _ => none
  | n20 + 1, v20_3, w20_ => (if 27 ≤ v20_3 then (some (q5.1, w20_)) else (nmk (rPut w20_ 17 ((q5.1 * 27) + v20_3) (rAt w20_ k1 v20_3)) fun q41 => (nmk (rAdd q41 13 v20_3 (-(rAt q41 k1 v20_3))) fun q55 => (nmk (v20_3 + 1) fun (x58 : Int32) => (f_X8_putUp_L20 k1 q5 n20 x58 q55)))))
def f_X8_putUp (w : CW) (k1 : Nat) : Option (Int32 × CW) := (nmk (rNumber w 15 0) fun q5 => (nmk (rPut q5.2 16 q5.1 1) fun q15 => (f_X8_putUp_L20 k1 q5 FU 0 q15)))
abbrev rm_X8_putUp : Room := { frames := 3, cells := 0, slots := 0, locals := 44 }
theorem cn_X8_putUp : CN yX8_putUp 1 := ⟨by decide +kernel, by decide +kernel, by decide +kernel⟩
set_option maxHeartbeats 4000000 in
set_option maxRecDepth 100000 in
theorem c_X8_putUp (l : Launch) (G : GX) (w : CW) (k1 : Nat) (hk1 : k1 < 95) (q : Int32 × CW) (hf : f_X8_putUp w k1 = some q) : MI l G yX8_putUp cX8_putUp 4 (some .int) rm_X8_putUp [.ref (G.2.2.1 195), .ref (G.2.2.1 k1)] (cA G) (cH G w) (cH G q.2) q.1 := by
  refine cM_start (by decide +kernel) (Nat.le_of_ble_eq_true rfl) ?_
  intro p e s m below meth c ls X hH hl
  have hS : va_S (cA G) s.heap s.heap [] := va_S.rf
  have hx := X.1.1
  have hb := X.1.2.1
  generalize hargs : ([.ref (G.2.2.1 195), .ref (G.2.2.1 k1)] : List Value).toArray = args at X ⊢
  generalize hQ : MQ below (QI (cA G) (cH G q.2) q.1) args s 0 0 (cA G) = Q
  have hl : lv_has ls 4 [(0, .ref (G.2.2.1 195)), (1, .ref (G.2.2.1 k1))] := hl
  unfold f_X8_putUp at hf
  refine lv_aload_n hx hb dX8_putUp_0 rfl (lv_at hl 0 rfl) ?_
  refine co_get X hH 195 (by decide) eO195 rfl inBX8 3 (by decide) rfl bw361 dX8_putUp_1 ?_
  refine lv_iconst (v := 0) hx hb dX8_putUp_4 (by decide) ?_
  obtain ⟨q5, hq5, hf⟩ := nm_x hf
  have hq5 := hq5.symm
  refine cGi (cVrun (rest := []) X (cl_X5_number l G w 15 (by decide) 0 q5 hq5) bw1037 bw817 bw818 bw91 bw819 cn_X5_number ⟨rfl, rfl, Nat.le_of_ble_eq_true rfl, Nat.le_of_ble_eq_true rfl⟩ (c_recR X hH (by decide)) cA_g hH hS hl rfl (Nat.le_of_ble_eq_true rfl) dX8_putUp_5) hS (fun H locs hH hS => ?_)
  refine lv_istore_n (lv' := [(2, .int q5.1), (0, .ref (G.2.2.1 195)), (1, .ref (G.2.2.1 k1))]) hx hb dX8_putUp_8 rfl hl (by decide) rfl (fun ls hl => ?_)
  refine lv_aload_n hx hb dX8_putUp_9 rfl (lv_at hl 1 rfl) ?_
  refine co_get X hH 195 (by decide) eO195 rfl inBX8 4 (by decide) rfl bw363 dX8_putUp_10 ?_
  refine lv_iload_n hx hb dX8_putUp_13 rfl (lv_at hl 0 rfl) ?_
  refine lv_iconst (v := 1) hx hb dX8_putUp_14 (by decide) ?_
  obtain ⟨q15, hq15, hf⟩ := nm_x hf
  have hq15 := hq15.symm
  refine cGv (cVrun (rest := []) X (cl_X5_put l G q5.2 16 (by decide) q5.1 1 q15 hq15) bw351 bw352 bw353 bw91 bw354 cn_X5_put ⟨rfl, rfl, Nat.le_of_ble_eq_true rfl, Nat.le_of_ble_eq_true rfl⟩ (c_recR X hH (by decide)) cA_g hH hS hl rfl (Nat.le_of_ble_eq_true rfl) dX8_putUp_15) hS (fun H locs hH hS => ?_)
  refine lv_iconst (v := 0) hx hb dX8_putUp_18 (by decide) ?_
  refine lv_istore_n (lv' := [(3, .int 0), (2, .int q5.1), (0, .ref (G.2.2.1 195)), (1, .ref (G.2.2.1 k1))]) hx hb dX8_putUp_19 rfl hl (by decide) rfl (fun ls hl => ?_)
  have hL20 : ∀ (n20 : Nat) (v20_3 : Int32) (w20_ : CW) (H : Heap) (locs : List Loc) (ls : Array Slot), f_X8_putUp_L20 k1 q5 n20 v20_3 w20_ = some q → cH G w20_ H → va_S (cA G) s.heap H locs → lv_has ls 4 [(3, .int v20_3), (2, .int q5.1), (0, .ref (G.2.2.1 195)), (1, .ref (G.2.2.1 k1))] → W p l e rm_X8_putUp s m args below meth c H locs 0 0 Q (F0 m 20 ls []) := by
    intro n20
    induction n20 with
    | zero => intro v20_3 w20_ H locs ls hf; rw [f_X8_putUp_L20] at hf; cases hf
    | succ n20 ih20 =>
      intro v20_3 w20_ H locs ls hf hH hS hl
      rw [f_X8_putUp_L20] at hf
      refine lv_iload_n hx hb dX8_putUp_20 rfl (lv_at hl 0 rfl) ?_
      refine lv_bipush (v := 27) hx hb dX8_putUp_21 (by decide) ?_
      refine lv_icmp_ge (tgt := 64) hx hb dX8_putUp_23 (by decide) (fun hc => ?_) (fun hc => ?_)
      · have hf := fo_t hc hf
        refine lv_iload_n hx hb dX8_putUp_64 rfl (lv_at hl 1 rfl) ?_
        subst hQ
        exact cEi X (cH2 (so_s hf) hH) hS (pf1 (so_s hf)) dX8_putUp_65
      have hf := fo_f hc hf
      refine lv_aload_n hx hb dX8_putUp_26 rfl (lv_at hl 2 rfl) ?_
      refine co_get X hH 195 (by decide) eO195 rfl inBX8 5 (by decide) rfl bw364 dX8_putUp_27 ?_
      refine lv_iload_n hx hb dX8_putUp_30 rfl (lv_at hl 1 rfl) ?_
      refine lv_bipush (v := 27) hx hb dX8_putUp_31 (by decide) ?_
      refine lv_imul hx hb dX8_putUp_33 ?_
      refine lv_iload_n hx hb dX8_putUp_34 rfl (lv_at hl 0 rfl) ?_
      refine lv_iadd hx hb dX8_putUp_35 ?_
      refine lv_aload_n hx hb dX8_putUp_36 rfl (lv_at hl 3 rfl) ?_
      refine lv_iload_n hx hb dX8_putUp_37 rfl (lv_at hl 0 rfl) ?_
      refine cGi (cVrun (rest := [.int ((q5.1 * 27) + v20_3), .ref (G.2.2.1 17)]) X (cl_X5_at l G w20_ k1 hk1 v20_3 _ rfl) bw627 bw628 bw629 bw91 bw630 cn_X5_at ⟨rfl, rfl, Nat.le_of_ble_eq_true rfl, Nat.le_of_ble_eq_true rfl⟩ (c_recR X hH hk1) cA_g hH hS hl rfl (Nat.le_of_ble_eq_true rfl) dX8_putUp_38) hS (fun H locs hH hS => ?_)
      obtain ⟨q41, hq41, hf⟩ := nm_x hf
      have hq41 := hq41.symm
      refine cGv (cVrun (rest := []) X (cl_X5_put l G w20_ 17 (by decide) ((q5.1 * 27) + v20_3) (rAt w20_ k1 v20_3) q41 hq41) bw351 bw352 bw353 bw91 bw354 cn_X5_put ⟨rfl, rfl, Nat.le_of_ble_eq_true rfl, Nat.le_of_ble_eq_true rfl⟩ (c_recR X hH (by decide)) cA_g hH hS hl rfl (Nat.le_of_ble_eq_true rfl) dX8_putUp_41) hS (fun H locs hH hS => ?_)
      refine lv_aload_n hx hb dX8_putUp_44 rfl (lv_at hl 2 rfl) ?_
      refine co_get X hH 195 (by decide) eO195 rfl inBX8 1 (by decide) rfl bw357 dX8_putUp_45 ?_
      refine lv_iload_n hx hb dX8_putUp_48 rfl (lv_at hl 0 rfl) ?_
      refine lv_aload_n hx hb dX8_putUp_49 rfl (lv_at hl 3 rfl) ?_
      refine lv_iload_n hx hb dX8_putUp_50 rfl (lv_at hl 0 rfl) ?_
      refine cGi (cVrun (rest := [.int v20_3, .ref (G.2.2.1 13)]) X (cl_X5_at l G q41 k1 hk1 v20_3 _ rfl) bw627 bw628 bw629 bw91 bw630 cn_X5_at ⟨rfl, rfl, Nat.le_of_ble_eq_true rfl, Nat.le_of_ble_eq_true rfl⟩ (c_recR X hH hk1) cA_g hH hS hl rfl (Nat.le_of_ble_eq_true rfl) dX8_putUp_51) hS (fun H locs hH hS => ?_)
      refine lv_ineg hx hb dX8_putUp_54 ?_
      obtain ⟨q55, hq55, hf⟩ := nm_x hf
      have hq55 := hq55.symm
      refine cGv (cVrun (rest := []) X (cl_X5_add l G q41 13 (by decide) v20_3 (-(rAt q41 k1 v20_3)) q55 hq55) bw647 bw648 bw649 bw91 bw650 cn_X5_add ⟨rfl, rfl, Nat.le_of_ble_eq_true rfl, Nat.le_of_ble_eq_true rfl⟩ (c_recR X hH (by decide)) cA_g hH hS hl rfl (Nat.le_of_ble_eq_true rfl) dX8_putUp_55) hS (fun H locs hH hS => ?_)
      obtain ⟨x58, ex58⟩ : ∃ z : Int32, z = (v20_3 + 1) := ⟨_, rfl⟩
      have hf := nm_s hf x58 ex58
      refine lv_iinc (v := x58) (lv' := [(3, .int x58), (2, .int q5.1), (0, .ref (G.2.2.1 195)), (1, .ref (G.2.2.1 k1))]) hx hb dX8_putUp_58 hl (k := 0) rfl (by rw [ex58]; rfl) (by decide) rfl (fun ls hl => ?_)
      refine lv_goto (tgt := 20) hx hb dX8_putUp_61 (by decide) ?_
      exact ih20 _ _ _ _ _ hf hH hS (lv_sub hl [0, 1, 2, 3] rfl)
  exact hL20 _ _ _ _ _ _ hf hH hS (lv_sub hl [0, 1, 2, 3] rfl)
def f_X8_takeDown_L4 (a1 : Int32) (j81 : Int32 → CW → Option (Int32 × CW)) : Nat → Int32 → Int32 → CW → Option (Int32 × CW)
  | 0, _, _, _ => none
  | n4 + 1, v4_2, v4_3, w4_ => (if 27 ≤ v4_3 then (j81 v4_2 w4_) else (nmk (rAt w4_ 17 ((a1 * 27) + v4_3)) fun (x23 : Int32) => (nmk (if ((x23 * (rAt w4_ 15 a1)) / 10000) < x23 then ((x23 * (rAt w4_ 15 a1)) / 10000) else x23) fun (x45 : Int32) => (nmk (rAdd w4_ 14 v4_3 x45) fun q54 => (nmk (rAdd q54 13 v4_3 (x23 - x45)) fun q67 => (nmk (v4_2 + x45) fun (x74 : Int32) => (nmk (v4_3 + 1) fun (x75 : Int32) => (f_X8_takeDown_L4 a1 j81 n4 x74 x75 q67))))))))
def f_X8_takeDown (w : CW) (a1 : Int32) : Option (Int32 × CW) := (nmk (fun (y81_2 : Int32) (w81_ : CW) => (nmk (rPut w81_ 16 a1 0) fun q87 => (some (y81_2, q87)))) fun j81 => (f_X8_takeDown_L4 a1 j81 FU 0 0 w))
abbrev rm_X8_takeDown : Room := { frames := 3, cells := 0, slots := 0, locals := 44 }
theorem cn_X8_takeDown : CN yX8_takeDown 1 := ⟨by decide +kernel, by decide +kernel, by decide +kernel⟩
set_option maxHeartbeats 4000000 in
set_option maxRecDepth 100000 in
theorem c_X8_takeDown (l : Launch) (G : GX) (w : CW) (a1 : Int32) (q : Int32 × CW) (hf : f_X8_takeDown w a1 = some q) : MI l G yX8_takeDown cX8_takeDown 6 (some .int) rm_X8_takeDown [.ref (G.2.2.1 195), .int a1] (cA G) (cH G w) (cH G q.2) q.1 := by
  refine cM_start (by decide +kernel) (Nat.le_of_ble_eq_true rfl) ?_
  intro p e s m below meth c ls X hH hl
  have hS : va_S (cA G) s.heap s.heap [] := va_S.rf
  have hx := X.1.1
  have hb := X.1.2.1
  generalize hargs : ([.ref (G.2.2.1 195), .int a1] : List Value).toArray = args at X ⊢
  generalize hQ : MQ below (QI (cA G) (cH G q.2) q.1) args s 0 0 (cA G) = Q
  have hl : lv_has ls 6 [(0, .ref (G.2.2.1 195)), (1, .int a1)] := hl
  unfold f_X8_takeDown at hf
  refine lv_iconst (v := 0) hx hb dX8_takeDown_0 (by decide) ?_
  refine lv_istore_n (lv' := [(2, .int 0), (0, .ref (G.2.2.1 195)), (1, .int a1)]) hx hb dX8_takeDown_1 rfl hl (by decide) rfl (fun ls hl => ?_)
  refine lv_iconst (v := 0) hx hb dX8_takeDown_2 (by decide) ?_
  refine lv_istore_n (lv' := [(3, .int 0), (2, .int 0), (0, .ref (G.2.2.1 195)), (1, .int a1)]) hx hb dX8_takeDown_3 rfl hl (by decide) rfl (fun ls hl => ?_)
  obtain ⟨j81, ej81, hf⟩ := nm_x hf
  have hj81 : ∀ (y81_2 : Int32) (w81_ : CW) (H : Heap) (locs : List Loc) (ls : Array Slot), j81 y81_2 w81_ = some q → cH G w81_ H → va_S (cA G) s.heap H locs → lv_has ls 6 [(2, .int y81_2), (0, .ref (G.2.2.1 195)), (1, .int a1)] → W p l e rm_X8_takeDown s m args below meth c H locs 0 0 Q (F0 m 81 ls []) := by
    intro y81_2 w81_ H locs ls hf hH hS hl
    have hf := jb2 ej81 hf
    refine lv_aload_n hx hb dX8_takeDown_81 rfl (lv_at hl 1 rfl) ?_
    refine co_get X hH 195 (by decide) eO195 rfl inBX8 4 (by decide) rfl bw363 dX8_takeDown_82 ?_
    refine lv_iload_n hx hb dX8_takeDown_85 rfl (lv_at hl 2 rfl) ?_
    refine lv_iconst (v := 0) hx hb dX8_takeDown_86 (by decide) ?_
    obtain ⟨q87, hq87, hf⟩ := nm_x hf
    have hq87 := hq87.symm
    refine cGv (cVrun (rest := []) X (cl_X5_put l G w81_ 16 (by decide) a1 0 q87 hq87) bw351 bw352 bw353 bw91 bw354 cn_X5_put ⟨rfl, rfl, Nat.le_of_ble_eq_true rfl, Nat.le_of_ble_eq_true rfl⟩ (c_recR X hH (by decide)) cA_g hH hS hl rfl (Nat.le_of_ble_eq_true rfl) dX8_takeDown_87) hS (fun H locs hH hS => ?_)
    refine lv_iload_n hx hb dX8_takeDown_90 rfl (lv_at hl 0 rfl) ?_
    subst hQ
    exact cEi X (cH2 (so_s hf) hH) hS (pf1 (so_s hf)) dX8_takeDown_91
  have hL4 : ∀ (n4 : Nat) (v4_2 : Int32) (v4_3 : Int32) (w4_ : CW) (H : Heap) (locs : List Loc) (ls : Array Slot), f_X8_takeDown_L4 a1 j81 n4 v4_2 v4_3 w4_ = some q → cH G w4_ H → va_S (cA G) s.heap H locs → lv_has ls 6 [(3, .int v4_3), (2, .int v4_2), (0, .ref (G.2.2.1 195)), (1, .int a1)] → W p l e rm_X8_takeDown s m args below meth c H locs 0 0 Q (F0 m 4 ls []) := by
    intro n4
    induction n4 with
    | zero => intro v4_2 v4_3 w4_ H locs ls hf; rw [f_X8_takeDown_L4] at hf; cases hf
    | succ n4 ih4 =>
      intro v4_2 v4_3 w4_ H locs ls hf hH hS hl
      rw [f_X8_takeDown_L4] at hf
      refine lv_iload_n hx hb dX8_takeDown_4 rfl (lv_at hl 0 rfl) ?_
      refine lv_bipush (v := 27) hx hb dX8_takeDown_5 (by decide) ?_
      refine lv_icmp_ge (tgt := 81) hx hb dX8_takeDown_7 (by decide) (fun hc => ?_) (fun hc => ?_)
      · have hf := fo_t hc hf
        exact hj81 _ _ _ _ _ hf hH hS (lv_sub hl [1, 2, 3] rfl)
      have hf := fo_f hc hf
      refine lv_aload_n hx hb dX8_takeDown_10 rfl (lv_at hl 2 rfl) ?_
      refine co_get X hH 195 (by decide) eO195 rfl inBX8 5 (by decide) rfl bw364 dX8_takeDown_11 ?_
      refine lv_iload_n hx hb dX8_takeDown_14 rfl (lv_at hl 3 rfl) ?_
      refine lv_bipush (v := 27) hx hb dX8_takeDown_15 (by decide) ?_
      refine lv_imul hx hb dX8_takeDown_17 ?_
      refine lv_iload_n hx hb dX8_takeDown_18 rfl (lv_at hl 0 rfl) ?_
      refine lv_iadd hx hb dX8_takeDown_19 ?_
      refine cGi (cVrun (rest := []) X (cl_X5_at l G w4_ 17 (by decide) ((a1 * 27) + v4_3) _ rfl) bw627 bw628 bw629 bw91 bw630 cn_X5_at ⟨rfl, rfl, Nat.le_of_ble_eq_true rfl, Nat.le_of_ble_eq_true rfl⟩ (c_recR X hH (by decide)) cA_g hH hS hl rfl (Nat.le_of_ble_eq_true rfl) dX8_takeDown_20) hS (fun H locs hH hS => ?_)
      refine lv_topi (fun x23 ex23 => ?_)
      have hf := nm_s hf x23 ex23
      refine lv_istore (lv' := [(4, .int x23), (3, .int v4_3), (2, .int v4_2), (0, .ref (G.2.2.1 195)), (1, .int a1)]) hx hb dX8_takeDown_23 hl (by decide) rfl (fun ls hl => ?_)
      refine lv_iload hx hb dX8_takeDown_25 (lv_at hl 0 rfl) ?_
      refine lv_iload hx hb dX8_takeDown_27 (lv_at hl 0 rfl) ?_
      refine lv_aload_n hx hb dX8_takeDown_29 rfl (lv_at hl 3 rfl) ?_
      refine co_get X hH 195 (by decide) eO195 rfl inBX8 3 (by decide) rfl bw361 dX8_takeDown_30 ?_
      refine lv_iload_n hx hb dX8_takeDown_33 rfl (lv_at hl 4 rfl) ?_
      refine cGi (cVrun (rest := [.int x23, .int x23]) X (cl_X5_at l G w4_ 15 (by decide) a1 _ rfl) bw627 bw628 bw629 bw91 bw630 cn_X5_at ⟨rfl, rfl, Nat.le_of_ble_eq_true rfl, Nat.le_of_ble_eq_true rfl⟩ (c_recR X hH (by decide)) cA_g hH hS hl rfl (Nat.le_of_ble_eq_true rfl) dX8_takeDown_34) hS (fun H locs hH hS => ?_)
      refine lv_imul hx hb dX8_takeDown_37 ?_
      refine lv_sipush (v := 10000) hx hb dX8_takeDown_38 (by decide) ?_
      refine lv_idiv hx hb dX8_takeDown_41 (by decide) ?_
      refine va_mmin hx hb (X.1.2.2.1.trans hl.1.symm) X.1.2.2.2.1 (X.w bw646) (X.w bw231) (X.w bw93) (X.w bw232) (Nat.le_of_ble_eq_true rfl) (Nat.le_of_ble_eq_true rfl) (Nat.zero_le _) (Nat.zero_le _) dX8_takeDown_42 ?_
      refine lv_topi (fun x45 ex45 => ?_)
      have hf := nm_s hf x45 ex45
      refine lv_istore (lv' := [(5, .int x45), (4, .int x23), (3, .int v4_3), (2, .int v4_2), (0, .ref (G.2.2.1 195)), (1, .int a1)]) hx hb dX8_takeDown_45 hl (by decide) rfl (fun ls hl => ?_)
      refine lv_aload_n hx hb dX8_takeDown_47 rfl (lv_at hl 4 rfl) ?_
      refine co_get X hH 195 (by decide) eO195 rfl inBX8 2 (by decide) rfl bw359 dX8_takeDown_48 ?_
      refine lv_iload_n hx hb dX8_takeDown_51 rfl (lv_at hl 2 rfl) ?_
      refine lv_iload hx hb dX8_takeDown_52 (lv_at hl 0 rfl) ?_
      obtain ⟨q54, hq54, hf⟩ := nm_x hf
      have hq54 := hq54.symm
      refine cGv (cVrun (rest := []) X (cl_X5_add l G w4_ 14 (by decide) v4_3 x45 q54 hq54) bw647 bw648 bw649 bw91 bw650 cn_X5_add ⟨rfl, rfl, Nat.le_of_ble_eq_true rfl, Nat.le_of_ble_eq_true rfl⟩ (c_recR X hH (by decide)) cA_g hH hS hl rfl (Nat.le_of_ble_eq_true rfl) dX8_takeDown_54) hS (fun H locs hH hS => ?_)
      refine lv_aload_n hx hb dX8_takeDown_57 rfl (lv_at hl 4 rfl) ?_
      refine co_get X hH 195 (by decide) eO195 rfl inBX8 1 (by decide) rfl bw357 dX8_takeDown_58 ?_
      refine lv_iload_n hx hb dX8_takeDown_61 rfl (lv_at hl 2 rfl) ?_
      refine lv_iload hx hb dX8_takeDown_62 (lv_at hl 1 rfl) ?_
      refine lv_iload hx hb dX8_takeDown_64 (lv_at hl 0 rfl) ?_
      refine lv_isub hx hb dX8_takeDown_66 ?_
      obtain ⟨q67, hq67, hf⟩ := nm_x hf
      have hq67 := hq67.symm
      refine cGv (cVrun (rest := []) X (cl_X5_add l G q54 13 (by decide) v4_3 (x23 - x45) q67 hq67) bw647 bw648 bw649 bw91 bw650 cn_X5_add ⟨rfl, rfl, Nat.le_of_ble_eq_true rfl, Nat.le_of_ble_eq_true rfl⟩ (c_recR X hH (by decide)) cA_g hH hS hl rfl (Nat.le_of_ble_eq_true rfl) dX8_takeDown_67) hS (fun H locs hH hS => ?_)
      refine lv_iload_n hx hb dX8_takeDown_70 rfl (lv_at hl 3 rfl) ?_
      refine lv_iload hx hb dX8_takeDown_71 (lv_at hl 0 rfl) ?_
      refine lv_iadd hx hb dX8_takeDown_73 ?_
      refine lv_topi (fun x74 ex74 => ?_)
      have hf := nm_s hf x74 ex74
      refine lv_istore_n (lv' := [(2, .int x74), (5, .int x45), (4, .int x23), (3, .int v4_3), (0, .ref (G.2.2.1 195)), (1, .int a1)]) hx hb dX8_takeDown_74 rfl hl (by decide) rfl (fun ls hl => ?_)
      obtain ⟨x75, ex75⟩ : ∃ z : Int32, z = (v4_3 + 1) := ⟨_, rfl⟩
      have hf := nm_s hf x75 ex75
      refine lv_iinc (v := x75) (lv' := [(3, .int x75), (2, .int x74), (5, .int x45), (4, .int x23), (0, .ref (G.2.2.1 195)), (1, .int a1)]) hx hb dX8_takeDown_75 hl (k := 3) rfl (by rw [ex75]; rfl) (by decide) rfl (fun ls hl => ?_)
      refine lv_goto (tgt := 4) hx hb dX8_takeDown_78 (by decide) ?_
      exact ih4 _ _ _ _ _ _ hf hH hS (lv_sub hl [0, 1, 4, 5] rfl)
  exact hL4 _ _ _ _ _ _ _ hf hH hS (lv_sub hl [0, 1, 2, 3] rfl)
def f_X2_isKind (a0 : Int32) : Int32 := ((if a0 < 0 then 0 else (if 6 < a0 then 0 else 1)))
abbrev rm_X2_isKind : Room := { frames := 1, cells := 0, slots := 0, locals := 0 }
theorem cn_X2_isKind : CN yX2_isKind 1 := ⟨by decide +kernel, by decide +kernel, by decide +kernel⟩
set_option maxHeartbeats 4000000 in
set_option maxRecDepth 100000 in
theorem c_X2_isKind (l : Launch) (G : GX) (P : Heap → Prop) (A : Nat → Prop) (hAG : ∀ q, A q → gA G q) (a0 : Int32) (q : Int32) (hf : f_X2_isKind a0 = q) : MI l G yX2_isKind cX2_isKind 1 (some .boolean) rm_X2_isKind [.int a0] A P P q := by
  refine cM_start (by decide +kernel) (Nat.le_of_ble_eq_true rfl) ?_
  intro p e s m below meth c ls X hH hl
  have hS : va_S A s.heap s.heap [] := va_S.rf
  have hx := X.1.1
  have hb := X.1.2.1
  generalize hargs : ([.int a0] : List Value).toArray = args at X ⊢
  generalize hQ : MQ below (QI A P q) args s 0 0 A = Q
  have hl : lv_has ls 1 [(0, .int a0)] := hl
  unfold f_X2_isKind at hf
  refine lv_iload_n hx hb dX2_isKind_0 rfl (lv_at hl 0 rfl) ?_
  have hJ : ∀ (H : Heap) (locs : List Loc), P H → va_S A s.heap H locs → W p l e rm_X2_isKind s m args below meth c H locs 0 0 Q (F0 m 15 ls [.int (if a0 < 0 then 0 else (if 6 < a0 then 0 else 1))]) := by
    intro H locs hH hS
    subst hQ
    exact cEz X hH hS (hf) (nz (zb_ite zb0 (zb_ite zb0 zb1))) dX2_isKind_15
  refine lv_if_lt (tgt := 14) hx hb dX2_isKind_1 (by decide) (fun hc1 => ?_) (fun hc1 => ?_)
  · refine lv_iconst (v := 0) hx hb dX2_isKind_14 (by decide) ?_
    exact W.eq (by rw [if_pos hc1] <;> rfl) (hJ _ _ hH hS)
  · refine lv_iload_n hx hb dX2_isKind_4 rfl (lv_at hl 0 rfl) ?_
    refine lv_bipush (v := 6) hx hb dX2_isKind_5 (by decide) ?_
    refine lv_icmp_gt (tgt := 14) hx hb dX2_isKind_7 (by decide) (fun hc7 => ?_) (fun hc7 => ?_)
    · refine lv_iconst (v := 0) hx hb dX2_isKind_14 (by decide) ?_
      exact W.eq (by rw [if_neg hc1, if_pos hc7] <;> rfl) (hJ _ _ hH hS)
    · refine lv_iconst (v := 1) hx hb dX2_isKind_10 (by decide) ?_
      refine lv_goto (tgt := 15) hx hb dX2_isKind_11 (by decide) ?_
      exact W.eq (by rw [if_neg hc1, if_neg hc7] <;> rfl) (hJ _ _ hH hS)
theorem zb_X2_isKind (a0 : Int32) : f_X2_isKind a0 = 0 ∨ f_X2_isKind a0 = 1 := by
  unfold f_X2_isKind
  try simp only [nmk]
  repeat' (first | exact zb0 | exact zb1 | refine zb_ite ?_ ?_)
def f_X2_isUnder (a0 : Int32) (a1 : Int32) : Int32 := ((if a0 = a1 then 1 else (if a1 = 0 then 1 else (if a0 = 5 then (if a1 = 2 then 1 else (if a0 = 6 then (if a1 = 1 then 1 else 0) else 0)) else (if a0 = 6 then (if a1 = 1 then 1 else 0) else 0)))))
abbrev rm_X2_isUnder : Room := { frames := 1, cells := 0, slots := 0, locals := 0 }
theorem cn_X2_isUnder : CN yX2_isUnder 2 := ⟨by decide +kernel, by decide +kernel, by decide +kernel⟩
set_option maxHeartbeats 4000000 in
set_option maxRecDepth 100000 in
theorem c_X2_isUnder (l : Launch) (G : GX) (P : Heap → Prop) (A : Nat → Prop) (hAG : ∀ q, A q → gA G q) (a0 : Int32) (a1 : Int32) (q : Int32) (hf : f_X2_isUnder a0 a1 = q) : MI l G yX2_isUnder cX2_isUnder 2 (some .boolean) rm_X2_isUnder [.int a0, .int a1] A P P q := by
  refine cM_start (by decide +kernel) (Nat.le_of_ble_eq_true rfl) ?_
  intro p e s m below meth c ls X hH hl
  have hS : va_S A s.heap s.heap [] := va_S.rf
  have hx := X.1.1
  have hb := X.1.2.1
  generalize hargs : ([.int a0, .int a1] : List Value).toArray = args at X ⊢
  generalize hQ : MQ below (QI A P q) args s 0 0 A = Q
  have hl : lv_has ls 2 [(0, .int a0), (1, .int a1)] := hl
  unfold f_X2_isUnder at hf
  refine lv_iload_n hx hb dX2_isUnder_0 rfl (lv_at hl 0 rfl) ?_
  refine lv_iload_n hx hb dX2_isUnder_1 rfl (lv_at hl 1 rfl) ?_
  have hJ : ∀ (H : Heap) (locs : List Loc), P H → va_S A s.heap H locs → W p l e rm_X2_isUnder s m args below meth c H locs 0 0 Q (F0 m 35 ls [.int (if a0 = a1 then 1 else (if a1 = 0 then 1 else (if a0 = 5 then (if a1 = 2 then 1 else (if a0 = 6 then (if a1 = 1 then 1 else 0) else 0)) else (if a0 = 6 then (if a1 = 1 then 1 else 0) else 0))))]) := by
    intro H locs hH hS
    subst hQ
    exact cEz X hH hS (hf) (nz (zb_ite zb1 (zb_ite zb1 (zb_ite (zb_ite zb1 (zb_ite (zb_ite zb1 zb0) zb0)) (zb_ite (zb_ite zb1 zb0) zb0))))) dX2_isUnder_35
  refine lv_icmp_eq (tgt := 30) hx hb dX2_isUnder_2 (by decide) (fun hc2 => ?_) (fun hc2 => ?_)
  · refine lv_iconst (v := 1) hx hb dX2_isUnder_30 (by decide) ?_
    refine lv_goto (tgt := 35) hx hb dX2_isUnder_31 (by decide) ?_
    exact W.eq (by rw [if_pos hc2] <;> rfl) (hJ _ _ hH hS)
  · refine lv_iload_n hx hb dX2_isUnder_5 rfl (lv_at hl 1 rfl) ?_
    refine lv_if_eq (tgt := 30) hx hb dX2_isUnder_6 (by decide) (fun hc6 => ?_) (fun hc6 => ?_)
    · refine lv_iconst (v := 1) hx hb dX2_isUnder_30 (by decide) ?_
      refine lv_goto (tgt := 35) hx hb dX2_isUnder_31 (by decide) ?_
      exact W.eq (by rw [if_neg hc2, if_pos hc6] <;> rfl) (hJ _ _ hH hS)
    · refine lv_iload_n hx hb dX2_isUnder_9 rfl (lv_at hl 0 rfl) ?_
      refine lv_iconst (v := 5) hx hb dX2_isUnder_10 (by decide) ?_
      refine lv_icmp_ne (tgt := 19) hx hb dX2_isUnder_11 (by decide) (fun hc11 => ?_) (fun hc11 => ?_)
      · refine lv_iload_n hx hb dX2_isUnder_19 rfl (lv_at hl 0 rfl) ?_
        refine lv_bipush (v := 6) hx hb dX2_isUnder_20 (by decide) ?_
        refine lv_icmp_ne (tgt := 34) hx hb dX2_isUnder_22 (by decide) (fun hc22 => ?_) (fun hc22 => ?_)
        · refine lv_iconst (v := 0) hx hb dX2_isUnder_34 (by decide) ?_
          exact W.eq (by rw [if_neg hc2, if_neg hc6, if_neg hc11, if_neg hc22] <;> rfl) (hJ _ _ hH hS)
        · refine lv_iload_n hx hb dX2_isUnder_25 rfl (lv_at hl 1 rfl) ?_
          refine lv_iconst (v := 1) hx hb dX2_isUnder_26 (by decide) ?_
          refine lv_icmp_ne (tgt := 34) hx hb dX2_isUnder_27 (by decide) (fun hc27 => ?_) (fun hc27 => ?_)
          · refine lv_iconst (v := 0) hx hb dX2_isUnder_34 (by decide) ?_
            exact W.eq (by rw [if_neg hc2, if_neg hc6, if_neg hc11, if_pos hc22, if_neg hc27] <;> rfl) (hJ _ _ hH hS)
          · refine lv_iconst (v := 1) hx hb dX2_isUnder_30 (by decide) ?_
            refine lv_goto (tgt := 35) hx hb dX2_isUnder_31 (by decide) ?_
            exact W.eq (by rw [if_neg hc2, if_neg hc6, if_neg hc11, if_pos hc22, if_pos hc27] <;> rfl) (hJ _ _ hH hS)
      · refine lv_iload_n hx hb dX2_isUnder_14 rfl (lv_at hl 1 rfl) ?_
        refine lv_iconst (v := 2) hx hb dX2_isUnder_15 (by decide) ?_
        refine lv_icmp_eq (tgt := 30) hx hb dX2_isUnder_16 (by decide) (fun hc16 => ?_) (fun hc16 => ?_)
        · refine lv_iconst (v := 1) hx hb dX2_isUnder_30 (by decide) ?_
          refine lv_goto (tgt := 35) hx hb dX2_isUnder_31 (by decide) ?_
          exact W.eq (by rw [if_neg hc2, if_neg hc6, if_pos hc11, if_pos hc16] <;> rfl) (hJ _ _ hH hS)
        · refine lv_iload_n hx hb dX2_isUnder_19 rfl (lv_at hl 0 rfl) ?_
          refine lv_bipush (v := 6) hx hb dX2_isUnder_20 (by decide) ?_
          refine lv_icmp_ne (tgt := 34) hx hb dX2_isUnder_22 (by decide) (fun hc22 => ?_) (fun hc22 => ?_)
          · refine lv_iconst (v := 0) hx hb dX2_isUnder_34 (by decide) ?_
            exact W.eq (by rw [if_neg hc2, if_neg hc6, if_pos hc11, if_neg hc16, if_neg hc22] <;> rfl) (hJ _ _ hH hS)
          · refine lv_iload_n hx hb dX2_isUnder_25 rfl (lv_at hl 1 rfl) ?_
            refine lv_iconst (v := 1) hx hb dX2_isUnder_26 (by decide) ?_
            refine lv_icmp_ne (tgt := 34) hx hb dX2_isUnder_27 (by decide) (fun hc27 => ?_) (fun hc27 => ?_)
            · refine lv_iconst (v := 0) hx hb dX2_isUnder_34 (by decide) ?_
              exact W.eq (by rw [if_neg hc2, if_neg hc6, if_pos hc11, if_neg hc16, if_pos hc22, if_neg hc27] <;> rfl) (hJ _ _ hH hS)
            · refine lv_iconst (v := 1) hx hb dX2_isUnder_30 (by decide) ?_
              refine lv_goto (tgt := 35) hx hb dX2_isUnder_31 (by decide) ?_
              exact W.eq (by rw [if_neg hc2, if_neg hc6, if_pos hc11, if_neg hc16, if_pos hc22, if_pos hc27] <;> rfl) (hJ _ _ hH hS)
theorem zb_X2_isUnder (a0 : Int32) (a1 : Int32) : f_X2_isUnder a0 a1 = 0 ∨ f_X2_isUnder a0 a1 = 1 := by
  unfold f_X2_isUnder
  try simp only [nmk]
  repeat' (first | exact zb0 | exact zb1 | refine zb_ite ?_ ?_)
def f_X2_has (w : CW) (a1 : Int32) : Int32 := ((if a1 < 0 then 0 else (if (f_X5_size w 23) ≤ a1 then 0 else 1)))
abbrev rm_X2_has : Room := { frames := 2, cells := 0, slots := 0, locals := 20 }
theorem cn_X2_has : CN yX2_has 1 := ⟨by decide +kernel, by decide +kernel, by decide +kernel⟩
set_option maxHeartbeats 4000000 in
set_option maxRecDepth 100000 in
theorem c_X2_has (l : Launch) (G : GX) (w : CW) (a1 : Int32) (q : Int32) (hf : f_X2_has w a1 = q) : MI l G yX2_has cX2_has 2 (some .boolean) rm_X2_has [.ref (G.2.2.1 198), .int a1] (cA G) (cH G w) (cH G w) q := by
  refine cM_start (by decide +kernel) (Nat.le_of_ble_eq_true rfl) ?_
  intro p e s m below meth c ls X hH hl
  have hS : va_S (cA G) s.heap s.heap [] := va_S.rf
  have hx := X.1.1
  have hb := X.1.2.1
  generalize hargs : ([.ref (G.2.2.1 198), .int a1] : List Value).toArray = args at X ⊢
  generalize hQ : MQ below (QI (cA G) (cH G w) q) args s 0 0 (cA G) = Q
  have hl : lv_has ls 2 [(0, .ref (G.2.2.1 198)), (1, .int a1)] := hl
  unfold f_X2_has at hf
  refine lv_iload_n hx hb dX2_has_0 rfl (lv_at hl 1 rfl) ?_
  have hJ : ∀ (H : Heap) (locs : List Loc), cH G w H → va_S (cA G) s.heap H locs → W p l e rm_X2_has s m args below meth c H locs 0 0 Q (F0 m 20 ls [.int (if a1 < 0 then 0 else (if (f_X5_size w 23) ≤ a1 then 0 else 1))]) := by
    intro H locs hH hS
    subst hQ
    exact cEz X hH hS (hf) (nz (zb_ite zb0 (zb_ite zb0 zb1))) dX2_has_20
  refine lv_if_lt (tgt := 19) hx hb dX2_has_1 (by decide) (fun hc1 => ?_) (fun hc1 => ?_)
  · refine lv_iconst (v := 0) hx hb dX2_has_19 (by decide) ?_
    exact W.eq (by rw [if_pos hc1] <;> rfl) (hJ _ _ hH hS)
  · refine lv_iload_n hx hb dX2_has_4 rfl (lv_at hl 1 rfl) ?_
    refine lv_aload_n hx hb dX2_has_5 rfl (lv_at hl 0 rfl) ?_
    refine co_get X hH 198 (by decide) eO198 rfl inBX2 0 (by decide) rfl bw477 dX2_has_6 ?_
    refine cGi (cVrun (rest := [.int a1]) X (c_X5_size l G w 23 (by decide) _ rfl) bw1107 bw624 bw625 bw91 bw626 cn_X5_size ⟨rfl, rfl, Nat.le_of_ble_eq_true rfl, Nat.le_of_ble_eq_true rfl⟩ (c_recR X hH (by decide)) cA_g hH hS hl rfl (Nat.le_of_ble_eq_true rfl) dX2_has_9) hS (fun H locs hH hS => ?_)
    refine lv_icmp_ge (tgt := 19) hx hb dX2_has_12 (by decide) (fun hc12 => ?_) (fun hc12 => ?_)
    · refine lv_iconst (v := 0) hx hb dX2_has_19 (by decide) ?_
      exact W.eq (by rw [if_neg hc1, if_pos hc12] <;> rfl) (hJ _ _ hH hS)
    · refine lv_iconst (v := 1) hx hb dX2_has_15 (by decide) ?_
      refine lv_goto (tgt := 20) hx hb dX2_has_16 (by decide) ?_
      exact W.eq (by rw [if_neg hc1, if_neg hc12] <;> rfl) (hJ _ _ hH hS)
theorem zb_X2_has (w : CW) (a1 : Int32) : f_X2_has w a1 = 0 ∨ f_X2_has w a1 = 1 := by
  unfold f_X2_has
  try simp only [nmk]
  repeat' (first | exact zb0 | exact zb1 | refine zb_ite ?_ ?_)
def f_X2_lay (w : CW) (a1 : Int32) (a2 : Int32) (a3 : Int32) (a4 : Int32) : Int32 × CW := (nmk (rPush w 24 a2) fun q5 => (nmk (rPush q5 25 a3) fun q13 => (nmk (rPush q13 26 a4) fun q22 => (nmk (rNumber q22 23 a1) fun q30 => ((q30.1, q30.2))))))
abbrev rm_X2_lay : Room := { frames := 2, cells := 0, slots := 0, locals := 21 }
theorem cn_X2_lay : CN yX2_lay 4 := ⟨by decide +kernel, by decide +kernel, by decide +kernel⟩
set_option maxHeartbeats 4000000 in
set_option maxRecDepth 100000 in
theorem c_X2_lay (l : Launch) (G : GX) (w : CW) (a1 : Int32) (a2 : Int32) (a3 : Int32) (a4 : Int32) (q : Int32 × CW) (hf : f_X2_lay w a1 a2 a3 a4 = q) : MI l G yX2_lay cX2_lay 5 (some .int) rm_X2_lay [.ref (G.2.2.1 198), .int a1, .int a2, .int a3, .int a4] (cA G) (cH G w) (cH G q.2) q.1 := by
  refine cM_start (by decide +kernel) (Nat.le_of_ble_eq_true rfl) ?_
  intro p e s m below meth c ls X hH hl
  have hS : va_S (cA G) s.heap s.heap [] := va_S.rf
  have hx := X.1.1
  have hb := X.1.2.1
  generalize hargs : ([.ref (G.2.2.1 198), .int a1, .int a2, .int a3, .int a4] : List Value).toArray = args at X ⊢
  generalize hQ : MQ below (QI (cA G) (cH G q.2) q.1) args s 0 0 (cA G) = Q
  have hl : lv_has ls 5 [(0, .ref (G.2.2.1 198)), (1, .int a1), (2, .int a2), (3, .int a3), (4, .int a4)] := hl
  unfold f_X2_lay at hf
  refine lv_aload_n hx hb dX2_lay_0 rfl (lv_at hl 0 rfl) ?_
  refine co_get X hH 198 (by decide) eO198 rfl inBX2 1 (by decide) rfl bw479 dX2_lay_1 ?_
  refine lv_iload_n hx hb dX2_lay_4 rfl (lv_at hl 2 rfl) ?_
  obtain ⟨q5, hq5, hf⟩ := nm_x hf
  have hq5 := hq5.symm
  refine cGv (cVrun (rest := []) X (cl_X5_push l G w 24 (by decide) a2 q5 hq5) bw1097 bw679 bw680 bw91 bw681 cn_X5_push ⟨rfl, rfl, Nat.le_of_ble_eq_true rfl, Nat.le_of_ble_eq_true rfl⟩ (c_recR X hH (by decide)) cA_g hH hS hl rfl (Nat.le_of_ble_eq_true rfl) dX2_lay_5) hS (fun H locs hH hS => ?_)
  refine lv_aload_n hx hb dX2_lay_8 rfl (lv_at hl 0 rfl) ?_
  refine co_get X hH 198 (by decide) eO198 rfl inBX2 2 (by decide) rfl bw481 dX2_lay_9 ?_
  refine lv_iload_n hx hb dX2_lay_12 rfl (lv_at hl 3 rfl) ?_
  obtain ⟨q13, hq13, hf⟩ := nm_x hf
  have hq13 := hq13.symm
  refine cGv (cVrun (rest := []) X (cl_X5_push l G q5 25 (by decide) a3 q13 hq13) bw1097 bw679 bw680 bw91 bw681 cn_X5_push ⟨rfl, rfl, Nat.le_of_ble_eq_true rfl, Nat.le_of_ble_eq_true rfl⟩ (c_recR X hH (by decide)) cA_g hH hS hl rfl (Nat.le_of_ble_eq_true rfl) dX2_lay_13) hS (fun H locs hH hS => ?_)
  refine lv_aload_n hx hb dX2_lay_16 rfl (lv_at hl 0 rfl) ?_
  refine co_get X hH 198 (by decide) eO198 rfl inBX2 3 (by decide) rfl bw482 dX2_lay_17 ?_
  refine lv_iload hx hb dX2_lay_20 (lv_at hl 4 rfl) ?_
  obtain ⟨q22, hq22, hf⟩ := nm_x hf
  have hq22 := hq22.symm
  refine cGv (cVrun (rest := []) X (cl_X5_push l G q13 26 (by decide) a4 q22 hq22) bw1097 bw679 bw680 bw91 bw681 cn_X5_push ⟨rfl, rfl, Nat.le_of_ble_eq_true rfl, Nat.le_of_ble_eq_true rfl⟩ (c_recR X hH (by decide)) cA_g hH hS hl rfl (Nat.le_of_ble_eq_true rfl) dX2_lay_22) hS (fun H locs hH hS => ?_)
  refine lv_aload_n hx hb dX2_lay_25 rfl (lv_at hl 0 rfl) ?_
  refine co_get X hH 198 (by decide) eO198 rfl inBX2 0 (by decide) rfl bw477 dX2_lay_26 ?_
  refine lv_iload_n hx hb dX2_lay_29 rfl (lv_at hl 1 rfl) ?_
  obtain ⟨q30, hq30, hf⟩ := nm_x hf
  have hq30 := hq30.symm
  refine cGi (cVrun (rest := []) X (cl_X5_number l G q22 23 (by decide) a1 q30 hq30) bw1098 bw817 bw818 bw91 bw819 cn_X5_number ⟨rfl, rfl, Nat.le_of_ble_eq_true rfl, Nat.le_of_ble_eq_true rfl⟩ (c_recR X hH (by decide)) cA_g hH hS hl rfl (Nat.le_of_ble_eq_true rfl) dX2_lay_30) hS (fun H locs hH hS => ?_)
  subst hQ
  exact cEi X (cH2 (hf) hH) hS (pf1 (hf)) dX2_lay_33
def f_X2_costOf (w : CW) (a1 : Int32) : Option (Int32) := (if (rAt w 23 a1) = 1 then (some 20) else (if (rAt w 23 a1) = 2 then (some 60) else (if (rAt w 23 a1) = 3 then (Option.bind (f_J9_floorMod_7cf53 (rAt w 25 a1) 7) fun q66 => (some (10 + q66))) else (if (rAt w 23 a1) = 4 then (some 0) else (if (rAt w 23 a1) = 5 then (some (60 + (3 * (rAt w 24 a1)))) else (if (rAt w 23 a1) = 6 then (some 15) else (some 10)))))))
abbrev rm_X2_costOf : Room := { frames := 2, cells := 0, slots := 0, locals := 22 }
theorem cn_X2_costOf : CN yX2_costOf 1 := ⟨by decide +kernel, by decide +kernel, by decide +kernel⟩
set_option maxHeartbeats 4000000 in
set_option maxRecDepth 100000 in
theorem c_X2_costOf (l : Launch) (G : GX) (w : CW) (a1 : Int32) (q : Int32) (hf : f_X2_costOf w a1 = some q) : MI l G yX2_costOf cX2_costOf 2 (some .int) rm_X2_costOf [.ref (G.2.2.1 198), .int a1] (cA G) (cH G w) (cH G w) q := by
  refine cM_start (by decide +kernel) (Nat.le_of_ble_eq_true rfl) ?_
  intro p e s m below meth c ls X hH hl
  have hS : va_S (cA G) s.heap s.heap [] := va_S.rf
  have hx := X.1.1
  have hb := X.1.2.1
  generalize hargs : ([.ref (G.2.2.1 198), .int a1] : List Value).toArray = args at X ⊢
  generalize hQ : MQ below (QI (cA G) (cH G w) q) args s 0 0 (cA G) = Q
  have hl : lv_has ls 2 [(0, .ref (G.2.2.1 198)), (1, .int a1)] := hl
  unfold f_X2_costOf at hf
  refine lv_aload_n hx hb dX2_costOf_0 rfl (lv_at hl 0 rfl) ?_
  refine co_get X hH 198 (by decide) eO198 rfl inBX2 0 (by decide) rfl bw477 dX2_costOf_1 ?_
  refine lv_iload_n hx hb dX2_costOf_4 rfl (lv_at hl 1 rfl) ?_
  refine cGi (cVrun (rest := []) X (cl_X5_at l G w 23 (by decide) a1 _ rfl) bw1112 bw628 bw629 bw91 bw630 cn_X5_at ⟨rfl, rfl, Nat.le_of_ble_eq_true rfl, Nat.le_of_ble_eq_true rfl⟩ (c_recR X hH (by decide)) cA_g hH hS hl rfl (Nat.le_of_ble_eq_true rfl) dX2_costOf_5) hS (fun H locs hH hS => ?_)
  by_cases hc1 : (rAt w 23 a1) = 1
  · have hf := fo_t hc1 hf
    refine lv_tableIn (tgt := 48) hx hb dX2_costOf_8 (by rw [hc1]; decide) (by rw [hc1]; decide) (by rw [hc1]; rfl) (by decide) ?_
    refine lv_bipush (v := 20) hx hb dX2_costOf_48 (by decide) ?_
    subst hQ
    exact cEi X hH hS (so_s hf) dX2_costOf_50
  have hf := fo_f hc1 hf
  by_cases hc2 : (rAt w 23 a1) = 2
  · have hf := fo_t hc2 hf
    refine lv_tableIn (tgt := 51) hx hb dX2_costOf_8 (by rw [hc2]; decide) (by rw [hc2]; decide) (by rw [hc2]; rfl) (by decide) ?_
    refine lv_bipush (v := 60) hx hb dX2_costOf_51 (by decide) ?_
    subst hQ
    exact cEi X hH hS (so_s hf) dX2_costOf_53
  have hf := fo_f hc2 hf
  by_cases hc3 : (rAt w 23 a1) = 3
  · have hf := fo_t hc3 hf
    refine lv_tableIn (tgt := 54) hx hb dX2_costOf_8 (by rw [hc3]; decide) (by rw [hc3]; decide) (by rw [hc3]; rfl) (by decide) ?_
    refine lv_bipush (v := 10) hx hb dX2_costOf_54 (by decide) ?_
    refine lv_aload_n hx hb dX2_costOf_56 rfl (lv_at hl 0 rfl) ?_
    refine co_get X hH 198 (by decide) eO198 rfl inBX2 2 (by decide) rfl bw481 dX2_costOf_57 ?_
    refine lv_iload_n hx hb dX2_costOf_60 rfl (lv_at hl 1 rfl) ?_
    refine cGi (cVrun (rest := [.int 10]) X (cl_X5_at l G w 25 (by decide) a1 _ rfl) bw1112 bw628 bw629 bw91 bw630 cn_X5_at ⟨rfl, rfl, Nat.le_of_ble_eq_true rfl, Nat.le_of_ble_eq_true rfl⟩ (c_recR X hH (by decide)) cA_g hH hS hl rfl (Nat.le_of_ble_eq_true rfl) dX2_costOf_61) hS (fun H locs hH hS => ?_)
    refine lv_bipush (v := 7) hx hb dX2_costOf_64 (by decide) ?_
    obtain ⟨q66, hq66, hf⟩ := bd_s hf
    refine cGi (cSrun (rest := [.int 10]) X (c_J9_floorMod_7cf53 l G (cH G w) (cA G) cA_g (rAt w 25 a1) 7 q66 hq66) bw1113 bw832 bw93 bw833 cn_J9_floorMod_7cf53 ⟨rfl, rfl, Nat.le_of_ble_eq_true rfl, Nat.le_of_ble_eq_true rfl⟩ cA_g hH hS hl rfl (Nat.le_of_ble_eq_true rfl) dX2_costOf_66) hS (fun H locs hH hS => ?_)
    refine lv_iadd hx hb dX2_costOf_69 ?_
    subst hQ
    exact cEi X hH hS (so_s hf) dX2_costOf_70
  have hf := fo_f hc3 hf
  by_cases hc4 : (rAt w 23 a1) = 4
  · have hf := fo_t hc4 hf
    refine lv_tableIn (tgt := 71) hx hb dX2_costOf_8 (by rw [hc4]; decide) (by rw [hc4]; decide) (by rw [hc4]; rfl) (by decide) ?_
    refine lv_iconst (v := 0) hx hb dX2_costOf_71 (by decide) ?_
    subst hQ
    exact cEi X hH hS (so_s hf) dX2_costOf_72
  have hf := fo_f hc4 hf
  by_cases hc5 : (rAt w 23 a1) = 5
  · have hf := fo_t hc5 hf
    refine lv_tableIn (tgt := 73) hx hb dX2_costOf_8 (by rw [hc5]; decide) (by rw [hc5]; decide) (by rw [hc5]; rfl) (by decide) ?_
    refine lv_bipush (v := 60) hx hb dX2_costOf_73 (by decide) ?_
    refine lv_iconst (v := 3) hx hb dX2_costOf_75 (by decide) ?_
    refine lv_aload_n hx hb dX2_costOf_76 rfl (lv_at hl 0 rfl) ?_
    refine co_get X hH 198 (by decide) eO198 rfl inBX2 1 (by decide) rfl bw479 dX2_costOf_77 ?_
    refine lv_iload_n hx hb dX2_costOf_80 rfl (lv_at hl 1 rfl) ?_
    refine cGi (cVrun (rest := [.int 3, .int 60]) X (cl_X5_at l G w 24 (by decide) a1 _ rfl) bw1112 bw628 bw629 bw91 bw630 cn_X5_at ⟨rfl, rfl, Nat.le_of_ble_eq_true rfl, Nat.le_of_ble_eq_true rfl⟩ (c_recR X hH (by decide)) cA_g hH hS hl rfl (Nat.le_of_ble_eq_true rfl) dX2_costOf_81) hS (fun H locs hH hS => ?_)
    refine lv_imul hx hb dX2_costOf_84 ?_
    refine lv_iadd hx hb dX2_costOf_85 ?_
    subst hQ
    exact cEi X hH hS (so_s hf) dX2_costOf_86
  have hf := fo_f hc5 hf
  by_cases hc6 : (rAt w 23 a1) = 6
  · have hf := fo_t hc6 hf
    refine lv_tableIn (tgt := 87) hx hb dX2_costOf_8 (by rw [hc6]; decide) (by rw [hc6]; decide) (by rw [hc6]; rfl) (by decide) ?_
    refine lv_bipush (v := 15) hx hb dX2_costOf_87 (by decide) ?_
    subst hQ
    exact cEi X hH hS (so_s hf) dX2_costOf_89
  have hf := fo_f hc6 hf
  refine lv_tableOut (tgt := 90) hx hb dX2_costOf_8 (sw_out (ks := [1, 2, 3, 4, 5, 6]) (by intro k hk; simp only [List.mem_cons, List.not_mem_nil, or_false] at hk; rcases hk with rfl | rfl | rfl | rfl | rfl | rfl <;> assumption) (sw_all 1 [1, 2, 3, 4, 5, 6] (by decide))) (by decide) ?_
  refine lv_bipush (v := 10) hx hb dX2_costOf_90 (by decide) ?_
  subst hQ
  exact cEi X hH hS (so_s hf) dX2_costOf_92
def f_X2_faceOf (w : CW) (a1 : Int32) : Option (Int32) := (if (rAt w 23 a1) = 2 then (Option.bind (f_X2_costOf w a1) fun q46 => (some (q46 - (rAt w 24 a1)))) else (if (rAt w 23 a1) = 4 then (some (-1)) else (if (rAt w 23 a1) = 5 then (Option.bind (f_X2_costOf w a1) fun q46 => (some (q46 - (rAt w 24 a1)))) else (if (rAt w 23 a1) = 6 then (some (100 + (rAt w 24 a1))) else (some (rAt w 24 a1))))))
abbrev rm_X2_faceOf : Room := { frames := 3, cells := 0, slots := 0, locals := 43 }
theorem cn_X2_faceOf : CN yX2_faceOf 1 := ⟨by decide +kernel, by decide +kernel, by decide +kernel⟩
set_option maxHeartbeats 4000000 in
set_option maxRecDepth 100000 in
theorem c_X2_faceOf (l : Launch) (G : GX) (w : CW) (a1 : Int32) (q : Int32) (hf : f_X2_faceOf w a1 = some q) : MI l G yX2_faceOf cX2_faceOf 2 (some .int) rm_X2_faceOf [.ref (G.2.2.1 198), .int a1] (cA G) (cH G w) (cH G w) q := by
  refine cM_start (by decide +kernel) (Nat.le_of_ble_eq_true rfl) ?_
  intro p e s m below meth c ls X hH hl
  have hS : va_S (cA G) s.heap s.heap [] := va_S.rf
  have hx := X.1.1
  have hb := X.1.2.1
  generalize hargs : ([.ref (G.2.2.1 198), .int a1] : List Value).toArray = args at X ⊢
  generalize hQ : MQ below (QI (cA G) (cH G w) q) args s 0 0 (cA G) = Q
  have hl : lv_has ls 2 [(0, .ref (G.2.2.1 198)), (1, .int a1)] := hl
  unfold f_X2_faceOf at hf
  refine lv_aload_n hx hb dX2_faceOf_0 rfl (lv_at hl 0 rfl) ?_
  refine co_get X hH 198 (by decide) eO198 rfl inBX2 0 (by decide) rfl bw477 dX2_faceOf_1 ?_
  refine lv_iload_n hx hb dX2_faceOf_4 rfl (lv_at hl 1 rfl) ?_
  refine cGi (cVrun (rest := []) X (cl_X5_at l G w 23 (by decide) a1 _ rfl) bw1112 bw628 bw629 bw91 bw630 cn_X5_at ⟨rfl, rfl, Nat.le_of_ble_eq_true rfl, Nat.le_of_ble_eq_true rfl⟩ (c_recR X hH (by decide)) cA_g hH hS hl rfl (Nat.le_of_ble_eq_true rfl) dX2_faceOf_5) hS (fun H locs hH hS => ?_)
  by_cases hc2 : (rAt w 23 a1) = 2
  · have hf := fo_t hc2 hf
    refine lv_tableIn (tgt := 44) hx hb dX2_faceOf_8 (by rw [hc2]; decide) (by rw [hc2]; decide) (by rw [hc2]; rfl) (by decide) ?_
    refine lv_aload_n hx hb dX2_faceOf_44 rfl (lv_at hl 0 rfl) ?_
    refine lv_iload_n hx hb dX2_faceOf_45 rfl (lv_at hl 1 rfl) ?_
    obtain ⟨q46, hq46, hf⟩ := bd_s hf
    refine cGi (cVrun (rest := []) X (c_X2_costOf l G w a1 q46 hq46) bw1118 bw1109 bw1110 bw102 bw1111 cn_X2_costOf ⟨rfl, rfl, Nat.le_of_ble_eq_true rfl, Nat.le_of_ble_eq_true rfl⟩ (c_rec X hH 198 (by decide) eO198 rfl) cA_g hH hS hl rfl (Nat.le_of_ble_eq_true rfl) dX2_faceOf_46) hS (fun H locs hH hS => ?_)
    refine lv_aload_n hx hb dX2_faceOf_49 rfl (lv_at hl 0 rfl) ?_
    refine co_get X hH 198 (by decide) eO198 rfl inBX2 1 (by decide) rfl bw479 dX2_faceOf_50 ?_
    refine lv_iload_n hx hb dX2_faceOf_53 rfl (lv_at hl 1 rfl) ?_
    refine cGi (cVrun (rest := [.int q46]) X (cl_X5_at l G w 24 (by decide) a1 _ rfl) bw1112 bw628 bw629 bw91 bw630 cn_X5_at ⟨rfl, rfl, Nat.le_of_ble_eq_true rfl, Nat.le_of_ble_eq_true rfl⟩ (c_recR X hH (by decide)) cA_g hH hS hl rfl (Nat.le_of_ble_eq_true rfl) dX2_faceOf_54) hS (fun H locs hH hS => ?_)
    refine lv_isub hx hb dX2_faceOf_57 ?_
    subst hQ
    exact cEi X hH hS (so_s hf) dX2_faceOf_58
  have hf := fo_f hc2 hf
  by_cases hc4 : (rAt w 23 a1) = 4
  · have hf := fo_t hc4 hf
    refine lv_tableIn (tgt := 59) hx hb dX2_faceOf_8 (by rw [hc4]; decide) (by rw [hc4]; decide) (by rw [hc4]; rfl) (by decide) ?_
    refine lv_iconst (v := (-1)) hx hb dX2_faceOf_59 (by decide) ?_
    subst hQ
    exact cEi X hH hS (so_s hf) dX2_faceOf_60
  have hf := fo_f hc4 hf
  by_cases hc5 : (rAt w 23 a1) = 5
  · have hf := fo_t hc5 hf
    refine lv_tableIn (tgt := 44) hx hb dX2_faceOf_8 (by rw [hc5]; decide) (by rw [hc5]; decide) (by rw [hc5]; rfl) (by decide) ?_
    refine lv_aload_n hx hb dX2_faceOf_44 rfl (lv_at hl 0 rfl) ?_
    refine lv_iload_n hx hb dX2_faceOf_45 rfl (lv_at hl 1 rfl) ?_
    obtain ⟨q46, hq46, hf⟩ := bd_s hf
    refine cGi (cVrun (rest := []) X (c_X2_costOf l G w a1 q46 hq46) bw1118 bw1109 bw1110 bw102 bw1111 cn_X2_costOf ⟨rfl, rfl, Nat.le_of_ble_eq_true rfl, Nat.le_of_ble_eq_true rfl⟩ (c_rec X hH 198 (by decide) eO198 rfl) cA_g hH hS hl rfl (Nat.le_of_ble_eq_true rfl) dX2_faceOf_46) hS (fun H locs hH hS => ?_)
    refine lv_aload_n hx hb dX2_faceOf_49 rfl (lv_at hl 0 rfl) ?_
    refine co_get X hH 198 (by decide) eO198 rfl inBX2 1 (by decide) rfl bw479 dX2_faceOf_50 ?_
    refine lv_iload_n hx hb dX2_faceOf_53 rfl (lv_at hl 1 rfl) ?_
    refine cGi (cVrun (rest := [.int q46]) X (cl_X5_at l G w 24 (by decide) a1 _ rfl) bw1112 bw628 bw629 bw91 bw630 cn_X5_at ⟨rfl, rfl, Nat.le_of_ble_eq_true rfl, Nat.le_of_ble_eq_true rfl⟩ (c_recR X hH (by decide)) cA_g hH hS hl rfl (Nat.le_of_ble_eq_true rfl) dX2_faceOf_54) hS (fun H locs hH hS => ?_)
    refine lv_isub hx hb dX2_faceOf_57 ?_
    subst hQ
    exact cEi X hH hS (so_s hf) dX2_faceOf_58
  have hf := fo_f hc5 hf
  by_cases hc6 : (rAt w 23 a1) = 6
  · have hf := fo_t hc6 hf
    refine lv_tableIn (tgt := 61) hx hb dX2_faceOf_8 (by rw [hc6]; decide) (by rw [hc6]; decide) (by rw [hc6]; rfl) (by decide) ?_
    refine lv_bipush (v := 100) hx hb dX2_faceOf_61 (by decide) ?_
    refine lv_aload_n hx hb dX2_faceOf_63 rfl (lv_at hl 0 rfl) ?_
    refine co_get X hH 198 (by decide) eO198 rfl inBX2 1 (by decide) rfl bw479 dX2_faceOf_64 ?_
    refine lv_iload_n hx hb dX2_faceOf_67 rfl (lv_at hl 1 rfl) ?_
    refine cGi (cVrun (rest := [.int 100]) X (cl_X5_at l G w 24 (by decide) a1 _ rfl) bw1112 bw628 bw629 bw91 bw630 cn_X5_at ⟨rfl, rfl, Nat.le_of_ble_eq_true rfl, Nat.le_of_ble_eq_true rfl⟩ (c_recR X hH (by decide)) cA_g hH hS hl rfl (Nat.le_of_ble_eq_true rfl) dX2_faceOf_68) hS (fun H locs hH hS => ?_)
    refine lv_iadd hx hb dX2_faceOf_71 ?_
    subst hQ
    exact cEi X hH hS (so_s hf) dX2_faceOf_72
  have hf := fo_f hc6 hf
  by_cases hc3 : (rAt w 23 a1) = 3
  · refine lv_tableIn (tgt := 73) hx hb dX2_faceOf_8 (by rw [hc3]; decide) (by rw [hc3]; decide) (by rw [hc3]; rfl) (by decide) ?_
    refine lv_aload_n hx hb dX2_faceOf_73 rfl (lv_at hl 0 rfl) ?_
    refine co_get X hH 198 (by decide) eO198 rfl inBX2 1 (by decide) rfl bw479 dX2_faceOf_74 ?_
    refine lv_iload_n hx hb dX2_faceOf_77 rfl (lv_at hl 1 rfl) ?_
    refine cGi (cVrun (rest := []) X (cl_X5_at l G w 24 (by decide) a1 _ rfl) bw1112 bw628 bw629 bw91 bw630 cn_X5_at ⟨rfl, rfl, Nat.le_of_ble_eq_true rfl, Nat.le_of_ble_eq_true rfl⟩ (c_recR X hH (by decide)) cA_g hH hS hl rfl (Nat.le_of_ble_eq_true rfl) dX2_faceOf_78) hS (fun H locs hH hS => ?_)
    subst hQ
    exact cEi X hH hS (so_s hf) dX2_faceOf_81
  refine lv_tableOut (tgt := 73) hx hb dX2_faceOf_8 (sw_out (ks := [2, 3, 4, 5, 6]) (by intro k hk; simp only [List.mem_cons, List.not_mem_nil, or_false] at hk; rcases hk with rfl | rfl | rfl | rfl | rfl <;> assumption) (sw_all 2 [2, 3, 4, 5, 6] (by decide))) (by decide) ?_
  refine lv_aload_n hx hb dX2_faceOf_73 rfl (lv_at hl 0 rfl) ?_
  refine co_get X hH 198 (by decide) eO198 rfl inBX2 1 (by decide) rfl bw479 dX2_faceOf_74 ?_
  refine lv_iload_n hx hb dX2_faceOf_77 rfl (lv_at hl 1 rfl) ?_
  refine cGi (cVrun (rest := []) X (cl_X5_at l G w 24 (by decide) a1 _ rfl) bw1112 bw628 bw629 bw91 bw630 cn_X5_at ⟨rfl, rfl, Nat.le_of_ble_eq_true rfl, Nat.le_of_ble_eq_true rfl⟩ (c_recR X hH (by decide)) cA_g hH hS hl rfl (Nat.le_of_ble_eq_true rfl) dX2_faceOf_78) hS (fun H locs hH hS => ?_)
  subst hQ
  exact cEi X hH hS (so_s hf) dX2_faceOf_81
def f_X2_counts (w : CW) (a1 : Int32) (a2 : Int32) : Int32 := ((if (rAt w 23 a1) = 4 then 0 else (if ((a2 >>> ((rAt w 26 a1) &&& 31)) &&& 1) = 0 then 0 else 1)))
abbrev rm_X2_counts : Room := { frames := 2, cells := 0, slots := 0, locals := 21 }
theorem cn_X2_counts : CN yX2_counts 2 := ⟨by decide +kernel, by decide +kernel, by decide +kernel⟩
set_option maxHeartbeats 4000000 in
set_option maxRecDepth 100000 in
theorem c_X2_counts (l : Launch) (G : GX) (w : CW) (a1 : Int32) (a2 : Int32) (q : Int32) (hf : f_X2_counts w a1 a2 = q) : MI l G yX2_counts cX2_counts 3 (some .boolean) rm_X2_counts [.ref (G.2.2.1 198), .int a1, .int a2] (cA G) (cH G w) (cH G w) q := by
  refine cM_start (by decide +kernel) (Nat.le_of_ble_eq_true rfl) ?_
  intro p e s m below meth c ls X hH hl
  have hS : va_S (cA G) s.heap s.heap [] := va_S.rf
  have hx := X.1.1
  have hb := X.1.2.1
  generalize hargs : ([.ref (G.2.2.1 198), .int a1, .int a2] : List Value).toArray = args at X ⊢
  generalize hQ : MQ below (QI (cA G) (cH G w) q) args s 0 0 (cA G) = Q
  have hl : lv_has ls 3 [(0, .ref (G.2.2.1 198)), (1, .int a1), (2, .int a2)] := hl
  unfold f_X2_counts at hf
  refine lv_aload_n hx hb dX2_counts_0 rfl (lv_at hl 0 rfl) ?_
  refine co_get X hH 198 (by decide) eO198 rfl inBX2 0 (by decide) rfl bw477 dX2_counts_1 ?_
  refine lv_iload_n hx hb dX2_counts_4 rfl (lv_at hl 1 rfl) ?_
  refine cGi (cVrun (rest := []) X (cl_X5_at l G w 23 (by decide) a1 _ rfl) bw1112 bw628 bw629 bw91 bw630 cn_X5_at ⟨rfl, rfl, Nat.le_of_ble_eq_true rfl, Nat.le_of_ble_eq_true rfl⟩ (c_recR X hH (by decide)) cA_g hH hS hl rfl (Nat.le_of_ble_eq_true rfl) dX2_counts_5) hS (fun H locs hH hS => ?_)
  refine lv_iconst (v := 4) hx hb dX2_counts_8 (by decide) ?_
  have hJ : ∀ (H : Heap) (locs : List Loc), cH G w H → va_S (cA G) s.heap H locs → W p l e rm_X2_counts s m args below meth c H locs 0 0 Q (F0 m 32 ls [.int (if (rAt w 23 a1) = 4 then 0 else (if ((a2 >>> ((rAt w 26 a1) &&& 31)) &&& 1) = 0 then 0 else 1))]) := by
    intro H locs hH hS
    subst hQ
    exact cEz X hH hS (hf) (nz (zb_ite zb0 (zb_ite zb0 zb1))) dX2_counts_32
  refine lv_icmp_eq (tgt := 31) hx hb dX2_counts_9 (by decide) (fun hc9 => ?_) (fun hc9 => ?_)
  · refine lv_iconst (v := 0) hx hb dX2_counts_31 (by decide) ?_
    exact W.eq (by rw [if_pos hc9] <;> rfl) (hJ _ _ hH hS)
  · refine lv_iload_n hx hb dX2_counts_12 rfl (lv_at hl 2 rfl) ?_
    refine lv_aload_n hx hb dX2_counts_13 rfl (lv_at hl 0 rfl) ?_
    refine co_get X hH 198 (by decide) eO198 rfl inBX2 3 (by decide) rfl bw482 dX2_counts_14 ?_
    refine lv_iload_n hx hb dX2_counts_17 rfl (lv_at hl 1 rfl) ?_
    refine cGi (cVrun (rest := [.int a2]) X (cl_X5_at l G w 26 (by decide) a1 _ rfl) bw1112 bw628 bw629 bw91 bw630 cn_X5_at ⟨rfl, rfl, Nat.le_of_ble_eq_true rfl, Nat.le_of_ble_eq_true rfl⟩ (c_recR X hH (by decide)) cA_g hH hS hl rfl (Nat.le_of_ble_eq_true rfl) dX2_counts_18) hS (fun H locs hH hS => ?_)
    refine lv_ishr hx hb dX2_counts_21 ?_
    refine lv_iconst (v := 1) hx hb dX2_counts_22 (by decide) ?_
    refine lv_iand hx hb dX2_counts_23 ?_
    refine lv_if_eq (tgt := 31) hx hb dX2_counts_24 (by decide) (fun hc24 => ?_) (fun hc24 => ?_)
    · refine lv_iconst (v := 0) hx hb dX2_counts_31 (by decide) ?_
      exact W.eq (by rw [if_neg hc9, if_pos hc24] <;> rfl) (hJ _ _ hH hS)
    · refine lv_iconst (v := 1) hx hb dX2_counts_27 (by decide) ?_
      refine lv_goto (tgt := 32) hx hb dX2_counts_28 (by decide) ?_
      exact W.eq (by rw [if_neg hc9, if_neg hc24] <;> rfl) (hJ _ _ hH hS)
theorem zb_X2_counts (w : CW) (a1 : Int32) (a2 : Int32) : f_X2_counts w a1 a2 = 0 ∨ f_X2_counts w a1 a2 = 1 := by
  unfold f_X2_counts
  try simp only [nmk]
  repeat' (first | exact zb0 | exact zb1 | refine zb_ite ?_ ?_)
def f_X2_rankOf_L4 (w : CW) (a1 : Int32) : Nat → Int32 → Int32 → Option (Int32)
  | 0, _, _ => none
  | n4 + 1, v4_2, v4_3 => (if a1 ≤ v4_3 then (some v4_2) else (nmk (if (rAt w 24 v4_3) = (rAt w 24 a1) then (if (rAt w 25 v4_3) = (rAt w 25 a1) then 1 else 0) else 0) fun (x52 : Int32) => (nmk (v4_2 + (if x52 = 0 then 0 else (if (rAt w 50 v4_3) ≤ 0 then 0 else 1))) fun (x77 : Int32) => (nmk (v4_3 + 1) fun (x78 : Int32) => (f_X2_rankOf_L4 w a1 n4 x77 x78)))))
def f_X2_rankOf (w : CW) (a1 : Int32) : Option (Int32) := (f_X2_rankOf_L4 w a1 FU 1 0)
abbrev rm_X2_rankOf : Room := { frames := 2, cells := 0, slots := 0, locals := 21 }
theorem cn_X2_rankOf : CN yX2_rankOf 1 := ⟨by decide +kernel, by decide +kernel, by decide +kernel⟩
set_option maxHeartbeats 4000000 in
set_option maxRecDepth 100000 in
theorem c_X2_rankOf (l : Launch) (G : GX) (w : CW) (a1 : Int32) (q : Int32) (hf : f_X2_rankOf w a1 = some q) : MI l G yX2_rankOf cX2_rankOf 5 (some .int) rm_X2_rankOf [.ref (G.2.2.1 198), .int a1] (cA G) (cH G w) (cH G w) q := by
  refine cM_start (by decide +kernel) (Nat.le_of_ble_eq_true rfl) ?_
  intro p e s m below meth c ls X hH hl
  have hS : va_S (cA G) s.heap s.heap [] := va_S.rf
  have hx := X.1.1
  have hb := X.1.2.1
  generalize hargs : ([.ref (G.2.2.1 198), .int a1] : List Value).toArray = args at X ⊢
  generalize hQ : MQ below (QI (cA G) (cH G w) q) args s 0 0 (cA G) = Q
  have hl : lv_has ls 5 [(0, .ref (G.2.2.1 198)), (1, .int a1)] := hl
  unfold f_X2_rankOf at hf
  refine lv_iconst (v := 1) hx hb dX2_rankOf_0 (by decide) ?_
  refine lv_istore_n (lv' := [(2, .int 1), (0, .ref (G.2.2.1 198)), (1, .int a1)]) hx hb dX2_rankOf_1 rfl hl (by decide) rfl (fun ls hl => ?_)
  refine lv_iconst (v := 0) hx hb dX2_rankOf_2 (by decide) ?_
  refine lv_istore_n (lv' := [(3, .int 0), (2, .int 1), (0, .ref (G.2.2.1 198)), (1, .int a1)]) hx hb dX2_rankOf_3 rfl hl (by decide) rfl (fun ls hl => ?_)
  have hL4 : ∀ (n4 : Nat) (v4_2 : Int32) (v4_3 : Int32) (H : Heap) (locs : List Loc) (ls : Array Slot), f_X2_rankOf_L4 w a1 n4 v4_2 v4_3 = some q → cH G w H → va_S (cA G) s.heap H locs → lv_has ls 5 [(3, .int v4_3), (2, .int v4_2), (0, .ref (G.2.2.1 198)), (1, .int a1)] → W p l e rm_X2_rankOf s m args below meth c H locs 0 0 Q (F0 m 4 ls []) := by
    intro n4
    induction n4 with
    | zero => intro v4_2 v4_3 H locs ls hf; rw [f_X2_rankOf_L4] at hf; cases hf
    | succ n4 ih4 =>
      intro v4_2 v4_3 H locs ls hf hH hS hl
      rw [f_X2_rankOf_L4] at hf
      refine lv_iload_n hx hb dX2_rankOf_4 rfl (lv_at hl 0 rfl) ?_
      refine lv_iload_n hx hb dX2_rankOf_5 rfl (lv_at hl 3 rfl) ?_
      refine lv_icmp_ge (tgt := 84) hx hb dX2_rankOf_6 (by decide) (fun hc => ?_) (fun hc => ?_)
      · have hf := fo_t hc hf
        refine lv_iload_n hx hb dX2_rankOf_84 rfl (lv_at hl 1 rfl) ?_
        subst hQ
        exact cEi X hH hS (so_s hf) dX2_rankOf_85
      have hf := fo_f hc hf
      refine lv_aload_n hx hb dX2_rankOf_9 rfl (lv_at hl 2 rfl) ?_
      refine co_get X hH 198 (by decide) eO198 rfl inBX2 1 (by decide) rfl bw479 dX2_rankOf_10 ?_
      refine lv_iload_n hx hb dX2_rankOf_13 rfl (lv_at hl 0 rfl) ?_
      refine cGi (cVrun (rest := []) X (cl_X5_at l G w 24 (by decide) v4_3 _ rfl) bw1112 bw628 bw629 bw91 bw630 cn_X5_at ⟨rfl, rfl, Nat.le_of_ble_eq_true rfl, Nat.le_of_ble_eq_true rfl⟩ (c_recR X hH (by decide)) cA_g hH hS hl rfl (Nat.le_of_ble_eq_true rfl) dX2_rankOf_14) hS (fun H locs hH hS => ?_)
      refine lv_aload_n hx hb dX2_rankOf_17 rfl (lv_at hl 2 rfl) ?_
      refine co_get X hH 198 (by decide) eO198 rfl inBX2 1 (by decide) rfl bw479 dX2_rankOf_18 ?_
      refine lv_iload_n hx hb dX2_rankOf_21 rfl (lv_at hl 3 rfl) ?_
      refine cGi (cVrun (rest := [.int (rAt w 24 v4_3)]) X (cl_X5_at l G w 24 (by decide) a1 _ rfl) bw1112 bw628 bw629 bw91 bw630 cn_X5_at ⟨rfl, rfl, Nat.le_of_ble_eq_true rfl, Nat.le_of_ble_eq_true rfl⟩ (c_recR X hH (by decide)) cA_g hH hS hl rfl (Nat.le_of_ble_eq_true rfl) dX2_rankOf_22) hS (fun H locs hH hS => ?_)
      have hJ : ∀ (H : Heap) (locs : List Loc), cH G w H → va_S (cA G) s.heap H locs → W p l e rm_X2_rankOf s m args below meth c H locs 0 0 Q (F0 m 52 ls [.int (if (rAt w 24 v4_3) = (rAt w 24 a1) then (if (rAt w 25 v4_3) = (rAt w 25 a1) then 1 else 0) else 0)]) := by
        intro H locs hH hS
        refine lv_topi (fun x52 ex52 => ?_)
        have hf := nm_s hf x52 ex52
        refine lv_istore (lv' := [(4, .int x52), (3, .int v4_3), (2, .int v4_2), (0, .ref (G.2.2.1 198)), (1, .int a1)]) hx hb dX2_rankOf_52 hl (by decide) rfl (fun ls hl => ?_)
        refine lv_iload_n hx hb dX2_rankOf_54 rfl (lv_at hl 2 rfl) ?_
        refine lv_iload hx hb dX2_rankOf_55 (lv_at hl 0 rfl) ?_
        have hJ : ∀ (H : Heap) (locs : List Loc), cH G w H → va_S (cA G) s.heap H locs → W p l e rm_X2_rankOf s m args below meth c H locs 0 0 Q (F0 m 76 ls [.int (if x52 = 0 then 0 else (if (rAt w 50 v4_3) ≤ 0 then 0 else 1)), .int v4_2]) := by
          intro H locs hH hS
          refine lv_iadd hx hb dX2_rankOf_76 ?_
          refine lv_topi (fun x77 ex77 => ?_)
          have hf := nm_s hf x77 ex77
          refine lv_istore_n (lv' := [(2, .int x77), (4, .int x52), (3, .int v4_3), (0, .ref (G.2.2.1 198)), (1, .int a1)]) hx hb dX2_rankOf_77 rfl hl (by decide) rfl (fun ls hl => ?_)
          obtain ⟨x78, ex78⟩ : ∃ z : Int32, z = (v4_3 + 1) := ⟨_, rfl⟩
          have hf := nm_s hf x78 ex78
          refine lv_iinc (v := x78) (lv' := [(3, .int x78), (2, .int x77), (4, .int x52), (0, .ref (G.2.2.1 198)), (1, .int a1)]) hx hb dX2_rankOf_78 hl (k := 2) rfl (by rw [ex78]; rfl) (by decide) rfl (fun ls hl => ?_)
          refine lv_goto (tgt := 4) hx hb dX2_rankOf_81 (by decide) ?_
          exact ih4 _ _ _ _ _ hf hH hS (lv_sub hl [0, 1, 3, 4] rfl)
        refine lv_if_eq (tgt := 75) hx hb dX2_rankOf_57 (by decide) (fun hc57 => ?_) (fun hc57 => ?_)
        · refine lv_iconst (v := 0) hx hb dX2_rankOf_75 (by decide) ?_
          exact W.eq (by rw [if_pos hc57] <;> rfl) (hJ _ _ hH hS)
        · refine lv_aload_n hx hb dX2_rankOf_60 rfl (lv_at hl 3 rfl) ?_
          refine co_get X hH 198 (by decide) eO198 rfl inBX2 4 (by decide) rfl bw483 dX2_rankOf_61 ?_
          refine lv_iload_n hx hb dX2_rankOf_64 rfl (lv_at hl 1 rfl) ?_
          refine cGi (cVrun (rest := [.int v4_2]) X (cl_X5_at l G w 50 (by decide) v4_3 _ rfl) bw1112 bw628 bw629 bw91 bw630 cn_X5_at ⟨rfl, rfl, Nat.le_of_ble_eq_true rfl, Nat.le_of_ble_eq_true rfl⟩ (c_recR X hH (by decide)) cA_g hH hS hl rfl (Nat.le_of_ble_eq_true rfl) dX2_rankOf_65) hS (fun H locs hH hS => ?_)
          refine lv_if_le (tgt := 75) hx hb dX2_rankOf_68 (by decide) (fun hc68 => ?_) (fun hc68 => ?_)
          · refine lv_iconst (v := 0) hx hb dX2_rankOf_75 (by decide) ?_
            exact W.eq (by rw [if_neg hc57, if_pos hc68] <;> rfl) (hJ _ _ hH hS)
          · refine lv_iconst (v := 1) hx hb dX2_rankOf_71 (by decide) ?_
            refine lv_goto (tgt := 76) hx hb dX2_rankOf_72 (by decide) ?_
            exact W.eq (by rw [if_neg hc57, if_neg hc68] <;> rfl) (hJ _ _ hH hS)
      refine lv_icmp_ne (tgt := 51) hx hb dX2_rankOf_25 (by decide) (fun hc25 => ?_) (fun hc25 => ?_)
      · refine lv_iconst (v := 0) hx hb dX2_rankOf_51 (by decide) ?_
        exact W.eq (by rw [if_neg hc25] <;> rfl) (hJ _ _ hH hS)
      · refine lv_aload_n hx hb dX2_rankOf_28 rfl (lv_at hl 2 rfl) ?_
        refine co_get X hH 198 (by decide) eO198 rfl inBX2 2 (by decide) rfl bw481 dX2_rankOf_29 ?_
        refine lv_iload_n hx hb dX2_rankOf_32 rfl (lv_at hl 0 rfl) ?_
        refine cGi (cVrun (rest := []) X (cl_X5_at l G w 25 (by decide) v4_3 _ rfl) bw1112 bw628 bw629 bw91 bw630 cn_X5_at ⟨rfl, rfl, Nat.le_of_ble_eq_true rfl, Nat.le_of_ble_eq_true rfl⟩ (c_recR X hH (by decide)) cA_g hH hS hl rfl (Nat.le_of_ble_eq_true rfl) dX2_rankOf_33) hS (fun H locs hH hS => ?_)
        refine lv_aload_n hx hb dX2_rankOf_36 rfl (lv_at hl 2 rfl) ?_
        refine co_get X hH 198 (by decide) eO198 rfl inBX2 2 (by decide) rfl bw481 dX2_rankOf_37 ?_
        refine lv_iload_n hx hb dX2_rankOf_40 rfl (lv_at hl 3 rfl) ?_
        refine cGi (cVrun (rest := [.int (rAt w 25 v4_3)]) X (cl_X5_at l G w 25 (by decide) a1 _ rfl) bw1112 bw628 bw629 bw91 bw630 cn_X5_at ⟨rfl, rfl, Nat.le_of_ble_eq_true rfl, Nat.le_of_ble_eq_true rfl⟩ (c_recR X hH (by decide)) cA_g hH hS hl rfl (Nat.le_of_ble_eq_true rfl) dX2_rankOf_41) hS (fun H locs hH hS => ?_)
        refine lv_icmp_ne (tgt := 51) hx hb dX2_rankOf_44 (by decide) (fun hc44 => ?_) (fun hc44 => ?_)
        · refine lv_iconst (v := 0) hx hb dX2_rankOf_51 (by decide) ?_
          exact W.eq (by rw [if_pos hc25, if_neg hc44] <;> rfl) (hJ _ _ hH hS)
        · refine lv_iconst (v := 1) hx hb dX2_rankOf_47 (by decide) ?_
          refine lv_goto (tgt := 52) hx hb dX2_rankOf_48 (by decide) ?_
          exact W.eq (by rw [if_pos hc25, if_pos hc44] <;> rfl) (hJ _ _ hH hS)
  exact hL4 _ _ _ _ _ _ hf hH hS (lv_sub hl [0, 1, 2, 3] rfl)
def f_X2_isFirstOfRank_L2 (w : CW) (a1 : Int32) : Nat → Int32 → Option (Int32)
  | 0, _ => none
  | n2 + 1, v2_2 => (if a1 ≤ v2_2 then (some 1) else (nmk (fun (_ : Unit) => (nmk (v2_2 + 1) fun (x47 : Int32) => (f_X2_isFirstOfRank_L2 w a1 n2 x47))) fun j47 => (if (rAt w 25 v2_2) = (rAt w 25 a1) then (if (rAt w 50 v2_2) = (rAt w 50 a1) then (some 0) else (j47 ())) else (j47 ()))))
def f_X2_isFirstOfRank (w : CW) (a1 : Int32) : Option (Int32) := (f_X2_isFirstOfRank_L2 w a1 FU 0)
abbrev rm_X2_isFirstOfRank : Room := { frames := 2, cells := 0, slots := 0, locals := 21 }
theorem cn_X2_isFirstOfRank : CN yX2_isFirstOfRank 1 := ⟨by decide +kernel, by decide +kernel, by decide +kernel⟩
set_option maxHeartbeats 4000000 in
set_option maxRecDepth 100000 in
theorem c_X2_isFirstOfRank (l : Launch) (G : GX) (w : CW) (a1 : Int32) (q : Int32) (hf : f_X2_isFirstOfRank w a1 = some q) : MZ l G yX2_isFirstOfRank cX2_isFirstOfRank 3 (some .boolean) rm_X2_isFirstOfRank [.ref (G.2.2.1 198), .int a1] (cA G) (cH G w) (cH G w) q := by
  refine cM_start (by decide +kernel) (Nat.le_of_ble_eq_true rfl) ?_
  intro p e s m below meth c ls X hH hl
  have hS : va_S (cA G) s.heap s.heap [] := va_S.rf
  have hx := X.1.1
  have hb := X.1.2.1
  generalize hargs : ([.ref (G.2.2.1 198), .int a1] : List Value).toArray = args at X ⊢
  generalize hQ : MQ below (QZ (cA G) (cH G w) q) args s 0 0 (cA G) = Q
  have hl : lv_has ls 3 [(0, .ref (G.2.2.1 198)), (1, .int a1)] := hl
  unfold f_X2_isFirstOfRank at hf
  refine lv_iconst (v := 0) hx hb dX2_isFirstOfRank_0 (by decide) ?_
  refine lv_istore_n (lv' := [(2, .int 0), (0, .ref (G.2.2.1 198)), (1, .int a1)]) hx hb dX2_isFirstOfRank_1 rfl hl (by decide) rfl (fun ls hl => ?_)
  have hL2 : ∀ (n2 : Nat) (v2_2 : Int32) (H : Heap) (locs : List Loc) (ls : Array Slot), f_X2_isFirstOfRank_L2 w a1 n2 v2_2 = some q → cH G w H → va_S (cA G) s.heap H locs → lv_has ls 3 [(2, .int v2_2), (0, .ref (G.2.2.1 198)), (1, .int a1)] → W p l e rm_X2_isFirstOfRank s m args below meth c H locs 0 0 Q (F0 m 2 ls []) := by
    intro n2
    induction n2 with
    | zero => intro v2_2 H locs ls hf; rw [f_X2_isFirstOfRank_L2] at hf; cases hf
    | succ n2 ih2 =>
      intro v2_2 H locs ls hf hH hS hl
      rw [f_X2_isFirstOfRank_L2] at hf
      refine lv_iload_n hx hb dX2_isFirstOfRank_2 rfl (lv_at hl 0 rfl) ?_
      refine lv_iload_n hx hb dX2_isFirstOfRank_3 rfl (lv_at hl 2 rfl) ?_
      refine lv_icmp_ge (tgt := 53) hx hb dX2_isFirstOfRank_4 (by decide) (fun hc => ?_) (fun hc => ?_)
      · have hf := fo_t hc hf
        refine lv_iconst (v := 1) hx hb dX2_isFirstOfRank_53 (by decide) ?_
        subst hQ
        exact cEzz X hH hS (so_s hf) zb1 dX2_isFirstOfRank_54
      have hf := fo_f hc hf
      refine lv_aload_n hx hb dX2_isFirstOfRank_7 rfl (lv_at hl 1 rfl) ?_
      refine co_get X hH 198 (by decide) eO198 rfl inBX2 2 (by decide) rfl bw481 dX2_isFirstOfRank_8 ?_
      refine lv_iload_n hx hb dX2_isFirstOfRank_11 rfl (lv_at hl 0 rfl) ?_
      refine cGi (cVrun (rest := []) X (cl_X5_at l G w 25 (by decide) v2_2 _ rfl) bw1112 bw628 bw629 bw91 bw630 cn_X5_at ⟨rfl, rfl, Nat.le_of_ble_eq_true rfl, Nat.le_of_ble_eq_true rfl⟩ (c_recR X hH (by decide)) cA_g hH hS hl rfl (Nat.le_of_ble_eq_true rfl) dX2_isFirstOfRank_12) hS (fun H locs hH hS => ?_)
      refine lv_aload_n hx hb dX2_isFirstOfRank_15 rfl (lv_at hl 1 rfl) ?_
      refine co_get X hH 198 (by decide) eO198 rfl inBX2 2 (by decide) rfl bw481 dX2_isFirstOfRank_16 ?_
      refine lv_iload_n hx hb dX2_isFirstOfRank_19 rfl (lv_at hl 2 rfl) ?_
      refine cGi (cVrun (rest := [.int (rAt w 25 v2_2)]) X (cl_X5_at l G w 25 (by decide) a1 _ rfl) bw1112 bw628 bw629 bw91 bw630 cn_X5_at ⟨rfl, rfl, Nat.le_of_ble_eq_true rfl, Nat.le_of_ble_eq_true rfl⟩ (c_recR X hH (by decide)) cA_g hH hS hl rfl (Nat.le_of_ble_eq_true rfl) dX2_isFirstOfRank_20) hS (fun H locs hH hS => ?_)
      obtain ⟨j47, ej47, hf⟩ := nm_x hf
      have hj47 : ∀ (u0 : Unit) (H : Heap) (locs : List Loc) (ls : Array Slot), j47 u0 = some q → cH G w H → va_S (cA G) s.heap H locs → lv_has ls 3 [(2, .int v2_2), (0, .ref (G.2.2.1 198)), (1, .int a1)] → W p l e rm_X2_isFirstOfRank s m args below meth c H locs 0 0 Q (F0 m 47 ls []) := by
        intro u0 H locs ls hf hH hS hl
        have hf := jb1 ej47 hf
        obtain ⟨x47, ex47⟩ : ∃ z : Int32, z = (v2_2 + 1) := ⟨_, rfl⟩
        have hf := nm_s hf x47 ex47
        refine lv_iinc (v := x47) (lv' := [(2, .int x47), (0, .ref (G.2.2.1 198)), (1, .int a1)]) hx hb dX2_isFirstOfRank_47 hl (k := 0) rfl (by rw [ex47]; rfl) (by decide) rfl (fun ls hl => ?_)
        refine lv_goto (tgt := 2) hx hb dX2_isFirstOfRank_50 (by decide) ?_
        exact ih2 _ _ _ _ hf hH hS (lv_sub hl [0, 1, 2] rfl)
      refine lv_icmp_ne (tgt := 47) hx hb dX2_isFirstOfRank_23 (by decide) (fun hc => ?_) (fun hc => ?_)
      · have hf := fo_f hc hf
        exact hj47 () _ _ _ hf hH hS (lv_sub hl [0, 1, 2] rfl)
      have hf := fo_t hc hf
      refine lv_aload_n hx hb dX2_isFirstOfRank_26 rfl (lv_at hl 1 rfl) ?_
      refine co_get X hH 198 (by decide) eO198 rfl inBX2 4 (by decide) rfl bw483 dX2_isFirstOfRank_27 ?_
      refine lv_iload_n hx hb dX2_isFirstOfRank_30 rfl (lv_at hl 0 rfl) ?_
      refine cGi (cVrun (rest := []) X (cl_X5_at l G w 50 (by decide) v2_2 _ rfl) bw1112 bw628 bw629 bw91 bw630 cn_X5_at ⟨rfl, rfl, Nat.le_of_ble_eq_true rfl, Nat.le_of_ble_eq_true rfl⟩ (c_recR X hH (by decide)) cA_g hH hS hl rfl (Nat.le_of_ble_eq_true rfl) dX2_isFirstOfRank_31) hS (fun H locs hH hS => ?_)
      refine lv_aload_n hx hb dX2_isFirstOfRank_34 rfl (lv_at hl 1 rfl) ?_
      refine co_get X hH 198 (by decide) eO198 rfl inBX2 4 (by decide) rfl bw483 dX2_isFirstOfRank_35 ?_
      refine lv_iload_n hx hb dX2_isFirstOfRank_38 rfl (lv_at hl 2 rfl) ?_
      refine cGi (cVrun (rest := [.int (rAt w 50 v2_2)]) X (cl_X5_at l G w 50 (by decide) a1 _ rfl) bw1112 bw628 bw629 bw91 bw630 cn_X5_at ⟨rfl, rfl, Nat.le_of_ble_eq_true rfl, Nat.le_of_ble_eq_true rfl⟩ (c_recR X hH (by decide)) cA_g hH hS hl rfl (Nat.le_of_ble_eq_true rfl) dX2_isFirstOfRank_39) hS (fun H locs hH hS => ?_)
      refine lv_icmp_ne (tgt := 47) hx hb dX2_isFirstOfRank_42 (by decide) (fun hc => ?_) (fun hc => ?_)
      · have hf := fo_f hc hf
        exact hj47 () _ _ _ hf hH hS (lv_sub hl [0, 1, 2] rfl)
      have hf := fo_t hc hf
      refine lv_iconst (v := 0) hx hb dX2_isFirstOfRank_45 (by decide) ?_
      subst hQ
      exact cEzz X hH hS (so_s hf) zb0 dX2_isFirstOfRank_46
  exact hL2 _ _ _ _ _ hf hH hS (lv_sub hl [0, 1, 2] rfl)
def f_X2_fewestCopies_L4 (a1 : Int32) : Nat → Int32 → Int32 → CW → Option (Int32 × CW)
  | 0, _, _, _ => none
  | n4 + 1, v4_2, v4_3, w4_ => (if (f_X5_size w4_ 23) ≤ v4_3 then (some (v4_2, w4_)) else (nmk (fun (z38_0 : Int32) => (nmk (rPut w4_ 50 v4_3 z38_0) fun q38 => (nmk (fun (z66_0 : Int32) => (nmk (v4_2 + z66_0) fun (x67 : Int32) => (nmk (v4_3 + 1) fun (x68 : Int32) => (f_X2_fewestCopies_L4 a1 n4 x67 x68 q38)))) fun j66 => (nmk (fun (_ : Unit) => (j66 0)) fun j65 => (if (rAt q38 50 v4_3) ≤ 0 then (j65 ()) else (Option.bind (f_X2_isFirstOfRank q38 v4_3) fun q55 => (if q55 = 0 then (j65 ()) else (j66 1)))))))) fun j38 => (if (f_X2_counts w4_ v4_3 a1) = 0 then (j38 0) else (Option.bind (f_X2_rankOf w4_ v4_3) fun q31 => (j38 q31)))))
def f_X2_fewestCopies (w : CW) (a1 : Int32) : Option (Int32 × CW) := (f_X2_fewestCopies_L4 a1 FU 0 0 w)
abbrev rm_X2_fewestCopies : Room := { frames := 3, cells := 0, slots := 0, locals := 45 }
theorem cn_X2_fewestCopies : CN yX2_fewestCopies 1 := ⟨by decide +kernel, by decide +kernel, by decide +kernel⟩
set_option maxHeartbeats 4000000 in
set_option maxRecDepth 100000 in
theorem c_X2_fewestCopies (l : Launch) (G : GX) (w : CW) (a1 : Int32) (q : Int32 × CW) (hf : f_X2_fewestCopies w a1 = some q) : MI l G yX2_fewestCopies cX2_fewestCopies 4 (some .int) rm_X2_fewestCopies [.ref (G.2.2.1 198), .int a1] (cA G) (cH G w) (cH G q.2) q.1 := by
  refine cM_start (by decide +kernel) (Nat.le_of_ble_eq_true rfl) ?_
  intro p e s m below meth c ls X hH hl
  have hS : va_S (cA G) s.heap s.heap [] := va_S.rf
  have hx := X.1.1
  have hb := X.1.2.1
  generalize hargs : ([.ref (G.2.2.1 198), .int a1] : List Value).toArray = args at X ⊢
  generalize hQ : MQ below (QI (cA G) (cH G q.2) q.1) args s 0 0 (cA G) = Q
  have hl : lv_has ls 4 [(0, .ref (G.2.2.1 198)), (1, .int a1)] := hl
  unfold f_X2_fewestCopies at hf
  refine lv_iconst (v := 0) hx hb dX2_fewestCopies_0 (by decide) ?_
  refine lv_istore_n (lv' := [(2, .int 0), (0, .ref (G.2.2.1 198)), (1, .int a1)]) hx hb dX2_fewestCopies_1 rfl hl (by decide) rfl (fun ls hl => ?_)
  refine lv_iconst (v := 0) hx hb dX2_fewestCopies_2 (by decide) ?_
  refine lv_istore_n (lv' := [(3, .int 0), (2, .int 0), (0, .ref (G.2.2.1 198)), (1, .int a1)]) hx hb dX2_fewestCopies_3 rfl hl (by decide) rfl (fun ls hl => ?_)
  have hL4 : ∀ (n4 : Nat) (v4_2 : Int32) (v4_3 : Int32) (w4_ : CW) (H : Heap) (locs : List Loc) (ls : Array Slot), f_X2_fewestCopies_L4 a1 n4 v4_2 v4_3 w4_ = some q → cH G w4_ H → va_S (cA G) s.heap H locs → lv_has ls 4 [(3, .int v4_3), (2, .int v4_2), (0, .ref (G.2.2.1 198)), (1, .int a1)] → W p l e rm_X2_fewestCopies s m args below meth c H locs 0 0 Q (F0 m 4 ls []) := by
    intro n4
    induction n4 with
    | zero => intro v4_2 v4_3 w4_ H locs ls hf; rw [f_X2_fewestCopies_L4] at hf; cases hf
    | succ n4 ih4 =>
      intro v4_2 v4_3 w4_ H locs ls hf hH hS hl
      rw [f_X2_fewestCopies_L4] at hf
      refine lv_iload_n hx hb dX2_fewestCopies_4 rfl (lv_at hl 0 rfl) ?_
      refine lv_aload_n hx hb dX2_fewestCopies_5 rfl (lv_at hl 2 rfl) ?_
      refine co_get X hH 198 (by decide) eO198 rfl inBX2 0 (by decide) rfl bw477 dX2_fewestCopies_6 ?_
      refine cGi (cVrun (rest := [.int v4_3]) X (c_X5_size l G w4_ 23 (by decide) _ rfl) bw1107 bw624 bw625 bw91 bw626 cn_X5_size ⟨rfl, rfl, Nat.le_of_ble_eq_true rfl, Nat.le_of_ble_eq_true rfl⟩ (c_recR X hH (by decide)) cA_g hH hS hl rfl (Nat.le_of_ble_eq_true rfl) dX2_fewestCopies_9) hS (fun H locs hH hS => ?_)
      refine lv_icmp_ge (tgt := 74) hx hb dX2_fewestCopies_12 (by decide) (fun hc => ?_) (fun hc => ?_)
      · have hf := fo_t hc hf
        refine lv_iload_n hx hb dX2_fewestCopies_74 rfl (lv_at hl 1 rfl) ?_
        subst hQ
        exact cEi X (cH2 (so_s hf) hH) hS (pf1 (so_s hf)) dX2_fewestCopies_75
      have hf := fo_f hc hf
      refine lv_aload_n hx hb dX2_fewestCopies_15 rfl (lv_at hl 2 rfl) ?_
      refine co_get X hH 198 (by decide) eO198 rfl inBX2 4 (by decide) rfl bw483 dX2_fewestCopies_16 ?_
      refine lv_iload_n hx hb dX2_fewestCopies_19 rfl (lv_at hl 0 rfl) ?_
      refine lv_aload_n hx hb dX2_fewestCopies_20 rfl (lv_at hl 2 rfl) ?_
      refine lv_iload_n hx hb dX2_fewestCopies_21 rfl (lv_at hl 0 rfl) ?_
      refine lv_iload_n hx hb dX2_fewestCopies_22 rfl (lv_at hl 3 rfl) ?_
      refine cGi (cVrun (rest := [.int v4_3, .ref (G.2.2.1 50)]) X (c_X2_counts l G w4_ v4_3 a1 _ rfl) bw1134 bw1136 bw36 bw102 bw1137 cn_X2_counts ⟨rfl, rfl, Nat.le_of_ble_eq_true rfl, Nat.le_of_ble_eq_true rfl⟩ (c_rec X hH 198 (by decide) eO198 rfl) cA_g hH hS hl rfl (Nat.le_of_ble_eq_true rfl) dX2_fewestCopies_23) hS (fun H locs hH hS => ?_)
      obtain ⟨j38, ej38, hf⟩ := nm_x hf
      have hj38 : ∀ (z38_0 : Int32) (H : Heap) (locs : List Loc) (ls : Array Slot), j38 z38_0 = some q → cH G w4_ H → va_S (cA G) s.heap H locs → lv_has ls 4 [(3, .int v4_3), (2, .int v4_2), (0, .ref (G.2.2.1 198)), (1, .int a1)] → W p l e rm_X2_fewestCopies s m args below meth c H locs 0 0 Q (F0 m 38 ls [.int z38_0, .int v4_3, .ref (G.2.2.1 50)]) := by
        intro z38_0 H locs ls hf hH hS hl
        have hf := jb1 ej38 hf
        obtain ⟨q38, hq38, hf⟩ := nm_x hf
        have hq38 := hq38.symm
        refine cGv (cVrun (rest := []) X (cl_X5_put l G w4_ 50 (by decide) v4_3 z38_0 q38 hq38) bw1142 bw352 bw353 bw91 bw354 cn_X5_put ⟨rfl, rfl, Nat.le_of_ble_eq_true rfl, Nat.le_of_ble_eq_true rfl⟩ (c_recR X hH (by decide)) cA_g hH hS hl rfl (Nat.le_of_ble_eq_true rfl) dX2_fewestCopies_38) hS (fun H locs hH hS => ?_)
        refine lv_iload_n hx hb dX2_fewestCopies_41 rfl (lv_at hl 1 rfl) ?_
        refine lv_aload_n hx hb dX2_fewestCopies_42 rfl (lv_at hl 2 rfl) ?_
        refine co_get X hH 198 (by decide) eO198 rfl inBX2 4 (by decide) rfl bw483 dX2_fewestCopies_43 ?_
        refine lv_iload_n hx hb dX2_fewestCopies_46 rfl (lv_at hl 0 rfl) ?_
        refine cGi (cVrun (rest := [.int v4_2]) X (cl_X5_at l G q38 50 (by decide) v4_3 _ rfl) bw1112 bw628 bw629 bw91 bw630 cn_X5_at ⟨rfl, rfl, Nat.le_of_ble_eq_true rfl, Nat.le_of_ble_eq_true rfl⟩ (c_recR X hH (by decide)) cA_g hH hS hl rfl (Nat.le_of_ble_eq_true rfl) dX2_fewestCopies_47) hS (fun H locs hH hS => ?_)
        obtain ⟨j66, ej66, hf⟩ := nm_x hf
        have hj66 : ∀ (z66_0 : Int32) (H : Heap) (locs : List Loc) (ls : Array Slot), j66 z66_0 = some q → cH G q38 H → va_S (cA G) s.heap H locs → lv_has ls 4 [(3, .int v4_3), (0, .ref (G.2.2.1 198)), (1, .int a1)] → W p l e rm_X2_fewestCopies s m args below meth c H locs 0 0 Q (F0 m 66 ls [.int z66_0, .int v4_2]) := by
          intro z66_0 H locs ls hf hH hS hl
          have hf := jb1 ej66 hf
          refine lv_iadd hx hb dX2_fewestCopies_66 ?_
          refine lv_topi (fun x67 ex67 => ?_)
          have hf := nm_s hf x67 ex67
          refine lv_istore_n (lv' := [(2, .int x67), (3, .int v4_3), (0, .ref (G.2.2.1 198)), (1, .int a1)]) hx hb dX2_fewestCopies_67 rfl hl (by decide) rfl (fun ls hl => ?_)
          obtain ⟨x68, ex68⟩ : ∃ z : Int32, z = (v4_3 + 1) := ⟨_, rfl⟩
          have hf := nm_s hf x68 ex68
          refine lv_iinc (v := x68) (lv' := [(3, .int x68), (2, .int x67), (0, .ref (G.2.2.1 198)), (1, .int a1)]) hx hb dX2_fewestCopies_68 hl (k := 1) rfl (by rw [ex68]; rfl) (by decide) rfl (fun ls hl => ?_)
          refine lv_goto (tgt := 4) hx hb dX2_fewestCopies_71 (by decide) ?_
          exact ih4 _ _ _ _ _ _ hf hH hS (lv_sub hl [0, 1, 2, 3] rfl)
        obtain ⟨j65, ej65, hf⟩ := nm_x hf
        have hj65 : ∀ (u0 : Unit) (H : Heap) (locs : List Loc) (ls : Array Slot), j65 u0 = some q → cH G q38 H → va_S (cA G) s.heap H locs → lv_has ls 4 [(3, .int v4_3), (0, .ref (G.2.2.1 198)), (1, .int a1)] → W p l e rm_X2_fewestCopies s m args below meth c H locs 0 0 Q (F0 m 65 ls [.int v4_2]) := by
          intro u0 H locs ls hf hH hS hl
          have hf := jb1 ej65 hf
          refine lv_iconst (v := 0) hx hb dX2_fewestCopies_65 (by decide) ?_
          exact hj66 _ _ _ _ hf hH hS (lv_sub hl [0, 1, 2] rfl)
        refine lv_if_le (tgt := 65) hx hb dX2_fewestCopies_50 (by decide) (fun hc => ?_) (fun hc => ?_)
        · have hf := fo_t hc hf
          exact hj65 () _ _ _ hf hH hS (lv_sub hl [0, 2, 3] rfl)
        have hf := fo_f hc hf
        refine lv_aload_n hx hb dX2_fewestCopies_53 rfl (lv_at hl 2 rfl) ?_
        refine lv_iload_n hx hb dX2_fewestCopies_54 rfl (lv_at hl 0 rfl) ?_
        obtain ⟨q55, hq55, hf⟩ := bd_s hf
        refine cGz (cVrun (rest := [.int v4_2]) X (c_X2_isFirstOfRank l G q38 v4_3 q55 hq55) bw1143 bw1145 bw38 bw102 bw1146 cn_X2_isFirstOfRank ⟨rfl, rfl, Nat.le_of_ble_eq_true rfl, Nat.le_of_ble_eq_true rfl⟩ (c_rec X hH 198 (by decide) eO198 rfl) cA_g hH hS hl rfl (Nat.le_of_ble_eq_true rfl) dX2_fewestCopies_55) hS (fun hz55 H locs hH hS => ?_)
        refine lv_if_eq (tgt := 65) hx hb dX2_fewestCopies_58 (by decide) (fun hc => ?_) (fun hc => ?_)
        · have hf := fo_t hc hf
          exact hj65 () _ _ _ hf hH hS (lv_sub hl [0, 2, 3] rfl)
        have hf := fo_f hc hf
        refine lv_iconst (v := 1) hx hb dX2_fewestCopies_61 (by decide) ?_
        refine lv_goto (tgt := 66) hx hb dX2_fewestCopies_62 (by decide) ?_
        exact hj66 _ _ _ _ hf hH hS (lv_sub hl [0, 2, 3] rfl)
      refine lv_if_eq (tgt := 37) hx hb dX2_fewestCopies_26 (by decide) (fun hc => ?_) (fun hc => ?_)
      · have hf := fo_t hc hf
        refine lv_iconst (v := 0) hx hb dX2_fewestCopies_37 (by decide) ?_
        exact hj38 _ _ _ _ hf hH hS (lv_sub hl [0, 1, 2, 3] rfl)
      have hf := fo_f hc hf
      refine lv_aload_n hx hb dX2_fewestCopies_29 rfl (lv_at hl 2 rfl) ?_
      refine lv_iload_n hx hb dX2_fewestCopies_30 rfl (lv_at hl 0 rfl) ?_
      obtain ⟨q31, hq31, hf⟩ := bd_s hf
      refine cGi (cVrun (rest := [.int v4_3, .ref (G.2.2.1 50)]) X (c_X2_rankOf l G w4_ v4_3 q31 hq31) bw1138 bw1140 bw37 bw102 bw1141 cn_X2_rankOf ⟨rfl, rfl, Nat.le_of_ble_eq_true rfl, Nat.le_of_ble_eq_true rfl⟩ (c_rec X hH 198 (by decide) eO198 rfl) cA_g hH hS hl rfl (Nat.le_of_ble_eq_true rfl) dX2_fewestCopies_31) hS (fun H locs hH hS => ?_)
      refine lv_goto (tgt := 38) hx hb dX2_fewestCopies_34 (by decide) ?_
      exact hj38 _ _ _ _ hf hH hS (lv_sub hl [0, 1, 2, 3] rfl)
  exact hL4 _ _ _ _ _ _ _ hf hH hS (lv_sub hl [0, 1, 2, 3] rfl)
def f_X3_has (w : CW) (a1 : Int32) : Int32 := ((if a1 < 0 then 0 else (if (f_X5_size w 30) ≤ a1 then 0 else 1)))
abbrev rm_X3_has : Room := { frames := 2, cells := 0, slots := 0, locals := 20 }
theorem cn_X3_has : CN yX3_has 1 := ⟨by decide +kernel, by decide +kernel, by decide +kernel⟩
set_option maxHeartbeats 4000000 in
set_option maxRecDepth 100000 in
theorem c_X3_has (l : Launch) (G : GX) (w : CW) (a1 : Int32) (q : Int32) (hf : f_X3_has w a1 = q) : MI l G yX3_has cX3_has 2 (some .boolean) rm_X3_has [.ref (G.2.2.1 200), .int a1] (cA G) (cH G w) (cH G w) q := by
  refine cM_start (by decide +kernel) (Nat.le_of_ble_eq_true rfl) ?_
  intro p e s m below meth c ls X hH hl
  have hS : va_S (cA G) s.heap s.heap [] := va_S.rf
  have hx := X.1.1
  have hb := X.1.2.1
  generalize hargs : ([.ref (G.2.2.1 200), .int a1] : List Value).toArray = args at X ⊢
  generalize hQ : MQ below (QI (cA G) (cH G w) q) args s 0 0 (cA G) = Q
  have hl : lv_has ls 2 [(0, .ref (G.2.2.1 200)), (1, .int a1)] := hl
  unfold f_X3_has at hf
  refine lv_iload_n hx hb dX3_has_0 rfl (lv_at hl 1 rfl) ?_
  have hJ : ∀ (H : Heap) (locs : List Loc), cH G w H → va_S (cA G) s.heap H locs → W p l e rm_X3_has s m args below meth c H locs 0 0 Q (F0 m 20 ls [.int (if a1 < 0 then 0 else (if (f_X5_size w 30) ≤ a1 then 0 else 1))]) := by
    intro H locs hH hS
    subst hQ
    exact cEz X hH hS (hf) (nz (zb_ite zb0 (zb_ite zb0 zb1))) dX3_has_20
  refine lv_if_lt (tgt := 19) hx hb dX3_has_1 (by decide) (fun hc1 => ?_) (fun hc1 => ?_)
  · refine lv_iconst (v := 0) hx hb dX3_has_19 (by decide) ?_
    exact W.eq (by rw [if_pos hc1] <;> rfl) (hJ _ _ hH hS)
  · refine lv_iload_n hx hb dX3_has_4 rfl (lv_at hl 1 rfl) ?_
    refine lv_aload_n hx hb dX3_has_5 rfl (lv_at hl 0 rfl) ?_
    refine co_get X hH 200 (by decide) eO200 rfl inBX3 0 (by decide) rfl bw546 dX3_has_6 ?_
    refine cGi (cVrun (rest := [.int a1]) X (c_X5_size l G w 30 (by decide) _ rfl) bw1280 bw624 bw625 bw91 bw626 cn_X5_size ⟨rfl, rfl, Nat.le_of_ble_eq_true rfl, Nat.le_of_ble_eq_true rfl⟩ (c_recR X hH (by decide)) cA_g hH hS hl rfl (Nat.le_of_ble_eq_true rfl) dX3_has_9) hS (fun H locs hH hS => ?_)
    refine lv_icmp_ge (tgt := 19) hx hb dX3_has_12 (by decide) (fun hc12 => ?_) (fun hc12 => ?_)
    · refine lv_iconst (v := 0) hx hb dX3_has_19 (by decide) ?_
      exact W.eq (by rw [if_neg hc1, if_pos hc12] <;> rfl) (hJ _ _ hH hS)
    · refine lv_iconst (v := 1) hx hb dX3_has_15 (by decide) ?_
      refine lv_goto (tgt := 20) hx hb dX3_has_16 (by decide) ?_
      exact W.eq (by rw [if_neg hc1, if_neg hc12] <;> rfl) (hJ _ _ hH hS)
theorem zb_X3_has (w : CW) (a1 : Int32) : f_X3_has w a1 = 0 ∨ f_X3_has w a1 = 1 := by
  unfold f_X3_has
  try simp only [nmk]
  repeat' (first | exact zb0 | exact zb1 | refine zb_ite ?_ ?_)
def f_X3_lend (w : CW) (a1 : Int32) (a2 : Int32) (a3 : Int32) : Int32 × CW := (nmk (rPush w 31 a2) fun q5 => (nmk (rPush q5 32 a3) fun q13 => (nmk (rNumber q13 30 a1) fun q21 => ((q21.1, q21.2)))))
abbrev rm_X3_lend : Room := { frames := 2, cells := 0, slots := 0, locals := 21 }
theorem cn_X3_lend : CN yX3_lend 3 := ⟨by decide +kernel, by decide +kernel, by decide +kernel⟩
set_option maxHeartbeats 4000000 in
set_option maxRecDepth 100000 in
theorem c_X3_lend (l : Launch) (G : GX) (w : CW) (a1 : Int32) (a2 : Int32) (a3 : Int32) (q : Int32 × CW) (hf : f_X3_lend w a1 a2 a3 = q) : MI l G yX3_lend cX3_lend 4 (some .int) rm_X3_lend [.ref (G.2.2.1 200), .int a1, .int a2, .int a3] (cA G) (cH G w) (cH G q.2) q.1 := by
  refine cM_start (by decide +kernel) (Nat.le_of_ble_eq_true rfl) ?_
  intro p e s m below meth c ls X hH hl
  have hS : va_S (cA G) s.heap s.heap [] := va_S.rf
  have hx := X.1.1
  have hb := X.1.2.1
  generalize hargs : ([.ref (G.2.2.1 200), .int a1, .int a2, .int a3] : List Value).toArray = args at X ⊢
  generalize hQ : MQ below (QI (cA G) (cH G q.2) q.1) args s 0 0 (cA G) = Q
  have hl : lv_has ls 4 [(0, .ref (G.2.2.1 200)), (1, .int a1), (2, .int a2), (3, .int a3)] := hl
  unfold f_X3_lend at hf
  refine lv_aload_n hx hb dX3_lend_0 rfl (lv_at hl 0 rfl) ?_
  refine co_get X hH 200 (by decide) eO200 rfl inBX3 1 (by decide) rfl bw548 dX3_lend_1 ?_
  refine lv_iload_n hx hb dX3_lend_4 rfl (lv_at hl 2 rfl) ?_
  obtain ⟨q5, hq5, hf⟩ := nm_x hf
  have hq5 := hq5.symm
  refine cGv (cVrun (rest := []) X (cl_X5_push l G w 31 (by decide) a2 q5 hq5) bw1270 bw679 bw680 bw91 bw681 cn_X5_push ⟨rfl, rfl, Nat.le_of_ble_eq_true rfl, Nat.le_of_ble_eq_true rfl⟩ (c_recR X hH (by decide)) cA_g hH hS hl rfl (Nat.le_of_ble_eq_true rfl) dX3_lend_5) hS (fun H locs hH hS => ?_)
  refine lv_aload_n hx hb dX3_lend_8 rfl (lv_at hl 0 rfl) ?_
  refine co_get X hH 200 (by decide) eO200 rfl inBX3 2 (by decide) rfl bw550 dX3_lend_9 ?_
  refine lv_iload_n hx hb dX3_lend_12 rfl (lv_at hl 3 rfl) ?_
  obtain ⟨q13, hq13, hf⟩ := nm_x hf
  have hq13 := hq13.symm
  refine cGv (cVrun (rest := []) X (cl_X5_push l G q5 32 (by decide) a3 q13 hq13) bw1270 bw679 bw680 bw91 bw681 cn_X5_push ⟨rfl, rfl, Nat.le_of_ble_eq_true rfl, Nat.le_of_ble_eq_true rfl⟩ (c_recR X hH (by decide)) cA_g hH hS hl rfl (Nat.le_of_ble_eq_true rfl) dX3_lend_13) hS (fun H locs hH hS => ?_)
  refine lv_aload_n hx hb dX3_lend_16 rfl (lv_at hl 0 rfl) ?_
  refine co_get X hH 200 (by decide) eO200 rfl inBX3 0 (by decide) rfl bw546 dX3_lend_17 ?_
  refine lv_iload_n hx hb dX3_lend_20 rfl (lv_at hl 1 rfl) ?_
  obtain ⟨q21, hq21, hf⟩ := nm_x hf
  have hq21 := hq21.symm
  refine cGi (cVrun (rest := []) X (cl_X5_number l G q13 30 (by decide) a1 q21 hq21) bw1271 bw817 bw818 bw91 bw819 cn_X5_number ⟨rfl, rfl, Nat.le_of_ble_eq_true rfl, Nat.le_of_ble_eq_true rfl⟩ (c_recR X hH (by decide)) cA_g hH hS hl rfl (Nat.le_of_ble_eq_true rfl) dX3_lend_21) hS (fun H locs hH hS => ?_)
  subst hQ
  exact cEi X (cH2 (hf) hH) hS (pf1 (hf)) dX3_lend_24
