def f_X12_blanked (w : CW) (a1 : Int32) (a2 : Int32) (a3 : Int32) : Option (Int32) := (if ((6 : Int32) < 0 ∨ 8 ≤ (6 : Int32).toNatClampNeg) then none else (if ((3 : Int32) < 0 ∨ 8 ≤ (3 : Int32).toNatClampNeg) then none else (Option.bind (f_X12_restOf w (a1 + 1) (a2 + a3) 0) fun q24 => (some (((w.1 3 (6 : Int32).toNatClampNeg) * (a3 - (w.1 3 (3 : Int32).toNatClampNeg))) + q24)))))
abbrev rm_X12_blanked : Room := { frames := 2, cells := 0, slots := 0, locals := 23 }
theorem cn_X12_blanked : CN yX12_blanked 3 := ⟨by decide +kernel, by decide +kernel, by decide +kernel⟩
set_option maxHeartbeats 4000000 in
set_option maxRecDepth 100000 in
theorem c_X12_blanked (l : Launch) (G : GX) (w : CW) (a1 : Int32) (a2 : Int32) (a3 : Int32) (q : Int32) (hf : f_X12_blanked w a1 a2 a3 = some q) : MI l G yX12_blanked cX12_blanked 4 (some .int) rm_X12_blanked [.ref (G.2.2.1 300), .int a1, .int a2, .int a3] (rA G) (rH G w) (rH G w) q := by
  refine cM_start (by decide +kernel) (Nat.le_of_ble_eq_true rfl) ?_
  intro p e s m below meth c ls X hH hl
  have hS : va_S (rA G) s.heap s.heap [] := va_S.rf
  have hx := X.1.1
  have hb := X.1.2.1
  generalize hargs : ([.ref (G.2.2.1 300), .int a1, .int a2, .int a3] : List Value).toArray = args at X ⊢
  generalize hQ : MQ below (QI (rA G) (rH G w) q) args s 0 0 (rA G) = Q
  have hl : lv_has ls 4 [(0, .ref (G.2.2.1 300)), (1, .int a1), (2, .int a2), (3, .int a3)] := hl
  unfold f_X12_blanked at hf
  refine lv_aload_n hx hb dX12_blanked_0 rfl (lv_at hl 0 rfl) ?_
  refine ro_get (C := RX12) (N := 30) X hH 0 (by decide) rO rfl inBX12 8 (by decide) rfl bw1386 dX12_blanked_1 ?_
  refine lv_bipush (v := 6) hx hb dX12_blanked_4 (by decide) ?_
  by_cases hc : ((6 : Int32) < 0 ∨ 8 ≤ (6 : Int32).toNatClampNeg)
  · cases (fo_t hc hf)
  have hf := fo_f hc hf
  refine ra_ld X hH 3 (by decide) (by decide) hc dX12_blanked_6 ?_
  refine lv_iload_n hx hb dX12_blanked_7 rfl (lv_at hl 3 rfl) ?_
  refine lv_aload_n hx hb dX12_blanked_8 rfl (lv_at hl 0 rfl) ?_
  refine ro_get (C := RX12) (N := 30) X hH 0 (by decide) rO rfl inBX12 8 (by decide) rfl bw1386 dX12_blanked_9 ?_
  refine lv_iconst (v := 3) hx hb dX12_blanked_12 (by decide) ?_
  by_cases hc : ((3 : Int32) < 0 ∨ 8 ≤ (3 : Int32).toNatClampNeg)
  · cases (fo_t hc hf)
  have hf := fo_f hc hf
  refine ra_ld X hH 3 (by decide) (by decide) hc dX12_blanked_13 ?_
  refine lv_isub hx hb dX12_blanked_14 ?_
  refine lv_imul hx hb dX12_blanked_15 ?_
  refine lv_aload_n hx hb dX12_blanked_16 rfl (lv_at hl 0 rfl) ?_
  refine lv_iload_n hx hb dX12_blanked_17 rfl (lv_at hl 1 rfl) ?_
  refine lv_iconst (v := 1) hx hb dX12_blanked_18 (by decide) ?_
  refine lv_iadd hx hb dX12_blanked_19 ?_
  refine lv_iload_n hx hb dX12_blanked_20 rfl (lv_at hl 2 rfl) ?_
  refine lv_iload_n hx hb dX12_blanked_21 rfl (lv_at hl 3 rfl) ?_
  refine lv_iadd hx hb dX12_blanked_22 ?_
  refine lv_iconst (v := 0) hx hb dX12_blanked_23 (by decide) ?_
  obtain ⟨q24, hq24, hf⟩ := bd_s hf
  refine cGi (cVrun (rest := [.int ((w.1 3 (6 : Int32).toNatClampNeg) * (a3 - (w.1 3 (3 : Int32).toNatClampNeg)))]) X (c_X12_restOf l G w (a1 + 1) (a2 + a3) 0 q24 hq24) bw1622 bw1624 bw72 bw105 bw1625 cn_X12_restOf ⟨rfl, rfl, Nat.le_of_ble_eq_true rfl, Nat.le_of_ble_eq_true rfl⟩ (r_rec X hH) rA_g hH hS hl rfl (Nat.le_of_ble_eq_true rfl) dX12_blanked_24) hS (fun H locs hH hS => ?_)
  refine lv_iadd hx hb dX12_blanked_27 ?_
  subst hQ
  exact cEi X hH hS (so_s hf) dX12_blanked_28
def f_X12_ended (w : CW) (a1 : Int32) (a2 : Int32) : Option (Int32) := (if ((2 : Int32) < 0 ∨ 8 ≤ (2 : Int32).toNatClampNeg) then none else (if a2 = (w.1 3 (2 : Int32).toNatClampNeg) then (Option.bind (f_X12_restOf w (a1 + 1) 0 0) fun q16 => (some q16)) else (some 1000000)))
abbrev rm_X12_ended : Room := { frames := 2, cells := 0, slots := 0, locals := 23 }
theorem cn_X12_ended : CN yX12_ended 2 := ⟨by decide +kernel, by decide +kernel, by decide +kernel⟩
set_option maxHeartbeats 4000000 in
set_option maxRecDepth 100000 in
theorem c_X12_ended (l : Launch) (G : GX) (w : CW) (a1 : Int32) (a2 : Int32) (q : Int32) (hf : f_X12_ended w a1 a2 = some q) : MI l G yX12_ended cX12_ended 3 (some .int) rm_X12_ended [.ref (G.2.2.1 300), .int a1, .int a2] (rA G) (rH G w) (rH G w) q := by
  refine cM_start (by decide +kernel) (Nat.le_of_ble_eq_true rfl) ?_
  intro p e s m below meth c ls X hH hl
  have hS : va_S (rA G) s.heap s.heap [] := va_S.rf
  have hx := X.1.1
  have hb := X.1.2.1
  generalize hargs : ([.ref (G.2.2.1 300), .int a1, .int a2] : List Value).toArray = args at X ⊢
  generalize hQ : MQ below (QI (rA G) (rH G w) q) args s 0 0 (rA G) = Q
  have hl : lv_has ls 3 [(0, .ref (G.2.2.1 300)), (1, .int a1), (2, .int a2)] := hl
  unfold f_X12_ended at hf
  refine lv_iload_n hx hb dX12_ended_0 rfl (lv_at hl 2 rfl) ?_
  refine lv_aload_n hx hb dX12_ended_1 rfl (lv_at hl 0 rfl) ?_
  refine ro_get (C := RX12) (N := 30) X hH 0 (by decide) rO rfl inBX12 8 (by decide) rfl bw1386 dX12_ended_2 ?_
  refine lv_iconst (v := 2) hx hb dX12_ended_5 (by decide) ?_
  by_cases hc : ((2 : Int32) < 0 ∨ 8 ≤ (2 : Int32).toNatClampNeg)
  · cases (fo_t hc hf)
  have hf := fo_f hc hf
  refine ra_ld X hH 3 (by decide) (by decide) hc dX12_ended_6 ?_
  refine lv_icmp_ne (tgt := 22) hx hb dX12_ended_7 (by decide) (fun hc => ?_) (fun hc => ?_)
  · have hf := fo_f hc hf
    refine lv_ldc (v := 1000000) hx hb X.1.2.2.2.1 (X.w bw1597) dX12_ended_22 ?_
    subst hQ
    exact cEi X hH hS (so_s hf) dX12_ended_24
  have hf := fo_t hc hf
  refine lv_aload_n hx hb dX12_ended_10 rfl (lv_at hl 0 rfl) ?_
  refine lv_iload_n hx hb dX12_ended_11 rfl (lv_at hl 1 rfl) ?_
  refine lv_iconst (v := 1) hx hb dX12_ended_12 (by decide) ?_
  refine lv_iadd hx hb dX12_ended_13 ?_
  refine lv_iconst (v := 0) hx hb dX12_ended_14 (by decide) ?_
  refine lv_iconst (v := 0) hx hb dX12_ended_15 (by decide) ?_
  obtain ⟨q16, hq16, hf⟩ := bd_s hf
  refine cGi (cVrun (rest := []) X (c_X12_restOf l G w (a1 + 1) 0 0 q16 hq16) bw1622 bw1624 bw72 bw105 bw1625 cn_X12_restOf ⟨rfl, rfl, Nat.le_of_ble_eq_true rfl, Nat.le_of_ble_eq_true rfl⟩ (r_rec X hH) rA_g hH hS hl rfl (Nat.le_of_ble_eq_true rfl) dX12_ended_16) hS (fun H locs hH hS => ?_)
  refine lv_goto (tgt := 24) hx hb dX12_ended_19 (by decide) ?_
  subst hQ
  exact cEi X hH hS (so_s hf) dX12_ended_24
def f_X12_leastOf_L94 (w : CW) (a2 : Int32) (a3 : Int32) (j137 : Int32 → Option (Int32)) : Nat → Int32 → Int32 → Option (Int32)
  | 0, _, _ => none
  | n94 + 1, v94_5, v94_6 => (if ((4 : Int32) < 0 ∨ 8 ≤ (4 : Int32).toNatClampNeg) then none else (if (w.1 3 (4 : Int32).toNatClampNeg) < v94_6 then (j137 v94_5) else (Option.bind (f_X12_blanked w a2 a3 v94_6) fun q110 => (nmk (if v94_5 ≤ q110 then v94_5 else q110) fun (x129 : Int32) => (nmk (v94_6 + 1) fun (x131 : Int32) => (f_X12_leastOf_L94 w a2 a3 j137 n94 x129 x131))))))
def f_X12_leastOf_L16 (w : CW) (a1 : Int32) (a2 : Int32) (a3 : Int32) (a4 : Int32) : Nat → Int32 → Int32 → Option (Int32)
  | 0, _, _ => none
  | n16 + 1, v16_5, v16_6 => (if v16_6 ≤ 0 then (some v16_5) else (Option.bind (f_X12_goingOn w a1 a2 v16_6 a3) fun q27 => (Option.bind (f_X12_breaking w a1 a2 v16_6 a3 a4) fun q40 => (nmk (if v16_5 ≤ q27 then v16_5 else q27) fun (x59 : Int32) => (nmk (if x59 ≤ q40 then x59 else q40) fun (x75 : Int32) => (nmk (v16_6 + (-1)) fun (x77 : Int32) => (f_X12_leastOf_L16 w a1 a2 a3 a4 n16 x75 x77)))))))
def f_X12_leastOf (w : CW) (a1 : Int32) (a2 : Int32) (a3 : Int32) (a4 : Int32) : Option (Int32) := (Option.bind (f_X12_isLetter w a1 a2) fun q7 => (if q7 = 0 then (if ((3 : Int32) < 0 ∨ 8 ≤ (3 : Int32).toNatClampNeg) then none else (nmk (w.1 3 (3 : Int32).toNatClampNeg) fun (x92 : Int32) => (nmk (fun (y137_5 : Int32) => (Option.bind (f_X12_ended w a2 a3) fun q140 => (some (if y137_5 ≤ q140 then y137_5 else q140)))) fun j137 => (f_X12_leastOf_L94 w a2 a3 j137 FU 1000000 x92)))) else (f_X12_leastOf_L16 w a1 a2 a3 a4 FU 1000000 3)))
abbrev rm_X12_leastOf : Room := { frames := 5, cells := 0, slots := 0, locals := 99 }
theorem cn_X12_leastOf : CN yX12_leastOf 4 := ⟨by decide +kernel, by decide +kernel, by decide +kernel⟩
set_option maxHeartbeats 4000000 in
set_option maxRecDepth 100000 in
theorem c_X12_leastOf (l : Launch) (G : GX) (w : CW) (a1 : Int32) (a2 : Int32) (a3 : Int32) (a4 : Int32) (q : Int32) (hf : f_X12_leastOf w a1 a2 a3 a4 = some q) : MI l G yX12_leastOf cX12_leastOf 9 (some .int) rm_X12_leastOf [.ref (G.2.2.1 300), .int a1, .int a2, .int a3, .int a4] (rA G) (rH G w) (rH G w) q := by
  refine cM_start (by decide +kernel) (Nat.le_of_ble_eq_true rfl) ?_
  intro p e s m below meth c ls X hH hl
  have hS : va_S (rA G) s.heap s.heap [] := va_S.rf
  have hx := X.1.1
  have hb := X.1.2.1
  generalize hargs : ([.ref (G.2.2.1 300), .int a1, .int a2, .int a3, .int a4] : List Value).toArray = args at X ⊢
  generalize hQ : MQ below (QI (rA G) (rH G w) q) args s 0 0 (rA G) = Q
  have hl : lv_has ls 9 [(0, .ref (G.2.2.1 300)), (1, .int a1), (2, .int a2), (3, .int a3), (4, .int a4)] := hl
  unfold f_X12_leastOf at hf
  refine lv_ldc (v := 1000000) hx hb X.1.2.2.2.1 (X.w bw1597) dX12_leastOf_0 ?_
  refine lv_istore (lv' := [(5, .int 1000000), (0, .ref (G.2.2.1 300)), (1, .int a1), (2, .int a2), (3, .int a3), (4, .int a4)]) hx hb dX12_leastOf_2 hl (by decide) rfl (fun ls hl => ?_)
  refine lv_aload_n hx hb dX12_leastOf_4 rfl (lv_at hl 1 rfl) ?_
  refine lv_iload_n hx hb dX12_leastOf_5 rfl (lv_at hl 2 rfl) ?_
  refine lv_iload_n hx hb dX12_leastOf_6 rfl (lv_at hl 3 rfl) ?_
  obtain ⟨q7, hq7, hf⟩ := bd_s hf
  refine cGz (cVrun (rest := []) X (c_X12_isLetter l G w a1 a2 q7 hq7) bw1598 bw1600 bw66 bw105 bw1601 cn_X12_isLetter ⟨rfl, rfl, Nat.le_of_ble_eq_true rfl, Nat.le_of_ble_eq_true rfl⟩ (r_rec X hH) rA_g hH hS hl rfl (Nat.le_of_ble_eq_true rfl) dX12_leastOf_7) hS (fun hz7 H locs hH hS => ?_)
  refine lv_if_eq (tgt := 86) hx hb dX12_leastOf_10 (by decide) (fun hc => ?_) (fun hc => ?_)
  rotate_left
  · have hf := fo_f hc hf
    refine lv_iconst (v := 3) hx hb dX12_leastOf_13 (by decide) ?_
    refine lv_istore (lv' := [(6, .int 3), (5, .int 1000000), (0, .ref (G.2.2.1 300)), (1, .int a1), (2, .int a2), (3, .int a3), (4, .int a4)]) hx hb dX12_leastOf_14 hl (by decide) rfl (fun ls hl => ?_)
    have hL16 : ∀ (n16 : Nat) (v16_5 : Int32) (v16_6 : Int32) (H : Heap) (locs : List Loc) (ls : Array Slot), f_X12_leastOf_L16 w a1 a2 a3 a4 n16 v16_5 v16_6 = some q → rH G w H → va_S (rA G) s.heap H locs → lv_has ls 9 [(6, .int v16_6), (5, .int v16_5), (0, .ref (G.2.2.1 300)), (1, .int a1), (2, .int a2), (3, .int a3), (4, .int a4)] → W p l e rm_X12_leastOf s m args below meth c H locs 0 0 Q (F0 m 16 ls []) := by
      intro n16
      induction n16 with
      | zero => intro v16_5 v16_6 H locs ls hf; rw [f_X12_leastOf_L16] at hf; cases hf
      | succ n16 ih16 =>
        intro v16_5 v16_6 H locs ls hf hH hS hl
        rw [f_X12_leastOf_L16] at hf
        refine lv_iload hx hb dX12_leastOf_16 (lv_at hl 0 rfl) ?_
        refine lv_if_le (tgt := 83) hx hb dX12_leastOf_18 (by decide) (fun hc => ?_) (fun hc => ?_)
        · have hf := fo_t hc hf
          refine lv_iload hx hb dX12_leastOf_83 (lv_at hl 1 rfl) ?_
          subst hQ
          exact cEi X hH hS (so_s hf) dX12_leastOf_85
        have hf := fo_f hc hf
        refine lv_aload_n hx hb dX12_leastOf_21 rfl (lv_at hl 2 rfl) ?_
        refine lv_iload_n hx hb dX12_leastOf_22 rfl (lv_at hl 3 rfl) ?_
        refine lv_iload_n hx hb dX12_leastOf_23 rfl (lv_at hl 4 rfl) ?_
        refine lv_iload hx hb dX12_leastOf_24 (lv_at hl 0 rfl) ?_
        refine lv_iload_n hx hb dX12_leastOf_26 rfl (lv_at hl 5 rfl) ?_
        obtain ⟨q27, hq27, hf⟩ := bd_s hf
        refine cGi (cVrun (rest := []) X (c_X12_goingOn l G w a1 a2 v16_6 a3 q27 hq27) bw1606 bw1608 bw68 bw105 bw1609 cn_X12_goingOn ⟨rfl, rfl, Nat.le_of_ble_eq_true rfl, Nat.le_of_ble_eq_true rfl⟩ (r_rec X hH) rA_g hH hS hl rfl (Nat.le_of_ble_eq_true rfl) dX12_leastOf_27) hS (fun H locs hH hS => ?_)
        refine lv_istore (lv' := [(7, .int q27), (6, .int v16_6), (5, .int v16_5), (0, .ref (G.2.2.1 300)), (1, .int a1), (2, .int a2), (3, .int a3), (4, .int a4)]) hx hb dX12_leastOf_30 hl (by decide) rfl (fun ls hl => ?_)
        refine lv_aload_n hx hb dX12_leastOf_32 rfl (lv_at hl 3 rfl) ?_
        refine lv_iload_n hx hb dX12_leastOf_33 rfl (lv_at hl 4 rfl) ?_
        refine lv_iload_n hx hb dX12_leastOf_34 rfl (lv_at hl 5 rfl) ?_
        refine lv_iload hx hb dX12_leastOf_35 (lv_at hl 1 rfl) ?_
        refine lv_iload_n hx hb dX12_leastOf_37 rfl (lv_at hl 6 rfl) ?_
        refine lv_iload hx hb dX12_leastOf_38 (lv_at hl 7 rfl) ?_
        obtain ⟨q40, hq40, hf⟩ := bd_s hf
        refine cGi (cVrun (rest := []) X (c_X12_breaking l G w a1 a2 v16_6 a3 a4 q40 hq40) bw1626 bw1628 bw73 bw105 bw1629 cn_X12_breaking ⟨rfl, rfl, Nat.le_of_ble_eq_true rfl, Nat.le_of_ble_eq_true rfl⟩ (r_rec X hH) rA_g hH hS hl rfl (Nat.le_of_ble_eq_true rfl) dX12_leastOf_40) hS (fun H locs hH hS => ?_)
        refine lv_istore (lv' := [(8, .int q40), (7, .int q27), (6, .int v16_6), (5, .int v16_5), (0, .ref (G.2.2.1 300)), (1, .int a1), (2, .int a2), (3, .int a3), (4, .int a4)]) hx hb dX12_leastOf_43 hl (by decide) rfl (fun ls hl => ?_)
        refine lv_iload hx hb dX12_leastOf_45 (lv_at hl 1 rfl) ?_
        refine lv_iload hx hb dX12_leastOf_47 (lv_at hl 3 rfl) ?_
        have hJ : ∀ (H : Heap) (locs : List Loc), rH G w H → va_S (rA G) s.heap H locs → W p l e rm_X12_leastOf s m args below meth c H locs 0 0 Q (F0 m 59 ls [.int (if v16_5 ≤ q27 then v16_5 else q27)]) := by
          intro H locs hH hS
          refine lv_topi (fun x59 ex59 => ?_)
          have hf := nm_s hf x59 ex59
          refine lv_istore (lv' := [(5, .int x59), (8, .int q40), (7, .int q27), (6, .int v16_6), (0, .ref (G.2.2.1 300)), (1, .int a1), (2, .int a2), (3, .int a3), (4, .int a4)]) hx hb dX12_leastOf_59 hl (by decide) rfl (fun ls hl => ?_)
          refine lv_iload hx hb dX12_leastOf_61 (lv_at hl 1 rfl) ?_
          refine lv_iload hx hb dX12_leastOf_63 (lv_at hl 0 rfl) ?_
          have hJ : ∀ (H : Heap) (locs : List Loc), rH G w H → va_S (rA G) s.heap H locs → W p l e rm_X12_leastOf s m args below meth c H locs 0 0 Q (F0 m 75 ls [.int (if x59 ≤ q40 then x59 else q40)]) := by
            intro H locs hH hS
            refine lv_topi (fun x75 ex75 => ?_)
            have hf := nm_s hf x75 ex75
            refine lv_istore (lv' := [(5, .int x75), (8, .int q40), (7, .int q27), (6, .int v16_6), (0, .ref (G.2.2.1 300)), (1, .int a1), (2, .int a2), (3, .int a3), (4, .int a4)]) hx hb dX12_leastOf_75 hl (by decide) rfl (fun ls hl => ?_)
            obtain ⟨x77, ex77⟩ : ∃ z : Int32, z = (v16_6 + (-1)) := ⟨_, rfl⟩
            have hf := nm_s hf x77 ex77
            refine lv_iinc (v := x77) (lv' := [(6, .int x77), (5, .int x75), (8, .int q40), (7, .int q27), (0, .ref (G.2.2.1 300)), (1, .int a1), (2, .int a2), (3, .int a3), (4, .int a4)]) hx hb dX12_leastOf_77 hl (k := 3) rfl (by rw [ex77]; rfl) (by decide) rfl (fun ls hl => ?_)
            refine lv_goto (tgt := 16) hx hb dX12_leastOf_80 (by decide) ?_
            exact ih16 _ _ _ _ _ hf hH hS (lv_sub hl [0, 1, 4, 5, 6, 7, 8] rfl)
          refine lv_icmp_ge (tgt := 73) hx hb dX12_leastOf_65 (by decide) (fun hc65 => ?_) (fun hc65 => ?_)
          · refine lv_iload hx hb dX12_leastOf_73 (lv_at hl 0 rfl) ?_
            exact W.eq (by rw [if_pos hc65] <;> rfl) (hJ _ _ hH hS)
          · refine lv_iload hx hb dX12_leastOf_68 (lv_at hl 1 rfl) ?_
            refine lv_goto (tgt := 75) hx hb dX12_leastOf_70 (by decide) ?_
            exact W.eq (by rw [if_neg hc65] <;> rfl) (hJ _ _ hH hS)
        refine lv_icmp_ge (tgt := 57) hx hb dX12_leastOf_49 (by decide) (fun hc49 => ?_) (fun hc49 => ?_)
        · refine lv_iload hx hb dX12_leastOf_57 (lv_at hl 3 rfl) ?_
          exact W.eq (by rw [if_pos hc49] <;> rfl) (hJ _ _ hH hS)
        · refine lv_iload hx hb dX12_leastOf_52 (lv_at hl 1 rfl) ?_
          refine lv_goto (tgt := 59) hx hb dX12_leastOf_54 (by decide) ?_
          exact W.eq (by rw [if_neg hc49] <;> rfl) (hJ _ _ hH hS)
    exact hL16 _ _ _ _ _ _ hf hH hS (lv_sub hl [0, 1, 2, 3, 4, 5, 6] rfl)
  have hf := fo_t hc hf
  refine lv_aload_n hx hb dX12_leastOf_86 rfl (lv_at hl 1 rfl) ?_
  refine ro_get (C := RX12) (N := 30) X hH 0 (by decide) rO rfl inBX12 8 (by decide) rfl bw1386 dX12_leastOf_87 ?_
  refine lv_iconst (v := 3) hx hb dX12_leastOf_90 (by decide) ?_
  by_cases hc : ((3 : Int32) < 0 ∨ 8 ≤ (3 : Int32).toNatClampNeg)
  · cases (fo_t hc hf)
  have hf := fo_f hc hf
  refine ra_ld X hH 3 (by decide) (by decide) hc dX12_leastOf_91 ?_
  refine lv_topi (fun x92 ex92 => ?_)
  have hf := nm_s hf x92 ex92
  refine lv_istore (lv' := [(6, .int x92), (5, .int 1000000), (0, .ref (G.2.2.1 300)), (1, .int a1), (2, .int a2), (3, .int a3), (4, .int a4)]) hx hb dX12_leastOf_92 hl (by decide) rfl (fun ls hl => ?_)
  obtain ⟨j137, ej137, hf⟩ := nm_x hf
  have hj137 : ∀ (y137_5 : Int32) (H : Heap) (locs : List Loc) (ls : Array Slot), j137 y137_5 = some q → rH G w H → va_S (rA G) s.heap H locs → lv_has ls 9 [(5, .int y137_5), (0, .ref (G.2.2.1 300)), (2, .int a2), (3, .int a3)] → W p l e rm_X12_leastOf s m args below meth c H locs 0 0 Q (F0 m 137 ls []) := by
    intro y137_5 H locs ls hf hH hS hl
    have hf := jb1 ej137 hf
    refine lv_aload_n hx hb dX12_leastOf_137 rfl (lv_at hl 1 rfl) ?_
    refine lv_iload_n hx hb dX12_leastOf_138 rfl (lv_at hl 2 rfl) ?_
    refine lv_iload_n hx hb dX12_leastOf_139 rfl (lv_at hl 3 rfl) ?_
    obtain ⟨q140, hq140, hf⟩ := bd_s hf
    refine cGi (cVrun (rest := []) X (c_X12_ended l G w a2 a3 q140 hq140) bw1634 bw1636 bw75 bw105 bw1637 cn_X12_ended ⟨rfl, rfl, Nat.le_of_ble_eq_true rfl, Nat.le_of_ble_eq_true rfl⟩ (r_rec X hH) rA_g hH hS hl rfl (Nat.le_of_ble_eq_true rfl) dX12_leastOf_140) hS (fun H locs hH hS => ?_)
    refine lv_istore (lv' := [(6, .int q140), (5, .int y137_5), (0, .ref (G.2.2.1 300)), (2, .int a2), (3, .int a3)]) hx hb dX12_leastOf_143 hl (by decide) rfl (fun ls hl => ?_)
    refine lv_iload hx hb dX12_leastOf_145 (lv_at hl 0 rfl) ?_
    refine lv_iload hx hb dX12_leastOf_147 (lv_at hl 1 rfl) ?_
    have hJ : ∀ (H : Heap) (locs : List Loc), rH G w H → va_S (rA G) s.heap H locs → W p l e rm_X12_leastOf s m args below meth c H locs 0 0 Q (F0 m 159 ls [.int (if y137_5 ≤ q140 then y137_5 else q140)]) := by
      intro H locs hH hS
      subst hQ
      exact cEi X hH hS (so_s hf) dX12_leastOf_159
    refine lv_icmp_ge (tgt := 157) hx hb dX12_leastOf_149 (by decide) (fun hc149 => ?_) (fun hc149 => ?_)
    · refine lv_iload hx hb dX12_leastOf_157 (lv_at hl 1 rfl) ?_
      exact W.eq (by rw [if_pos hc149] <;> rfl) (hJ _ _ hH hS)
    · refine lv_iload hx hb dX12_leastOf_152 (lv_at hl 0 rfl) ?_
      refine lv_goto (tgt := 159) hx hb dX12_leastOf_154 (by decide) ?_
      exact W.eq (by rw [if_neg hc149] <;> rfl) (hJ _ _ hH hS)
  have hL94 : ∀ (n94 : Nat) (v94_5 : Int32) (v94_6 : Int32) (H : Heap) (locs : List Loc) (ls : Array Slot), f_X12_leastOf_L94 w a2 a3 j137 n94 v94_5 v94_6 = some q → rH G w H → va_S (rA G) s.heap H locs → lv_has ls 9 [(6, .int v94_6), (5, .int v94_5), (0, .ref (G.2.2.1 300)), (2, .int a2), (3, .int a3)] → W p l e rm_X12_leastOf s m args below meth c H locs 0 0 Q (F0 m 94 ls []) := by
    intro n94
    induction n94 with
    | zero => intro v94_5 v94_6 H locs ls hf; rw [f_X12_leastOf_L94] at hf; cases hf
    | succ n94 ih94 =>
      intro v94_5 v94_6 H locs ls hf hH hS hl
      rw [f_X12_leastOf_L94] at hf
      refine lv_iload hx hb dX12_leastOf_94 (lv_at hl 0 rfl) ?_
      refine lv_aload_n hx hb dX12_leastOf_96 rfl (lv_at hl 2 rfl) ?_
      refine ro_get (C := RX12) (N := 30) X hH 0 (by decide) rO rfl inBX12 8 (by decide) rfl bw1386 dX12_leastOf_97 ?_
      refine lv_iconst (v := 4) hx hb dX12_leastOf_100 (by decide) ?_
      by_cases hc : ((4 : Int32) < 0 ∨ 8 ≤ (4 : Int32).toNatClampNeg)
      · cases (fo_t hc hf)
      have hf := fo_f hc hf
      refine ra_ld X hH 3 (by decide) (by decide) hc dX12_leastOf_101 ?_
      refine lv_icmp_gt (tgt := 137) hx hb dX12_leastOf_102 (by decide) (fun hc => ?_) (fun hc => ?_)
      · have hf := fo_t hc hf
        exact hj137 _ _ _ _ hf hH hS (lv_sub hl [1, 2, 3, 4] rfl)
      have hf := fo_f hc hf
      refine lv_aload_n hx hb dX12_leastOf_105 rfl (lv_at hl 2 rfl) ?_
      refine lv_iload_n hx hb dX12_leastOf_106 rfl (lv_at hl 3 rfl) ?_
      refine lv_iload_n hx hb dX12_leastOf_107 rfl (lv_at hl 4 rfl) ?_
      refine lv_iload hx hb dX12_leastOf_108 (lv_at hl 0 rfl) ?_
      obtain ⟨q110, hq110, hf⟩ := bd_s hf
      refine cGi (cVrun (rest := []) X (c_X12_blanked l G w a2 a3 v94_6 q110 hq110) bw1630 bw1632 bw74 bw105 bw1633 cn_X12_blanked ⟨rfl, rfl, Nat.le_of_ble_eq_true rfl, Nat.le_of_ble_eq_true rfl⟩ (r_rec X hH) rA_g hH hS hl rfl (Nat.le_of_ble_eq_true rfl) dX12_leastOf_110) hS (fun H locs hH hS => ?_)
      refine lv_istore (lv' := [(7, .int q110), (6, .int v94_6), (5, .int v94_5), (0, .ref (G.2.2.1 300)), (2, .int a2), (3, .int a3)]) hx hb dX12_leastOf_113 hl (by decide) rfl (fun ls hl => ?_)
      refine lv_iload hx hb dX12_leastOf_115 (lv_at hl 0 rfl) ?_
      refine lv_iload hx hb dX12_leastOf_117 (lv_at hl 2 rfl) ?_
      have hJ : ∀ (H : Heap) (locs : List Loc), rH G w H → va_S (rA G) s.heap H locs → W p l e rm_X12_leastOf s m args below meth c H locs 0 0 Q (F0 m 129 ls [.int (if v94_5 ≤ q110 then v94_5 else q110)]) := by
        intro H locs hH hS
        refine lv_topi (fun x129 ex129 => ?_)
        have hf := nm_s hf x129 ex129
        refine lv_istore (lv' := [(5, .int x129), (7, .int q110), (6, .int v94_6), (0, .ref (G.2.2.1 300)), (2, .int a2), (3, .int a3)]) hx hb dX12_leastOf_129 hl (by decide) rfl (fun ls hl => ?_)
        obtain ⟨x131, ex131⟩ : ∃ z : Int32, z = (v94_6 + 1) := ⟨_, rfl⟩
        have hf := nm_s hf x131 ex131
        refine lv_iinc (v := x131) (lv' := [(6, .int x131), (5, .int x129), (7, .int q110), (0, .ref (G.2.2.1 300)), (2, .int a2), (3, .int a3)]) hx hb dX12_leastOf_131 hl (k := 2) rfl (by rw [ex131]; rfl) (by decide) rfl (fun ls hl => ?_)
        refine lv_goto (tgt := 94) hx hb dX12_leastOf_134 (by decide) ?_
        exact ih94 _ _ _ _ _ hf hH hS (lv_sub hl [0, 1, 3, 4, 5] rfl)
      refine lv_icmp_ge (tgt := 127) hx hb dX12_leastOf_119 (by decide) (fun hc119 => ?_) (fun hc119 => ?_)
      · refine lv_iload hx hb dX12_leastOf_127 (lv_at hl 2 rfl) ?_
        exact W.eq (by rw [if_pos hc119] <;> rfl) (hJ _ _ hH hS)
      · refine lv_iload hx hb dX12_leastOf_122 (lv_at hl 0 rfl) ?_
        refine lv_goto (tgt := 129) hx hb dX12_leastOf_124 (by decide) ?_
        exact W.eq (by rw [if_neg hc119] <;> rfl) (hJ _ _ hH hS)
  exact hL94 _ _ _ _ _ _ hf hH hS (lv_sub hl [0, 1, 2, 4, 5] rfl)
def f_X12_sets_L465 (v203_4 : Int32) (v203_5 : Int32) (w203_ : CW) (x227 : Int32) (j497 : Int32 → Option (Int32 × CW)) : Nat → Int32 → Option (Int32 × CW)
  | 0, _ => none
  | n465 + 1, v465_8 => (if ((4 : Int32) < 0 ∨ 8 ≤ (4 : Int32).toNatClampNeg) then none else (if (w203_.1 3 (4 : Int32).toNatClampNeg) < v465_8 then (j497 v465_8) else (Option.bind (f_X12_blanked w203_ v203_4 v203_5 v465_8) fun q483 => (if q483 = x227 then (j497 v465_8) else (nmk (v465_8 + 1) fun (x491 : Int32) => (f_X12_sets_L465 v203_4 v203_5 w203_ x227 j497 n465 x491))))))
def f_X12_sets_L242 (a1 : Int32) (v203_4 : Int32) (v203_5 : Int32) (v203_6 : Int32) (w203_ : CW) (x227 : Int32) (j282 : Int32 → Option (Int32 × CW)) : Nat → Int32 → Option (Int32 × CW)
  | 0, _ => none
  | n242 + 1, v242_8 => (Option.bind (f_X12_goingOn w203_ a1 v203_4 v242_8 v203_5) fun q250 => (if q250 = x227 then (j282 v242_8) else (Option.bind (f_X12_breaking w203_ a1 v203_4 v242_8 v203_5 v203_6) fun q268 => (if q268 = x227 then (j282 v242_8) else (nmk (v242_8 + (-1)) fun (x276 : Int32) => (f_X12_sets_L242 a1 v203_4 v203_5 v203_6 w203_ x227 j282 n242 x276))))))
def f_X12_sets_L203 (a1 : Int32) (x15 : Int32) : Nat → Int32 → Int32 → Int32 → CW → Option (Int32 × CW)
  | 0, _, _, _, _ => none
  | n203 + 1, v203_4, v203_5, v203_6, w203_ => (if x15 ≤ v203_4 then (some (1, w203_)) else (if ((((82 * v203_4) + (2 * v203_5)) + v203_6) < 0 ∨ 5002 ≤ (((82 * v203_4) + (2 * v203_5)) + v203_6).toNatClampNeg) then none else (nmk (w203_.1 8 (((82 * v203_4) + (2 * v203_5)) + v203_6).toNatClampNeg) fun (x227 : Int32) => (Option.bind (f_X12_isLetter w203_ a1 v203_4) fun q233 => (nmk (fun (y545_4 : Int32) (y545_5 : Int32) (y545_6 : Int32) (w545_ : CW) => (f_X12_sets_L203 a1 x15 n203 y545_4 y545_5 y545_6 w545_)) fun j545 => (if q233 = 0 then (if ((3 : Int32) < 0 ∨ 8 ≤ (3 : Int32).toNatClampNeg) then none else (nmk (w203_.1 3 (3 : Int32).toNatClampNeg) fun (x463 : Int32) => (nmk (fun (y497_8 : Int32) => (nmk (v203_5 + y497_8) fun (x502 : Int32) => (nmk (v203_4 + 1) fun (x504 : Int32) => (if ((4 : Int32) < 0 ∨ 8 ≤ (4 : Int32).toNatClampNeg) then none else (if y497_8 ≤ (w203_.1 3 (4 : Int32).toNatClampNeg) then (j545 x504 x502 0 w203_) else (if ((w203_.2.2 18) < 0 ∨ 61 ≤ (w203_.2.2 18).toNatClampNeg) then none else (nmk (sC w203_ 10 (w203_.2.2 18).toNatClampNeg x504) fun w531 => (nmk (sS w531 18 ((w531.2.2 18) + 1)) fun w539 => (j545 x504 0 0 w539))))))))) fun j497 => (f_X12_sets_L465 v203_4 v203_5 w203_ x227 j497 FU x463)))) else (nmk (fun (y282_8 : Int32) => (Option.bind (f_X12_goingOn w203_ a1 v203_4 y282_8 v203_5) fun q290 => (nmk (if q290 = x227 then 1 else 0) fun (x303 : Int32) => (if (v203_4 < 0 ∨ 61 ≤ v203_4.toNatClampNeg) then none else (nmk (sC w203_ 9 v203_4.toNatClampNeg y282_8) fun w313 => (nmk (sS w313 19 ((w313.2.2 19) + (if y282_8 ≤ 1 then 0 else 1))) fun w331 => (Option.bind (f_X12_at w331 a1 v203_4) fun q342 => (if ((q342 - 97) < 0 ∨ 27 ≤ (q342 - 97).toNatClampNeg) then none else (if ((q342 - 97) < 0 ∨ 27 ≤ (q342 - 97).toNatClampNeg) then none else (nmk (sC w331 11 (q342 - 97).toNatClampNeg ((w331.1 11 (q342 - 97).toNatClampNeg) + (if y282_8 = 1 then 1 else 0))) fun w362 => (Option.bind (f_X12_wide w362 a1 v203_4 y282_8) fun q371 => (nmk (v203_5 + q371) fun (x375 : Int32) => (nmk (v203_4 + y282_8) fun (x382 : Int32) => (Option.bind (f_X12_isLetter w362 a1 x382) fun q388 => (nmk (if q388 = 0 then 0 else 1) fun (x399 : Int32) => (nmk (fun (y454_5 : Int32) (y454_6 : Int32) (w454_ : CW) => (j545 x382 y454_5 y454_6 w454_)) fun j454 => (if x303 = 0 then (nmk (sS w362 20 ((w362.2.2 20) + 1)) fun w413 => (if ((26 : Int32) < 0 ∨ 27 ≤ (26 : Int32).toNatClampNeg) then none else (if ((26 : Int32) < 0 ∨ 27 ≤ (26 : Int32).toNatClampNeg) then none else (nmk (sC w413 11 (26 : Int32).toNatClampNeg ((w413.1 11 (26 : Int32).toNatClampNeg) + 1)) fun w426 => (if ((w426.2.2 18) < 0 ∨ 61 ≤ (w426.2.2 18).toNatClampNeg) then none else (nmk (sC w426 10 (w426.2.2 18).toNatClampNeg x382) fun w437 => (nmk (sS w437 18 ((w437.2.2 18) + 1)) fun w445 => (j454 0 0 w445)))))))) else (j454 x375 x399 w362)))))))))))))))))) fun j282 => (f_X12_sets_L242 a1 v203_4 v203_5 v203_6 w203_ x227 j282 FU 3))))))))
def f_X12_sets_L151 (j172 : CW → Option (Int32 × CW)) : Nat → Int32 → CW → Option (Int32 × CW)
  | 0, _, _ => none
  | n151 + 1, v151_4, w151_ => (if 27 ≤ v151_4 then (j172 w151_) else (if (v151_4 < 0 ∨ 27 ≤ v151_4.toNatClampNeg) then none else (nmk (sC w151_ 11 v151_4.toNatClampNeg 0) fun w165 => (nmk (v151_4 + 1) fun (x166 : Int32) => (f_X12_sets_L151 j172 n151 x166 w165)))))
def f_X12_sets_L127 (j148 : CW → Option (Int32 × CW)) : Nat → Int32 → CW → Option (Int32 × CW)
  | 0, _, _ => none
  | n127 + 1, v127_4, w127_ => (if 61 ≤ v127_4 then (j148 w127_) else (if (v127_4 < 0 ∨ 61 ≤ v127_4.toNatClampNeg) then none else (nmk (sC w127_ 9 v127_4.toNatClampNeg 0) fun w141 => (nmk (v127_4 + 1) fun (x142 : Int32) => (f_X12_sets_L127 j148 n127 x142 w141)))))
def f_X12_sets_L40 (a1 : Int32) (x15 : Int32) (v19_4 : Int32) (v32_5 : Int32) (j91 : CW → Option (Int32 × CW)) : Nat → Int32 → CW → Option (Int32 × CW)
  | 0, _, _ => none
  | n40 + 1, v40_6, w40_ => (if 2 ≤ v40_6 then (j91 w40_) else (nmk (fun (z84_0 : Int32) => (if ((((82 * v19_4) + (2 * v32_5)) + v40_6) < 0 ∨ 5002 ≤ (((82 * v19_4) + (2 * v32_5)) + v40_6).toNatClampNeg) then none else (nmk (sC w40_ 8 (((82 * v19_4) + (2 * v32_5)) + v40_6).toNatClampNeg z84_0) fun w84 => (nmk (v40_6 + 1) fun (x85 : Int32) => (f_X12_sets_L40 a1 x15 v19_4 v32_5 j91 n40 x85 w84))))) fun j84 => (if v19_4 = x15 then (j84 0) else (Option.bind (f_X12_leastOf w40_ a1 v19_4 v32_5 v40_6) fun q81 => (j84 q81)))))
def f_X12_sets_L32 (a1 : Int32) (x15 : Int32) (v19_4 : Int32) (j97 : CW → Option (Int32 × CW)) : Nat → Int32 → CW → Option (Int32 × CW)
  | 0, _, _ => none
  | n32 + 1, v32_5, w32_ => (if v32_5 < 0 then (j97 w32_) else (nmk (fun (w91_ : CW) => (nmk (v32_5 + (-1)) fun (x91 : Int32) => (f_X12_sets_L32 a1 x15 v19_4 j97 n32 x91 w91_))) fun j91 => (f_X12_sets_L40 a1 x15 v19_4 v32_5 j91 FU 0 w32_)))
def f_X12_sets_L19 (a1 : Int32) (x15 : Int32) (j103 : CW → Option (Int32 × CW)) : Nat → Int32 → CW → Option (Int32 × CW)
  | 0, _, _ => none
  | n19 + 1, v19_4, w19_ => (if v19_4 < 0 then (j103 w19_) else (if ((2 : Int32) < 0 ∨ 8 ≤ (2 : Int32).toNatClampNeg) then none else (nmk (w19_.1 3 (2 : Int32).toNatClampNeg) fun (x30 : Int32) => (nmk (fun (w97_ : CW) => (nmk (v19_4 + (-1)) fun (x97 : Int32) => (f_X12_sets_L19 a1 x15 j103 n19 x97 w97_))) fun j97 => (f_X12_sets_L32 a1 x15 v19_4 j97 FU x30 w19_)))))
def f_X12_sets (w : CW) (a1 : Int32) (a2 : Int32) : Option (Int32 × CW) := (Option.bind (f_X12_looks w a2) fun q2 => (if ((1660 + a1) < 0 ∨ 3250 ≤ (1660 + a1).toNatClampNeg) then none else (nmk (q2.1 0 (1660 + a1).toNatClampNeg) fun (x15 : Int32) => (nmk (fun (w103_ : CW) => (if ((0 : Int32) < 0 ∨ 5002 ≤ (0 : Int32).toNatClampNeg) then none else (nmk (sS w103_ 21 (w103_.1 8 (0 : Int32).toNatClampNeg)) fun w110 => (if (w110.2.2 21) < 1000000 then (nmk (fun (w148_ : CW) => (nmk (fun (w172_ : CW) => (nmk (sS w172_ 18 1) fun w174 => (if ((0 : Int32) < 0 ∨ 61 ≤ (0 : Int32).toNatClampNeg) then none else (nmk (sC w174 10 (0 : Int32).toNatClampNeg 0) fun w183 => (nmk (sS w183 19 0) fun w186 => (nmk (sS w186 20 0) fun w191 => (f_X12_sets_L203 a1 x15 FU 0 0 0 w191))))))) fun j172 => (f_X12_sets_L151 j172 FU 0 w148_))) fun j148 => (f_X12_sets_L127 j148 FU 0 w110)) else (some (0, w110)))))) fun j103 => (f_X12_sets_L19 a1 x15 j103 FU x15 q2)))))
abbrev rm_X12_sets : Room := { frames := 6, cells := 0, slots := 0, locals := 127 }
theorem cn_X12_sets : CN yX12_sets 2 := ⟨by decide +kernel, by decide +kernel, by decide +kernel⟩
set_option maxHeartbeats 4000000 in
set_option maxRecDepth 100000 in
theorem c_X12_sets (l : Launch) (G : GX) (w : CW) (a1 : Int32) (a2 : Int32) (q : Int32 × CW) (hf : f_X12_sets w a1 a2 = some q) : MZ l G yX12_sets cX12_sets 10 (some .boolean) rm_X12_sets [.ref (G.2.2.1 300), .int a1, .int a2] (rA G) (rH G w) (rH G q.2) q.1 := by
  refine cM_start (by decide +kernel) (Nat.le_of_ble_eq_true rfl) ?_
  intro p e s m below meth c ls X hH hl
  have hS : va_S (rA G) s.heap s.heap [] := va_S.rf
  have hx := X.1.1
  have hb := X.1.2.1
  generalize hargs : ([.ref (G.2.2.1 300), .int a1, .int a2] : List Value).toArray = args at X ⊢
  generalize hQ : MQ below (QZ (rA G) (rH G q.2) q.1) args s 0 0 (rA G) = Q
  have hl : lv_has ls 10 [(0, .ref (G.2.2.1 300)), (1, .int a1), (2, .int a2)] := hl
  unfold f_X12_sets at hf
  refine lv_aload_n hx hb dX12_sets_0 rfl (lv_at hl 0 rfl) ?_
  refine lv_iload_n hx hb dX12_sets_1 rfl (lv_at hl 2 rfl) ?_
  obtain ⟨q2, hq2, hf⟩ := bd_s hf
  refine cGv (cVrun (rest := []) X (c_X12_looks l G w a2 q2 hq2) bw1562 bw1564 bw60 bw105 bw1565 cn_X12_looks ⟨rfl, rfl, Nat.le_of_ble_eq_true rfl, Nat.le_of_ble_eq_true rfl⟩ (r_rec X hH) rA_g hH hS hl rfl (Nat.le_of_ble_eq_true rfl) dX12_sets_2) hS (fun H locs hH hS => ?_)
  refine lv_aload_n hx hb dX12_sets_5 rfl (lv_at hl 0 rfl) ?_
  refine ro_get (C := RX12) (N := 30) X hH 0 (by decide) rO rfl inBX12 1 (by decide) rfl bw1379 dX12_sets_6 ?_
  refine lv_sipush (v := 1660) hx hb dX12_sets_9 (by decide) ?_
  refine lv_iload_n hx hb dX12_sets_12 rfl (lv_at hl 1 rfl) ?_
  refine lv_iadd hx hb dX12_sets_13 ?_
  by_cases hc : ((1660 + a1) < 0 ∨ 3250 ≤ (1660 + a1).toNatClampNeg)
  · cases (fo_t hc hf)
  have hf := fo_f hc hf
  refine ra_ld X hH 0 (by decide) (by decide) hc dX12_sets_14 ?_
  refine lv_topi (fun x15 ex15 => ?_)
  have hf := nm_s hf x15 ex15
  refine lv_istore_n (lv' := [(3, .int x15), (0, .ref (G.2.2.1 300)), (1, .int a1), (2, .int a2)]) hx hb dX12_sets_15 rfl hl (by decide) rfl (fun ls hl => ?_)
  refine lv_iload_n hx hb dX12_sets_16 rfl (lv_at hl 0 rfl) ?_
  refine lv_istore (lv' := [(4, .int x15), (3, .int x15), (0, .ref (G.2.2.1 300)), (1, .int a1), (2, .int a2)]) hx hb dX12_sets_17 hl (by decide) rfl (fun ls hl => ?_)
  obtain ⟨j103, ej103, hf⟩ := nm_x hf
  have hj103 : ∀ (w103_ : CW) (H : Heap) (locs : List Loc) (ls : Array Slot), j103 w103_ = some q → rH G w103_ H → va_S (rA G) s.heap H locs → lv_has ls 10 [(3, .int x15), (0, .ref (G.2.2.1 300)), (1, .int a1)] → W p l e rm_X12_sets s m args below meth c H locs 0 0 Q (F0 m 103 ls []) := by
    intro w103_ H locs ls hf hH hS hl
    have hf := jb1 ej103 hf
    refine lv_aload_n hx hb dX12_sets_103 rfl (lv_at hl 1 rfl) ?_
    refine lv_aload_n hx hb dX12_sets_104 rfl (lv_at hl 1 rfl) ?_
    refine ro_get (C := RX12) (N := 30) X hH 0 (by decide) rO rfl inBX12 14 (by decide) rfl bw1392 dX12_sets_105 ?_
    refine lv_iconst (v := 0) hx hb dX12_sets_108 (by decide) ?_
    by_cases hc : ((0 : Int32) < 0 ∨ 5002 ≤ (0 : Int32).toNatClampNeg)
    · cases (fo_t hc hf)
    have hf := fo_f hc hf
    refine ra_ld X hH 8 (by decide) (by decide) hc dX12_sets_109 ?_
    refine ro_put (C := RX12) (N := 30) X hH hS 0 (by decide) rO rfl inBX12 tyX12 tyX12_ok nmX12 21 (by decide) bw1399 rfl rfl rfl (by simp) (sS w103_ 21 (w103_.1 8 (0 : Int32).toNatClampNeg)) rfl rE_sS dX12_sets_110 (fun H locs hH hS => ?_)
    obtain ⟨w110, ew110⟩ : ∃ z : CW, z = (sS w103_ 21 (w103_.1 8 (0 : Int32).toNatClampNeg)) := ⟨_, rfl⟩
    have hf := nm_s hf w110 ew110
    have hH : rH G w110 H := ew110 ▸ hH
    refine lv_aload_n hx hb dX12_sets_113 rfl (lv_at hl 1 rfl) ?_
    refine ro_get (C := RX12) (N := 30) X hH 0 (by decide) rO rfl inBX12 21 (by decide) rfl bw1399 dX12_sets_114 ?_
    refine lv_ldc (v := 1000000) hx hb X.1.2.2.2.1 (X.w bw1597) dX12_sets_117 ?_
    refine lv_icmp_lt (tgt := 124) hx hb dX12_sets_119 (by decide) (fun hc => ?_) (fun hc => ?_)
    rotate_left
    · have hf := fo_f hc hf
      refine lv_iconst (v := 0) hx hb dX12_sets_122 (by decide) ?_
      subst hQ
      exact cEzz X (rH2 (so_s hf) hH) hS (pf1 (so_s hf)) zb0 dX12_sets_123
    have hf := fo_t hc hf
    refine lv_iconst (v := 0) hx hb dX12_sets_124 (by decide) ?_
    refine lv_istore (lv' := [(4, .int 0), (3, .int x15), (0, .ref (G.2.2.1 300)), (1, .int a1)]) hx hb dX12_sets_125 hl (by decide) rfl (fun ls hl => ?_)
    obtain ⟨j148, ej148, hf⟩ := nm_x hf
    have hj148 : ∀ (w148_ : CW) (H : Heap) (locs : List Loc) (ls : Array Slot), j148 w148_ = some q → rH G w148_ H → va_S (rA G) s.heap H locs → lv_has ls 10 [(3, .int x15), (0, .ref (G.2.2.1 300)), (1, .int a1)] → W p l e rm_X12_sets s m args below meth c H locs 0 0 Q (F0 m 148 ls []) := by
      intro w148_ H locs ls hf hH hS hl
      have hf := jb1 ej148 hf
      refine lv_iconst (v := 0) hx hb dX12_sets_148 (by decide) ?_
      refine lv_istore (lv' := [(4, .int 0), (3, .int x15), (0, .ref (G.2.2.1 300)), (1, .int a1)]) hx hb dX12_sets_149 hl (by decide) rfl (fun ls hl => ?_)
      obtain ⟨j172, ej172, hf⟩ := nm_x hf
      have hj172 : ∀ (w172_ : CW) (H : Heap) (locs : List Loc) (ls : Array Slot), j172 w172_ = some q → rH G w172_ H → va_S (rA G) s.heap H locs → lv_has ls 10 [(3, .int x15), (0, .ref (G.2.2.1 300)), (1, .int a1)] → W p l e rm_X12_sets s m args below meth c H locs 0 0 Q (F0 m 172 ls []) := by
        intro w172_ H locs ls hf hH hS hl
        have hf := jb1 ej172 hf
        refine lv_aload_n hx hb dX12_sets_172 rfl (lv_at hl 1 rfl) ?_
        refine lv_iconst (v := 1) hx hb dX12_sets_173 (by decide) ?_
        refine ro_put (C := RX12) (N := 30) X hH hS 0 (by decide) rO rfl inBX12 tyX12 tyX12_ok nmX12 18 (by decide) bw1396 rfl rfl rfl (by simp) (sS w172_ 18 1) rfl rE_sS dX12_sets_174 (fun H locs hH hS => ?_)
        obtain ⟨w174, ew174⟩ : ∃ z : CW, z = (sS w172_ 18 1) := ⟨_, rfl⟩
        have hf := nm_s hf w174 ew174
        have hH : rH G w174 H := ew174 ▸ hH
        refine lv_aload_n hx hb dX12_sets_177 rfl (lv_at hl 1 rfl) ?_
        refine ro_get (C := RX12) (N := 30) X hH 0 (by decide) rO rfl inBX12 16 (by decide) rfl bw1394 dX12_sets_178 ?_
        refine lv_iconst (v := 0) hx hb dX12_sets_181 (by decide) ?_
        refine lv_iconst (v := 0) hx hb dX12_sets_182 (by decide) ?_
        by_cases hc : ((0 : Int32) < 0 ∨ 61 ≤ (0 : Int32).toNatClampNeg)
        · cases (fo_t hc hf)
        have hf := fo_f hc hf
        refine ra_st X hH hS 10 (by decide) (by decide) hc dX12_sets_183 (fun H locs hH hS => ?_)
        obtain ⟨w183, ew183⟩ : ∃ z : CW, z = (sC w174 10 (0 : Int32).toNatClampNeg 0) := ⟨_, rfl⟩
        have hf := nm_s hf w183 ew183
        have hH : rH G w183 H := ew183 ▸ hH
        refine lv_aload_n hx hb dX12_sets_184 rfl (lv_at hl 1 rfl) ?_
        refine lv_iconst (v := 0) hx hb dX12_sets_185 (by decide) ?_
        refine ro_put (C := RX12) (N := 30) X hH hS 0 (by decide) rO rfl inBX12 tyX12 tyX12_ok nmX12 19 (by decide) bw1397 rfl rfl rfl (by simp) (sS w183 19 0) rfl rE_sS dX12_sets_186 (fun H locs hH hS => ?_)
        obtain ⟨w186, ew186⟩ : ∃ z : CW, z = (sS w183 19 0) := ⟨_, rfl⟩
        have hf := nm_s hf w186 ew186
        have hH : rH G w186 H := ew186 ▸ hH
        refine lv_aload_n hx hb dX12_sets_189 rfl (lv_at hl 1 rfl) ?_
        refine lv_iconst (v := 0) hx hb dX12_sets_190 (by decide) ?_
        refine ro_put (C := RX12) (N := 30) X hH hS 0 (by decide) rO rfl inBX12 tyX12 tyX12_ok nmX12 20 (by decide) bw1398 rfl rfl rfl (by simp) (sS w186 20 0) rfl rE_sS dX12_sets_191 (fun H locs hH hS => ?_)
        obtain ⟨w191, ew191⟩ : ∃ z : CW, z = (sS w186 20 0) := ⟨_, rfl⟩
        have hf := nm_s hf w191 ew191
        have hH : rH G w191 H := ew191 ▸ hH
        refine lv_iconst (v := 0) hx hb dX12_sets_194 (by decide) ?_
        refine lv_istore (lv' := [(4, .int 0), (3, .int x15), (0, .ref (G.2.2.1 300)), (1, .int a1)]) hx hb dX12_sets_195 hl (by decide) rfl (fun ls hl => ?_)
        refine lv_iconst (v := 0) hx hb dX12_sets_197 (by decide) ?_
        refine lv_istore (lv' := [(5, .int 0), (4, .int 0), (3, .int x15), (0, .ref (G.2.2.1 300)), (1, .int a1)]) hx hb dX12_sets_198 hl (by decide) rfl (fun ls hl => ?_)
        refine lv_iconst (v := 0) hx hb dX12_sets_200 (by decide) ?_
        refine lv_istore (lv' := [(6, .int 0), (5, .int 0), (4, .int 0), (3, .int x15), (0, .ref (G.2.2.1 300)), (1, .int a1)]) hx hb dX12_sets_201 hl (by decide) rfl (fun ls hl => ?_)
        have hL203 : ∀ (n203 : Nat) (v203_4 : Int32) (v203_5 : Int32) (v203_6 : Int32) (w203_ : CW) (H : Heap) (locs : List Loc) (ls : Array Slot), f_X12_sets_L203 a1 x15 n203 v203_4 v203_5 v203_6 w203_ = some q → rH G w203_ H → va_S (rA G) s.heap H locs → lv_has ls 10 [(6, .int v203_6), (5, .int v203_5), (4, .int v203_4), (3, .int x15), (0, .ref (G.2.2.1 300)), (1, .int a1)] → W p l e rm_X12_sets s m args below meth c H locs 0 0 Q (F0 m 203 ls []) := by
          intro n203
          induction n203 with
          | zero => intro v203_4 v203_5 v203_6 w203_ H locs ls hf; rw [f_X12_sets_L203] at hf; cases hf
          | succ n203 ih203 =>
            intro v203_4 v203_5 v203_6 w203_ H locs ls hf hH hS hl
            rw [f_X12_sets_L203] at hf
            refine lv_iload hx hb dX12_sets_203 (lv_at hl 2 rfl) ?_
            refine lv_iload_n hx hb dX12_sets_205 rfl (lv_at hl 3 rfl) ?_
            refine lv_icmp_ge (tgt := 548) hx hb dX12_sets_206 (by decide) (fun hc => ?_) (fun hc => ?_)
            · have hf := fo_t hc hf
              refine lv_iconst (v := 1) hx hb dX12_sets_548 (by decide) ?_
              subst hQ
              exact cEzz X (rH2 (so_s hf) hH) hS (pf1 (so_s hf)) zb1 dX12_sets_549
            have hf := fo_f hc hf
            refine lv_aload_n hx hb dX12_sets_209 rfl (lv_at hl 4 rfl) ?_
            refine ro_get (C := RX12) (N := 30) X hH 0 (by decide) rO rfl inBX12 14 (by decide) rfl bw1392 dX12_sets_210 ?_
            refine lv_bipush (v := 82) hx hb dX12_sets_213 (by decide) ?_
            refine lv_iload hx hb dX12_sets_215 (lv_at hl 2 rfl) ?_
            refine lv_imul hx hb dX12_sets_217 ?_
            refine lv_iconst (v := 2) hx hb dX12_sets_218 (by decide) ?_
            refine lv_iload hx hb dX12_sets_219 (lv_at hl 1 rfl) ?_
            refine lv_imul hx hb dX12_sets_221 ?_
            refine lv_iadd hx hb dX12_sets_222 ?_
            refine lv_iload hx hb dX12_sets_223 (lv_at hl 0 rfl) ?_
            refine lv_iadd hx hb dX12_sets_225 ?_
            by_cases hc : ((((82 * v203_4) + (2 * v203_5)) + v203_6) < 0 ∨ 5002 ≤ (((82 * v203_4) + (2 * v203_5)) + v203_6).toNatClampNeg)
            · cases (fo_t hc hf)
            have hf := fo_f hc hf
            refine ra_ld X hH 8 (by decide) (by decide) hc dX12_sets_226 ?_
            refine lv_topi (fun x227 ex227 => ?_)
            have hf := nm_s hf x227 ex227
            refine lv_istore (lv' := [(7, .int x227), (6, .int v203_6), (5, .int v203_5), (4, .int v203_4), (3, .int x15), (0, .ref (G.2.2.1 300)), (1, .int a1)]) hx hb dX12_sets_227 hl (by decide) rfl (fun ls hl => ?_)
            refine lv_aload_n hx hb dX12_sets_229 rfl (lv_at hl 5 rfl) ?_
            refine lv_iload_n hx hb dX12_sets_230 rfl (lv_at hl 6 rfl) ?_
            refine lv_iload hx hb dX12_sets_231 (lv_at hl 3 rfl) ?_
            obtain ⟨q233, hq233, hf⟩ := bd_s hf
            refine cGz (cVrun (rest := []) X (c_X12_isLetter l G w203_ a1 v203_4 q233 hq233) bw1598 bw1600 bw66 bw105 bw1601 cn_X12_isLetter ⟨rfl, rfl, Nat.le_of_ble_eq_true rfl, Nat.le_of_ble_eq_true rfl⟩ (r_rec X hH) rA_g hH hS hl rfl (Nat.le_of_ble_eq_true rfl) dX12_sets_233) hS (fun hz233 H locs hH hS => ?_)
            obtain ⟨j545, ej545, hf⟩ := nm_x hf
            have hj545 : ∀ (y545_4 : Int32) (y545_5 : Int32) (y545_6 : Int32) (w545_ : CW) (H : Heap) (locs : List Loc) (ls : Array Slot), j545 y545_4 y545_5 y545_6 w545_ = some q → rH G w545_ H → va_S (rA G) s.heap H locs → lv_has ls 10 [(6, .int y545_6), (5, .int y545_5), (4, .int y545_4), (3, .int x15), (0, .ref (G.2.2.1 300)), (1, .int a1)] → W p l e rm_X12_sets s m args below meth c H locs 0 0 Q (F0 m 545 ls []) := by
              intro y545_4 y545_5 y545_6 w545_ H locs ls hf hH hS hl
              have hf := jb4 ej545 hf
              refine lv_goto (tgt := 203) hx hb dX12_sets_545 (by decide) ?_
              exact ih203 _ _ _ _ _ _ _ hf hH hS (lv_sub hl [0, 1, 2, 3, 4, 5] rfl)
            refine lv_if_eq (tgt := 457) hx hb dX12_sets_236 (by decide) (fun hc => ?_) (fun hc => ?_)
            · have hf := fo_t hc hf
              refine lv_aload_n hx hb dX12_sets_457 rfl (lv_at hl 5 rfl) ?_
              refine ro_get (C := RX12) (N := 30) X hH 0 (by decide) rO rfl inBX12 8 (by decide) rfl bw1386 dX12_sets_458 ?_
              refine lv_iconst (v := 3) hx hb dX12_sets_461 (by decide) ?_
              by_cases hc : ((3 : Int32) < 0 ∨ 8 ≤ (3 : Int32).toNatClampNeg)
              · cases (fo_t hc hf)
              have hf := fo_f hc hf
              refine ra_ld X hH 3 (by decide) (by decide) hc dX12_sets_462 ?_
              refine lv_topi (fun x463 ex463 => ?_)
              have hf := nm_s hf x463 ex463
              refine lv_istore (lv' := [(8, .int x463), (7, .int x227), (6, .int v203_6), (5, .int v203_5), (4, .int v203_4), (3, .int x15), (0, .ref (G.2.2.1 300)), (1, .int a1)]) hx hb dX12_sets_463 hl (by decide) rfl (fun ls hl => ?_)
              obtain ⟨j497, ej497, hf⟩ := nm_x hf
              have hj497 : ∀ (y497_8 : Int32) (H : Heap) (locs : List Loc) (ls : Array Slot), j497 y497_8 = some q → rH G w203_ H → va_S (rA G) s.heap H locs → lv_has ls 10 [(8, .int y497_8), (5, .int v203_5), (4, .int v203_4), (3, .int x15), (0, .ref (G.2.2.1 300)), (1, .int a1)] → W p l e rm_X12_sets s m args below meth c H locs 0 0 Q (F0 m 497 ls []) := by
                intro y497_8 H locs ls hf hH hS hl
                have hf := jb1 ej497 hf
                refine lv_iload hx hb dX12_sets_497 (lv_at hl 1 rfl) ?_
                refine lv_iload hx hb dX12_sets_499 (lv_at hl 0 rfl) ?_
                refine lv_iadd hx hb dX12_sets_501 ?_
                refine lv_topi (fun x502 ex502 => ?_)
                have hf := nm_s hf x502 ex502
                refine lv_istore (lv' := [(5, .int x502), (8, .int y497_8), (4, .int v203_4), (3, .int x15), (0, .ref (G.2.2.1 300)), (1, .int a1)]) hx hb dX12_sets_502 hl (by decide) rfl (fun ls hl => ?_)
                obtain ⟨x504, ex504⟩ : ∃ z : Int32, z = (v203_4 + 1) := ⟨_, rfl⟩
                have hf := nm_s hf x504 ex504
                refine lv_iinc (v := x504) (lv' := [(4, .int x504), (5, .int x502), (8, .int y497_8), (3, .int x15), (0, .ref (G.2.2.1 300)), (1, .int a1)]) hx hb dX12_sets_504 hl (k := 2) rfl (by rw [ex504]; rfl) (by decide) rfl (fun ls hl => ?_)
                refine lv_iconst (v := 0) hx hb dX12_sets_507 (by decide) ?_
                refine lv_istore (lv' := [(6, .int 0), (4, .int x504), (5, .int x502), (8, .int y497_8), (3, .int x15), (0, .ref (G.2.2.1 300)), (1, .int a1)]) hx hb dX12_sets_508 hl (by decide) rfl (fun ls hl => ?_)
                refine lv_iload hx hb dX12_sets_510 (lv_at hl 3 rfl) ?_
                refine lv_aload_n hx hb dX12_sets_512 rfl (lv_at hl 5 rfl) ?_
                refine ro_get (C := RX12) (N := 30) X hH 0 (by decide) rO rfl inBX12 8 (by decide) rfl bw1386 dX12_sets_513 ?_
                refine lv_iconst (v := 4) hx hb dX12_sets_516 (by decide) ?_
                by_cases hc : ((4 : Int32) < 0 ∨ 8 ≤ (4 : Int32).toNatClampNeg)
                · cases (fo_t hc hf)
                have hf := fo_f hc hf
                refine ra_ld X hH 3 (by decide) (by decide) hc dX12_sets_517 ?_
                refine lv_icmp_le (tgt := 545) hx hb dX12_sets_518 (by decide) (fun hc => ?_) (fun hc => ?_)
                · have hf := fo_t hc hf
                  exact hj545 _ _ _ _ _ _ _ hf hH hS (lv_sub hl [0, 2, 1, 4, 5, 6] rfl)
                have hf := fo_f hc hf
                refine lv_aload_n hx hb dX12_sets_521 rfl (lv_at hl 5 rfl) ?_
                refine ro_get (C := RX12) (N := 30) X hH 0 (by decide) rO rfl inBX12 16 (by decide) rfl bw1394 dX12_sets_522 ?_
                refine lv_aload_n hx hb dX12_sets_525 rfl (lv_at hl 5 rfl) ?_
                refine ro_get (C := RX12) (N := 30) X hH 0 (by decide) rO rfl inBX12 18 (by decide) rfl bw1396 dX12_sets_526 ?_
                refine lv_iload hx hb dX12_sets_529 (lv_at hl 1 rfl) ?_
                by_cases hc : ((w203_.2.2 18) < 0 ∨ 61 ≤ (w203_.2.2 18).toNatClampNeg)
                · cases (fo_t hc hf)
                have hf := fo_f hc hf
                refine ra_st X hH hS 10 (by decide) (by decide) hc dX12_sets_531 (fun H locs hH hS => ?_)
                obtain ⟨w531, ew531⟩ : ∃ z : CW, z = (sC w203_ 10 (w203_.2.2 18).toNatClampNeg x504) := ⟨_, rfl⟩
                have hf := nm_s hf w531 ew531
                have hH : rH G w531 H := ew531 ▸ hH
                refine lv_aload_n hx hb dX12_sets_532 rfl (lv_at hl 5 rfl) ?_
                refine lv_dup hx hb dX12_sets_533 rfl ?_
                refine ro_get (C := RX12) (N := 30) X hH 0 (by decide) rO rfl inBX12 18 (by decide) rfl bw1396 dX12_sets_534 ?_
                refine lv_iconst (v := 1) hx hb dX12_sets_537 (by decide) ?_
                refine lv_iadd hx hb dX12_sets_538 ?_
                refine ro_put (C := RX12) (N := 30) X hH hS 0 (by decide) rO rfl inBX12 tyX12 tyX12_ok nmX12 18 (by decide) bw1396 rfl rfl rfl (by simp) (sS w531 18 ((w531.2.2 18) + 1)) rfl rE_sS dX12_sets_539 (fun H locs hH hS => ?_)
                obtain ⟨w539, ew539⟩ : ∃ z : CW, z = (sS w531 18 ((w531.2.2 18) + 1)) := ⟨_, rfl⟩
                have hf := nm_s hf w539 ew539
                have hH : rH G w539 H := ew539 ▸ hH
                refine lv_iconst (v := 0) hx hb dX12_sets_542 (by decide) ?_
                refine lv_istore (lv' := [(5, .int 0), (6, .int 0), (4, .int x504), (8, .int y497_8), (3, .int x15), (0, .ref (G.2.2.1 300)), (1, .int a1)]) hx hb dX12_sets_543 hl (by decide) rfl (fun ls hl => ?_)
                exact hj545 _ _ _ _ _ _ _ hf hH hS (lv_sub hl [1, 0, 2, 4, 5, 6] rfl)
              have hL465 : ∀ (n465 : Nat) (v465_8 : Int32) (H : Heap) (locs : List Loc) (ls : Array Slot), f_X12_sets_L465 v203_4 v203_5 w203_ x227 j497 n465 v465_8 = some q → rH G w203_ H → va_S (rA G) s.heap H locs → lv_has ls 10 [(8, .int v465_8), (7, .int x227), (5, .int v203_5), (4, .int v203_4), (3, .int x15), (0, .ref (G.2.2.1 300)), (1, .int a1)] → W p l e rm_X12_sets s m args below meth c H locs 0 0 Q (F0 m 465 ls []) := by
                intro n465
                induction n465 with
                | zero => intro v465_8 H locs ls hf; rw [f_X12_sets_L465] at hf; cases hf
                | succ n465 ih465 =>
                  intro v465_8 H locs ls hf hH hS hl
                  rw [f_X12_sets_L465] at hf
                  refine lv_iload hx hb dX12_sets_465 (lv_at hl 0 rfl) ?_
                  refine lv_aload_n hx hb dX12_sets_467 rfl (lv_at hl 5 rfl) ?_
                  refine ro_get (C := RX12) (N := 30) X hH 0 (by decide) rO rfl inBX12 8 (by decide) rfl bw1386 dX12_sets_468 ?_
                  refine lv_iconst (v := 4) hx hb dX12_sets_471 (by decide) ?_
                  by_cases hc : ((4 : Int32) < 0 ∨ 8 ≤ (4 : Int32).toNatClampNeg)
                  · cases (fo_t hc hf)
                  have hf := fo_f hc hf
                  refine ra_ld X hH 3 (by decide) (by decide) hc dX12_sets_472 ?_
                  refine lv_icmp_gt (tgt := 497) hx hb dX12_sets_473 (by decide) (fun hc => ?_) (fun hc => ?_)
                  · have hf := fo_t hc hf
                    exact hj497 _ _ _ _ hf hH hS (lv_sub hl [0, 2, 3, 4, 5, 6] rfl)
                  have hf := fo_f hc hf
                  refine lv_aload_n hx hb dX12_sets_476 rfl (lv_at hl 5 rfl) ?_
                  refine lv_iload hx hb dX12_sets_477 (lv_at hl 3 rfl) ?_
                  refine lv_iload hx hb dX12_sets_479 (lv_at hl 2 rfl) ?_
                  refine lv_iload hx hb dX12_sets_481 (lv_at hl 0 rfl) ?_
                  obtain ⟨q483, hq483, hf⟩ := bd_s hf
                  refine cGi (cVrun (rest := []) X (c_X12_blanked l G w203_ v203_4 v203_5 v465_8 q483 hq483) bw1630 bw1632 bw74 bw105 bw1633 cn_X12_blanked ⟨rfl, rfl, Nat.le_of_ble_eq_true rfl, Nat.le_of_ble_eq_true rfl⟩ (r_rec X hH) rA_g hH hS hl rfl (Nat.le_of_ble_eq_true rfl) dX12_sets_483) hS (fun H locs hH hS => ?_)
                  refine lv_iload hx hb dX12_sets_486 (lv_at hl 1 rfl) ?_
                  refine lv_icmp_eq (tgt := 497) hx hb dX12_sets_488 (by decide) (fun hc => ?_) (fun hc => ?_)
                  · have hf := fo_t hc hf
                    exact hj497 _ _ _ _ hf hH hS (lv_sub hl [0, 2, 3, 4, 5, 6] rfl)
                  have hf := fo_f hc hf
                  obtain ⟨x491, ex491⟩ : ∃ z : Int32, z = (v465_8 + 1) := ⟨_, rfl⟩
                  have hf := nm_s hf x491 ex491
                  refine lv_iinc (v := x491) (lv' := [(8, .int x491), (7, .int x227), (5, .int v203_5), (4, .int v203_4), (3, .int x15), (0, .ref (G.2.2.1 300)), (1, .int a1)]) hx hb dX12_sets_491 hl (k := 0) rfl (by rw [ex491]; rfl) (by decide) rfl (fun ls hl => ?_)
                  refine lv_goto (tgt := 465) hx hb dX12_sets_494 (by decide) ?_
                  exact ih465 _ _ _ _ hf hH hS (lv_sub hl [0, 1, 2, 3, 4, 5, 6] rfl)
              exact hL465 _ _ _ _ _ hf hH hS (lv_sub hl [0, 1, 3, 4, 5, 6, 7] rfl)
            have hf := fo_f hc hf
            refine lv_iconst (v := 3) hx hb dX12_sets_239 (by decide) ?_
            refine lv_istore (lv' := [(8, .int 3), (7, .int x227), (6, .int v203_6), (5, .int v203_5), (4, .int v203_4), (3, .int x15), (0, .ref (G.2.2.1 300)), (1, .int a1)]) hx hb dX12_sets_240 hl (by decide) rfl (fun ls hl => ?_)
            obtain ⟨j282, ej282, hf⟩ := nm_x hf
            have hj282 : ∀ (y282_8 : Int32) (H : Heap) (locs : List Loc) (ls : Array Slot), j282 y282_8 = some q → rH G w203_ H → va_S (rA G) s.heap H locs → lv_has ls 10 [(8, .int y282_8), (7, .int x227), (5, .int v203_5), (4, .int v203_4), (3, .int x15), (0, .ref (G.2.2.1 300)), (1, .int a1)] → W p l e rm_X12_sets s m args below meth c H locs 0 0 Q (F0 m 282 ls []) := by
              intro y282_8 H locs ls hf hH hS hl
              have hf := jb1 ej282 hf
              refine lv_aload_n hx hb dX12_sets_282 rfl (lv_at hl 5 rfl) ?_
              refine lv_iload_n hx hb dX12_sets_283 rfl (lv_at hl 6 rfl) ?_
              refine lv_iload hx hb dX12_sets_284 (lv_at hl 3 rfl) ?_
              refine lv_iload hx hb dX12_sets_286 (lv_at hl 0 rfl) ?_
              refine lv_iload hx hb dX12_sets_288 (lv_at hl 2 rfl) ?_
              obtain ⟨q290, hq290, hf⟩ := bd_s hf
              refine cGi (cVrun (rest := []) X (c_X12_goingOn l G w203_ a1 v203_4 y282_8 v203_5 q290 hq290) bw1606 bw1608 bw68 bw105 bw1609 cn_X12_goingOn ⟨rfl, rfl, Nat.le_of_ble_eq_true rfl, Nat.le_of_ble_eq_true rfl⟩ (r_rec X hH) rA_g hH hS hl rfl (Nat.le_of_ble_eq_true rfl) dX12_sets_290) hS (fun H locs hH hS => ?_)
              refine lv_iload hx hb dX12_sets_293 (lv_at hl 1 rfl) ?_
              have hJ : ∀ (H : Heap) (locs : List Loc), rH G w203_ H → va_S (rA G) s.heap H locs → W p l e rm_X12_sets s m args below meth c H locs 0 0 Q (F0 m 303 ls [.int (if q290 = x227 then 1 else 0)]) := by
                intro H locs hH hS
                refine lv_topi (fun x303 ex303 => ?_)
                have hf := nm_s hf x303 ex303
                refine lv_istore (lv' := [(9, .int x303), (8, .int y282_8), (7, .int x227), (5, .int v203_5), (4, .int v203_4), (3, .int x15), (0, .ref (G.2.2.1 300)), (1, .int a1)]) hx hb dX12_sets_303 hl (by decide) rfl (fun ls hl => ?_)
                refine lv_aload_n hx hb dX12_sets_305 rfl (lv_at hl 6 rfl) ?_
                refine ro_get (C := RX12) (N := 30) X hH 0 (by decide) rO rfl inBX12 15 (by decide) rfl bw1393 dX12_sets_306 ?_
                refine lv_iload hx hb dX12_sets_309 (lv_at hl 4 rfl) ?_
                refine lv_iload hx hb dX12_sets_311 (lv_at hl 1 rfl) ?_
                by_cases hc : (v203_4 < 0 ∨ 61 ≤ v203_4.toNatClampNeg)
                · cases (fo_t hc hf)
                have hf := fo_f hc hf
                refine ra_st X hH hS 9 (by decide) (by decide) hc dX12_sets_313 (fun H locs hH hS => ?_)
                obtain ⟨w313, ew313⟩ : ∃ z : CW, z = (sC w203_ 9 v203_4.toNatClampNeg y282_8) := ⟨_, rfl⟩
                have hf := nm_s hf w313 ew313
                have hH : rH G w313 H := ew313 ▸ hH
                refine lv_aload_n hx hb dX12_sets_314 rfl (lv_at hl 6 rfl) ?_
                refine lv_dup hx hb dX12_sets_315 rfl ?_
                refine ro_get (C := RX12) (N := 30) X hH 0 (by decide) rO rfl inBX12 19 (by decide) rfl bw1397 dX12_sets_316 ?_
                refine lv_iload hx hb dX12_sets_319 (lv_at hl 1 rfl) ?_
                refine lv_iconst (v := 1) hx hb dX12_sets_321 (by decide) ?_
                have hJ : ∀ (H : Heap) (locs : List Loc), rH G w313 H → va_S (rA G) s.heap H locs → W p l e rm_X12_sets s m args below meth c H locs 0 0 Q (F0 m 330 ls [.int (if y282_8 ≤ 1 then 0 else 1), .int (w313.2.2 19), .ref (G.2.2.1 300)]) := by
                  intro H locs hH hS
                  refine lv_iadd hx hb dX12_sets_330 ?_
                  refine ro_put (C := RX12) (N := 30) X hH hS 0 (by decide) rO rfl inBX12 tyX12 tyX12_ok nmX12 19 (by decide) bw1397 rfl rfl rfl (by simp) (sS w313 19 ((w313.2.2 19) + (if y282_8 ≤ 1 then 0 else 1))) rfl rE_sS dX12_sets_331 (fun H locs hH hS => ?_)
                  obtain ⟨w331, ew331⟩ : ∃ z : CW, z = (sS w313 19 ((w313.2.2 19) + (if y282_8 ≤ 1 then 0 else 1))) := ⟨_, rfl⟩
                  have hf := nm_s hf w331 ew331
                  have hH : rH G w331 H := ew331 ▸ hH
                  refine lv_aload_n hx hb dX12_sets_334 rfl (lv_at hl 6 rfl) ?_
                  refine ro_get (C := RX12) (N := 30) X hH 0 (by decide) rO rfl inBX12 17 (by decide) rfl bw1395 dX12_sets_335 ?_
                  refine lv_aload_n hx hb dX12_sets_338 rfl (lv_at hl 6 rfl) ?_
                  refine lv_iload_n hx hb dX12_sets_339 rfl (lv_at hl 7 rfl) ?_
                  refine lv_iload hx hb dX12_sets_340 (lv_at hl 4 rfl) ?_
                  obtain ⟨q342, hq342, hf⟩ := bd_s hf
                  refine cGi (cVrun (rest := [.ref (G.2.2.1 312)]) X (c_X12_at l G w331 a1 v203_4 q342 hq342) bw1602 bw1604 bw67 bw105 bw1605 cn_X12_at ⟨rfl, rfl, Nat.le_of_ble_eq_true rfl, Nat.le_of_ble_eq_true rfl⟩ (r_rec X hH) rA_g hH hS hl rfl (Nat.le_of_ble_eq_true rfl) dX12_sets_342) hS (fun H locs hH hS => ?_)
                  refine lv_bipush (v := 97) hx hb dX12_sets_345 (by decide) ?_
                  refine lv_isub hx hb dX12_sets_347 ?_
                  refine lv_dup2_11 hx hb dX12_sets_348 rfl rfl ?_
                  by_cases hc : ((q342 - 97) < 0 ∨ 27 ≤ (q342 - 97).toNatClampNeg)
                  · cases (fo_t hc hf)
                  have hf := fo_f hc hf
                  refine ra_ld X hH 11 (by decide) (by decide) hc dX12_sets_349 ?_
                  refine lv_iload hx hb dX12_sets_350 (lv_at hl 1 rfl) ?_
                  refine lv_iconst (v := 1) hx hb dX12_sets_352 (by decide) ?_
                  have hJ : ∀ (H : Heap) (locs : List Loc), rH G w331 H → va_S (rA G) s.heap H locs → W p l e rm_X12_sets s m args below meth c H locs 0 0 Q (F0 m 361 ls [.int (if y282_8 = 1 then 1 else 0), .int (w331.1 11 (q342 - 97).toNatClampNeg), .int (q342 - 97), .ref (G.2.2.1 312)]) := by
                    intro H locs hH hS
                    refine lv_iadd hx hb dX12_sets_361 ?_
                    by_cases hc : ((q342 - 97) < 0 ∨ 27 ≤ (q342 - 97).toNatClampNeg)
                    · cases (fo_t hc hf)
                    have hf := fo_f hc hf
                    refine ra_st X hH hS 11 (by decide) (by decide) hc dX12_sets_362 (fun H locs hH hS => ?_)
                    obtain ⟨w362, ew362⟩ : ∃ z : CW, z = (sC w331 11 (q342 - 97).toNatClampNeg ((w331.1 11 (q342 - 97).toNatClampNeg) + (if y282_8 = 1 then 1 else 0))) := ⟨_, rfl⟩
                    have hf := nm_s hf w362 ew362
                    have hH : rH G w362 H := ew362 ▸ hH
                    refine lv_iload hx hb dX12_sets_363 (lv_at hl 3 rfl) ?_
                    refine lv_aload_n hx hb dX12_sets_365 rfl (lv_at hl 6 rfl) ?_
                    refine lv_iload_n hx hb dX12_sets_366 rfl (lv_at hl 7 rfl) ?_
                    refine lv_iload hx hb dX12_sets_367 (lv_at hl 4 rfl) ?_
                    refine lv_iload hx hb dX12_sets_369 (lv_at hl 1 rfl) ?_
                    obtain ⟨q371, hq371, hf⟩ := bd_s hf
                    refine cGi (cVrun (rest := [.int v203_5]) X (c_X12_wide l G w362 a1 v203_4 y282_8 q371 hq371) bw1610 bw1612 bw69 bw105 bw1613 cn_X12_wide ⟨rfl, rfl, Nat.le_of_ble_eq_true rfl, Nat.le_of_ble_eq_true rfl⟩ (r_rec X hH) rA_g hH hS hl rfl (Nat.le_of_ble_eq_true rfl) dX12_sets_371) hS (fun H locs hH hS => ?_)
                    refine lv_iadd hx hb dX12_sets_374 ?_
                    refine lv_topi (fun x375 ex375 => ?_)
                    have hf := nm_s hf x375 ex375
                    refine lv_istore (lv' := [(5, .int x375), (9, .int x303), (8, .int y282_8), (7, .int x227), (4, .int v203_4), (3, .int x15), (0, .ref (G.2.2.1 300)), (1, .int a1)]) hx hb dX12_sets_375 hl (by decide) rfl (fun ls hl => ?_)
                    refine lv_iload hx hb dX12_sets_377 (lv_at hl 4 rfl) ?_
                    refine lv_iload hx hb dX12_sets_379 (lv_at hl 2 rfl) ?_
                    refine lv_iadd hx hb dX12_sets_381 ?_
                    refine lv_topi (fun x382 ex382 => ?_)
                    have hf := nm_s hf x382 ex382
                    refine lv_istore (lv' := [(4, .int x382), (5, .int x375), (9, .int x303), (8, .int y282_8), (7, .int x227), (3, .int x15), (0, .ref (G.2.2.1 300)), (1, .int a1)]) hx hb dX12_sets_382 hl (by decide) rfl (fun ls hl => ?_)
                    refine lv_aload_n hx hb dX12_sets_384 rfl (lv_at hl 6 rfl) ?_
                    refine lv_iload_n hx hb dX12_sets_385 rfl (lv_at hl 7 rfl) ?_
                    refine lv_iload hx hb dX12_sets_386 (lv_at hl 0 rfl) ?_
                    obtain ⟨q388, hq388, hf⟩ := bd_s hf
                    refine cGz (cVrun (rest := []) X (c_X12_isLetter l G w362 a1 x382 q388 hq388) bw1598 bw1600 bw66 bw105 bw1601 cn_X12_isLetter ⟨rfl, rfl, Nat.le_of_ble_eq_true rfl, Nat.le_of_ble_eq_true rfl⟩ (r_rec X hH) rA_g hH hS hl rfl (Nat.le_of_ble_eq_true rfl) dX12_sets_388) hS (fun hz388 H locs hH hS => ?_)
                    have hJ : ∀ (H : Heap) (locs : List Loc), rH G w362 H → va_S (rA G) s.heap H locs → W p l e rm_X12_sets s m args below meth c H locs 0 0 Q (F0 m 399 ls [.int (if q388 = 0 then 0 else 1)]) := by
                      intro H locs hH hS
                      refine lv_topi (fun x399 ex399 => ?_)
                      have hf := nm_s hf x399 ex399
                      refine lv_istore (lv' := [(6, .int x399), (4, .int x382), (5, .int x375), (9, .int x303), (8, .int y282_8), (7, .int x227), (3, .int x15), (0, .ref (G.2.2.1 300)), (1, .int a1)]) hx hb dX12_sets_399 hl (by decide) rfl (fun ls hl => ?_)
                      refine lv_iload hx hb dX12_sets_401 (lv_at hl 3 rfl) ?_
                      obtain ⟨j454, ej454, hf⟩ := nm_x hf
                      have hj454 : ∀ (y454_5 : Int32) (y454_6 : Int32) (w454_ : CW) (H : Heap) (locs : List Loc) (ls : Array Slot), j454 y454_5 y454_6 w454_ = some q → rH G w454_ H → va_S (rA G) s.heap H locs → lv_has ls 10 [(6, .int y454_6), (4, .int x382), (5, .int y454_5), (3, .int x15), (0, .ref (G.2.2.1 300)), (1, .int a1)] → W p l e rm_X12_sets s m args below meth c H locs 0 0 Q (F0 m 454 ls []) := by
                        intro y454_5 y454_6 w454_ H locs ls hf hH hS hl
                        have hf := jb3 ej454 hf
                        refine lv_goto (tgt := 545) hx hb dX12_sets_454 (by decide) ?_
                        exact hj545 _ _ _ _ _ _ _ hf hH hS (lv_sub hl [0, 2, 1, 3, 4, 5] rfl)
                      refine lv_if_ne (tgt := 454) hx hb dX12_sets_403 (by decide) (fun hc => ?_) (fun hc => ?_)
                      · have hf := fo_f hc hf
                        exact hj454 _ _ _ _ _ _ hf hH hS (lv_sub hl [0, 1, 2, 6, 7, 8] rfl)
                      have hf := fo_t hc hf
                      refine lv_aload_n hx hb dX12_sets_406 rfl (lv_at hl 7 rfl) ?_
                      refine lv_dup hx hb dX12_sets_407 rfl ?_
                      refine ro_get (C := RX12) (N := 30) X hH 0 (by decide) rO rfl inBX12 20 (by decide) rfl bw1398 dX12_sets_408 ?_
                      refine lv_iconst (v := 1) hx hb dX12_sets_411 (by decide) ?_
                      refine lv_iadd hx hb dX12_sets_412 ?_
                      refine ro_put (C := RX12) (N := 30) X hH hS 0 (by decide) rO rfl inBX12 tyX12 tyX12_ok nmX12 20 (by decide) bw1398 rfl rfl rfl (by simp) (sS w362 20 ((w362.2.2 20) + 1)) rfl rE_sS dX12_sets_413 (fun H locs hH hS => ?_)
                      obtain ⟨w413, ew413⟩ : ∃ z : CW, z = (sS w362 20 ((w362.2.2 20) + 1)) := ⟨_, rfl⟩
                      have hf := nm_s hf w413 ew413
                      have hH : rH G w413 H := ew413 ▸ hH
                      refine lv_aload_n hx hb dX12_sets_416 rfl (lv_at hl 7 rfl) ?_
                      refine ro_get (C := RX12) (N := 30) X hH 0 (by decide) rO rfl inBX12 17 (by decide) rfl bw1395 dX12_sets_417 ?_
                      refine lv_bipush (v := 26) hx hb dX12_sets_420 (by decide) ?_
                      refine lv_dup2_11 hx hb dX12_sets_422 rfl rfl ?_
                      by_cases hc : ((26 : Int32) < 0 ∨ 27 ≤ (26 : Int32).toNatClampNeg)
                      · cases (fo_t hc hf)
                      have hf := fo_f hc hf
                      refine ra_ld X hH 11 (by decide) (by decide) hc dX12_sets_423 ?_
                      refine lv_iconst (v := 1) hx hb dX12_sets_424 (by decide) ?_
                      refine lv_iadd hx hb dX12_sets_425 ?_
                      by_cases hc : ((26 : Int32) < 0 ∨ 27 ≤ (26 : Int32).toNatClampNeg)
                      · cases (fo_t hc hf)
                      have hf := fo_f hc hf
                      refine ra_st X hH hS 11 (by decide) (by decide) hc dX12_sets_426 (fun H locs hH hS => ?_)
                      obtain ⟨w426, ew426⟩ : ∃ z : CW, z = (sC w413 11 (26 : Int32).toNatClampNeg ((w413.1 11 (26 : Int32).toNatClampNeg) + 1)) := ⟨_, rfl⟩
                      have hf := nm_s hf w426 ew426
                      have hH : rH G w426 H := ew426 ▸ hH
                      refine lv_aload_n hx hb dX12_sets_427 rfl (lv_at hl 7 rfl) ?_
                      refine ro_get (C := RX12) (N := 30) X hH 0 (by decide) rO rfl inBX12 16 (by decide) rfl bw1394 dX12_sets_428 ?_
                      refine lv_aload_n hx hb dX12_sets_431 rfl (lv_at hl 7 rfl) ?_
                      refine ro_get (C := RX12) (N := 30) X hH 0 (by decide) rO rfl inBX12 18 (by decide) rfl bw1396 dX12_sets_432 ?_
                      refine lv_iload hx hb dX12_sets_435 (lv_at hl 1 rfl) ?_
                      by_cases hc : ((w426.2.2 18) < 0 ∨ 61 ≤ (w426.2.2 18).toNatClampNeg)
                      · cases (fo_t hc hf)
                      have hf := fo_f hc hf
                      refine ra_st X hH hS 10 (by decide) (by decide) hc dX12_sets_437 (fun H locs hH hS => ?_)
                      obtain ⟨w437, ew437⟩ : ∃ z : CW, z = (sC w426 10 (w426.2.2 18).toNatClampNeg x382) := ⟨_, rfl⟩
                      have hf := nm_s hf w437 ew437
                      have hH : rH G w437 H := ew437 ▸ hH
                      refine lv_aload_n hx hb dX12_sets_438 rfl (lv_at hl 7 rfl) ?_
                      refine lv_dup hx hb dX12_sets_439 rfl ?_
                      refine ro_get (C := RX12) (N := 30) X hH 0 (by decide) rO rfl inBX12 18 (by decide) rfl bw1396 dX12_sets_440 ?_
                      refine lv_iconst (v := 1) hx hb dX12_sets_443 (by decide) ?_
                      refine lv_iadd hx hb dX12_sets_444 ?_
                      refine ro_put (C := RX12) (N := 30) X hH hS 0 (by decide) rO rfl inBX12 tyX12 tyX12_ok nmX12 18 (by decide) bw1396 rfl rfl rfl (by simp) (sS w437 18 ((w437.2.2 18) + 1)) rfl rE_sS dX12_sets_445 (fun H locs hH hS => ?_)
                      obtain ⟨w445, ew445⟩ : ∃ z : CW, z = (sS w437 18 ((w437.2.2 18) + 1)) := ⟨_, rfl⟩
                      have hf := nm_s hf w445 ew445
                      have hH : rH G w445 H := ew445 ▸ hH
                      refine lv_iconst (v := 0) hx hb dX12_sets_448 (by decide) ?_
                      refine lv_istore (lv' := [(5, .int 0), (6, .int x399), (4, .int x382), (9, .int x303), (8, .int y282_8), (7, .int x227), (3, .int x15), (0, .ref (G.2.2.1 300)), (1, .int a1)]) hx hb dX12_sets_449 hl (by decide) rfl (fun ls hl => ?_)
                      refine lv_iconst (v := 0) hx hb dX12_sets_451 (by decide) ?_
                      refine lv_istore (lv' := [(6, .int 0), (5, .int 0), (4, .int x382), (9, .int x303), (8, .int y282_8), (7, .int x227), (3, .int x15), (0, .ref (G.2.2.1 300)), (1, .int a1)]) hx hb dX12_sets_452 hl (by decide) rfl (fun ls hl => ?_)
                      exact hj454 _ _ _ _ _ _ hf hH hS (lv_sub hl [0, 2, 1, 6, 7, 8] rfl)
                    refine lv_if_eq (tgt := 398) hx hb dX12_sets_391 (by decide) (fun hc391 => ?_) (fun hc391 => ?_)
                    · refine lv_iconst (v := 0) hx hb dX12_sets_398 (by decide) ?_
                      exact W.eq (by rw [if_pos hc391] <;> rfl) (hJ _ _ hH hS)
                    · refine lv_iconst (v := 1) hx hb dX12_sets_394 (by decide) ?_
                      refine lv_goto (tgt := 399) hx hb dX12_sets_395 (by decide) ?_
                      exact W.eq (by rw [if_neg hc391] <;> rfl) (hJ _ _ hH hS)
                  refine lv_icmp_ne (tgt := 360) hx hb dX12_sets_353 (by decide) (fun hc353 => ?_) (fun hc353 => ?_)
                  · refine lv_iconst (v := 0) hx hb dX12_sets_360 (by decide) ?_
                    exact W.eq (by rw [if_neg hc353] <;> rfl) (hJ _ _ hH hS)
                  · refine lv_iconst (v := 1) hx hb dX12_sets_356 (by decide) ?_
                    refine lv_goto (tgt := 361) hx hb dX12_sets_357 (by decide) ?_
                    exact W.eq (by rw [if_pos hc353] <;> rfl) (hJ _ _ hH hS)
                refine lv_icmp_le (tgt := 329) hx hb dX12_sets_322 (by decide) (fun hc322 => ?_) (fun hc322 => ?_)
                · refine lv_iconst (v := 0) hx hb dX12_sets_329 (by decide) ?_
                  exact W.eq (by rw [if_pos hc322] <;> rfl) (hJ _ _ hH hS)
                · refine lv_iconst (v := 1) hx hb dX12_sets_325 (by decide) ?_
                  refine lv_goto (tgt := 330) hx hb dX12_sets_326 (by decide) ?_
                  exact W.eq (by rw [if_neg hc322] <;> rfl) (hJ _ _ hH hS)
              refine lv_icmp_ne (tgt := 302) hx hb dX12_sets_295 (by decide) (fun hc295 => ?_) (fun hc295 => ?_)
              · refine lv_iconst (v := 0) hx hb dX12_sets_302 (by decide) ?_
                exact W.eq (by rw [if_neg hc295] <;> rfl) (hJ _ _ hH hS)
              · refine lv_iconst (v := 1) hx hb dX12_sets_298 (by decide) ?_
                refine lv_goto (tgt := 303) hx hb dX12_sets_299 (by decide) ?_
                exact W.eq (by rw [if_pos hc295] <;> rfl) (hJ _ _ hH hS)
            have hL242 : ∀ (n242 : Nat) (v242_8 : Int32) (H : Heap) (locs : List Loc) (ls : Array Slot), f_X12_sets_L242 a1 v203_4 v203_5 v203_6 w203_ x227 j282 n242 v242_8 = some q → rH G w203_ H → va_S (rA G) s.heap H locs → lv_has ls 10 [(8, .int v242_8), (7, .int x227), (6, .int v203_6), (5, .int v203_5), (4, .int v203_4), (3, .int x15), (0, .ref (G.2.2.1 300)), (1, .int a1)] → W p l e rm_X12_sets s m args below meth c H locs 0 0 Q (F0 m 242 ls []) := by
              intro n242
              induction n242 with
              | zero => intro v242_8 H locs ls hf; rw [f_X12_sets_L242] at hf; cases hf
              | succ n242 ih242 =>
                intro v242_8 H locs ls hf hH hS hl
                rw [f_X12_sets_L242] at hf
                refine lv_aload_n hx hb dX12_sets_242 rfl (lv_at hl 6 rfl) ?_
                refine lv_iload_n hx hb dX12_sets_243 rfl (lv_at hl 7 rfl) ?_
                refine lv_iload hx hb dX12_sets_244 (lv_at hl 4 rfl) ?_
                refine lv_iload hx hb dX12_sets_246 (lv_at hl 0 rfl) ?_
                refine lv_iload hx hb dX12_sets_248 (lv_at hl 3 rfl) ?_
                obtain ⟨q250, hq250, hf⟩ := bd_s hf
                refine cGi (cVrun (rest := []) X (c_X12_goingOn l G w203_ a1 v203_4 v242_8 v203_5 q250 hq250) bw1606 bw1608 bw68 bw105 bw1609 cn_X12_goingOn ⟨rfl, rfl, Nat.le_of_ble_eq_true rfl, Nat.le_of_ble_eq_true rfl⟩ (r_rec X hH) rA_g hH hS hl rfl (Nat.le_of_ble_eq_true rfl) dX12_sets_250) hS (fun H locs hH hS => ?_)
                refine lv_iload hx hb dX12_sets_253 (lv_at hl 1 rfl) ?_
                refine lv_icmp_eq (tgt := 282) hx hb dX12_sets_255 (by decide) (fun hc => ?_) (fun hc => ?_)
                · have hf := fo_t hc hf
                  exact hj282 _ _ _ _ hf hH hS (lv_sub hl [0, 1, 3, 4, 5, 6, 7] rfl)
                have hf := fo_f hc hf
                refine lv_aload_n hx hb dX12_sets_258 rfl (lv_at hl 6 rfl) ?_
                refine lv_iload_n hx hb dX12_sets_259 rfl (lv_at hl 7 rfl) ?_
                refine lv_iload hx hb dX12_sets_260 (lv_at hl 4 rfl) ?_
                refine lv_iload hx hb dX12_sets_262 (lv_at hl 0 rfl) ?_
                refine lv_iload hx hb dX12_sets_264 (lv_at hl 3 rfl) ?_
                refine lv_iload hx hb dX12_sets_266 (lv_at hl 2 rfl) ?_
                obtain ⟨q268, hq268, hf⟩ := bd_s hf
                refine cGi (cVrun (rest := []) X (c_X12_breaking l G w203_ a1 v203_4 v242_8 v203_5 v203_6 q268 hq268) bw1626 bw1628 bw73 bw105 bw1629 cn_X12_breaking ⟨rfl, rfl, Nat.le_of_ble_eq_true rfl, Nat.le_of_ble_eq_true rfl⟩ (r_rec X hH) rA_g hH hS hl rfl (Nat.le_of_ble_eq_true rfl) dX12_sets_268) hS (fun H locs hH hS => ?_)
                refine lv_iload hx hb dX12_sets_271 (lv_at hl 1 rfl) ?_
                refine lv_icmp_eq (tgt := 282) hx hb dX12_sets_273 (by decide) (fun hc => ?_) (fun hc => ?_)
                · have hf := fo_t hc hf
                  exact hj282 _ _ _ _ hf hH hS (lv_sub hl [0, 1, 3, 4, 5, 6, 7] rfl)
                have hf := fo_f hc hf
                obtain ⟨x276, ex276⟩ : ∃ z : Int32, z = (v242_8 + (-1)) := ⟨_, rfl⟩
                have hf := nm_s hf x276 ex276
                refine lv_iinc (v := x276) (lv' := [(8, .int x276), (7, .int x227), (6, .int v203_6), (5, .int v203_5), (4, .int v203_4), (3, .int x15), (0, .ref (G.2.2.1 300)), (1, .int a1)]) hx hb dX12_sets_276 hl (k := 0) rfl (by rw [ex276]; rfl) (by decide) rfl (fun ls hl => ?_)
                refine lv_goto (tgt := 242) hx hb dX12_sets_279 (by decide) ?_
                exact ih242 _ _ _ _ hf hH hS (lv_sub hl [0, 1, 2, 3, 4, 5, 6, 7] rfl)
            exact hL242 _ _ _ _ _ hf hH hS (lv_sub hl [0, 1, 2, 3, 4, 5, 6, 7] rfl)
        exact hL203 _ _ _ _ _ _ _ _ hf hH hS (lv_sub hl [0, 1, 2, 3, 4, 5] rfl)
      have hL151 : ∀ (n151 : Nat) (v151_4 : Int32) (w151_ : CW) (H : Heap) (locs : List Loc) (ls : Array Slot), f_X12_sets_L151 j172 n151 v151_4 w151_ = some q → rH G w151_ H → va_S (rA G) s.heap H locs → lv_has ls 10 [(4, .int v151_4), (3, .int x15), (0, .ref (G.2.2.1 300)), (1, .int a1)] → W p l e rm_X12_sets s m args below meth c H locs 0 0 Q (F0 m 151 ls []) := by
        intro n151
        induction n151 with
        | zero => intro v151_4 w151_ H locs ls hf; rw [f_X12_sets_L151] at hf; cases hf
        | succ n151 ih151 =>
          intro v151_4 w151_ H locs ls hf hH hS hl
          rw [f_X12_sets_L151] at hf
          refine lv_iload hx hb dX12_sets_151 (lv_at hl 0 rfl) ?_
          refine lv_bipush (v := 27) hx hb dX12_sets_153 (by decide) ?_
          refine lv_icmp_ge (tgt := 172) hx hb dX12_sets_155 (by decide) (fun hc => ?_) (fun hc => ?_)
          · have hf := fo_t hc hf
            exact hj172 _ _ _ _ hf hH hS (lv_sub hl [1, 2, 3] rfl)
          have hf := fo_f hc hf
          refine lv_aload_n hx hb dX12_sets_158 rfl (lv_at hl 2 rfl) ?_
          refine ro_get (C := RX12) (N := 30) X hH 0 (by decide) rO rfl inBX12 17 (by decide) rfl bw1395 dX12_sets_159 ?_
          refine lv_iload hx hb dX12_sets_162 (lv_at hl 0 rfl) ?_
          refine lv_iconst (v := 0) hx hb dX12_sets_164 (by decide) ?_
          by_cases hc : (v151_4 < 0 ∨ 27 ≤ v151_4.toNatClampNeg)
          · cases (fo_t hc hf)
          have hf := fo_f hc hf
          refine ra_st X hH hS 11 (by decide) (by decide) hc dX12_sets_165 (fun H locs hH hS => ?_)
          obtain ⟨w165, ew165⟩ : ∃ z : CW, z = (sC w151_ 11 v151_4.toNatClampNeg 0) := ⟨_, rfl⟩
          have hf := nm_s hf w165 ew165
          have hH : rH G w165 H := ew165 ▸ hH
          obtain ⟨x166, ex166⟩ : ∃ z : Int32, z = (v151_4 + 1) := ⟨_, rfl⟩
          have hf := nm_s hf x166 ex166
          refine lv_iinc (v := x166) (lv' := [(4, .int x166), (3, .int x15), (0, .ref (G.2.2.1 300)), (1, .int a1)]) hx hb dX12_sets_166 hl (k := 0) rfl (by rw [ex166]; rfl) (by decide) rfl (fun ls hl => ?_)
          refine lv_goto (tgt := 151) hx hb dX12_sets_169 (by decide) ?_
          exact ih151 _ _ _ _ _ hf hH hS (lv_sub hl [0, 1, 2, 3] rfl)
      exact hL151 _ _ _ _ _ _ hf hH hS (lv_sub hl [0, 1, 2, 3] rfl)
    have hL127 : ∀ (n127 : Nat) (v127_4 : Int32) (w127_ : CW) (H : Heap) (locs : List Loc) (ls : Array Slot), f_X12_sets_L127 j148 n127 v127_4 w127_ = some q → rH G w127_ H → va_S (rA G) s.heap H locs → lv_has ls 10 [(4, .int v127_4), (3, .int x15), (0, .ref (G.2.2.1 300)), (1, .int a1)] → W p l e rm_X12_sets s m args below meth c H locs 0 0 Q (F0 m 127 ls []) := by
      intro n127
      induction n127 with
      | zero => intro v127_4 w127_ H locs ls hf; rw [f_X12_sets_L127] at hf; cases hf
      | succ n127 ih127 =>
        intro v127_4 w127_ H locs ls hf hH hS hl
        rw [f_X12_sets_L127] at hf
        refine lv_iload hx hb dX12_sets_127 (lv_at hl 0 rfl) ?_
        refine lv_bipush (v := 61) hx hb dX12_sets_129 (by decide) ?_
        refine lv_icmp_ge (tgt := 148) hx hb dX12_sets_131 (by decide) (fun hc => ?_) (fun hc => ?_)
        · have hf := fo_t hc hf
          exact hj148 _ _ _ _ hf hH hS (lv_sub hl [1, 2, 3] rfl)
        have hf := fo_f hc hf
        refine lv_aload_n hx hb dX12_sets_134 rfl (lv_at hl 2 rfl) ?_
        refine ro_get (C := RX12) (N := 30) X hH 0 (by decide) rO rfl inBX12 15 (by decide) rfl bw1393 dX12_sets_135 ?_
        refine lv_iload hx hb dX12_sets_138 (lv_at hl 0 rfl) ?_
        refine lv_iconst (v := 0) hx hb dX12_sets_140 (by decide) ?_
        by_cases hc : (v127_4 < 0 ∨ 61 ≤ v127_4.toNatClampNeg)
        · cases (fo_t hc hf)
        have hf := fo_f hc hf
        refine ra_st X hH hS 9 (by decide) (by decide) hc dX12_sets_141 (fun H locs hH hS => ?_)
        obtain ⟨w141, ew141⟩ : ∃ z : CW, z = (sC w127_ 9 v127_4.toNatClampNeg 0) := ⟨_, rfl⟩
        have hf := nm_s hf w141 ew141
        have hH : rH G w141 H := ew141 ▸ hH
        obtain ⟨x142, ex142⟩ : ∃ z : Int32, z = (v127_4 + 1) := ⟨_, rfl⟩
        have hf := nm_s hf x142 ex142
        refine lv_iinc (v := x142) (lv' := [(4, .int x142), (3, .int x15), (0, .ref (G.2.2.1 300)), (1, .int a1)]) hx hb dX12_sets_142 hl (k := 0) rfl (by rw [ex142]; rfl) (by decide) rfl (fun ls hl => ?_)
        refine lv_goto (tgt := 127) hx hb dX12_sets_145 (by decide) ?_
        exact ih127 _ _ _ _ _ hf hH hS (lv_sub hl [0, 1, 2, 3] rfl)
    exact hL127 _ _ _ _ _ _ hf hH hS (lv_sub hl [0, 1, 2, 3] rfl)
  have hL19 : ∀ (n19 : Nat) (v19_4 : Int32) (w19_ : CW) (H : Heap) (locs : List Loc) (ls : Array Slot), f_X12_sets_L19 a1 x15 j103 n19 v19_4 w19_ = some q → rH G w19_ H → va_S (rA G) s.heap H locs → lv_has ls 10 [(4, .int v19_4), (3, .int x15), (0, .ref (G.2.2.1 300)), (1, .int a1)] → W p l e rm_X12_sets s m args below meth c H locs 0 0 Q (F0 m 19 ls []) := by
    intro n19
    induction n19 with
    | zero => intro v19_4 w19_ H locs ls hf; rw [f_X12_sets_L19] at hf; cases hf
    | succ n19 ih19 =>
      intro v19_4 w19_ H locs ls hf hH hS hl
      rw [f_X12_sets_L19] at hf
      refine lv_iload hx hb dX12_sets_19 (lv_at hl 0 rfl) ?_
      refine lv_if_lt (tgt := 103) hx hb dX12_sets_21 (by decide) (fun hc => ?_) (fun hc => ?_)
      · have hf := fo_t hc hf
        exact hj103 _ _ _ _ hf hH hS (lv_sub hl [1, 2, 3] rfl)
      have hf := fo_f hc hf
      refine lv_aload_n hx hb dX12_sets_24 rfl (lv_at hl 2 rfl) ?_
      refine ro_get (C := RX12) (N := 30) X hH 0 (by decide) rO rfl inBX12 8 (by decide) rfl bw1386 dX12_sets_25 ?_
      refine lv_iconst (v := 2) hx hb dX12_sets_28 (by decide) ?_
      by_cases hc : ((2 : Int32) < 0 ∨ 8 ≤ (2 : Int32).toNatClampNeg)
      · cases (fo_t hc hf)
      have hf := fo_f hc hf
      refine ra_ld X hH 3 (by decide) (by decide) hc dX12_sets_29 ?_
      refine lv_topi (fun x30 ex30 => ?_)
      have hf := nm_s hf x30 ex30
      refine lv_istore (lv' := [(5, .int x30), (4, .int v19_4), (3, .int x15), (0, .ref (G.2.2.1 300)), (1, .int a1)]) hx hb dX12_sets_30 hl (by decide) rfl (fun ls hl => ?_)
      obtain ⟨j97, ej97, hf⟩ := nm_x hf
      have hj97 : ∀ (w97_ : CW) (H : Heap) (locs : List Loc) (ls : Array Slot), j97 w97_ = some q → rH G w97_ H → va_S (rA G) s.heap H locs → lv_has ls 10 [(4, .int v19_4), (3, .int x15), (0, .ref (G.2.2.1 300)), (1, .int a1)] → W p l e rm_X12_sets s m args below meth c H locs 0 0 Q (F0 m 97 ls []) := by
        intro w97_ H locs ls hf hH hS hl
        have hf := jb1 ej97 hf
        obtain ⟨x97, ex97⟩ : ∃ z : Int32, z = (v19_4 + (-1)) := ⟨_, rfl⟩
        have hf := nm_s hf x97 ex97
        refine lv_iinc (v := x97) (lv' := [(4, .int x97), (3, .int x15), (0, .ref (G.2.2.1 300)), (1, .int a1)]) hx hb dX12_sets_97 hl (k := 0) rfl (by rw [ex97]; rfl) (by decide) rfl (fun ls hl => ?_)
        refine lv_goto (tgt := 19) hx hb dX12_sets_100 (by decide) ?_
        exact ih19 _ _ _ _ _ hf hH hS (lv_sub hl [0, 1, 2, 3] rfl)
      have hL32 : ∀ (n32 : Nat) (v32_5 : Int32) (w32_ : CW) (H : Heap) (locs : List Loc) (ls : Array Slot), f_X12_sets_L32 a1 x15 v19_4 j97 n32 v32_5 w32_ = some q → rH G w32_ H → va_S (rA G) s.heap H locs → lv_has ls 10 [(5, .int v32_5), (4, .int v19_4), (3, .int x15), (0, .ref (G.2.2.1 300)), (1, .int a1)] → W p l e rm_X12_sets s m args below meth c H locs 0 0 Q (F0 m 32 ls []) := by
        intro n32
        induction n32 with
        | zero => intro v32_5 w32_ H locs ls hf; rw [f_X12_sets_L32] at hf; cases hf
        | succ n32 ih32 =>
          intro v32_5 w32_ H locs ls hf hH hS hl
          rw [f_X12_sets_L32] at hf
          refine lv_iload hx hb dX12_sets_32 (lv_at hl 0 rfl) ?_
          refine lv_if_lt (tgt := 97) hx hb dX12_sets_34 (by decide) (fun hc => ?_) (fun hc => ?_)
          · have hf := fo_t hc hf
            exact hj97 _ _ _ _ hf hH hS (lv_sub hl [1, 2, 3, 4] rfl)
          have hf := fo_f hc hf
          refine lv_iconst (v := 0) hx hb dX12_sets_37 (by decide) ?_
          refine lv_istore (lv' := [(6, .int 0), (5, .int v32_5), (4, .int v19_4), (3, .int x15), (0, .ref (G.2.2.1 300)), (1, .int a1)]) hx hb dX12_sets_38 hl (by decide) rfl (fun ls hl => ?_)
          obtain ⟨j91, ej91, hf⟩ := nm_x hf
          have hj91 : ∀ (w91_ : CW) (H : Heap) (locs : List Loc) (ls : Array Slot), j91 w91_ = some q → rH G w91_ H → va_S (rA G) s.heap H locs → lv_has ls 10 [(5, .int v32_5), (4, .int v19_4), (3, .int x15), (0, .ref (G.2.2.1 300)), (1, .int a1)] → W p l e rm_X12_sets s m args below meth c H locs 0 0 Q (F0 m 91 ls []) := by
            intro w91_ H locs ls hf hH hS hl
            have hf := jb1 ej91 hf
            obtain ⟨x91, ex91⟩ : ∃ z : Int32, z = (v32_5 + (-1)) := ⟨_, rfl⟩
            have hf := nm_s hf x91 ex91
            refine lv_iinc (v := x91) (lv' := [(5, .int x91), (4, .int v19_4), (3, .int x15), (0, .ref (G.2.2.1 300)), (1, .int a1)]) hx hb dX12_sets_91 hl (k := 0) rfl (by rw [ex91]; rfl) (by decide) rfl (fun ls hl => ?_)
            refine lv_goto (tgt := 32) hx hb dX12_sets_94 (by decide) ?_
            exact ih32 _ _ _ _ _ hf hH hS (lv_sub hl [0, 1, 2, 3, 4] rfl)
          have hL40 : ∀ (n40 : Nat) (v40_6 : Int32) (w40_ : CW) (H : Heap) (locs : List Loc) (ls : Array Slot), f_X12_sets_L40 a1 x15 v19_4 v32_5 j91 n40 v40_6 w40_ = some q → rH G w40_ H → va_S (rA G) s.heap H locs → lv_has ls 10 [(6, .int v40_6), (5, .int v32_5), (4, .int v19_4), (3, .int x15), (0, .ref (G.2.2.1 300)), (1, .int a1)] → W p l e rm_X12_sets s m args below meth c H locs 0 0 Q (F0 m 40 ls []) := by
            intro n40
            induction n40 with
            | zero => intro v40_6 w40_ H locs ls hf; rw [f_X12_sets_L40] at hf; cases hf
            | succ n40 ih40 =>
              intro v40_6 w40_ H locs ls hf hH hS hl
              rw [f_X12_sets_L40] at hf
              refine lv_iload hx hb dX12_sets_40 (lv_at hl 0 rfl) ?_
              refine lv_iconst (v := 2) hx hb dX12_sets_42 (by decide) ?_
              refine lv_icmp_ge (tgt := 91) hx hb dX12_sets_43 (by decide) (fun hc => ?_) (fun hc => ?_)
              · have hf := fo_t hc hf
                exact hj91 _ _ _ _ hf hH hS (lv_sub hl [1, 2, 3, 4, 5] rfl)
              have hf := fo_f hc hf
              refine lv_aload_n hx hb dX12_sets_46 rfl (lv_at hl 4 rfl) ?_
              refine ro_get (C := RX12) (N := 30) X hH 0 (by decide) rO rfl inBX12 14 (by decide) rfl bw1392 dX12_sets_47 ?_
              refine lv_bipush (v := 82) hx hb dX12_sets_50 (by decide) ?_
              refine lv_iload hx hb dX12_sets_52 (lv_at hl 2 rfl) ?_
              refine lv_imul hx hb dX12_sets_54 ?_
              refine lv_iconst (v := 2) hx hb dX12_sets_55 (by decide) ?_
              refine lv_iload hx hb dX12_sets_56 (lv_at hl 1 rfl) ?_
              refine lv_imul hx hb dX12_sets_58 ?_
              refine lv_iadd hx hb dX12_sets_59 ?_
              refine lv_iload hx hb dX12_sets_60 (lv_at hl 0 rfl) ?_
              refine lv_iadd hx hb dX12_sets_62 ?_
              refine lv_iload hx hb dX12_sets_63 (lv_at hl 2 rfl) ?_
              refine lv_iload_n hx hb dX12_sets_65 rfl (lv_at hl 3 rfl) ?_
              obtain ⟨j84, ej84, hf⟩ := nm_x hf
              have hj84 : ∀ (z84_0 : Int32) (H : Heap) (locs : List Loc) (ls : Array Slot), j84 z84_0 = some q → rH G w40_ H → va_S (rA G) s.heap H locs → lv_has ls 10 [(6, .int v40_6), (5, .int v32_5), (4, .int v19_4), (3, .int x15), (0, .ref (G.2.2.1 300)), (1, .int a1)] → W p l e rm_X12_sets s m args below meth c H locs 0 0 Q (F0 m 84 ls [.int z84_0, .int (((82 * v19_4) + (2 * v32_5)) + v40_6), .ref (G.2.2.1 309)]) := by
                intro z84_0 H locs ls hf hH hS hl
                have hf := jb1 ej84 hf
                by_cases hc : ((((82 * v19_4) + (2 * v32_5)) + v40_6) < 0 ∨ 5002 ≤ (((82 * v19_4) + (2 * v32_5)) + v40_6).toNatClampNeg)
                · cases (fo_t hc hf)
                have hf := fo_f hc hf
                refine ra_st X hH hS 8 (by decide) (by decide) hc dX12_sets_84 (fun H locs hH hS => ?_)
                obtain ⟨w84, ew84⟩ : ∃ z : CW, z = (sC w40_ 8 (((82 * v19_4) + (2 * v32_5)) + v40_6).toNatClampNeg z84_0) := ⟨_, rfl⟩
                have hf := nm_s hf w84 ew84
                have hH : rH G w84 H := ew84 ▸ hH
                obtain ⟨x85, ex85⟩ : ∃ z : Int32, z = (v40_6 + 1) := ⟨_, rfl⟩
                have hf := nm_s hf x85 ex85
                refine lv_iinc (v := x85) (lv' := [(6, .int x85), (5, .int v32_5), (4, .int v19_4), (3, .int x15), (0, .ref (G.2.2.1 300)), (1, .int a1)]) hx hb dX12_sets_85 hl (k := 0) rfl (by rw [ex85]; rfl) (by decide) rfl (fun ls hl => ?_)
                refine lv_goto (tgt := 40) hx hb dX12_sets_88 (by decide) ?_
                exact ih40 _ _ _ _ _ hf hH hS (lv_sub hl [0, 1, 2, 3, 4, 5] rfl)
              refine lv_icmp_ne (tgt := 73) hx hb dX12_sets_66 (by decide) (fun hc => ?_) (fun hc => ?_)
              rotate_left
              · have hf := fo_t hc hf
                refine lv_iconst (v := 0) hx hb dX12_sets_69 (by decide) ?_
                refine lv_goto (tgt := 84) hx hb dX12_sets_70 (by decide) ?_
                exact hj84 _ _ _ _ hf hH hS (lv_sub hl [0, 1, 2, 3, 4, 5] rfl)
              have hf := fo_f hc hf
              refine lv_aload_n hx hb dX12_sets_73 rfl (lv_at hl 4 rfl) ?_
              refine lv_iload_n hx hb dX12_sets_74 rfl (lv_at hl 5 rfl) ?_
              refine lv_iload hx hb dX12_sets_75 (lv_at hl 2 rfl) ?_
              refine lv_iload hx hb dX12_sets_77 (lv_at hl 1 rfl) ?_
              refine lv_iload hx hb dX12_sets_79 (lv_at hl 0 rfl) ?_
              obtain ⟨q81, hq81, hf⟩ := bd_s hf
              refine cGi (cVrun (rest := [.int (((82 * v19_4) + (2 * v32_5)) + v40_6), .ref (G.2.2.1 309)]) X (c_X12_leastOf l G w40_ a1 v19_4 v32_5 v40_6 q81 hq81) bw1593 bw1595 bw65 bw105 bw1596 cn_X12_leastOf ⟨rfl, rfl, Nat.le_of_ble_eq_true rfl, Nat.le_of_ble_eq_true rfl⟩ (r_rec X hH) rA_g hH hS hl rfl (Nat.le_of_ble_eq_true rfl) dX12_sets_81) hS (fun H locs hH hS => ?_)
              exact hj84 _ _ _ _ hf hH hS (lv_sub hl [0, 1, 2, 3, 4, 5] rfl)
          exact hL40 _ _ _ _ _ _ hf hH hS (lv_sub hl [0, 1, 2, 3, 4, 5] rfl)
      exact hL32 _ _ _ _ _ _ hf hH hS (lv_sub hl [0, 1, 2, 3, 4] rfl)
  exact hL19 _ _ _ _ _ _ hf hH hS (lv_sub hl [0, 1, 2, 3] rfl)
def f_X12_line (w : CW) (a1 : Int32) (a2 : Int32) (a3 : Int32) : Option (Int32 × CW) := (Option.bind (f_X12_isVerse w a1) fun q2 => (if q2 = 0 then (some ((-1), w)) else (if a3 < 0 then (some ((-1), w)) else (if (f_X12_in a3 4 9) = 0 then (if (f_X12_isDay a2) = 0 then (some ((-2), w)) else (Option.bind (f_X12_sets w a1 a2) fun q37 => (if q37.1 = 0 then (some ((-9), q37.2)) else (if a3 = 0 then (some ((q37.2.2.2 21), q37.2)) else (if a3 = 1 then (some ((q37.2.2.2 18), q37.2)) else (if a3 = 2 then (some ((q37.2.2.2 19), q37.2)) else (if a3 = 3 then (some ((q37.2.2.2 20), q37.2)) else (if (q37.2.2.2 18) ≤ (a3 - 10) then (some ((-1), q37.2)) else (if ((a3 - 10) < 0 ∨ 61 ≤ (a3 - 10).toNatClampNeg) then none else (some ((q37.2.1 10 (a3 - 10).toNatClampNeg), q37.2))))))))))) else (some ((-1), w))))))
abbrev rm_X12_line : Room := { frames := 7, cells := 0, slots := 0, locals := 156 }
theorem cn_X12_line : CN yX12_line 3 := ⟨by decide +kernel, by decide +kernel, by decide +kernel⟩
set_option maxHeartbeats 4000000 in
set_option maxRecDepth 100000 in
theorem c_X12_line (l : Launch) (G : GX) (w : CW) (a1 : Int32) (a2 : Int32) (a3 : Int32) (q : Int32 × CW) (hf : f_X12_line w a1 a2 a3 = some q) : MI l G yX12_line cX12_line 4 (some .int) rm_X12_line [.ref (G.2.2.1 300), .int a1, .int a2, .int a3] (rA G) (rH G w) (rH G q.2) q.1 := by
  refine cM_start (by decide +kernel) (Nat.le_of_ble_eq_true rfl) ?_
  intro p e s m below meth c ls X hH hl
  have hS : va_S (rA G) s.heap s.heap [] := va_S.rf
  have hx := X.1.1
  have hb := X.1.2.1
  generalize hargs : ([.ref (G.2.2.1 300), .int a1, .int a2, .int a3] : List Value).toArray = args at X ⊢
  generalize hQ : MQ below (QI (rA G) (rH G q.2) q.1) args s 0 0 (rA G) = Q
  have hl : lv_has ls 4 [(0, .ref (G.2.2.1 300)), (1, .int a1), (2, .int a2), (3, .int a3)] := hl
  unfold f_X12_line at hf
  refine lv_aload_n hx hb dX12_line_0 rfl (lv_at hl 0 rfl) ?_
  refine lv_iload_n hx hb dX12_line_1 rfl (lv_at hl 1 rfl) ?_
  obtain ⟨q2, hq2, hf⟩ := bd_s hf
  refine cGz (cVrun (rest := []) X (c_X12_isVerse l G w a1 q2 hq2) bw1585 bw1587 bw63 bw105 bw1588 cn_X12_isVerse ⟨rfl, rfl, Nat.le_of_ble_eq_true rfl, Nat.le_of_ble_eq_true rfl⟩ (r_rec X hH) rA_g hH hS hl rfl (Nat.le_of_ble_eq_true rfl) dX12_line_2) hS (fun hz2 H locs hH hS => ?_)
  refine lv_if_eq (tgt := 22) hx hb dX12_line_5 (by decide) (fun hc => ?_) (fun hc => ?_)
  · have hf := fo_t hc hf
    refine lv_iconst (v := (-1)) hx hb dX12_line_22 (by decide) ?_
    subst hQ
    exact cEi X (rH2 (so_s hf) hH) hS (pf1 (so_s hf)) dX12_line_23
  have hf := fo_f hc hf
  refine lv_iload_n hx hb dX12_line_8 rfl (lv_at hl 3 rfl) ?_
  refine lv_if_lt (tgt := 22) hx hb dX12_line_9 (by decide) (fun hc => ?_) (fun hc => ?_)
  · have hf := fo_t hc hf
    refine lv_iconst (v := (-1)) hx hb dX12_line_22 (by decide) ?_
    subst hQ
    exact cEi X (rH2 (so_s hf) hH) hS (pf1 (so_s hf)) dX12_line_23
  have hf := fo_f hc hf
  refine lv_iload_n hx hb dX12_line_12 rfl (lv_at hl 3 rfl) ?_
  refine lv_iconst (v := 4) hx hb dX12_line_13 (by decide) ?_
  refine lv_bipush (v := 9) hx hb dX12_line_14 (by decide) ?_
  refine cGi (cSrun (rest := []) X (c_X12_in l G (rH G w) (rA G) rA_g a3 4 9 _ rfl) bw1477 bw1478 bw105 bw1479 cn_X12_in ⟨rfl, rfl, Nat.le_of_ble_eq_true rfl, Nat.le_of_ble_eq_true rfl⟩ rA_g hH hS hl rfl (Nat.le_of_ble_eq_true rfl) dX12_line_16) hS (fun H locs hH hS => ?_)
  refine lv_if_eq (tgt := 24) hx hb dX12_line_19 (by decide) (fun hc => ?_) (fun hc => ?_)
  rotate_left
  · have hf := fo_f hc hf
    refine lv_iconst (v := (-1)) hx hb dX12_line_22 (by decide) ?_
    subst hQ
    exact cEi X (rH2 (so_s hf) hH) hS (pf1 (so_s hf)) dX12_line_23
  have hf := fo_t hc hf
  refine lv_iload_n hx hb dX12_line_24 rfl (lv_at hl 2 rfl) ?_
  refine cGi (cSrun (rest := []) X (c_X12_isDay l G (rH G w) (rA G) rA_g a2 _ rfl) bw1505 bw1506 bw105 bw1507 cn_X12_isDay ⟨rfl, rfl, Nat.le_of_ble_eq_true rfl, Nat.le_of_ble_eq_true rfl⟩ rA_g hH hS hl rfl (Nat.le_of_ble_eq_true rfl) dX12_line_25) hS (fun H locs hH hS => ?_)
  refine lv_if_ne (tgt := 34) hx hb dX12_line_28 (by decide) (fun hc => ?_) (fun hc => ?_)
  rotate_left
  · have hf := fo_t hc hf
    refine lv_bipush (v := (-2)) hx hb dX12_line_31 (by decide) ?_
    subst hQ
    exact cEi X (rH2 (so_s hf) hH) hS (pf1 (so_s hf)) dX12_line_33
  have hf := fo_f hc hf
  refine lv_aload_n hx hb dX12_line_34 rfl (lv_at hl 0 rfl) ?_
  refine lv_iload_n hx hb dX12_line_35 rfl (lv_at hl 1 rfl) ?_
  refine lv_iload_n hx hb dX12_line_36 rfl (lv_at hl 2 rfl) ?_
  obtain ⟨q37, hq37, hf⟩ := bd_s hf
  refine cGz (cVrun (rest := []) X (c_X12_sets l G w a1 a2 q37 hq37) bw1589 bw1591 bw64 bw105 bw1592 cn_X12_sets ⟨rfl, rfl, Nat.le_of_ble_eq_true rfl, Nat.le_of_ble_eq_true rfl⟩ (r_rec X hH) rA_g hH hS hl rfl (Nat.le_of_ble_eq_true rfl) dX12_line_37) hS (fun hz37 H locs hH hS => ?_)
  refine lv_if_ne (tgt := 46) hx hb dX12_line_40 (by decide) (fun hc => ?_) (fun hc => ?_)
  rotate_left
  · have hf := fo_t hc hf
    refine lv_bipush (v := (-9)) hx hb dX12_line_43 (by decide) ?_
    subst hQ
    exact cEi X (rH2 (so_s hf) hH) hS (pf1 (so_s hf)) dX12_line_45
  have hf := fo_f hc hf
  refine lv_iload_n hx hb dX12_line_46 rfl (lv_at hl 3 rfl) ?_
  by_cases hc0 : a3 = 0
  · have hf := fo_t hc0 hf
    refine lv_tableIn (tgt := 76) hx hb dX12_line_47 (by rw [hc0]; decide) (by rw [hc0]; decide) (by rw [hc0]; rfl) (by decide) ?_
    refine lv_aload_n hx hb dX12_line_76 rfl (lv_at hl 0 rfl) ?_
    refine ro_get (C := RX12) (N := 30) X hH 0 (by decide) rO rfl inBX12 21 (by decide) rfl bw1399 dX12_line_77 ?_
    subst hQ
    exact cEi X (rH2 (so_s hf) hH) hS (pf1 (so_s hf)) dX12_line_80
  have hf := fo_f hc0 hf
  by_cases hc1 : a3 = 1
  · have hf := fo_t hc1 hf
    refine lv_tableIn (tgt := 81) hx hb dX12_line_47 (by rw [hc1]; decide) (by rw [hc1]; decide) (by rw [hc1]; rfl) (by decide) ?_
    refine lv_aload_n hx hb dX12_line_81 rfl (lv_at hl 0 rfl) ?_
    refine ro_get (C := RX12) (N := 30) X hH 0 (by decide) rO rfl inBX12 18 (by decide) rfl bw1396 dX12_line_82 ?_
    subst hQ
    exact cEi X (rH2 (so_s hf) hH) hS (pf1 (so_s hf)) dX12_line_85
  have hf := fo_f hc1 hf
  by_cases hc2 : a3 = 2
  · have hf := fo_t hc2 hf
    refine lv_tableIn (tgt := 86) hx hb dX12_line_47 (by rw [hc2]; decide) (by rw [hc2]; decide) (by rw [hc2]; rfl) (by decide) ?_
    refine lv_aload_n hx hb dX12_line_86 rfl (lv_at hl 0 rfl) ?_
    refine ro_get (C := RX12) (N := 30) X hH 0 (by decide) rO rfl inBX12 19 (by decide) rfl bw1397 dX12_line_87 ?_
    subst hQ
    exact cEi X (rH2 (so_s hf) hH) hS (pf1 (so_s hf)) dX12_line_90
  have hf := fo_f hc2 hf
  by_cases hc3 : a3 = 3
  · have hf := fo_t hc3 hf
    refine lv_tableIn (tgt := 91) hx hb dX12_line_47 (by rw [hc3]; decide) (by rw [hc3]; decide) (by rw [hc3]; rfl) (by decide) ?_
    refine lv_aload_n hx hb dX12_line_91 rfl (lv_at hl 0 rfl) ?_
    refine ro_get (C := RX12) (N := 30) X hH 0 (by decide) rO rfl inBX12 20 (by decide) rfl bw1398 dX12_line_92 ?_
    subst hQ
    exact cEi X (rH2 (so_s hf) hH) hS (pf1 (so_s hf)) dX12_line_95
  have hf := fo_f hc3 hf
  refine lv_tableOut (tgt := 96) hx hb dX12_line_47 (sw_out (ks := [0, 1, 2, 3]) (by intro k hk; simp only [List.mem_cons, List.not_mem_nil, or_false] at hk; rcases hk with rfl | rfl | rfl | rfl <;> assumption) (sw_all 0 [0, 1, 2, 3] (by decide))) (by decide) ?_
  refine lv_iload_n hx hb dX12_line_96 rfl (lv_at hl 3 rfl) ?_
  refine lv_bipush (v := 10) hx hb dX12_line_97 (by decide) ?_
  refine lv_isub hx hb dX12_line_99 ?_
  refine lv_aload_n hx hb dX12_line_100 rfl (lv_at hl 0 rfl) ?_
  refine ro_get (C := RX12) (N := 30) X hH 0 (by decide) rO rfl inBX12 18 (by decide) rfl bw1396 dX12_line_101 ?_
  refine lv_icmp_ge (tgt := 119) hx hb dX12_line_104 (by decide) (fun hc => ?_) (fun hc => ?_)
  · have hf := fo_t hc hf
    refine lv_iconst (v := (-1)) hx hb dX12_line_119 (by decide) ?_
    subst hQ
    exact cEi X (rH2 (so_s hf) hH) hS (pf1 (so_s hf)) dX12_line_120
  have hf := fo_f hc hf
  refine lv_aload_n hx hb dX12_line_107 rfl (lv_at hl 0 rfl) ?_
  refine ro_get (C := RX12) (N := 30) X hH 0 (by decide) rO rfl inBX12 16 (by decide) rfl bw1394 dX12_line_108 ?_
  refine lv_iload_n hx hb dX12_line_111 rfl (lv_at hl 3 rfl) ?_
  refine lv_bipush (v := 10) hx hb dX12_line_112 (by decide) ?_
  refine lv_isub hx hb dX12_line_114 ?_
  by_cases hc : ((a3 - 10) < 0 ∨ 61 ≤ (a3 - 10).toNatClampNeg)
  · cases (fo_t hc hf)
  have hf := fo_f hc hf
  refine ra_ld X hH 10 (by decide) (by decide) hc dX12_line_115 ?_
  refine lv_goto (tgt := 120) hx hb dX12_line_116 (by decide) ?_
  subst hQ
  exact cEi X (rH2 (so_s hf) hH) hS (pf1 (so_s hf)) dX12_line_120
def f_X12_needs (w : CW) (a1 : Int32) (a2 : Int32) (a3 : Int32) : Option (Int32 × CW) := (Option.bind (f_X12_isVerse w a1) fun q2 => (if q2 = 0 then (some ((-1), w)) else (if (f_X12_isSort a3) = 0 then (some ((-1), w)) else (if (f_X12_isDay a2) = 0 then (some ((-2), w)) else (Option.bind (f_X12_sets w a1 a2) fun q32 => (if q32.1 = 0 then (some ((-9), q32.2)) else (if (a3 < 0 ∨ 27 ≤ a3.toNatClampNeg) then none else (some ((q32.2.1 11 a3.toNatClampNeg), q32.2)))))))))
abbrev rm_X12_needs : Room := { frames := 7, cells := 0, slots := 0, locals := 156 }
theorem cn_X12_needs : CN yX12_needs 3 := ⟨by decide +kernel, by decide +kernel, by decide +kernel⟩
set_option maxHeartbeats 4000000 in
set_option maxRecDepth 100000 in
theorem c_X12_needs (l : Launch) (G : GX) (w : CW) (a1 : Int32) (a2 : Int32) (a3 : Int32) (q : Int32 × CW) (hf : f_X12_needs w a1 a2 a3 = some q) : MI l G yX12_needs cX12_needs 4 (some .int) rm_X12_needs [.ref (G.2.2.1 300), .int a1, .int a2, .int a3] (rA G) (rH G w) (rH G q.2) q.1 := by
  refine cM_start (by decide +kernel) (Nat.le_of_ble_eq_true rfl) ?_
  intro p e s m below meth c ls X hH hl
  have hS : va_S (rA G) s.heap s.heap [] := va_S.rf
  have hx := X.1.1
  have hb := X.1.2.1
  generalize hargs : ([.ref (G.2.2.1 300), .int a1, .int a2, .int a3] : List Value).toArray = args at X ⊢
  generalize hQ : MQ below (QI (rA G) (rH G q.2) q.1) args s 0 0 (rA G) = Q
  have hl : lv_has ls 4 [(0, .ref (G.2.2.1 300)), (1, .int a1), (2, .int a2), (3, .int a3)] := hl
  unfold f_X12_needs at hf
  refine lv_aload_n hx hb dX12_needs_0 rfl (lv_at hl 0 rfl) ?_
  refine lv_iload_n hx hb dX12_needs_1 rfl (lv_at hl 1 rfl) ?_
  obtain ⟨q2, hq2, hf⟩ := bd_s hf
  refine cGz (cVrun (rest := []) X (c_X12_isVerse l G w a1 q2 hq2) bw1585 bw1587 bw63 bw105 bw1588 cn_X12_isVerse ⟨rfl, rfl, Nat.le_of_ble_eq_true rfl, Nat.le_of_ble_eq_true rfl⟩ (r_rec X hH) rA_g hH hS hl rfl (Nat.le_of_ble_eq_true rfl) dX12_needs_2) hS (fun hz2 H locs hH hS => ?_)
  refine lv_if_eq (tgt := 15) hx hb dX12_needs_5 (by decide) (fun hc => ?_) (fun hc => ?_)
  · have hf := fo_t hc hf
    refine lv_iconst (v := (-1)) hx hb dX12_needs_15 (by decide) ?_
    subst hQ
    exact cEi X (rH2 (so_s hf) hH) hS (pf1 (so_s hf)) dX12_needs_16
  have hf := fo_f hc hf
  refine lv_iload_n hx hb dX12_needs_8 rfl (lv_at hl 3 rfl) ?_
  refine cGi (cSrun (rest := []) X (c_X12_isSort l G (rH G w) (rA G) rA_g a3 _ rfl) bw1474 bw1475 bw105 bw1476 cn_X12_isSort ⟨rfl, rfl, Nat.le_of_ble_eq_true rfl, Nat.le_of_ble_eq_true rfl⟩ rA_g hH hS hl rfl (Nat.le_of_ble_eq_true rfl) dX12_needs_9) hS (fun H locs hH hS => ?_)
  refine lv_if_ne (tgt := 17) hx hb dX12_needs_12 (by decide) (fun hc => ?_) (fun hc => ?_)
  rotate_left
  · have hf := fo_t hc hf
    refine lv_iconst (v := (-1)) hx hb dX12_needs_15 (by decide) ?_
    subst hQ
    exact cEi X (rH2 (so_s hf) hH) hS (pf1 (so_s hf)) dX12_needs_16
  have hf := fo_f hc hf
  refine lv_iload_n hx hb dX12_needs_17 rfl (lv_at hl 2 rfl) ?_
  refine cGi (cSrun (rest := []) X (c_X12_isDay l G (rH G w) (rA G) rA_g a2 _ rfl) bw1505 bw1506 bw105 bw1507 cn_X12_isDay ⟨rfl, rfl, Nat.le_of_ble_eq_true rfl, Nat.le_of_ble_eq_true rfl⟩ rA_g hH hS hl rfl (Nat.le_of_ble_eq_true rfl) dX12_needs_18) hS (fun H locs hH hS => ?_)
  refine lv_if_ne (tgt := 29) hx hb dX12_needs_21 (by decide) (fun hc => ?_) (fun hc => ?_)
  rotate_left
  · have hf := fo_t hc hf
    refine lv_bipush (v := (-2)) hx hb dX12_needs_24 (by decide) ?_
    refine lv_goto (tgt := 49) hx hb dX12_needs_26 (by decide) ?_
    subst hQ
    exact cEi X (rH2 (so_s hf) hH) hS (pf1 (so_s hf)) dX12_needs_49
  have hf := fo_f hc hf
  refine lv_aload_n hx hb dX12_needs_29 rfl (lv_at hl 0 rfl) ?_
  refine lv_iload_n hx hb dX12_needs_30 rfl (lv_at hl 1 rfl) ?_
  refine lv_iload_n hx hb dX12_needs_31 rfl (lv_at hl 2 rfl) ?_
  obtain ⟨q32, hq32, hf⟩ := bd_s hf
  refine cGz (cVrun (rest := []) X (c_X12_sets l G w a1 a2 q32 hq32) bw1589 bw1591 bw64 bw105 bw1592 cn_X12_sets ⟨rfl, rfl, Nat.le_of_ble_eq_true rfl, Nat.le_of_ble_eq_true rfl⟩ (r_rec X hH) rA_g hH hS hl rfl (Nat.le_of_ble_eq_true rfl) dX12_needs_32) hS (fun hz32 H locs hH hS => ?_)
  refine lv_if_eq (tgt := 47) hx hb dX12_needs_35 (by decide) (fun hc => ?_) (fun hc => ?_)
  · have hf := fo_t hc hf
    refine lv_bipush (v := (-9)) hx hb dX12_needs_47 (by decide) ?_
    subst hQ
    exact cEi X (rH2 (so_s hf) hH) hS (pf1 (so_s hf)) dX12_needs_49
  have hf := fo_f hc hf
  refine lv_aload_n hx hb dX12_needs_38 rfl (lv_at hl 0 rfl) ?_
  refine ro_get (C := RX12) (N := 30) X hH 0 (by decide) rO rfl inBX12 17 (by decide) rfl bw1395 dX12_needs_39 ?_
  refine lv_iload_n hx hb dX12_needs_42 rfl (lv_at hl 3 rfl) ?_
  by_cases hc : (a3 < 0 ∨ 27 ≤ a3.toNatClampNeg)
  · cases (fo_t hc hf)
  have hf := fo_f hc hf
  refine ra_ld X hH 11 (by decide) (by decide) hc dX12_needs_43 ?_
  refine lv_goto (tgt := 49) hx hb dX12_needs_44 (by decide) ?_
  subst hQ
  exact cEi X (rH2 (so_s hf) hH) hS (pf1 (so_s hf)) dX12_needs_49
def f_X12_lacking_L2 (w : CW) : Nat → Int32 → Option (Int32)
  | 0, _ => none
  | n2 + 1, v2_1 => (if 27 ≤ v2_1 then (some (-5)) else (if ((50 + v2_1) < 0 ∨ 3250 ≤ (50 + v2_1).toNatClampNeg) then none else (if (v2_1 < 0 ∨ 27 ≤ v2_1.toNatClampNeg) then none else (if (w.1 11 v2_1.toNatClampNeg) ≤ (w.1 0 (50 + v2_1).toNatClampNeg) then (nmk (v2_1 + 1) fun (x28 : Int32) => (f_X12_lacking_L2 w n2 x28)) else (some v2_1)))))
def f_X12_lacking (w : CW) : Option (Int32) := (f_X12_lacking_L2 w FU 0)
abbrev rm_X12_lacking : Room := { frames := 1, cells := 0, slots := 0, locals := 0 }
theorem cn_X12_lacking : CN yX12_lacking 0 := ⟨by decide +kernel, by decide +kernel, by decide +kernel⟩
set_option maxHeartbeats 4000000 in
set_option maxRecDepth 100000 in
theorem c_X12_lacking (l : Launch) (G : GX) (w : CW) (q : Int32) (hf : f_X12_lacking w = some q) : MI l G yX12_lacking cX12_lacking 2 (some .int) rm_X12_lacking [.ref (G.2.2.1 300)] (rA G) (rH G w) (rH G w) q := by
  refine cM_start (by decide +kernel) (Nat.le_of_ble_eq_true rfl) ?_
  intro p e s m below meth c ls X hH hl
  have hS : va_S (rA G) s.heap s.heap [] := va_S.rf
  have hx := X.1.1
  have hb := X.1.2.1
  generalize hargs : ([.ref (G.2.2.1 300)] : List Value).toArray = args at X ⊢
  generalize hQ : MQ below (QI (rA G) (rH G w) q) args s 0 0 (rA G) = Q
  have hl : lv_has ls 2 [(0, .ref (G.2.2.1 300))] := hl
  unfold f_X12_lacking at hf
  refine lv_iconst (v := 0) hx hb dX12_lacking_0 (by decide) ?_
  refine lv_istore_n (lv' := [(1, .int 0), (0, .ref (G.2.2.1 300))]) hx hb dX12_lacking_1 rfl hl (by decide) rfl (fun ls hl => ?_)
  have hL2 : ∀ (n2 : Nat) (v2_1 : Int32) (H : Heap) (locs : List Loc) (ls : Array Slot), f_X12_lacking_L2 w n2 v2_1 = some q → rH G w H → va_S (rA G) s.heap H locs → lv_has ls 2 [(1, .int v2_1), (0, .ref (G.2.2.1 300))] → W p l e rm_X12_lacking s m args below meth c H locs 0 0 Q (F0 m 2 ls []) := by
    intro n2
    induction n2 with
    | zero => intro v2_1 H locs ls hf; rw [f_X12_lacking_L2] at hf; cases hf
    | succ n2 ih2 =>
      intro v2_1 H locs ls hf hH hS hl
      rw [f_X12_lacking_L2] at hf
      refine lv_iload_n hx hb dX12_lacking_2 rfl (lv_at hl 0 rfl) ?_
      refine lv_bipush (v := 27) hx hb dX12_lacking_3 (by decide) ?_
      refine lv_icmp_ge (tgt := 34) hx hb dX12_lacking_5 (by decide) (fun hc => ?_) (fun hc => ?_)
      · have hf := fo_t hc hf
        refine lv_bipush (v := (-5)) hx hb dX12_lacking_34 (by decide) ?_
        subst hQ
        exact cEi X hH hS (so_s hf) dX12_lacking_36
      have hf := fo_f hc hf
      refine lv_aload_n hx hb dX12_lacking_8 rfl (lv_at hl 1 rfl) ?_
      refine ro_get (C := RX12) (N := 30) X hH 0 (by decide) rO rfl inBX12 1 (by decide) rfl bw1379 dX12_lacking_9 ?_
      refine lv_bipush (v := 50) hx hb dX12_lacking_12 (by decide) ?_
      refine lv_iload_n hx hb dX12_lacking_14 rfl (lv_at hl 0 rfl) ?_
      refine lv_iadd hx hb dX12_lacking_15 ?_
      by_cases hc : ((50 + v2_1) < 0 ∨ 3250 ≤ (50 + v2_1).toNatClampNeg)
      · cases (fo_t hc hf)
      have hf := fo_f hc hf
      refine ra_ld X hH 0 (by decide) (by decide) hc dX12_lacking_16 ?_
      refine lv_aload_n hx hb dX12_lacking_17 rfl (lv_at hl 1 rfl) ?_
      refine ro_get (C := RX12) (N := 30) X hH 0 (by decide) rO rfl inBX12 17 (by decide) rfl bw1395 dX12_lacking_18 ?_
      refine lv_iload_n hx hb dX12_lacking_21 rfl (lv_at hl 0 rfl) ?_
      by_cases hc : (v2_1 < 0 ∨ 27 ≤ v2_1.toNatClampNeg)
      · cases (fo_t hc hf)
      have hf := fo_f hc hf
      refine ra_ld X hH 11 (by decide) (by decide) hc dX12_lacking_22 ?_
      refine lv_icmp_ge (tgt := 28) hx hb dX12_lacking_23 (by decide) (fun hc => ?_) (fun hc => ?_)
      rotate_left
      · have hf := fo_f hc hf
        refine lv_iload_n hx hb dX12_lacking_26 rfl (lv_at hl 0 rfl) ?_
        subst hQ
        exact cEi X hH hS (so_s hf) dX12_lacking_27
      have hf := fo_t hc hf
      obtain ⟨x28, ex28⟩ : ∃ z : Int32, z = (v2_1 + 1) := ⟨_, rfl⟩
      have hf := nm_s hf x28 ex28
      refine lv_iinc (v := x28) (lv' := [(1, .int x28), (0, .ref (G.2.2.1 300))]) hx hb dX12_lacking_28 hl (k := 0) rfl (by rw [ex28]; rfl) (by decide) rfl (fun ls hl => ?_)
      refine lv_goto (tgt := 2) hx hb dX12_lacking_31 (by decide) ?_
      exact ih2 _ _ _ _ hf hH hS (lv_sub hl [0, 1] rfl)
  exact hL2 _ _ _ _ _ hf hH hS (lv_sub hl [0, 1] rfl)
def f_X12_spares_L46 (w : CW) (a1 : Int32) (a3 : Int32) (a4 : Int32) (x19 : Int32) (j113 : Int32 → Int32 → Option (Int32)) : Nat → Int32 → Int32 → Int32 → Option (Int32)
  | 0, _, _, _ => none
  | n46 + 1, v46_6, v46_7, v46_8 => (if x19 ≤ v46_8 then (j113 v46_6 v46_7) else (if v46_6 = 0 then (j113 v46_6 v46_7) else (if ((a3 + v46_8) < 0 ∨ 61 ≤ (a3 + v46_8).toNatClampNeg) then none else (nmk (if (w.1 9 (a3 + v46_8).toNatClampNeg) = 1 then 1 else 0) fun (x76 : Int32) => (nmk (fun (z105_0 : Int32) => (nmk (v46_8 + 1) fun (x107 : Int32) => (f_X12_spares_L46 w a1 a3 a4 x19 j113 n46 x76 z105_0 x107))) fun j105 => (nmk (fun (_ : Unit) => (j105 1)) fun j100 => (if v46_7 = 0 then (Option.bind (f_X12_at w a1 (a3 + v46_8)) fun q89 => (if (q89 - 97) = a4 then (j100 ()) else (j105 0))) else (j100 ()))))))))
def f_X12_spares (w : CW) (a1 : Int32) (a2 : Int32) (a3 : Int32) (a4 : Int32) : Option (Int32) := (if (a2 < 0 ∨ 80 ≤ a2.toNatClampNeg) then none else (nmk (if ((w.1 4 a2.toNatClampNeg) - (w.1 4 a2.toNatClampNeg) / 100 * 100) = 99 then 2 else 3) fun (x19 : Int32) => (Option.bind (f_X12_formAt w a1 a3 x19) fun q26 => (nmk (if q26 = a2 then 1 else 0) fun (x38 : Int32) => (nmk (fun (y113_6 : Int32) (y113_7 : Int32) => (some (if y113_6 = 0 then 0 else (if y113_7 = 0 then 0 else 1)))) fun j113 => (f_X12_spares_L46 w a1 a3 a4 x19 j113 FU x38 0 0))))))
abbrev rm_X12_spares : Room := { frames := 3, cells := 0, slots := 0, locals := 48 }
theorem cn_X12_spares : CN yX12_spares 4 := ⟨by decide +kernel, by decide +kernel, by decide +kernel⟩
set_option maxHeartbeats 4000000 in
set_option maxRecDepth 100000 in
theorem c_X12_spares (l : Launch) (G : GX) (w : CW) (a1 : Int32) (a2 : Int32) (a3 : Int32) (a4 : Int32) (q : Int32) (hf : f_X12_spares w a1 a2 a3 a4 = some q) : MZ l G yX12_spares cX12_spares 9 (some .boolean) rm_X12_spares [.ref (G.2.2.1 300), .int a1, .int a2, .int a3, .int a4] (rA G) (rH G w) (rH G w) q := by
  refine cM_start (by decide +kernel) (Nat.le_of_ble_eq_true rfl) ?_
  intro p e s m below meth c ls X hH hl
  have hS : va_S (rA G) s.heap s.heap [] := va_S.rf
  have hx := X.1.1
  have hb := X.1.2.1
  generalize hargs : ([.ref (G.2.2.1 300), .int a1, .int a2, .int a3, .int a4] : List Value).toArray = args at X ⊢
  generalize hQ : MQ below (QZ (rA G) (rH G w) q) args s 0 0 (rA G) = Q
  have hl : lv_has ls 9 [(0, .ref (G.2.2.1 300)), (1, .int a1), (2, .int a2), (3, .int a3), (4, .int a4)] := hl
  unfold f_X12_spares at hf
  refine lv_aload_n hx hb dX12_spares_0 rfl (lv_at hl 0 rfl) ?_
  refine ro_get (C := RX12) (N := 30) X hH 0 (by decide) rO rfl inBX12 9 (by decide) rfl bw1387 dX12_spares_1 ?_
  refine lv_iload_n hx hb dX12_spares_4 rfl (lv_at hl 2 rfl) ?_
  by_cases hc : (a2 < 0 ∨ 80 ≤ a2.toNatClampNeg)
  · cases (fo_t hc hf)
  have hf := fo_f hc hf
  refine ra_ld X hH 4 (by decide) (by decide) hc dX12_spares_5 ?_
  refine lv_bipush (v := 100) hx hb dX12_spares_6 (by decide) ?_
  refine lv_irem hx hb dX12_spares_8 (by decide) ?_
  refine lv_bipush (v := 99) hx hb dX12_spares_9 (by decide) ?_
  have hJ : ∀ (H : Heap) (locs : List Loc), rH G w H → va_S (rA G) s.heap H locs → W p l e rm_X12_spares s m args below meth c H locs 0 0 Q (F0 m 19 ls [.int (if ((w.1 4 a2.toNatClampNeg) - (w.1 4 a2.toNatClampNeg) / 100 * 100) = 99 then 2 else 3)]) := by
    intro H locs hH hS
    refine lv_topi (fun x19 ex19 => ?_)
    have hf := nm_s hf x19 ex19
    refine lv_istore (lv' := [(5, .int x19), (0, .ref (G.2.2.1 300)), (1, .int a1), (2, .int a2), (3, .int a3), (4, .int a4)]) hx hb dX12_spares_19 hl (by decide) rfl (fun ls hl => ?_)
    refine lv_aload_n hx hb dX12_spares_21 rfl (lv_at hl 1 rfl) ?_
    refine lv_iload_n hx hb dX12_spares_22 rfl (lv_at hl 2 rfl) ?_
    refine lv_iload_n hx hb dX12_spares_23 rfl (lv_at hl 4 rfl) ?_
    refine lv_iload hx hb dX12_spares_24 (lv_at hl 0 rfl) ?_
    obtain ⟨q26, hq26, hf⟩ := bd_s hf
    refine cGi (cVrun (rest := []) X (c_X12_formAt l G w a1 a3 x19 q26 hq26) bw1614 bw1616 bw70 bw105 bw1617 cn_X12_formAt ⟨rfl, rfl, Nat.le_of_ble_eq_true rfl, Nat.le_of_ble_eq_true rfl⟩ (r_rec X hH) rA_g hH hS hl rfl (Nat.le_of_ble_eq_true rfl) dX12_spares_26) hS (fun H locs hH hS => ?_)
    refine lv_iload_n hx hb dX12_spares_29 rfl (lv_at hl 3 rfl) ?_
    have hJ : ∀ (H : Heap) (locs : List Loc), rH G w H → va_S (rA G) s.heap H locs → W p l e rm_X12_spares s m args below meth c H locs 0 0 Q (F0 m 38 ls [.int (if q26 = a2 then 1 else 0)]) := by
      intro H locs hH hS
      refine lv_topi (fun x38 ex38 => ?_)
      have hf := nm_s hf x38 ex38
      refine lv_istore (lv' := [(6, .int x38), (5, .int x19), (0, .ref (G.2.2.1 300)), (1, .int a1), (2, .int a2), (3, .int a3), (4, .int a4)]) hx hb dX12_spares_38 hl (by decide) rfl (fun ls hl => ?_)
      refine lv_iconst (v := 0) hx hb dX12_spares_40 (by decide) ?_
      refine lv_istore (lv' := [(7, .int 0), (6, .int x38), (5, .int x19), (0, .ref (G.2.2.1 300)), (1, .int a1), (2, .int a2), (3, .int a3), (4, .int a4)]) hx hb dX12_spares_41 hl (by decide) rfl (fun ls hl => ?_)
      refine lv_iconst (v := 0) hx hb dX12_spares_43 (by decide) ?_
      refine lv_istore (lv' := [(8, .int 0), (7, .int 0), (6, .int x38), (5, .int x19), (0, .ref (G.2.2.1 300)), (1, .int a1), (2, .int a2), (3, .int a3), (4, .int a4)]) hx hb dX12_spares_44 hl (by decide) rfl (fun ls hl => ?_)
      obtain ⟨j113, ej113, hf⟩ := nm_x hf
      have hj113 : ∀ (y113_6 : Int32) (y113_7 : Int32) (H : Heap) (locs : List Loc) (ls : Array Slot), j113 y113_6 y113_7 = some q → rH G w H → va_S (rA G) s.heap H locs → lv_has ls 9 [(7, .int y113_7), (6, .int y113_6)] → W p l e rm_X12_spares s m args below meth c H locs 0 0 Q (F0 m 113 ls []) := by
        intro y113_6 y113_7 H locs ls hf hH hS hl
        have hf := jb2 ej113 hf
        refine lv_iload hx hb dX12_spares_113 (lv_at hl 1 rfl) ?_
        have hJ : ∀ (H : Heap) (locs : List Loc), rH G w H → va_S (rA G) s.heap H locs → W p l e rm_X12_spares s m args below meth c H locs 0 0 Q (F0 m 128 ls [.int (if y113_6 = 0 then 0 else (if y113_7 = 0 then 0 else 1))]) := by
          intro H locs hH hS
          subst hQ
          exact cEzz X hH hS (so_s hf) (zb_ite zb0 (zb_ite zb0 zb1)) dX12_spares_128
        refine lv_if_eq (tgt := 127) hx hb dX12_spares_115 (by decide) (fun hc115 => ?_) (fun hc115 => ?_)
        · refine lv_iconst (v := 0) hx hb dX12_spares_127 (by decide) ?_
          exact W.eq (by rw [if_pos hc115] <;> rfl) (hJ _ _ hH hS)
        · refine lv_iload hx hb dX12_spares_118 (lv_at hl 0 rfl) ?_
          refine lv_if_eq (tgt := 127) hx hb dX12_spares_120 (by decide) (fun hc120 => ?_) (fun hc120 => ?_)
          · refine lv_iconst (v := 0) hx hb dX12_spares_127 (by decide) ?_
            exact W.eq (by rw [if_neg hc115, if_pos hc120] <;> rfl) (hJ _ _ hH hS)
          · refine lv_iconst (v := 1) hx hb dX12_spares_123 (by decide) ?_
            refine lv_goto (tgt := 128) hx hb dX12_spares_124 (by decide) ?_
            exact W.eq (by rw [if_neg hc115, if_neg hc120] <;> rfl) (hJ _ _ hH hS)
      have hL46 : ∀ (n46 : Nat) (v46_6 : Int32) (v46_7 : Int32) (v46_8 : Int32) (H : Heap) (locs : List Loc) (ls : Array Slot), f_X12_spares_L46 w a1 a3 a4 x19 j113 n46 v46_6 v46_7 v46_8 = some q → rH G w H → va_S (rA G) s.heap H locs → lv_has ls 9 [(8, .int v46_8), (7, .int v46_7), (6, .int v46_6), (5, .int x19), (0, .ref (G.2.2.1 300)), (1, .int a1), (3, .int a3), (4, .int a4)] → W p l e rm_X12_spares s m args below meth c H locs 0 0 Q (F0 m 46 ls []) := by
        intro n46
        induction n46 with
        | zero => intro v46_6 v46_7 v46_8 H locs ls hf; rw [f_X12_spares_L46] at hf; cases hf
        | succ n46 ih46 =>
          intro v46_6 v46_7 v46_8 H locs ls hf hH hS hl
          rw [f_X12_spares_L46] at hf
          refine lv_iload hx hb dX12_spares_46 (lv_at hl 0 rfl) ?_
          refine lv_iload hx hb dX12_spares_48 (lv_at hl 3 rfl) ?_
          refine lv_icmp_ge (tgt := 113) hx hb dX12_spares_50 (by decide) (fun hc => ?_) (fun hc => ?_)
          · have hf := fo_t hc hf
            exact hj113 _ _ _ _ _ hf hH hS (lv_sub hl [1, 2] rfl)
          have hf := fo_f hc hf
          refine lv_iload hx hb dX12_spares_53 (lv_at hl 2 rfl) ?_
          refine lv_if_eq (tgt := 113) hx hb dX12_spares_55 (by decide) (fun hc => ?_) (fun hc => ?_)
          · have hf := fo_t hc hf
            exact hj113 _ _ _ _ _ hf hH hS (lv_sub hl [1, 2] rfl)
          have hf := fo_f hc hf
          refine lv_aload_n hx hb dX12_spares_58 rfl (lv_at hl 4 rfl) ?_
          refine ro_get (C := RX12) (N := 30) X hH 0 (by decide) rO rfl inBX12 15 (by decide) rfl bw1393 dX12_spares_59 ?_
          refine lv_iload_n hx hb dX12_spares_62 rfl (lv_at hl 6 rfl) ?_
          refine lv_iload hx hb dX12_spares_63 (lv_at hl 0 rfl) ?_
          refine lv_iadd hx hb dX12_spares_65 ?_
          by_cases hc : ((a3 + v46_8) < 0 ∨ 61 ≤ (a3 + v46_8).toNatClampNeg)
          · cases (fo_t hc hf)
          have hf := fo_f hc hf
          refine ra_ld X hH 9 (by decide) (by decide) hc dX12_spares_66 ?_
          refine lv_iconst (v := 1) hx hb dX12_spares_67 (by decide) ?_
          have hJ : ∀ (H : Heap) (locs : List Loc), rH G w H → va_S (rA G) s.heap H locs → W p l e rm_X12_spares s m args below meth c H locs 0 0 Q (F0 m 76 ls [.int (if (w.1 9 (a3 + v46_8).toNatClampNeg) = 1 then 1 else 0)]) := by
            intro H locs hH hS
            refine lv_topi (fun x76 ex76 => ?_)
            have hf := nm_s hf x76 ex76
            refine lv_istore (lv' := [(6, .int x76), (8, .int v46_8), (7, .int v46_7), (5, .int x19), (0, .ref (G.2.2.1 300)), (1, .int a1), (3, .int a3), (4, .int a4)]) hx hb dX12_spares_76 hl (by decide) rfl (fun ls hl => ?_)
            refine lv_iload hx hb dX12_spares_78 (lv_at hl 2 rfl) ?_
            obtain ⟨j105, ej105, hf⟩ := nm_x hf
            have hj105 : ∀ (z105_0 : Int32) (H : Heap) (locs : List Loc) (ls : Array Slot), (z105_0 = 0 ∨ z105_0 = 1) → j105 z105_0 = some q → rH G w H → va_S (rA G) s.heap H locs → lv_has ls 9 [(6, .int x76), (8, .int v46_8), (5, .int x19), (0, .ref (G.2.2.1 300)), (1, .int a1), (3, .int a3), (4, .int a4)] → W p l e rm_X12_spares s m args below meth c H locs 0 0 Q (F0 m 105 ls [.int z105_0]) := by
              intro z105_0 H locs ls hzz105_0 hf hH hS hl
              have hf := jb1 ej105 hf
              refine lv_istore (lv' := [(7, .int z105_0), (6, .int x76), (8, .int v46_8), (5, .int x19), (0, .ref (G.2.2.1 300)), (1, .int a1), (3, .int a3), (4, .int a4)]) hx hb dX12_spares_105 hl (by decide) rfl (fun ls hl => ?_)
              obtain ⟨x107, ex107⟩ : ∃ z : Int32, z = (v46_8 + 1) := ⟨_, rfl⟩
              have hf := nm_s hf x107 ex107
              refine lv_iinc (v := x107) (lv' := [(8, .int x107), (7, .int z105_0), (6, .int x76), (5, .int x19), (0, .ref (G.2.2.1 300)), (1, .int a1), (3, .int a3), (4, .int a4)]) hx hb dX12_spares_107 hl (k := 2) rfl (by rw [ex107]; rfl) (by decide) rfl (fun ls hl => ?_)
              refine lv_goto (tgt := 46) hx hb dX12_spares_110 (by decide) ?_
              exact ih46 _ _ _ _ _ _ hf hH hS (lv_sub hl [0, 1, 2, 3, 4, 5, 6, 7] rfl)
            obtain ⟨j100, ej100, hf⟩ := nm_x hf
            have hj100 : ∀ (u0 : Unit) (H : Heap) (locs : List Loc) (ls : Array Slot), j100 u0 = some q → rH G w H → va_S (rA G) s.heap H locs → lv_has ls 9 [(6, .int x76), (8, .int v46_8), (5, .int x19), (0, .ref (G.2.2.1 300)), (1, .int a1), (3, .int a3), (4, .int a4)] → W p l e rm_X12_spares s m args below meth c H locs 0 0 Q (F0 m 100 ls []) := by
              intro u0 H locs ls hf hH hS hl
              have hf := jb1 ej100 hf
              refine lv_iconst (v := 1) hx hb dX12_spares_100 (by decide) ?_
              refine lv_goto (tgt := 105) hx hb dX12_spares_101 (by decide) ?_
              exact hj105 _ _ _ _ zb1 hf hH hS (lv_sub hl [0, 1, 2, 3, 4, 5, 6] rfl)
            refine lv_if_ne (tgt := 100) hx hb dX12_spares_80 (by decide) (fun hc => ?_) (fun hc => ?_)
            · have hf := fo_f hc hf
              exact hj100 () _ _ _ hf hH hS (lv_sub hl [0, 1, 3, 4, 5, 6, 7] rfl)
            have hf := fo_t hc hf
            refine lv_aload_n hx hb dX12_spares_83 rfl (lv_at hl 4 rfl) ?_
            refine lv_iload_n hx hb dX12_spares_84 rfl (lv_at hl 5 rfl) ?_
            refine lv_iload_n hx hb dX12_spares_85 rfl (lv_at hl 6 rfl) ?_
            refine lv_iload hx hb dX12_spares_86 (lv_at hl 1 rfl) ?_
            refine lv_iadd hx hb dX12_spares_88 ?_
            obtain ⟨q89, hq89, hf⟩ := bd_s hf
            refine cGi (cVrun (rest := []) X (c_X12_at l G w a1 (a3 + v46_8) q89 hq89) bw1602 bw1604 bw67 bw105 bw1605 cn_X12_at ⟨rfl, rfl, Nat.le_of_ble_eq_true rfl, Nat.le_of_ble_eq_true rfl⟩ (r_rec X hH) rA_g hH hS hl rfl (Nat.le_of_ble_eq_true rfl) dX12_spares_89) hS (fun H locs hH hS => ?_)
            refine lv_bipush (v := 97) hx hb dX12_spares_92 (by decide) ?_
            refine lv_isub hx hb dX12_spares_94 ?_
            refine lv_iload hx hb dX12_spares_95 (lv_at hl 7 rfl) ?_
            refine lv_icmp_ne (tgt := 104) hx hb dX12_spares_97 (by decide) (fun hc => ?_) (fun hc => ?_)
            rotate_left
            · have hf := fo_t hc hf
              exact hj100 () _ _ _ hf hH hS (lv_sub hl [0, 1, 3, 4, 5, 6, 7] rfl)
            have hf := fo_f hc hf
            refine lv_iconst (v := 0) hx hb dX12_spares_104 (by decide) ?_
            exact hj105 _ _ _ _ zb0 hf hH hS (lv_sub hl [0, 1, 3, 4, 5, 6, 7] rfl)
          refine lv_icmp_ne (tgt := 75) hx hb dX12_spares_68 (by decide) (fun hc68 => ?_) (fun hc68 => ?_)
          · refine lv_iconst (v := 0) hx hb dX12_spares_75 (by decide) ?_
            exact W.eq (by rw [if_neg hc68] <;> rfl) (hJ _ _ hH hS)
          · refine lv_iconst (v := 1) hx hb dX12_spares_71 (by decide) ?_
            refine lv_goto (tgt := 76) hx hb dX12_spares_72 (by decide) ?_
            exact W.eq (by rw [if_pos hc68] <;> rfl) (hJ _ _ hH hS)
      exact hL46 _ _ _ _ _ _ _ hf hH hS (lv_sub hl [0, 1, 2, 3, 4, 5, 7, 8] rfl)
    refine lv_icmp_ne (tgt := 37) hx hb dX12_spares_30 (by decide) (fun hc30 => ?_) (fun hc30 => ?_)
    · refine lv_iconst (v := 0) hx hb dX12_spares_37 (by decide) ?_
      exact W.eq (by rw [if_neg hc30] <;> rfl) (hJ _ _ hH hS)
    · refine lv_iconst (v := 1) hx hb dX12_spares_33 (by decide) ?_
      refine lv_goto (tgt := 38) hx hb dX12_spares_34 (by decide) ?_
      exact W.eq (by rw [if_pos hc30] <;> rfl) (hJ _ _ hH hS)
  refine lv_icmp_ne (tgt := 18) hx hb dX12_spares_11 (by decide) (fun hc11 => ?_) (fun hc11 => ?_)
  · refine lv_iconst (v := 3) hx hb dX12_spares_18 (by decide) ?_
    exact W.eq (by rw [if_neg hc11] <;> rfl) (hJ _ _ hH hS)
  · refine lv_iconst (v := 2) hx hb dX12_spares_14 (by decide) ?_
    refine lv_goto (tgt := 19) hx hb dX12_spares_15 (by decide) ?_
    exact W.eq (by rw [if_pos hc11] <;> rfl) (hJ _ _ hH hS)
