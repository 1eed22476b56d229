def f_X12_in (a0 : Int32) (a1 : Int32) (a2 : Int32) : Int32 := ((if a0 < a1 then 0 else (if a2 < a0 then 0 else 1)))
abbrev rm_X12_in : Room := { frames := 1, cells := 0, slots := 0, locals := 0 }
theorem cn_X12_in : CN yX12_in 3 := ⟨by decide +kernel, by decide +kernel, by decide +kernel⟩
set_option maxHeartbeats 4000000 in
set_option maxRecDepth 100000 in
theorem c_X12_in (l : Launch) (G : GX) (P : Heap → Prop) (A : Nat → Prop) (hAG : ∀ q, A q → gA G q) (a0 : Int32) (a1 : Int32) (a2 : Int32) (q : Int32) (hf : f_X12_in a0 a1 a2 = q) : MI l G yX12_in cX12_in 3 (some .boolean) rm_X12_in [.int a0, .int a1, .int a2] A P P q := by
  refine cM_start (by decide +kernel) (Nat.le_of_ble_eq_true rfl) ?_
  intro p e s m below meth c ls X hH hl
  have hS : va_S A s.heap s.heap [] := va_S.rf
  have hx := X.1.1
  have hb := X.1.2.1
  generalize hargs : ([.int a0, .int a1, .int a2] : List Value).toArray = args at X ⊢
  generalize hQ : MQ below (QI A P q) args s 0 0 A = Q
  have hl : lv_has ls 3 [(0, .int a0), (1, .int a1), (2, .int a2)] := hl
  unfold f_X12_in at hf
  refine lv_iload_n hx hb dX12_in_0 rfl (lv_at hl 0 rfl) ?_
  refine lv_iload_n hx hb dX12_in_1 rfl (lv_at hl 1 rfl) ?_
  have hJ : ∀ (H : Heap) (locs : List Loc), P H → va_S A s.heap H locs → W p l e rm_X12_in s m args below meth c H locs 0 0 Q (F0 m 15 ls [.int (if a0 < a1 then 0 else (if a2 < a0 then 0 else 1))]) := by
    intro H locs hH hS
    subst hQ
    exact cEz X hH hS (hf) (nz (zb_ite zb0 (zb_ite zb0 zb1))) dX12_in_15
  refine lv_icmp_lt (tgt := 14) hx hb dX12_in_2 (by decide) (fun hc2 => ?_) (fun hc2 => ?_)
  · refine lv_iconst (v := 0) hx hb dX12_in_14 (by decide) ?_
    exact W.eq (by rw [if_pos hc2] <;> rfl) (hJ _ _ hH hS)
  · refine lv_iload_n hx hb dX12_in_5 rfl (lv_at hl 0 rfl) ?_
    refine lv_iload_n hx hb dX12_in_6 rfl (lv_at hl 2 rfl) ?_
    refine lv_icmp_gt (tgt := 14) hx hb dX12_in_7 (by decide) (fun hc7 => ?_) (fun hc7 => ?_)
    · refine lv_iconst (v := 0) hx hb dX12_in_14 (by decide) ?_
      exact W.eq (by rw [if_neg hc2, if_pos hc7] <;> rfl) (hJ _ _ hH hS)
    · refine lv_iconst (v := 1) hx hb dX12_in_10 (by decide) ?_
      refine lv_goto (tgt := 15) hx hb dX12_in_11 (by decide) ?_
      exact W.eq (by rw [if_neg hc2, if_neg hc7] <;> rfl) (hJ _ _ hH hS)
theorem zb_X12_in (a0 : Int32) (a1 : Int32) (a2 : Int32) : f_X12_in a0 a1 a2 = 0 ∨ f_X12_in a0 a1 a2 = 1 := by
  unfold f_X12_in
  try simp only [nmk]
  repeat' (first | exact zb0 | exact zb1 | refine zb_ite ?_ ?_)
def f_X12_isSort (a0 : Int32) : Int32 := ((f_X12_in a0 0 26))
abbrev rm_X12_isSort : Room := { frames := 2, cells := 0, slots := 0, locals := 22 }
theorem cn_X12_isSort : CN yX12_isSort 1 := ⟨by decide +kernel, by decide +kernel, by decide +kernel⟩
set_option maxHeartbeats 4000000 in
set_option maxRecDepth 100000 in
theorem c_X12_isSort (l : Launch) (G : GX) (P : Heap → Prop) (A : Nat → Prop) (hAG : ∀ q, A q → gA G q) (a0 : Int32) (q : Int32) (hf : f_X12_isSort a0 = q) : MI l G yX12_isSort cX12_isSort 1 (some .boolean) rm_X12_isSort [.int a0] A P P q := by
  refine cM_start (by decide +kernel) (Nat.le_of_ble_eq_true rfl) ?_
  intro p e s m below meth c ls X hH hl
  have hS : va_S A s.heap s.heap [] := va_S.rf
  have hx := X.1.1
  have hb := X.1.2.1
  generalize hargs : ([.int a0] : List Value).toArray = args at X ⊢
  generalize hQ : MQ below (QI A P q) args s 0 0 A = Q
  have hl : lv_has ls 1 [(0, .int a0)] := hl
  unfold f_X12_isSort at hf
  refine lv_iload_n hx hb dX12_isSort_0 rfl (lv_at hl 0 rfl) ?_
  refine lv_iconst (v := 0) hx hb dX12_isSort_1 (by decide) ?_
  refine lv_bipush (v := 26) hx hb dX12_isSort_2 (by decide) ?_
  refine cGi (cSrun (rest := []) X (c_X12_in l G P A hAG a0 0 26 _ rfl) bw1477 bw1478 bw105 bw1479 cn_X12_in ⟨rfl, rfl, Nat.le_of_ble_eq_true rfl, Nat.le_of_ble_eq_true rfl⟩ hAG hH hS hl rfl (Nat.le_of_ble_eq_true rfl) dX12_isSort_4) hS (fun H locs hH hS => ?_)
  subst hQ
  exact cEz X hH hS (hf) (nz (zb_X12_in a0 0 26)) dX12_isSort_7
theorem zb_X12_isSort (a0 : Int32) : f_X12_isSort a0 = 0 ∨ f_X12_isSort a0 = 1 := by
  unfold f_X12_isSort
  try simp only [nmk]
  repeat' (first | exact zb0 | exact zb1 | apply zb_X12_in | refine zb_ite ?_ ?_)
def f_X12_isDay (a0 : Int32) : Int32 := ((f_X12_in a0 0 999))
abbrev rm_X12_isDay : Room := { frames := 2, cells := 0, slots := 0, locals := 22 }
theorem cn_X12_isDay : CN yX12_isDay 1 := ⟨by decide +kernel, by decide +kernel, by decide +kernel⟩
set_option maxHeartbeats 4000000 in
set_option maxRecDepth 100000 in
theorem c_X12_isDay (l : Launch) (G : GX) (P : Heap → Prop) (A : Nat → Prop) (hAG : ∀ q, A q → gA G q) (a0 : Int32) (q : Int32) (hf : f_X12_isDay a0 = q) : MI l G yX12_isDay cX12_isDay 1 (some .boolean) rm_X12_isDay [.int a0] A P P q := by
  refine cM_start (by decide +kernel) (Nat.le_of_ble_eq_true rfl) ?_
  intro p e s m below meth c ls X hH hl
  have hS : va_S A s.heap s.heap [] := va_S.rf
  have hx := X.1.1
  have hb := X.1.2.1
  generalize hargs : ([.int a0] : List Value).toArray = args at X ⊢
  generalize hQ : MQ below (QI A P q) args s 0 0 A = Q
  have hl : lv_has ls 1 [(0, .int a0)] := hl
  unfold f_X12_isDay at hf
  refine lv_iload_n hx hb dX12_isDay_0 rfl (lv_at hl 0 rfl) ?_
  refine lv_iconst (v := 0) hx hb dX12_isDay_1 (by decide) ?_
  refine lv_sipush (v := 999) hx hb dX12_isDay_2 (by decide) ?_
  refine cGi (cSrun (rest := []) X (c_X12_in l G P A hAG a0 0 999 _ rfl) bw1477 bw1478 bw105 bw1479 cn_X12_in ⟨rfl, rfl, Nat.le_of_ble_eq_true rfl, Nat.le_of_ble_eq_true rfl⟩ hAG hH hS hl rfl (Nat.le_of_ble_eq_true rfl) dX12_isDay_5) hS (fun H locs hH hS => ?_)
  subst hQ
  exact cEz X hH hS (hf) (nz (zb_X12_in a0 0 999)) dX12_isDay_8
theorem zb_X12_isDay (a0 : Int32) : f_X12_isDay a0 = 0 ∨ f_X12_isDay a0 = 1 := by
  unfold f_X12_isDay
  try simp only [nmk]
  repeat' (first | exact zb0 | exact zb1 | apply zb_X12_in | refine zb_ite ?_ ?_)
def f_X12_standing_L4 (w : CW) : Nat → Int32 → Int32 → Option (Int32)
  | 0, _, _ => none
  | n4 + 1, v4_1, v4_2 => (if ((3 : Int32) < 0 ∨ 3250 ≤ (3 : Int32).toNatClampNeg) then none else (if (w.1 0 (3 : Int32).toNatClampNeg) ≤ v4_2 then (some v4_1) else (if ((2290 + v4_2) < 0 ∨ 3250 ≤ (2290 + v4_2).toNatClampNeg) then none else (nmk (v4_1 + (w.1 0 (2290 + v4_2).toNatClampNeg)) fun (x26 : Int32) => (nmk (v4_2 + 1) fun (x27 : Int32) => (f_X12_standing_L4 w n4 x26 x27))))))
def f_X12_standing (w : CW) : Option (Int32) := (f_X12_standing_L4 w FU 0 0)
abbrev rm_X12_standing : Room := { frames := 1, cells := 0, slots := 0, locals := 0 }
theorem cn_X12_standing : CN yX12_standing 0 := ⟨by decide +kernel, by decide +kernel, by decide +kernel⟩
set_option maxHeartbeats 4000000 in
set_option maxRecDepth 100000 in
theorem c_X12_standing (l : Launch) (G : GX) (w : CW) (q : Int32) (hf : f_X12_standing w = some q) : MI l G yX12_standing cX12_standing 3 (some .int) rm_X12_standing [.ref (G.2.2.1 300)] (rA G) (rH G w) (rH G w) q := by
  refine cM_start (by decide +kernel) (Nat.le_of_ble_eq_true rfl) ?_
  intro p e s m below meth c ls X hH hl
  have hS : va_S (rA G) s.heap s.heap [] := va_S.rf
  have hx := X.1.1
  have hb := X.1.2.1
  generalize hargs : ([.ref (G.2.2.1 300)] : List Value).toArray = args at X ⊢
  generalize hQ : MQ below (QI (rA G) (rH G w) q) args s 0 0 (rA G) = Q
  have hl : lv_has ls 3 [(0, .ref (G.2.2.1 300))] := hl
  unfold f_X12_standing at hf
  refine lv_iconst (v := 0) hx hb dX12_standing_0 (by decide) ?_
  refine lv_istore_n (lv' := [(1, .int 0), (0, .ref (G.2.2.1 300))]) hx hb dX12_standing_1 rfl hl (by decide) rfl (fun ls hl => ?_)
  refine lv_iconst (v := 0) hx hb dX12_standing_2 (by decide) ?_
  refine lv_istore_n (lv' := [(2, .int 0), (1, .int 0), (0, .ref (G.2.2.1 300))]) hx hb dX12_standing_3 rfl hl (by decide) rfl (fun ls hl => ?_)
  have hL4 : ∀ (n4 : Nat) (v4_1 : Int32) (v4_2 : Int32) (H : Heap) (locs : List Loc) (ls : Array Slot), f_X12_standing_L4 w n4 v4_1 v4_2 = some q → rH G w H → va_S (rA G) s.heap H locs → lv_has ls 3 [(2, .int v4_2), (1, .int v4_1), (0, .ref (G.2.2.1 300))] → W p l e rm_X12_standing s m args below meth c H locs 0 0 Q (F0 m 4 ls []) := by
    intro n4
    induction n4 with
    | zero => intro v4_1 v4_2 H locs ls hf; rw [f_X12_standing_L4] at hf; cases hf
    | succ n4 ih4 =>
      intro v4_1 v4_2 H locs ls hf hH hS hl
      rw [f_X12_standing_L4] at hf
      refine lv_iload_n hx hb dX12_standing_4 rfl (lv_at hl 0 rfl) ?_
      refine lv_aload_n hx hb dX12_standing_5 rfl (lv_at hl 2 rfl) ?_
      refine ro_get (C := RX12) (N := 30) X hH 0 (by decide) rO rfl inBX12 1 (by decide) rfl bw1379 dX12_standing_6 ?_
      refine lv_iconst (v := 3) hx hb dX12_standing_9 (by decide) ?_
      by_cases hc : ((3 : Int32) < 0 ∨ 3250 ≤ (3 : Int32).toNatClampNeg)
      · cases (fo_t hc hf)
      have hf := fo_f hc hf
      refine ra_ld X hH 0 (by decide) (by decide) hc dX12_standing_10 ?_
      refine lv_icmp_ge (tgt := 33) hx hb dX12_standing_11 (by decide) (fun hc => ?_) (fun hc => ?_)
      · have hf := fo_t hc hf
        refine lv_iload_n hx hb dX12_standing_33 rfl (lv_at hl 1 rfl) ?_
        subst hQ
        exact cEi X hH hS (so_s hf) dX12_standing_34
      have hf := fo_f hc hf
      refine lv_iload_n hx hb dX12_standing_14 rfl (lv_at hl 1 rfl) ?_
      refine lv_aload_n hx hb dX12_standing_15 rfl (lv_at hl 2 rfl) ?_
      refine ro_get (C := RX12) (N := 30) X hH 0 (by decide) rO rfl inBX12 1 (by decide) rfl bw1379 dX12_standing_16 ?_
      refine lv_sipush (v := 2290) hx hb dX12_standing_19 (by decide) ?_
      refine lv_iload_n hx hb dX12_standing_22 rfl (lv_at hl 0 rfl) ?_
      refine lv_iadd hx hb dX12_standing_23 ?_
      by_cases hc : ((2290 + v4_2) < 0 ∨ 3250 ≤ (2290 + v4_2).toNatClampNeg)
      · cases (fo_t hc hf)
      have hf := fo_f hc hf
      refine ra_ld X hH 0 (by decide) (by decide) hc dX12_standing_24 ?_
      refine lv_iadd hx hb dX12_standing_25 ?_
      refine lv_topi (fun x26 ex26 => ?_)
      have hf := nm_s hf x26 ex26
      refine lv_istore_n (lv' := [(1, .int x26), (2, .int v4_2), (0, .ref (G.2.2.1 300))]) hx hb dX12_standing_26 rfl hl (by decide) rfl (fun ls hl => ?_)
      obtain ⟨x27, ex27⟩ : ∃ z : Int32, z = (v4_2 + 1) := ⟨_, rfl⟩
      have hf := nm_s hf x27 ex27
      refine lv_iinc (v := x27) (lv' := [(2, .int x27), (1, .int x26), (0, .ref (G.2.2.1 300))]) hx hb dX12_standing_27 hl (k := 1) rfl (by rw [ex27]; rfl) (by decide) rfl (fun ls hl => ?_)
      refine lv_goto (tgt := 4) hx hb dX12_standing_30 (by decide) ?_
      exact ih4 _ _ _ _ _ hf hH hS (lv_sub hl [0, 1, 2] rfl)
  exact hL4 _ _ _ _ _ _ hf hH hS (lv_sub hl [0, 1, 2] rfl)
def f_X12_sort (w : CW) (a1 : Int32) (a2 : Int32) : Option (Int32 × CW) := (if (f_X12_isSort a1) = 0 then (some ((-1), w)) else (if (f_X12_in a2 1 9) = 0 then (some ((-2), w)) else (Option.bind (f_X12_standing w) fun q23 => (if q23 ≤ 0 then (if ((20 + a1) < 0 ∨ 3250 ≤ (20 + a1).toNatClampNeg) then none else (nmk (w.1 0 (20 + a1).toNatClampNeg) fun (x41 : Int32) => (if ((20 + a1) < 0 ∨ 3250 ≤ (20 + a1).toNatClampNeg) then none else (nmk (sC w 0 (20 + a1).toNatClampNeg a2) fun w51 => (some (x41, w51)))))) else (some ((-3), w))))))
abbrev rm_X12_sort : Room := { frames := 3, cells := 0, slots := 0, locals := 42 }
theorem cn_X12_sort : CN yX12_sort 2 := ⟨by decide +kernel, by decide +kernel, by decide +kernel⟩
set_option maxHeartbeats 4000000 in
set_option maxRecDepth 100000 in
theorem c_X12_sort (l : Launch) (G : GX) (w : CW) (a1 : Int32) (a2 : Int32) (q : Int32 × CW) (hf : f_X12_sort w a1 a2 = some q) : MI l G yX12_sort cX12_sort 4 (some .int) rm_X12_sort [.ref (G.2.2.1 300), .int a1, .int a2] (rA G) (rH G w) (rH G q.2) q.1 := by
  refine cM_start (by decide +kernel) (Nat.le_of_ble_eq_true rfl) ?_
  intro p e s m below meth c ls X hH hl
  have hS : va_S (rA G) s.heap s.heap [] := va_S.rf
  have hx := X.1.1
  have hb := X.1.2.1
  generalize hargs : ([.ref (G.2.2.1 300), .int a1, .int a2] : List Value).toArray = args at X ⊢
  generalize hQ : MQ below (QI (rA G) (rH G q.2) q.1) args s 0 0 (rA G) = Q
  have hl : lv_has ls 4 [(0, .ref (G.2.2.1 300)), (1, .int a1), (2, .int a2)] := hl
  unfold f_X12_sort at hf
  refine lv_iload_n hx hb dX12_sort_0 rfl (lv_at hl 1 rfl) ?_
  refine cGi (cSrun (rest := []) X (c_X12_isSort l G (rH G w) (rA G) rA_g a1 _ rfl) bw1474 bw1475 bw105 bw1476 cn_X12_isSort ⟨rfl, rfl, Nat.le_of_ble_eq_true rfl, Nat.le_of_ble_eq_true rfl⟩ rA_g hH hS hl rfl (Nat.le_of_ble_eq_true rfl) dX12_sort_1) hS (fun H locs hH hS => ?_)
  refine lv_if_ne (tgt := 9) hx hb dX12_sort_4 (by decide) (fun hc => ?_) (fun hc => ?_)
  rotate_left
  · have hf := fo_t hc hf
    refine lv_iconst (v := (-1)) hx hb dX12_sort_7 (by decide) ?_
    subst hQ
    exact cEi X (rH2 (so_s hf) hH) hS (pf1 (so_s hf)) dX12_sort_8
  have hf := fo_f hc hf
  refine lv_iload_n hx hb dX12_sort_9 rfl (lv_at hl 2 rfl) ?_
  refine lv_iconst (v := 1) hx hb dX12_sort_10 (by decide) ?_
  refine lv_bipush (v := 9) hx hb dX12_sort_11 (by decide) ?_
  refine cGi (cSrun (rest := []) X (c_X12_in l G (rH G w) (rA G) rA_g a2 1 9 _ rfl) bw1477 bw1478 bw105 bw1479 cn_X12_in ⟨rfl, rfl, Nat.le_of_ble_eq_true rfl, Nat.le_of_ble_eq_true rfl⟩ rA_g hH hS hl rfl (Nat.le_of_ble_eq_true rfl) dX12_sort_13) hS (fun H locs hH hS => ?_)
  refine lv_if_ne (tgt := 22) hx hb dX12_sort_16 (by decide) (fun hc => ?_) (fun hc => ?_)
  rotate_left
  · have hf := fo_t hc hf
    refine lv_bipush (v := (-2)) hx hb dX12_sort_19 (by decide) ?_
    subst hQ
    exact cEi X (rH2 (so_s hf) hH) hS (pf1 (so_s hf)) dX12_sort_21
  have hf := fo_f hc hf
  refine lv_aload_n hx hb dX12_sort_22 rfl (lv_at hl 0 rfl) ?_
  obtain ⟨q23, hq23, hf⟩ := bd_s hf
  refine cGi (cVrun (rest := []) X (c_X12_standing l G w q23 hq23) bw1480 bw1482 bw49 bw105 bw1483 cn_X12_standing ⟨rfl, rfl, Nat.le_of_ble_eq_true rfl, Nat.le_of_ble_eq_true rfl⟩ (r_rec X hH) rA_g hH hS hl rfl (Nat.le_of_ble_eq_true rfl) dX12_sort_23) hS (fun H locs hH hS => ?_)
  refine lv_if_le (tgt := 32) hx hb dX12_sort_26 (by decide) (fun hc => ?_) (fun hc => ?_)
  rotate_left
  · have hf := fo_f hc hf
    refine lv_bipush (v := (-3)) hx hb dX12_sort_29 (by decide) ?_
    subst hQ
    exact cEi X (rH2 (so_s hf) hH) hS (pf1 (so_s hf)) dX12_sort_31
  have hf := fo_t hc hf
  refine lv_aload_n hx hb dX12_sort_32 rfl (lv_at hl 0 rfl) ?_
  refine ro_get (C := RX12) (N := 30) X hH 0 (by decide) rO rfl inBX12 1 (by decide) rfl bw1379 dX12_sort_33 ?_
  refine lv_bipush (v := 20) hx hb dX12_sort_36 (by decide) ?_
  refine lv_iload_n hx hb dX12_sort_38 rfl (lv_at hl 1 rfl) ?_
  refine lv_iadd hx hb dX12_sort_39 ?_
  by_cases hc : ((20 + a1) < 0 ∨ 3250 ≤ (20 + a1).toNatClampNeg)
  · cases (fo_t hc hf)
  have hf := fo_f hc hf
  refine ra_ld X hH 0 (by decide) (by decide) hc dX12_sort_40 ?_
  refine lv_topi (fun x41 ex41 => ?_)
  have hf := nm_s hf x41 ex41
  refine lv_istore_n (lv' := [(3, .int x41), (0, .ref (G.2.2.1 300)), (1, .int a1), (2, .int a2)]) hx hb dX12_sort_41 rfl hl (by decide) rfl (fun ls hl => ?_)
  refine lv_aload_n hx hb dX12_sort_42 rfl (lv_at hl 1 rfl) ?_
  refine ro_get (C := RX12) (N := 30) X hH 0 (by decide) rO rfl inBX12 1 (by decide) rfl bw1379 dX12_sort_43 ?_
  refine lv_bipush (v := 20) hx hb dX12_sort_46 (by decide) ?_
  refine lv_iload_n hx hb dX12_sort_48 rfl (lv_at hl 2 rfl) ?_
  refine lv_iadd hx hb dX12_sort_49 ?_
  refine lv_iload_n hx hb dX12_sort_50 rfl (lv_at hl 3 rfl) ?_
  by_cases hc : ((20 + a1) < 0 ∨ 3250 ≤ (20 + a1).toNatClampNeg)
  · cases (fo_t hc hf)
  have hf := fo_f hc hf
  refine ra_st X hH hS 0 (by decide) (by decide) hc dX12_sort_51 (fun H locs hH hS => ?_)
  obtain ⟨w51, ew51⟩ : ∃ z : CW, z = (sC w 0 (20 + a1).toNatClampNeg a2) := ⟨_, rfl⟩
  have hf := nm_s hf w51 ew51
  have hH : rH G w51 H := ew51 ▸ hH
  refine lv_iload_n hx hb dX12_sort_52 rfl (lv_at hl 0 rfl) ?_
  subst hQ
  exact cEi X (rH2 (so_s hf) hH) hS (pf1 (so_s hf)) dX12_sort_53
def f_X12_cast (w : CW) (a1 : Int32) (a2 : Int32) : Option (Int32 × CW) := (if (f_X12_isSort a1) = 0 then (some ((-1), w)) else (if (f_X12_in a2 1 999) = 0 then (some ((-2), w)) else (if ((50 + a1) < 0 ∨ 3250 ≤ (50 + a1).toNatClampNeg) then none else (if ((w.1 0 (50 + a1).toNatClampNeg) + a2) ≤ 9999 then (if ((80 + a1) < 0 ∨ 3250 ≤ (80 + a1).toNatClampNeg) then none else (if ((80 + a1) < 0 ∨ 3250 ≤ (80 + a1).toNatClampNeg) then none else (nmk (fun (z79_0 : Int32) => (if ((80 + a1) < 0 ∨ 3250 ≤ (80 + a1).toNatClampNeg) then none else (nmk (sC w 0 (80 + a1).toNatClampNeg ((w.1 0 (80 + a1).toNatClampNeg) - z79_0)) fun w80 => (if ((50 + a1) < 0 ∨ 3250 ≤ (50 + a1).toNatClampNeg) then none else (if ((50 + a1) < 0 ∨ 3250 ≤ (50 + a1).toNatClampNeg) then none else (nmk (sC w80 0 (50 + a1).toNatClampNeg ((w80.1 0 (50 + a1).toNatClampNeg) + a2)) fun w93 => (if ((50 + a1) < 0 ∨ 3250 ≤ (50 + a1).toNatClampNeg) then none else (some ((w93.1 0 (50 + a1).toNatClampNeg), w93))))))))) fun j79 => (if a2 ≤ (w.1 0 (80 + a1).toNatClampNeg) then (j79 a2) else (if ((80 + a1) < 0 ∨ 3250 ≤ (80 + a1).toNatClampNeg) then none else (j79 (w.1 0 (80 + a1).toNatClampNeg))))))) else (some ((-4), w))))))
abbrev rm_X12_cast : Room := { frames := 3, cells := 0, slots := 0, locals := 42 }
theorem cn_X12_cast : CN yX12_cast 2 := ⟨by decide +kernel, by decide +kernel, by decide +kernel⟩
set_option maxHeartbeats 4000000 in
set_option maxRecDepth 100000 in
theorem c_X12_cast (l : Launch) (G : GX) (w : CW) (a1 : Int32) (a2 : Int32) (q : Int32 × CW) (hf : f_X12_cast w a1 a2 = some q) : MI l G yX12_cast cX12_cast 3 (some .int) rm_X12_cast [.ref (G.2.2.1 300), .int a1, .int a2] (rA G) (rH G w) (rH G q.2) q.1 := by
  refine cM_start (by decide +kernel) (Nat.le_of_ble_eq_true rfl) ?_
  intro p e s m below meth c ls X hH hl
  have hS : va_S (rA G) s.heap s.heap [] := va_S.rf
  have hx := X.1.1
  have hb := X.1.2.1
  generalize hargs : ([.ref (G.2.2.1 300), .int a1, .int a2] : List Value).toArray = args at X ⊢
  generalize hQ : MQ below (QI (rA G) (rH G q.2) q.1) args s 0 0 (rA G) = Q
  have hl : lv_has ls 3 [(0, .ref (G.2.2.1 300)), (1, .int a1), (2, .int a2)] := hl
  unfold f_X12_cast at hf
  refine lv_iload_n hx hb dX12_cast_0 rfl (lv_at hl 1 rfl) ?_
  refine cGi (cSrun (rest := []) X (c_X12_isSort l G (rH G w) (rA G) rA_g a1 _ rfl) bw1474 bw1475 bw105 bw1476 cn_X12_isSort ⟨rfl, rfl, Nat.le_of_ble_eq_true rfl, Nat.le_of_ble_eq_true rfl⟩ rA_g hH hS hl rfl (Nat.le_of_ble_eq_true rfl) dX12_cast_1) hS (fun H locs hH hS => ?_)
  refine lv_if_ne (tgt := 9) hx hb dX12_cast_4 (by decide) (fun hc => ?_) (fun hc => ?_)
  rotate_left
  · have hf := fo_t hc hf
    refine lv_iconst (v := (-1)) hx hb dX12_cast_7 (by decide) ?_
    subst hQ
    exact cEi X (rH2 (so_s hf) hH) hS (pf1 (so_s hf)) dX12_cast_8
  have hf := fo_f hc hf
  refine lv_iload_n hx hb dX12_cast_9 rfl (lv_at hl 2 rfl) ?_
  refine lv_iconst (v := 1) hx hb dX12_cast_10 (by decide) ?_
  refine lv_sipush (v := 999) hx hb dX12_cast_11 (by decide) ?_
  refine cGi (cSrun (rest := []) X (c_X12_in l G (rH G w) (rA G) rA_g a2 1 999 _ rfl) bw1477 bw1478 bw105 bw1479 cn_X12_in ⟨rfl, rfl, Nat.le_of_ble_eq_true rfl, Nat.le_of_ble_eq_true rfl⟩ rA_g hH hS hl rfl (Nat.le_of_ble_eq_true rfl) dX12_cast_14) hS (fun H locs hH hS => ?_)
  refine lv_if_ne (tgt := 23) hx hb dX12_cast_17 (by decide) (fun hc => ?_) (fun hc => ?_)
  rotate_left
  · have hf := fo_t hc hf
    refine lv_bipush (v := (-2)) hx hb dX12_cast_20 (by decide) ?_
    subst hQ
    exact cEi X (rH2 (so_s hf) hH) hS (pf1 (so_s hf)) dX12_cast_22
  have hf := fo_f hc hf
  refine lv_aload_n hx hb dX12_cast_23 rfl (lv_at hl 0 rfl) ?_
  refine ro_get (C := RX12) (N := 30) X hH 0 (by decide) rO rfl inBX12 1 (by decide) rfl bw1379 dX12_cast_24 ?_
  refine lv_bipush (v := 50) hx hb dX12_cast_27 (by decide) ?_
  refine lv_iload_n hx hb dX12_cast_29 rfl (lv_at hl 1 rfl) ?_
  refine lv_iadd hx hb dX12_cast_30 ?_
  by_cases hc : ((50 + a1) < 0 ∨ 3250 ≤ (50 + a1).toNatClampNeg)
  · cases (fo_t hc hf)
  have hf := fo_f hc hf
  refine ra_ld X hH 0 (by decide) (by decide) hc dX12_cast_31 ?_
  refine lv_iload_n hx hb dX12_cast_32 rfl (lv_at hl 2 rfl) ?_
  refine lv_iadd hx hb dX12_cast_33 ?_
  refine lv_sipush (v := 9999) hx hb dX12_cast_34 (by decide) ?_
  refine lv_icmp_le (tgt := 43) hx hb dX12_cast_37 (by decide) (fun hc => ?_) (fun hc => ?_)
  rotate_left
  · have hf := fo_f hc hf
    refine lv_bipush (v := (-4)) hx hb dX12_cast_40 (by decide) ?_
    subst hQ
    exact cEi X (rH2 (so_s hf) hH) hS (pf1 (so_s hf)) dX12_cast_42
  have hf := fo_t hc hf
  refine lv_aload_n hx hb dX12_cast_43 rfl (lv_at hl 0 rfl) ?_
  refine ro_get (C := RX12) (N := 30) X hH 0 (by decide) rO rfl inBX12 1 (by decide) rfl bw1379 dX12_cast_44 ?_
  refine lv_bipush (v := 80) hx hb dX12_cast_47 (by decide) ?_
  refine lv_iload_n hx hb dX12_cast_49 rfl (lv_at hl 1 rfl) ?_
  refine lv_iadd hx hb dX12_cast_50 ?_
  refine lv_dup2_11 hx hb dX12_cast_51 rfl rfl ?_
  by_cases hc : ((80 + a1) < 0 ∨ 3250 ≤ (80 + a1).toNatClampNeg)
  · cases (fo_t hc hf)
  have hf := fo_f hc hf
  refine ra_ld X hH 0 (by decide) (by decide) hc dX12_cast_52 ?_
  refine lv_aload_n hx hb dX12_cast_53 rfl (lv_at hl 0 rfl) ?_
  refine ro_get (C := RX12) (N := 30) X hH 0 (by decide) rO rfl inBX12 1 (by decide) rfl bw1379 dX12_cast_54 ?_
  refine lv_bipush (v := 80) hx hb dX12_cast_57 (by decide) ?_
  refine lv_iload_n hx hb dX12_cast_59 rfl (lv_at hl 1 rfl) ?_
  refine lv_iadd hx hb dX12_cast_60 ?_
  by_cases hc : ((80 + a1) < 0 ∨ 3250 ≤ (80 + a1).toNatClampNeg)
  · cases (fo_t hc hf)
  have hf := fo_f hc hf
  refine ra_ld X hH 0 (by decide) (by decide) hc dX12_cast_61 ?_
  refine lv_iload_n hx hb dX12_cast_62 rfl (lv_at hl 2 rfl) ?_
  obtain ⟨j79, ej79, hf⟩ := nm_x hf
  have hj79 : ∀ (z79_0 : Int32) (H : Heap) (locs : List Loc) (ls : Array Slot), j79 z79_0 = some q → rH G w H → va_S (rA G) s.heap H locs → lv_has ls 3 [(0, .ref (G.2.2.1 300)), (1, .int a1), (2, .int a2)] → W p l e rm_X12_cast s m args below meth c H locs 0 0 Q (F0 m 79 ls [.int z79_0, .int (w.1 0 (80 + a1).toNatClampNeg), .int (80 + a1), .ref (G.2.2.1 301)]) := by
    intro z79_0 H locs ls hf hH hS hl
    have hf := jb1 ej79 hf
    refine lv_isub hx hb dX12_cast_79 ?_
    by_cases hc : ((80 + a1) < 0 ∨ 3250 ≤ (80 + a1).toNatClampNeg)
    · cases (fo_t hc hf)
    have hf := fo_f hc hf
    refine ra_st X hH hS 0 (by decide) (by decide) hc dX12_cast_80 (fun H locs hH hS => ?_)
    obtain ⟨w80, ew80⟩ : ∃ z : CW, z = (sC w 0 (80 + a1).toNatClampNeg ((w.1 0 (80 + a1).toNatClampNeg) - z79_0)) := ⟨_, rfl⟩
    have hf := nm_s hf w80 ew80
    have hH : rH G w80 H := ew80 ▸ hH
    refine lv_aload_n hx hb dX12_cast_81 rfl (lv_at hl 0 rfl) ?_
    refine ro_get (C := RX12) (N := 30) X hH 0 (by decide) rO rfl inBX12 1 (by decide) rfl bw1379 dX12_cast_82 ?_
    refine lv_bipush (v := 50) hx hb dX12_cast_85 (by decide) ?_
    refine lv_iload_n hx hb dX12_cast_87 rfl (lv_at hl 1 rfl) ?_
    refine lv_iadd hx hb dX12_cast_88 ?_
    refine lv_dup2_11 hx hb dX12_cast_89 rfl rfl ?_
    by_cases hc : ((50 + a1) < 0 ∨ 3250 ≤ (50 + a1).toNatClampNeg)
    · cases (fo_t hc hf)
    have hf := fo_f hc hf
    refine ra_ld X hH 0 (by decide) (by decide) hc dX12_cast_90 ?_
    refine lv_iload_n hx hb dX12_cast_91 rfl (lv_at hl 2 rfl) ?_
    refine lv_iadd hx hb dX12_cast_92 ?_
    by_cases hc : ((50 + a1) < 0 ∨ 3250 ≤ (50 + a1).toNatClampNeg)
    · cases (fo_t hc hf)
    have hf := fo_f hc hf
    refine ra_st X hH hS 0 (by decide) (by decide) hc dX12_cast_93 (fun H locs hH hS => ?_)
    obtain ⟨w93, ew93⟩ : ∃ z : CW, z = (sC w80 0 (50 + a1).toNatClampNeg ((w80.1 0 (50 + a1).toNatClampNeg) + a2)) := ⟨_, rfl⟩
    have hf := nm_s hf w93 ew93
    have hH : rH G w93 H := ew93 ▸ hH
    refine lv_aload_n hx hb dX12_cast_94 rfl (lv_at hl 0 rfl) ?_
    refine ro_get (C := RX12) (N := 30) X hH 0 (by decide) rO rfl inBX12 1 (by decide) rfl bw1379 dX12_cast_95 ?_
    refine lv_bipush (v := 50) hx hb dX12_cast_98 (by decide) ?_
    refine lv_iload_n hx hb dX12_cast_100 rfl (lv_at hl 1 rfl) ?_
    refine lv_iadd hx hb dX12_cast_101 ?_
    by_cases hc : ((50 + a1) < 0 ∨ 3250 ≤ (50 + a1).toNatClampNeg)
    · cases (fo_t hc hf)
    have hf := fo_f hc hf
    refine ra_ld X hH 0 (by decide) (by decide) hc dX12_cast_102 ?_
    subst hQ
    exact cEi X (rH2 (so_s hf) hH) hS (pf1 (so_s hf)) dX12_cast_103
  refine lv_icmp_ge (tgt := 78) hx hb dX12_cast_63 (by decide) (fun hc => ?_) (fun hc => ?_)
  · have hf := fo_t hc hf
    refine lv_iload_n hx hb dX12_cast_78 rfl (lv_at hl 2 rfl) ?_
    exact hj79 _ _ _ _ hf hH hS (lv_sub hl [0, 1, 2] rfl)
  have hf := fo_f hc hf
  refine lv_aload_n hx hb dX12_cast_66 rfl (lv_at hl 0 rfl) ?_
  refine ro_get (C := RX12) (N := 30) X hH 0 (by decide) rO rfl inBX12 1 (by decide) rfl bw1379 dX12_cast_67 ?_
  refine lv_bipush (v := 80) hx hb dX12_cast_70 (by decide) ?_
  refine lv_iload_n hx hb dX12_cast_72 rfl (lv_at hl 1 rfl) ?_
  refine lv_iadd hx hb dX12_cast_73 ?_
  by_cases hc : ((80 + a1) < 0 ∨ 3250 ≤ (80 + a1).toNatClampNeg)
  · cases (fo_t hc hf)
  have hf := fo_f hc hf
  refine ra_ld X hH 0 (by decide) (by decide) hc dX12_cast_74 ?_
  refine lv_goto (tgt := 79) hx hb dX12_cast_75 (by decide) ?_
  exact hj79 _ _ _ _ hf hH hS (lv_sub hl [0, 1, 2] rfl)
def f_X12_many_L47 (w : CW) (a1 : Int32) : Nat → Int32 → Int32 → Option (Int32)
  | 0, _, _ => none
  | n47 + 1, v47_3, v47_4 => (if ((3 : Int32) < 0 ∨ 3250 ≤ (3 : Int32).toNatClampNeg) then none else (if (w.1 0 (3 : Int32).toNatClampNeg) ≤ v47_4 then (some v47_3) else (if ((2290 + v47_4) < 0 ∨ 3250 ≤ (2290 + v47_4).toNatClampNeg) then none else (nmk (fun (z94_0 : Int32) => (nmk (v47_3 + z94_0) fun (x95 : Int32) => (nmk (v47_4 + 1) fun (x96 : Int32) => (f_X12_many_L47 w a1 n47 x95 x96)))) fun j94 => (if (w.1 0 (2290 + v47_4).toNatClampNeg) = 1 then (if (((2330 + (27 * v47_4)) + a1) < 0 ∨ 3250 ≤ ((2330 + (27 * v47_4)) + a1).toNatClampNeg) then none else (j94 (w.1 0 ((2330 + (27 * v47_4)) + a1).toNatClampNeg))) else (j94 0))))))
def f_X12_many (w : CW) (a1 : Int32) (a2 : Int32) : Option (Int32) := (if (f_X12_isSort a1) = 0 then (some (-1)) else (if (f_X12_in a2 0 2) = 0 then (some (-1)) else (if a2 = 1 then (f_X12_many_L47 w a1 FU 0 0) else (if (((if a2 = 0 then 50 else 80) + a1) < 0 ∨ 3250 ≤ ((if a2 = 0 then 50 else 80) + a1).toNatClampNeg) then none else (some (w.1 0 ((if a2 = 0 then 50 else 80) + a1).toNatClampNeg))))))
abbrev rm_X12_many : Room := { frames := 3, cells := 0, slots := 0, locals := 42 }
theorem cn_X12_many : CN yX12_many 2 := ⟨by decide +kernel, by decide +kernel, by decide +kernel⟩
set_option maxHeartbeats 4000000 in
set_option maxRecDepth 100000 in
theorem c_X12_many (l : Launch) (G : GX) (w : CW) (a1 : Int32) (a2 : Int32) (q : Int32) (hf : f_X12_many w a1 a2 = some q) : MI l G yX12_many cX12_many 5 (some .int) rm_X12_many [.ref (G.2.2.1 300), .int a1, .int a2] (rA G) (rH G w) (rH G w) q := by
  refine cM_start (by decide +kernel) (Nat.le_of_ble_eq_true rfl) ?_
  intro p e s m below meth c ls X hH hl
  have hS : va_S (rA G) s.heap s.heap [] := va_S.rf
  have hx := X.1.1
  have hb := X.1.2.1
  generalize hargs : ([.ref (G.2.2.1 300), .int a1, .int a2] : List Value).toArray = args at X ⊢
  generalize hQ : MQ below (QI (rA G) (rH G w) q) args s 0 0 (rA G) = Q
  have hl : lv_has ls 5 [(0, .ref (G.2.2.1 300)), (1, .int a1), (2, .int a2)] := hl
  unfold f_X12_many at hf
  refine lv_iload_n hx hb dX12_many_0 rfl (lv_at hl 1 rfl) ?_
  refine cGi (cSrun (rest := []) X (c_X12_isSort l G (rH G w) (rA G) rA_g a1 _ rfl) bw1474 bw1475 bw105 bw1476 cn_X12_isSort ⟨rfl, rfl, Nat.le_of_ble_eq_true rfl, Nat.le_of_ble_eq_true rfl⟩ rA_g hH hS hl rfl (Nat.le_of_ble_eq_true rfl) dX12_many_1) hS (fun H locs hH hS => ?_)
  refine lv_if_eq (tgt := 16) hx hb dX12_many_4 (by decide) (fun hc => ?_) (fun hc => ?_)
  · have hf := fo_t hc hf
    refine lv_iconst (v := (-1)) hx hb dX12_many_16 (by decide) ?_
    subst hQ
    exact cEi X hH hS (so_s hf) dX12_many_17
  have hf := fo_f hc hf
  refine lv_iload_n hx hb dX12_many_7 rfl (lv_at hl 2 rfl) ?_
  refine lv_iconst (v := 0) hx hb dX12_many_8 (by decide) ?_
  refine lv_iconst (v := 2) hx hb dX12_many_9 (by decide) ?_
  refine cGi (cSrun (rest := []) X (c_X12_in l G (rH G w) (rA G) rA_g a2 0 2 _ rfl) bw1477 bw1478 bw105 bw1479 cn_X12_in ⟨rfl, rfl, Nat.le_of_ble_eq_true rfl, Nat.le_of_ble_eq_true rfl⟩ rA_g hH hS hl rfl (Nat.le_of_ble_eq_true rfl) dX12_many_10) hS (fun H locs hH hS => ?_)
  refine lv_if_ne (tgt := 18) hx hb dX12_many_13 (by decide) (fun hc => ?_) (fun hc => ?_)
  rotate_left
  · have hf := fo_t hc hf
    refine lv_iconst (v := (-1)) hx hb dX12_many_16 (by decide) ?_
    subst hQ
    exact cEi X hH hS (so_s hf) dX12_many_17
  have hf := fo_f hc hf
  refine lv_iload_n hx hb dX12_many_18 rfl (lv_at hl 2 rfl) ?_
  refine lv_iconst (v := 1) hx hb dX12_many_19 (by decide) ?_
  refine lv_icmp_eq (tgt := 42) hx hb dX12_many_20 (by decide) (fun hc => ?_) (fun hc => ?_)
  rotate_left
  · have hf := fo_f hc hf
    refine lv_aload_n hx hb dX12_many_23 rfl (lv_at hl 0 rfl) ?_
    refine ro_get (C := RX12) (N := 30) X hH 0 (by decide) rO rfl inBX12 1 (by decide) rfl bw1379 dX12_many_24 ?_
    refine lv_iload_n hx hb dX12_many_27 rfl (lv_at hl 2 rfl) ?_
    have hJ : ∀ (H : Heap) (locs : List Loc), rH G w H → va_S (rA G) s.heap H locs → W p l e rm_X12_many s m args below meth c H locs 0 0 Q (F0 m 38 ls [.int (if a2 = 0 then 50 else 80), .ref (G.2.2.1 301)]) := by
      intro H locs hH hS
      refine lv_iload_n hx hb dX12_many_38 rfl (lv_at hl 1 rfl) ?_
      refine lv_iadd hx hb dX12_many_39 ?_
      by_cases hc : (((if a2 = 0 then 50 else 80) + a1) < 0 ∨ 3250 ≤ ((if a2 = 0 then 50 else 80) + a1).toNatClampNeg)
      · cases (fo_t hc hf)
      have hf := fo_f hc hf
      refine ra_ld X hH 0 (by decide) (by decide) hc dX12_many_40 ?_
      subst hQ
      exact cEi X hH hS (so_s hf) dX12_many_41
    refine lv_if_ne (tgt := 36) hx hb dX12_many_28 (by decide) (fun hc28 => ?_) (fun hc28 => ?_)
    · refine lv_bipush (v := 80) hx hb dX12_many_36 (by decide) ?_
      exact W.eq (by rw [if_neg hc28] <;> rfl) (hJ _ _ hH hS)
    · refine lv_bipush (v := 50) hx hb dX12_many_31 (by decide) ?_
      refine lv_goto (tgt := 38) hx hb dX12_many_33 (by decide) ?_
      exact W.eq (by rw [if_pos hc28] <;> rfl) (hJ _ _ hH hS)
  have hf := fo_t hc hf
  refine lv_iconst (v := 0) hx hb dX12_many_42 (by decide) ?_
  refine lv_istore_n (lv' := [(3, .int 0), (0, .ref (G.2.2.1 300)), (1, .int a1), (2, .int a2)]) hx hb dX12_many_43 rfl hl (by decide) rfl (fun ls hl => ?_)
  refine lv_iconst (v := 0) hx hb dX12_many_44 (by decide) ?_
  refine lv_istore (lv' := [(4, .int 0), (3, .int 0), (0, .ref (G.2.2.1 300)), (1, .int a1), (2, .int a2)]) hx hb dX12_many_45 hl (by decide) rfl (fun ls hl => ?_)
  have hL47 : ∀ (n47 : Nat) (v47_3 : Int32) (v47_4 : Int32) (H : Heap) (locs : List Loc) (ls : Array Slot), f_X12_many_L47 w a1 n47 v47_3 v47_4 = some q → rH G w H → va_S (rA G) s.heap H locs → lv_has ls 5 [(4, .int v47_4), (3, .int v47_3), (0, .ref (G.2.2.1 300)), (1, .int a1)] → W p l e rm_X12_many s m args below meth c H locs 0 0 Q (F0 m 47 ls []) := by
    intro n47
    induction n47 with
    | zero => intro v47_3 v47_4 H locs ls hf; rw [f_X12_many_L47] at hf; cases hf
    | succ n47 ih47 =>
      intro v47_3 v47_4 H locs ls hf hH hS hl
      rw [f_X12_many_L47] at hf
      refine lv_iload hx hb dX12_many_47 (lv_at hl 0 rfl) ?_
      refine lv_aload_n hx hb dX12_many_49 rfl (lv_at hl 2 rfl) ?_
      refine ro_get (C := RX12) (N := 30) X hH 0 (by decide) rO rfl inBX12 1 (by decide) rfl bw1379 dX12_many_50 ?_
      refine lv_iconst (v := 3) hx hb dX12_many_53 (by decide) ?_
      by_cases hc : ((3 : Int32) < 0 ∨ 3250 ≤ (3 : Int32).toNatClampNeg)
      · cases (fo_t hc hf)
      have hf := fo_f hc hf
      refine ra_ld X hH 0 (by decide) (by decide) hc dX12_many_54 ?_
      refine lv_icmp_ge (tgt := 102) hx hb dX12_many_55 (by decide) (fun hc => ?_) (fun hc => ?_)
      · have hf := fo_t hc hf
        refine lv_iload_n hx hb dX12_many_102 rfl (lv_at hl 1 rfl) ?_
        subst hQ
        exact cEi X hH hS (so_s hf) dX12_many_103
      have hf := fo_f hc hf
      refine lv_iload_n hx hb dX12_many_58 rfl (lv_at hl 1 rfl) ?_
      refine lv_aload_n hx hb dX12_many_59 rfl (lv_at hl 2 rfl) ?_
      refine ro_get (C := RX12) (N := 30) X hH 0 (by decide) rO rfl inBX12 1 (by decide) rfl bw1379 dX12_many_60 ?_
      refine lv_sipush (v := 2290) hx hb dX12_many_63 (by decide) ?_
      refine lv_iload hx hb dX12_many_66 (lv_at hl 0 rfl) ?_
      refine lv_iadd hx hb dX12_many_68 ?_
      by_cases hc : ((2290 + v47_4) < 0 ∨ 3250 ≤ (2290 + v47_4).toNatClampNeg)
      · cases (fo_t hc hf)
      have hf := fo_f hc hf
      refine ra_ld X hH 0 (by decide) (by decide) hc dX12_many_69 ?_
      refine lv_iconst (v := 1) hx hb dX12_many_70 (by decide) ?_
      obtain ⟨j94, ej94, hf⟩ := nm_x hf
      have hj94 : ∀ (z94_0 : Int32) (H : Heap) (locs : List Loc) (ls : Array Slot), j94 z94_0 = some q → rH G w H → va_S (rA G) s.heap H locs → lv_has ls 5 [(4, .int v47_4), (0, .ref (G.2.2.1 300)), (1, .int a1)] → W p l e rm_X12_many s m args below meth c H locs 0 0 Q (F0 m 94 ls [.int z94_0, .int v47_3]) := by
        intro z94_0 H locs ls hf hH hS hl
        have hf := jb1 ej94 hf
        refine lv_iadd hx hb dX12_many_94 ?_
        refine lv_topi (fun x95 ex95 => ?_)
        have hf := nm_s hf x95 ex95
        refine lv_istore_n (lv' := [(3, .int x95), (4, .int v47_4), (0, .ref (G.2.2.1 300)), (1, .int a1)]) hx hb dX12_many_95 rfl hl (by decide) rfl (fun ls hl => ?_)
        obtain ⟨x96, ex96⟩ : ∃ z : Int32, z = (v47_4 + 1) := ⟨_, rfl⟩
        have hf := nm_s hf x96 ex96
        refine lv_iinc (v := x96) (lv' := [(4, .int x96), (3, .int x95), (0, .ref (G.2.2.1 300)), (1, .int a1)]) hx hb dX12_many_96 hl (k := 1) rfl (by rw [ex96]; rfl) (by decide) rfl (fun ls hl => ?_)
        refine lv_goto (tgt := 47) hx hb dX12_many_99 (by decide) ?_
        exact ih47 _ _ _ _ _ hf hH hS (lv_sub hl [0, 1, 2, 3] rfl)
      refine lv_icmp_ne (tgt := 93) hx hb dX12_many_71 (by decide) (fun hc => ?_) (fun hc => ?_)
      · have hf := fo_f hc hf
        refine lv_iconst (v := 0) hx hb dX12_many_93 (by decide) ?_
        exact hj94 _ _ _ _ hf hH hS (lv_sub hl [0, 2, 3] rfl)
      have hf := fo_t hc hf
      refine lv_aload_n hx hb dX12_many_74 rfl (lv_at hl 2 rfl) ?_
      refine ro_get (C := RX12) (N := 30) X hH 0 (by decide) rO rfl inBX12 1 (by decide) rfl bw1379 dX12_many_75 ?_
      refine lv_sipush (v := 2330) hx hb dX12_many_78 (by decide) ?_
      refine lv_bipush (v := 27) hx hb dX12_many_81 (by decide) ?_
      refine lv_iload hx hb dX12_many_83 (lv_at hl 0 rfl) ?_
      refine lv_imul hx hb dX12_many_85 ?_
      refine lv_iadd hx hb dX12_many_86 ?_
      refine lv_iload_n hx hb dX12_many_87 rfl (lv_at hl 3 rfl) ?_
      refine lv_iadd hx hb dX12_many_88 ?_
      by_cases hc : (((2330 + (27 * v47_4)) + a1) < 0 ∨ 3250 ≤ ((2330 + (27 * v47_4)) + a1).toNatClampNeg)
      · cases (fo_t hc hf)
      have hf := fo_f hc hf
      refine ra_ld X hH 0 (by decide) (by decide) hc dX12_many_89 ?_
      refine lv_goto (tgt := 94) hx hb dX12_many_90 (by decide) ?_
      exact hj94 _ _ _ _ hf hH hS (lv_sub hl [0, 2, 3] rfl)
  exact hL47 _ _ _ _ _ _ hf hH hS (lv_sub hl [0, 1, 2, 3] rfl)
def f_X12_day (w : CW) (a1 : Int32) : Option (Int32 × CW) := (if (f_X12_in a1 1 99) = 0 then (some ((-2), w)) else (if ((0 : Int32) < 0 ∨ 3250 ≤ (0 : Int32).toNatClampNeg) then none else (if ((w.1 0 (0 : Int32).toNatClampNeg) + a1) ≤ 999 then (if ((0 : Int32) < 0 ∨ 3250 ≤ (0 : Int32).toNatClampNeg) then none else (if ((0 : Int32) < 0 ∨ 3250 ≤ (0 : Int32).toNatClampNeg) then none else (nmk (sC w 0 (0 : Int32).toNatClampNeg ((w.1 0 (0 : Int32).toNatClampNeg) + a1)) fun w36 => (if ((0 : Int32) < 0 ∨ 3250 ≤ (0 : Int32).toNatClampNeg) then none else (some ((w36.1 0 (0 : Int32).toNatClampNeg), w36)))))) else (some ((-2), w)))))
abbrev rm_X12_day : Room := { frames := 2, cells := 0, slots := 0, locals := 22 }
theorem cn_X12_day : CN yX12_day 1 := ⟨by decide +kernel, by decide +kernel, by decide +kernel⟩
set_option maxHeartbeats 4000000 in
set_option maxRecDepth 100000 in
theorem c_X12_day (l : Launch) (G : GX) (w : CW) (a1 : Int32) (q : Int32 × CW) (hf : f_X12_day w a1 = some q) : MI l G yX12_day cX12_day 2 (some .int) rm_X12_day [.ref (G.2.2.1 300), .int a1] (rA G) (rH G w) (rH G q.2) q.1 := by
  refine cM_start (by decide +kernel) (Nat.le_of_ble_eq_true rfl) ?_
  intro p e s m below meth c ls X hH hl
  have hS : va_S (rA G) s.heap s.heap [] := va_S.rf
  have hx := X.1.1
  have hb := X.1.2.1
  generalize hargs : ([.ref (G.2.2.1 300), .int a1] : List Value).toArray = args at X ⊢
  generalize hQ : MQ below (QI (rA G) (rH G q.2) q.1) args s 0 0 (rA G) = Q
  have hl : lv_has ls 2 [(0, .ref (G.2.2.1 300)), (1, .int a1)] := hl
  unfold f_X12_day at hf
  refine lv_iload_n hx hb dX12_day_0 rfl (lv_at hl 1 rfl) ?_
  refine lv_iconst (v := 1) hx hb dX12_day_1 (by decide) ?_
  refine lv_bipush (v := 99) hx hb dX12_day_2 (by decide) ?_
  refine cGi (cSrun (rest := []) X (c_X12_in l G (rH G w) (rA G) rA_g a1 1 99 _ rfl) bw1477 bw1478 bw105 bw1479 cn_X12_in ⟨rfl, rfl, Nat.le_of_ble_eq_true rfl, Nat.le_of_ble_eq_true rfl⟩ rA_g hH hS hl rfl (Nat.le_of_ble_eq_true rfl) dX12_day_4) hS (fun H locs hH hS => ?_)
  refine lv_if_eq (tgt := 24) hx hb dX12_day_7 (by decide) (fun hc => ?_) (fun hc => ?_)
  · have hf := fo_t hc hf
    refine lv_bipush (v := (-2)) hx hb dX12_day_24 (by decide) ?_
    subst hQ
    exact cEi X (rH2 (so_s hf) hH) hS (pf1 (so_s hf)) dX12_day_26
  have hf := fo_f hc hf
  refine lv_aload_n hx hb dX12_day_10 rfl (lv_at hl 0 rfl) ?_
  refine ro_get (C := RX12) (N := 30) X hH 0 (by decide) rO rfl inBX12 1 (by decide) rfl bw1379 dX12_day_11 ?_
  refine lv_iconst (v := 0) hx hb dX12_day_14 (by decide) ?_
  by_cases hc : ((0 : Int32) < 0 ∨ 3250 ≤ (0 : Int32).toNatClampNeg)
  · cases (fo_t hc hf)
  have hf := fo_f hc hf
  refine ra_ld X hH 0 (by decide) (by decide) hc dX12_day_15 ?_
  refine lv_iload_n hx hb dX12_day_16 rfl (lv_at hl 1 rfl) ?_
  refine lv_iadd hx hb dX12_day_17 ?_
  refine lv_sipush (v := 999) hx hb dX12_day_18 (by decide) ?_
  refine lv_icmp_le (tgt := 27) hx hb dX12_day_21 (by decide) (fun hc => ?_) (fun hc => ?_)
  rotate_left
  · have hf := fo_f hc hf
    refine lv_bipush (v := (-2)) hx hb dX12_day_24 (by decide) ?_
    subst hQ
    exact cEi X (rH2 (so_s hf) hH) hS (pf1 (so_s hf)) dX12_day_26
  have hf := fo_t hc hf
  refine lv_aload_n hx hb dX12_day_27 rfl (lv_at hl 0 rfl) ?_
  refine ro_get (C := RX12) (N := 30) X hH 0 (by decide) rO rfl inBX12 1 (by decide) rfl bw1379 dX12_day_28 ?_
  refine lv_iconst (v := 0) hx hb dX12_day_31 (by decide) ?_
  refine lv_dup2_11 hx hb dX12_day_32 rfl rfl ?_
  by_cases hc : ((0 : Int32) < 0 ∨ 3250 ≤ (0 : Int32).toNatClampNeg)
  · cases (fo_t hc hf)
  have hf := fo_f hc hf
  refine ra_ld X hH 0 (by decide) (by decide) hc dX12_day_33 ?_
  refine lv_iload_n hx hb dX12_day_34 rfl (lv_at hl 1 rfl) ?_
  refine lv_iadd hx hb dX12_day_35 ?_
  by_cases hc : ((0 : Int32) < 0 ∨ 3250 ≤ (0 : Int32).toNatClampNeg)
  · cases (fo_t hc hf)
  have hf := fo_f hc hf
  refine ra_st X hH hS 0 (by decide) (by decide) hc dX12_day_36 (fun H locs hH hS => ?_)
  obtain ⟨w36, ew36⟩ : ∃ z : CW, z = (sC w 0 (0 : Int32).toNatClampNeg ((w.1 0 (0 : Int32).toNatClampNeg) + a1)) := ⟨_, rfl⟩
  have hf := nm_s hf w36 ew36
  have hH : rH G w36 H := ew36 ▸ hH
  refine lv_aload_n hx hb dX12_day_37 rfl (lv_at hl 0 rfl) ?_
  refine ro_get (C := RX12) (N := 30) X hH 0 (by decide) rO rfl inBX12 1 (by decide) rfl bw1379 dX12_day_38 ?_
  refine lv_iconst (v := 0) hx hb dX12_day_41 (by decide) ?_
  by_cases hc : ((0 : Int32) < 0 ∨ 3250 ≤ (0 : Int32).toNatClampNeg)
  · cases (fo_t hc hf)
  have hf := fo_f hc hf
  refine ra_ld X hH 0 (by decide) (by decide) hc dX12_day_42 ?_
  subst hQ
  exact cEi X (rH2 (so_s hf) hH) hS (pf1 (so_s hf)) dX12_day_43
def f_X12_feed_L35 (a1 : Int64) (j84 : CW → Option (Int32 × CW)) : Nat → Int32 → CW → Option (Int32 × CW)
  | 0, _, _ => none
  | n35 + 1, v35_4, w35_ => (if v35_4 < 0 then (j84 w35_) else (if ((9 : Int32) < 0 ∨ 3250 ≤ (9 : Int32).toNatClampNeg) then none else (if ((110 + (w35_.1 0 (9 : Int32).toNatClampNeg)) < 0 ∨ 3250 ≤ (110 + (w35_.1 0 (9 : Int32).toNatClampNeg)).toNatClampNeg) then none else (nmk (sC w35_ 0 (110 + (w35_.1 0 (9 : Int32).toNatClampNeg)).toNatClampNeg (((a1 >>> ((8 * v35_4).toInt64 &&& 63)) &&& 255).toInt32)) fun w66 => (if ((9 : Int32) < 0 ∨ 3250 ≤ (9 : Int32).toNatClampNeg) then none else (if ((9 : Int32) < 0 ∨ 3250 ≤ (9 : Int32).toNatClampNeg) then none else (nmk (sC w66 0 (9 : Int32).toNatClampNeg ((w66.1 0 (9 : Int32).toNatClampNeg) + 1)) fun w77 => (nmk (v35_4 + (-1)) fun (x78 : Int32) => (f_X12_feed_L35 a1 j84 n35 x78 w77)))))))))
def f_X12_feed (w : CW) (a1 : Int64) (a3 : Int32) : Option (Int32 × CW) := (if (f_X12_in a3 1 8) = 0 then (some ((-2), w)) else (if ((9 : Int32) < 0 ∨ 3250 ≤ (9 : Int32).toNatClampNeg) then none else (if ((w.1 0 (9 : Int32).toNatClampNeg) + a3) ≤ 120 then (nmk (a3 - 1) fun (x33 : Int32) => (nmk (fun (w84_ : CW) => (if ((9 : Int32) < 0 ∨ 3250 ≤ (9 : Int32).toNatClampNeg) then none else (some ((w84_.1 0 (9 : Int32).toNatClampNeg), w84_)))) fun j84 => (f_X12_feed_L35 a1 j84 FU x33 w))) else (some ((-4), w)))))
abbrev rm_X12_feed : Room := { frames := 2, cells := 0, slots := 0, locals := 22 }
theorem cn_X12_feed : CN yX12_feed 2 := ⟨by decide +kernel, by decide +kernel, by decide +kernel⟩
set_option maxHeartbeats 4000000 in
set_option maxRecDepth 100000 in
theorem c_X12_feed (l : Launch) (G : GX) (w : CW) (a1 : Int64) (a3 : Int32) (q : Int32 × CW) (hf : f_X12_feed w a1 a3 = some q) : MI l G yX12_feed cX12_feed 5 (some .int) rm_X12_feed [.ref (G.2.2.1 300), .long a1, .int a3] (rA G) (rH G w) (rH G q.2) q.1 := by
  refine cM_start (by decide +kernel) (Nat.le_of_ble_eq_true rfl) ?_
  intro p e s m below meth c ls X hH hl
  have hS : va_S (rA G) s.heap s.heap [] := va_S.rf
  have hx := X.1.1
  have hb := X.1.2.1
  generalize hargs : ([.ref (G.2.2.1 300), .long a1, .int a3] : List Value).toArray = args at X ⊢
  generalize hQ : MQ below (QI (rA G) (rH G q.2) q.1) args s 0 0 (rA G) = Q
  have hl : lv_has ls 5 [(0, .ref (G.2.2.1 300)), (1, .long a1), (3, .int a3)] := hl
  unfold f_X12_feed at hf
  refine lv_iload_n hx hb dX12_feed_0 rfl (lv_at hl 2 rfl) ?_
  refine lv_iconst (v := 1) hx hb dX12_feed_1 (by decide) ?_
  refine lv_bipush (v := 8) hx hb dX12_feed_2 (by decide) ?_
  refine cGi (cSrun (rest := []) X (c_X12_in l G (rH G w) (rA G) rA_g a3 1 8 _ rfl) bw1477 bw1478 bw105 bw1479 cn_X12_in ⟨rfl, rfl, Nat.le_of_ble_eq_true rfl, Nat.le_of_ble_eq_true rfl⟩ rA_g hH hS hl rfl (Nat.le_of_ble_eq_true rfl) dX12_feed_4) hS (fun H locs hH hS => ?_)
  refine lv_if_ne (tgt := 13) hx hb dX12_feed_7 (by decide) (fun hc => ?_) (fun hc => ?_)
  rotate_left
  · have hf := fo_t hc hf
    refine lv_bipush (v := (-2)) hx hb dX12_feed_10 (by decide) ?_
    subst hQ
    exact cEi X (rH2 (so_s hf) hH) hS (pf1 (so_s hf)) dX12_feed_12
  have hf := fo_f hc hf
  refine lv_aload_n hx hb dX12_feed_13 rfl (lv_at hl 0 rfl) ?_
  refine ro_get (C := RX12) (N := 30) X hH 0 (by decide) rO rfl inBX12 1 (by decide) rfl bw1379 dX12_feed_14 ?_
  refine lv_bipush (v := 9) hx hb dX12_feed_17 (by decide) ?_
  by_cases hc : ((9 : Int32) < 0 ∨ 3250 ≤ (9 : Int32).toNatClampNeg)
  · cases (fo_t hc hf)
  have hf := fo_f hc hf
  refine ra_ld X hH 0 (by decide) (by decide) hc dX12_feed_19 ?_
  refine lv_iload_n hx hb dX12_feed_20 rfl (lv_at hl 2 rfl) ?_
  refine lv_iadd hx hb dX12_feed_21 ?_
  refine lv_bipush (v := 120) hx hb dX12_feed_22 (by decide) ?_
  refine lv_icmp_le (tgt := 30) hx hb dX12_feed_24 (by decide) (fun hc => ?_) (fun hc => ?_)
  rotate_left
  · have hf := fo_f hc hf
    refine lv_bipush (v := (-4)) hx hb dX12_feed_27 (by decide) ?_
    subst hQ
    exact cEi X (rH2 (so_s hf) hH) hS (pf1 (so_s hf)) dX12_feed_29
  have hf := fo_t hc hf
  refine lv_iload_n hx hb dX12_feed_30 rfl (lv_at hl 2 rfl) ?_
  refine lv_iconst (v := 1) hx hb dX12_feed_31 (by decide) ?_
  refine lv_isub hx hb dX12_feed_32 ?_
  refine lv_topi (fun x33 ex33 => ?_)
  have hf := nm_s hf x33 ex33
  refine lv_istore (lv' := [(4, .int x33), (0, .ref (G.2.2.1 300)), (1, .long a1), (3, .int a3)]) hx hb dX12_feed_33 hl (by decide) rfl (fun ls hl => ?_)
  obtain ⟨j84, ej84, hf⟩ := nm_x hf
  have hj84 : ∀ (w84_ : CW) (H : Heap) (locs : List Loc) (ls : Array Slot), j84 w84_ = some q → rH G w84_ H → va_S (rA G) s.heap H locs → lv_has ls 5 [(0, .ref (G.2.2.1 300))] → W p l e rm_X12_feed s m args below meth c H locs 0 0 Q (F0 m 84 ls []) := by
    intro w84_ H locs ls hf hH hS hl
    have hf := jb1 ej84 hf
    refine lv_aload_n hx hb dX12_feed_84 rfl (lv_at hl 0 rfl) ?_
    refine ro_get (C := RX12) (N := 30) X hH 0 (by decide) rO rfl inBX12 1 (by decide) rfl bw1379 dX12_feed_85 ?_
    refine lv_bipush (v := 9) hx hb dX12_feed_88 (by decide) ?_
    by_cases hc : ((9 : Int32) < 0 ∨ 3250 ≤ (9 : Int32).toNatClampNeg)
    · cases (fo_t hc hf)
    have hf := fo_f hc hf
    refine ra_ld X hH 0 (by decide) (by decide) hc dX12_feed_90 ?_
    subst hQ
    exact cEi X (rH2 (so_s hf) hH) hS (pf1 (so_s hf)) dX12_feed_91
  have hL35 : ∀ (n35 : Nat) (v35_4 : Int32) (w35_ : CW) (H : Heap) (locs : List Loc) (ls : Array Slot), f_X12_feed_L35 a1 j84 n35 v35_4 w35_ = some q → rH G w35_ H → va_S (rA G) s.heap H locs → lv_has ls 5 [(4, .int v35_4), (0, .ref (G.2.2.1 300)), (1, .long a1)] → W p l e rm_X12_feed s m args below meth c H locs 0 0 Q (F0 m 35 ls []) := by
    intro n35
    induction n35 with
    | zero => intro v35_4 w35_ H locs ls hf; rw [f_X12_feed_L35] at hf; cases hf
    | succ n35 ih35 =>
      intro v35_4 w35_ H locs ls hf hH hS hl
      rw [f_X12_feed_L35] at hf
      refine lv_iload hx hb dX12_feed_35 (lv_at hl 0 rfl) ?_
      refine lv_if_lt (tgt := 84) hx hb dX12_feed_37 (by decide) (fun hc => ?_) (fun hc => ?_)
      · have hf := fo_t hc hf
        exact hj84 _ _ _ _ hf hH hS (lv_sub hl [1] rfl)
      have hf := fo_f hc hf
      refine lv_aload_n hx hb dX12_feed_40 rfl (lv_at hl 1 rfl) ?_
      refine ro_get (C := RX12) (N := 30) X hH 0 (by decide) rO rfl inBX12 1 (by decide) rfl bw1379 dX12_feed_41 ?_
      refine lv_bipush (v := 110) hx hb dX12_feed_44 (by decide) ?_
      refine lv_aload_n hx hb dX12_feed_46 rfl (lv_at hl 1 rfl) ?_
      refine ro_get (C := RX12) (N := 30) X hH 0 (by decide) rO rfl inBX12 1 (by decide) rfl bw1379 dX12_feed_47 ?_
      refine lv_bipush (v := 9) hx hb dX12_feed_50 (by decide) ?_
      by_cases hc : ((9 : Int32) < 0 ∨ 3250 ≤ (9 : Int32).toNatClampNeg)
      · cases (fo_t hc hf)
      have hf := fo_f hc hf
      refine ra_ld X hH 0 (by decide) (by decide) hc dX12_feed_52 ?_
      refine lv_iadd hx hb dX12_feed_53 ?_
      refine lv_lload_n hx hb dX12_feed_54 rfl (lv_at hl 2 rfl) ?_
      refine lv_bipush (v := 8) hx hb dX12_feed_55 (by decide) ?_
      refine lv_iload hx hb dX12_feed_57 (lv_at hl 0 rfl) ?_
      refine lv_imul hx hb dX12_feed_59 ?_
      refine lv_lshr hx hb dX12_feed_60 rfl ?_
      refine lv_ldc2 (v := 255) hx hb X.1.2.2.2.1 (X.w bw1500) dX12_feed_61 ?_
      refine lv_land hx hb dX12_feed_64 ?_
      refine lv_l2i hx hb dX12_feed_65 rfl ?_
      by_cases hc : ((110 + (w35_.1 0 (9 : Int32).toNatClampNeg)) < 0 ∨ 3250 ≤ (110 + (w35_.1 0 (9 : Int32).toNatClampNeg)).toNatClampNeg)
      · cases (fo_t hc hf)
      have hf := fo_f hc hf
      refine ra_st X hH hS 0 (by decide) (by decide) hc dX12_feed_66 (fun H locs hH hS => ?_)
      obtain ⟨w66, ew66⟩ : ∃ z : CW, z = (sC w35_ 0 (110 + (w35_.1 0 (9 : Int32).toNatClampNeg)).toNatClampNeg (((a1 >>> ((8 * v35_4).toInt64 &&& 63)) &&& 255).toInt32)) := ⟨_, rfl⟩
      have hf := nm_s hf w66 ew66
      have hH : rH G w66 H := ew66 ▸ hH
      refine lv_aload_n hx hb dX12_feed_67 rfl (lv_at hl 1 rfl) ?_
      refine ro_get (C := RX12) (N := 30) X hH 0 (by decide) rO rfl inBX12 1 (by decide) rfl bw1379 dX12_feed_68 ?_
      refine lv_bipush (v := 9) hx hb dX12_feed_71 (by decide) ?_
      refine lv_dup2_11 hx hb dX12_feed_73 rfl rfl ?_
      by_cases hc : ((9 : Int32) < 0 ∨ 3250 ≤ (9 : Int32).toNatClampNeg)
      · cases (fo_t hc hf)
      have hf := fo_f hc hf
      refine ra_ld X hH 0 (by decide) (by decide) hc dX12_feed_74 ?_
      refine lv_iconst (v := 1) hx hb dX12_feed_75 (by decide) ?_
      refine lv_iadd hx hb dX12_feed_76 ?_
      by_cases hc : ((9 : Int32) < 0 ∨ 3250 ≤ (9 : Int32).toNatClampNeg)
      · cases (fo_t hc hf)
      have hf := fo_f hc hf
      refine ra_st X hH hS 0 (by decide) (by decide) hc dX12_feed_77 (fun H locs hH hS => ?_)
      obtain ⟨w77, ew77⟩ : ∃ z : CW, z = (sC w66 0 (9 : Int32).toNatClampNeg ((w66.1 0 (9 : Int32).toNatClampNeg) + 1)) := ⟨_, rfl⟩
      have hf := nm_s hf w77 ew77
      have hH : rH G w77 H := ew77 ▸ hH
      obtain ⟨x78, ex78⟩ : ∃ z : Int32, z = (v35_4 + (-1)) := ⟨_, rfl⟩
      have hf := nm_s hf x78 ex78
      refine lv_iinc (v := x78) (lv' := [(4, .int x78), (0, .ref (G.2.2.1 300)), (1, .long a1)]) hx hb dX12_feed_78 hl (k := 0) rfl (by rw [ex78]; rfl) (by decide) rfl (fun ls hl => ?_)
      refine lv_goto (tgt := 35) hx hb dX12_feed_81 (by decide) ?_
      exact ih35 _ _ _ _ _ hf hH hS (lv_sub hl [0, 1, 2] rfl)
  exact hL35 _ _ _ _ _ _ hf hH hS (lv_sub hl [0, 1, 2] rfl)
def f_X12_here (w : CW) : Option (Int32) := (if ((240 + (w.2.2 4)) < 0 ∨ 3250 ≤ (240 + (w.2.2 4)).toNatClampNeg) then none else (if (w.1 0 (240 + (w.2.2 4)).toNatClampNeg) ≤ (w.2.2 5) then (some (-1)) else (if (((250 + (120 * (w.2.2 4))) + (w.2.2 5)) < 0 ∨ 3250 ≤ ((250 + (120 * (w.2.2 4))) + (w.2.2 5)).toNatClampNeg) then none else (some (w.1 0 ((250 + (120 * (w.2.2 4))) + (w.2.2 5)).toNatClampNeg)))))
abbrev rm_X12_here : Room := { frames := 1, cells := 0, slots := 0, locals := 0 }
theorem cn_X12_here : CN yX12_here 0 := ⟨by decide +kernel, by decide +kernel, by decide +kernel⟩
set_option maxHeartbeats 4000000 in
set_option maxRecDepth 100000 in
theorem c_X12_here (l : Launch) (G : GX) (w : CW) (q : Int32) (hf : f_X12_here w = some q) : MI l G yX12_here cX12_here 1 (some .int) rm_X12_here [.ref (G.2.2.1 300)] (rA G) (rH G w) (rH G w) q := by
  refine cM_start (by decide +kernel) (Nat.le_of_ble_eq_true rfl) ?_
  intro p e s m below meth c ls X hH hl
  have hS : va_S (rA G) s.heap s.heap [] := va_S.rf
  have hx := X.1.1
  have hb := X.1.2.1
  generalize hargs : ([.ref (G.2.2.1 300)] : List Value).toArray = args at X ⊢
  generalize hQ : MQ below (QI (rA G) (rH G w) q) args s 0 0 (rA G) = Q
  have hl : lv_has ls 1 [(0, .ref (G.2.2.1 300))] := hl
  unfold f_X12_here at hf
  refine lv_aload_n hx hb dX12_here_0 rfl (lv_at hl 0 rfl) ?_
  refine ro_get (C := RX12) (N := 30) X hH 0 (by decide) rO rfl inBX12 5 (by decide) rfl bw1383 dX12_here_1 ?_
  refine lv_aload_n hx hb dX12_here_4 rfl (lv_at hl 0 rfl) ?_
  refine ro_get (C := RX12) (N := 30) X hH 0 (by decide) rO rfl inBX12 1 (by decide) rfl bw1379 dX12_here_5 ?_
  refine lv_sipush (v := 240) hx hb dX12_here_8 (by decide) ?_
  refine lv_aload_n hx hb dX12_here_11 rfl (lv_at hl 0 rfl) ?_
  refine ro_get (C := RX12) (N := 30) X hH 0 (by decide) rO rfl inBX12 4 (by decide) rfl bw1382 dX12_here_12 ?_
  refine lv_iadd hx hb dX12_here_15 ?_
  by_cases hc : ((240 + (w.2.2 4)) < 0 ∨ 3250 ≤ (240 + (w.2.2 4)).toNatClampNeg)
  · cases (fo_t hc hf)
  have hf := fo_f hc hf
  refine ra_ld X hH 0 (by decide) (by decide) hc dX12_here_16 ?_
  refine lv_icmp_ge (tgt := 44) hx hb dX12_here_17 (by decide) (fun hc => ?_) (fun hc => ?_)
  · have hf := fo_t hc hf
    refine lv_iconst (v := (-1)) hx hb dX12_here_44 (by decide) ?_
    subst hQ
    exact cEi X hH hS (so_s hf) dX12_here_45
  have hf := fo_f hc hf
  refine lv_aload_n hx hb dX12_here_20 rfl (lv_at hl 0 rfl) ?_
  refine ro_get (C := RX12) (N := 30) X hH 0 (by decide) rO rfl inBX12 1 (by decide) rfl bw1379 dX12_here_21 ?_
  refine lv_sipush (v := 250) hx hb dX12_here_24 (by decide) ?_
  refine lv_bipush (v := 120) hx hb dX12_here_27 (by decide) ?_
  refine lv_aload_n hx hb dX12_here_29 rfl (lv_at hl 0 rfl) ?_
  refine ro_get (C := RX12) (N := 30) X hH 0 (by decide) rO rfl inBX12 4 (by decide) rfl bw1382 dX12_here_30 ?_
  refine lv_imul hx hb dX12_here_33 ?_
  refine lv_iadd hx hb dX12_here_34 ?_
  refine lv_aload_n hx hb dX12_here_35 rfl (lv_at hl 0 rfl) ?_
  refine ro_get (C := RX12) (N := 30) X hH 0 (by decide) rO rfl inBX12 5 (by decide) rfl bw1383 dX12_here_36 ?_
  refine lv_iadd hx hb dX12_here_39 ?_
  by_cases hc : (((250 + (120 * (w.2.2 4))) + (w.2.2 5)) < 0 ∨ 3250 ≤ ((250 + (120 * (w.2.2 4))) + (w.2.2 5)).toNatClampNeg)
  · cases (fo_t hc hf)
  have hf := fo_f hc hf
  refine ra_ld X hH 0 (by decide) (by decide) hc dX12_here_40 ?_
  refine lv_goto (tgt := 45) hx hb dX12_here_41 (by decide) ?_
  subst hQ
  exact cEi X hH hS (so_s hf) dX12_here_45
def f_X12_must (w : CW) (a1 : Int32) : Option (CW) := (nmk (fun (z21_0 : Int32) => (nmk (sS w 6 z21_0) fun w21 => (nmk (sS w21 5 ((w21.2.2 5) + (if (w21.2.2 6) = 0 then 1 else 0))) fun w42 => (some w42)))) fun j21 => (nmk (fun (_ : Unit) => (j21 1)) fun j16 => (if (w.2.2 6) = 0 then (Option.bind (f_X12_here w) fun q9 => (if q9 = a1 then (j21 0) else (j16 ()))) else (j16 ()))))
abbrev rm_X12_must : Room := { frames := 2, cells := 0, slots := 0, locals := 20 }
theorem cn_X12_must : CN yX12_must 1 := ⟨by decide +kernel, by decide +kernel, by decide +kernel⟩
set_option maxHeartbeats 4000000 in
set_option maxRecDepth 100000 in
theorem c_X12_must (l : Launch) (G : GX) (w : CW) (a1 : Int32) (q : CW) (hf : f_X12_must w a1 = some q) : MV l G yX12_must cX12_must 2 rm_X12_must [.ref (G.2.2.1 300), .int a1] (rA G) (rH G w) (rH G q) := by
  refine cM_start (by decide +kernel) (Nat.le_of_ble_eq_true rfl) ?_
  intro p e s m below meth c ls X hH hl
  have hS : va_S (rA G) s.heap s.heap [] := va_S.rf
  have hx := X.1.1
  have hb := X.1.2.1
  generalize hargs : ([.ref (G.2.2.1 300), .int a1] : List Value).toArray = args at X ⊢
  generalize hQ : MQ below (QV (rA G) (rH G q)) args s 0 0 (rA G) = Q
  have hl : lv_has ls 2 [(0, .ref (G.2.2.1 300)), (1, .int a1)] := hl
  unfold f_X12_must at hf
  refine lv_aload_n hx hb dX12_must_0 rfl (lv_at hl 0 rfl) ?_
  refine lv_aload_n hx hb dX12_must_1 rfl (lv_at hl 0 rfl) ?_
  refine ro_get (C := RX12) (N := 30) X hH 0 (by decide) rO rfl inBX12 6 (by decide) rfl bw1384 dX12_must_2 ?_
  obtain ⟨j21, ej21, hf⟩ := nm_x hf
  have hj21 : ∀ (z21_0 : Int32) (H : Heap) (locs : List Loc) (ls : Array Slot), (z21_0 = 0 ∨ z21_0 = 1) → j21 z21_0 = some q → rH G w H → va_S (rA G) s.heap H locs → lv_has ls 2 [(0, .ref (G.2.2.1 300))] → W p l e rm_X12_must s m args below meth c H locs 0 0 Q (F0 m 21 ls [.int z21_0, .ref (G.2.2.1 300)]) := by
    intro z21_0 H locs ls hzz21_0 hf hH hS hl
    have hf := jb1 ej21 hf
    refine ro_put (C := RX12) (N := 30) X hH hS 0 (by decide) rO rfl inBX12 tyX12 tyX12_ok nmX12 6 (by decide) bw1384 rfl (nz hzz21_0) (fz hzz21_0) (by simp) (sS w 6 z21_0) rfl rE_sS dX12_must_21 (fun H locs hH hS => ?_)
    obtain ⟨w21, ew21⟩ : ∃ z : CW, z = (sS w 6 z21_0) := ⟨_, rfl⟩
    have hf := nm_s hf w21 ew21
    have hH : rH G w21 H := ew21 ▸ hH
    refine lv_aload_n hx hb dX12_must_24 rfl (lv_at hl 0 rfl) ?_
    refine lv_dup hx hb dX12_must_25 rfl ?_
    refine ro_get (C := RX12) (N := 30) X hH 0 (by decide) rO rfl inBX12 5 (by decide) rfl bw1383 dX12_must_26 ?_
    refine lv_aload_n hx hb dX12_must_29 rfl (lv_at hl 0 rfl) ?_
    refine ro_get (C := RX12) (N := 30) X hH 0 (by decide) rO rfl inBX12 6 (by decide) rfl bw1384 dX12_must_30 ?_
    have hJ : ∀ (H : Heap) (locs : List Loc), rH G w21 H → va_S (rA G) s.heap H locs → W p l e rm_X12_must s m args below meth c H locs 0 0 Q (F0 m 41 ls [.int (if (w21.2.2 6) = 0 then 1 else 0), .int (w21.2.2 5), .ref (G.2.2.1 300)]) := by
      intro H locs hH hS
      refine lv_iadd hx hb dX12_must_41 ?_
      refine ro_put (C := RX12) (N := 30) X hH hS 0 (by decide) rO rfl inBX12 tyX12 tyX12_ok nmX12 5 (by decide) bw1383 rfl rfl rfl (by simp) (sS w21 5 ((w21.2.2 5) + (if (w21.2.2 6) = 0 then 1 else 0))) rfl rE_sS dX12_must_42 (fun H locs hH hS => ?_)
      obtain ⟨w42, ew42⟩ : ∃ z : CW, z = (sS w21 5 ((w21.2.2 5) + (if (w21.2.2 6) = 0 then 1 else 0))) := ⟨_, rfl⟩
      have hf := nm_s hf w42 ew42
      have hH : rH G w42 H := ew42 ▸ hH
      subst hQ
      exact cEv X (rH1 (so_s hf) hH) hS dX12_must_45
    refine lv_if_eq (tgt := 40) hx hb dX12_must_33 (by decide) (fun hc33 => ?_) (fun hc33 => ?_)
    · refine lv_iconst (v := 1) hx hb dX12_must_40 (by decide) ?_
      exact W.eq (by rw [if_pos hc33] <;> rfl) (hJ _ _ hH hS)
    · refine lv_iconst (v := 0) hx hb dX12_must_36 (by decide) ?_
      refine lv_goto (tgt := 41) hx hb dX12_must_37 (by decide) ?_
      exact W.eq (by rw [if_neg hc33] <;> rfl) (hJ _ _ hH hS)
  obtain ⟨j16, ej16, hf⟩ := nm_x hf
  have hj16 : ∀ (u0 : Unit) (H : Heap) (locs : List Loc) (ls : Array Slot), j16 u0 = some q → rH G w H → va_S (rA G) s.heap H locs → lv_has ls 2 [(0, .ref (G.2.2.1 300))] → W p l e rm_X12_must s m args below meth c H locs 0 0 Q (F0 m 16 ls [.ref (G.2.2.1 300)]) := by
    intro u0 H locs ls hf hH hS hl
    have hf := jb1 ej16 hf
    refine lv_iconst (v := 1) hx hb dX12_must_16 (by decide) ?_
    refine lv_goto (tgt := 21) hx hb dX12_must_17 (by decide) ?_
    exact hj21 _ _ _ _ zb1 hf hH hS (lv_sub hl [0] rfl)
  refine lv_if_ne (tgt := 16) hx hb dX12_must_5 (by decide) (fun hc => ?_) (fun hc => ?_)
  · have hf := fo_f hc hf
    exact hj16 () _ _ _ hf hH hS (lv_sub hl [0] rfl)
  have hf := fo_t hc hf
  refine lv_aload_n hx hb dX12_must_8 rfl (lv_at hl 0 rfl) ?_
  obtain ⟨q9, hq9, hf⟩ := bd_s hf
  refine cGi (cVrun (rest := [.ref (G.2.2.1 300)]) X (c_X12_here l G w q9 hq9) bw1520 bw1522 bw53 bw105 bw1523 cn_X12_here ⟨rfl, rfl, Nat.le_of_ble_eq_true rfl, Nat.le_of_ble_eq_true rfl⟩ (r_rec X hH) rA_g hH hS hl rfl (Nat.le_of_ble_eq_true rfl) dX12_must_9) hS (fun H locs hH hS => ?_)
  refine lv_iload_n hx hb dX12_must_12 rfl (lv_at hl 1 rfl) ?_
  refine lv_icmp_eq (tgt := 20) hx hb dX12_must_13 (by decide) (fun hc => ?_) (fun hc => ?_)
  rotate_left
  · have hf := fo_f hc hf
    exact hj16 () _ _ _ hf hH hS (lv_sub hl [0] rfl)
  have hf := fo_t hc hf
  refine lv_iconst (v := 0) hx hb dX12_must_20 (by decide) ?_
  exact hj21 _ _ _ _ zb0 hf hH hS (lv_sub hl [0] rfl)
def f_X12_number_L34  : Nat → Int32 → Int32 → CW → Option (Int32 × CW)
  | 0, _, _, _ => none
  | n34 + 1, v34_1, v34_2, w34_ => (if 2 ≤ v34_2 then (some (v34_1, w34_)) else (if (w34_.2.2 6) = 0 then (Option.bind (f_X12_here w34_) fun q47 => (if (f_X12_in q47 48 57) = 0 then (some (v34_1, w34_)) else (nmk (fun (_ : Unit) => (Option.bind (f_X12_here w34_) fun q73 => (nmk (((10 * v34_1) + q73) - 48) fun (x80 : Int32) => (nmk (sS w34_ 5 ((w34_.2.2 5) + 1)) fun w88 => (nmk (v34_2 + 1) fun (x91 : Int32) => (f_X12_number_L34 n34 x80 x91 w88)))))) fun j68 => (if v34_2 = 0 then (j68 ()) else (if v34_1 ≤ 0 then (some (v34_1, w34_)) else (j68 ())))))) else (some (v34_1, w34_))))
def f_X12_number (w : CW) : Option (Int32 × CW) := (nmk (fun (z27_0 : Int32) => (nmk (sS w 6 z27_0) fun w27 => (f_X12_number_L34 FU 0 0 w27))) fun j27 => (nmk (fun (_ : Unit) => (j27 1)) fun j22 => (if (w.2.2 6) = 0 then (Option.bind (f_X12_here w) fun q9 => (if (f_X12_in q9 48 57) = 0 then (j22 ()) else (j27 0))) else (j22 ()))))
abbrev rm_X12_number : Room := { frames := 2, cells := 0, slots := 0, locals := 22 }
theorem cn_X12_number : CN yX12_number 0 := ⟨by decide +kernel, by decide +kernel, by decide +kernel⟩
set_option maxHeartbeats 4000000 in
set_option maxRecDepth 100000 in
theorem c_X12_number (l : Launch) (G : GX) (w : CW) (q : Int32 × CW) (hf : f_X12_number w = some q) : MI l G yX12_number cX12_number 3 (some .int) rm_X12_number [.ref (G.2.2.1 300)] (rA G) (rH G w) (rH G q.2) q.1 := by
  refine cM_start (by decide +kernel) (Nat.le_of_ble_eq_true rfl) ?_
  intro p e s m below meth c ls X hH hl
  have hS : va_S (rA G) s.heap s.heap [] := va_S.rf
  have hx := X.1.1
  have hb := X.1.2.1
  generalize hargs : ([.ref (G.2.2.1 300)] : List Value).toArray = args at X ⊢
  generalize hQ : MQ below (QI (rA G) (rH G q.2) q.1) args s 0 0 (rA G) = Q
  have hl : lv_has ls 3 [(0, .ref (G.2.2.1 300))] := hl
  unfold f_X12_number at hf
  refine lv_aload_n hx hb dX12_number_0 rfl (lv_at hl 0 rfl) ?_
  refine lv_aload_n hx hb dX12_number_1 rfl (lv_at hl 0 rfl) ?_
  refine ro_get (C := RX12) (N := 30) X hH 0 (by decide) rO rfl inBX12 6 (by decide) rfl bw1384 dX12_number_2 ?_
  obtain ⟨j27, ej27, hf⟩ := nm_x hf
  have hj27 : ∀ (z27_0 : Int32) (H : Heap) (locs : List Loc) (ls : Array Slot), (z27_0 = 0 ∨ z27_0 = 1) → j27 z27_0 = some q → rH G w H → va_S (rA G) s.heap H locs → lv_has ls 3 [(0, .ref (G.2.2.1 300))] → W p l e rm_X12_number s m args below meth c H locs 0 0 Q (F0 m 27 ls [.int z27_0, .ref (G.2.2.1 300)]) := by
    intro z27_0 H locs ls hzz27_0 hf hH hS hl
    have hf := jb1 ej27 hf
    refine ro_put (C := RX12) (N := 30) X hH hS 0 (by decide) rO rfl inBX12 tyX12 tyX12_ok nmX12 6 (by decide) bw1384 rfl (nz hzz27_0) (fz hzz27_0) (by simp) (sS w 6 z27_0) rfl rE_sS dX12_number_27 (fun H locs hH hS => ?_)
    obtain ⟨w27, ew27⟩ : ∃ z : CW, z = (sS w 6 z27_0) := ⟨_, rfl⟩
    have hf := nm_s hf w27 ew27
    have hH : rH G w27 H := ew27 ▸ hH
    refine lv_iconst (v := 0) hx hb dX12_number_30 (by decide) ?_
    refine lv_istore_n (lv' := [(1, .int 0), (0, .ref (G.2.2.1 300))]) hx hb dX12_number_31 rfl hl (by decide) rfl (fun ls hl => ?_)
    refine lv_iconst (v := 0) hx hb dX12_number_32 (by decide) ?_
    refine lv_istore_n (lv' := [(2, .int 0), (1, .int 0), (0, .ref (G.2.2.1 300))]) hx hb dX12_number_33 rfl hl (by decide) rfl (fun ls hl => ?_)
    have hL34 : ∀ (n34 : Nat) (v34_1 : Int32) (v34_2 : Int32) (w34_ : CW) (H : Heap) (locs : List Loc) (ls : Array Slot), f_X12_number_L34 n34 v34_1 v34_2 w34_ = some q → rH G w34_ H → va_S (rA G) s.heap H locs → lv_has ls 3 [(2, .int v34_2), (1, .int v34_1), (0, .ref (G.2.2.1 300))] → W p l e rm_X12_number s m args below meth c H locs 0 0 Q (F0 m 34 ls []) := by
      intro n34
      induction n34 with
      | zero => intro v34_1 v34_2 w34_ H locs ls hf; rw [f_X12_number_L34] at hf; cases hf
      | succ n34 ih34 =>
        intro v34_1 v34_2 w34_ H locs ls hf hH hS hl
        rw [f_X12_number_L34] at hf
        refine lv_iload_n hx hb dX12_number_34 rfl (lv_at hl 0 rfl) ?_
        refine lv_iconst (v := 2) hx hb dX12_number_35 (by decide) ?_
        refine lv_icmp_ge (tgt := 97) hx hb dX12_number_36 (by decide) (fun hc => ?_) (fun hc => ?_)
        · have hf := fo_t hc hf
          refine lv_iload_n hx hb dX12_number_97 rfl (lv_at hl 1 rfl) ?_
          subst hQ
          exact cEi X (rH2 (so_s hf) hH) hS (pf1 (so_s hf)) dX12_number_98
        have hf := fo_f hc hf
        refine lv_aload_n hx hb dX12_number_39 rfl (lv_at hl 2 rfl) ?_
        refine ro_get (C := RX12) (N := 30) X hH 0 (by decide) rO rfl inBX12 6 (by decide) rfl bw1384 dX12_number_40 ?_
        refine lv_if_ne (tgt := 97) hx hb dX12_number_43 (by decide) (fun hc => ?_) (fun hc => ?_)
        · have hf := fo_f hc hf
          refine lv_iload_n hx hb dX12_number_97 rfl (lv_at hl 1 rfl) ?_
          subst hQ
          exact cEi X (rH2 (so_s hf) hH) hS (pf1 (so_s hf)) dX12_number_98
        have hf := fo_t hc hf
        refine lv_aload_n hx hb dX12_number_46 rfl (lv_at hl 2 rfl) ?_
        obtain ⟨q47, hq47, hf⟩ := bd_s hf
        refine cGi (cVrun (rest := []) X (c_X12_here l G w34_ q47 hq47) bw1520 bw1522 bw53 bw105 bw1523 cn_X12_here ⟨rfl, rfl, Nat.le_of_ble_eq_true rfl, Nat.le_of_ble_eq_true rfl⟩ (r_rec X hH) rA_g hH hS hl rfl (Nat.le_of_ble_eq_true rfl) dX12_number_47) hS (fun H locs hH hS => ?_)
        refine lv_bipush (v := 48) hx hb dX12_number_50 (by decide) ?_
        refine lv_bipush (v := 57) hx hb dX12_number_52 (by decide) ?_
        refine cGi (cSrun (rest := []) X (c_X12_in l G (rH G w34_) (rA G) rA_g q47 48 57 _ rfl) bw1477 bw1478 bw105 bw1479 cn_X12_in ⟨rfl, rfl, Nat.le_of_ble_eq_true rfl, Nat.le_of_ble_eq_true rfl⟩ rA_g hH hS hl rfl (Nat.le_of_ble_eq_true rfl) dX12_number_54) hS (fun H locs hH hS => ?_)
        refine lv_if_eq (tgt := 97) hx hb dX12_number_57 (by decide) (fun hc => ?_) (fun hc => ?_)
        · have hf := fo_t hc hf
          refine lv_iload_n hx hb dX12_number_97 rfl (lv_at hl 1 rfl) ?_
          subst hQ
          exact cEi X (rH2 (so_s hf) hH) hS (pf1 (so_s hf)) dX12_number_98
        have hf := fo_f hc hf
        refine lv_iload_n hx hb dX12_number_60 rfl (lv_at hl 0 rfl) ?_
        obtain ⟨j68, ej68, hf⟩ := nm_x hf
        have hj68 : ∀ (u0 : Unit) (H : Heap) (locs : List Loc) (ls : Array Slot), j68 u0 = some q → rH G w34_ H → va_S (rA G) s.heap H locs → lv_has ls 3 [(2, .int v34_2), (1, .int v34_1), (0, .ref (G.2.2.1 300))] → W p l e rm_X12_number s m args below meth c H locs 0 0 Q (F0 m 68 ls []) := by
          intro u0 H locs ls hf hH hS hl
          have hf := jb1 ej68 hf
          refine lv_bipush (v := 10) hx hb dX12_number_68 (by decide) ?_
          refine lv_iload_n hx hb dX12_number_70 rfl (lv_at hl 1 rfl) ?_
          refine lv_imul hx hb dX12_number_71 ?_
          refine lv_aload_n hx hb dX12_number_72 rfl (lv_at hl 2 rfl) ?_
          obtain ⟨q73, hq73, hf⟩ := bd_s hf
          refine cGi (cVrun (rest := [.int (10 * v34_1)]) X (c_X12_here l G w34_ q73 hq73) bw1520 bw1522 bw53 bw105 bw1523 cn_X12_here ⟨rfl, rfl, Nat.le_of_ble_eq_true rfl, Nat.le_of_ble_eq_true rfl⟩ (r_rec X hH) rA_g hH hS hl rfl (Nat.le_of_ble_eq_true rfl) dX12_number_73) hS (fun H locs hH hS => ?_)
          refine lv_iadd hx hb dX12_number_76 ?_
          refine lv_bipush (v := 48) hx hb dX12_number_77 (by decide) ?_
          refine lv_isub hx hb dX12_number_79 ?_
          refine lv_topi (fun x80 ex80 => ?_)
          have hf := nm_s hf x80 ex80
          refine lv_istore_n (lv' := [(1, .int x80), (2, .int v34_2), (0, .ref (G.2.2.1 300))]) hx hb dX12_number_80 rfl hl (by decide) rfl (fun ls hl => ?_)
          refine lv_aload_n hx hb dX12_number_81 rfl (lv_at hl 2 rfl) ?_
          refine lv_dup hx hb dX12_number_82 rfl ?_
          refine ro_get (C := RX12) (N := 30) X hH 0 (by decide) rO rfl inBX12 5 (by decide) rfl bw1383 dX12_number_83 ?_
          refine lv_iconst (v := 1) hx hb dX12_number_86 (by decide) ?_
          refine lv_iadd hx hb dX12_number_87 ?_
          refine ro_put (C := RX12) (N := 30) X hH hS 0 (by decide) rO rfl inBX12 tyX12 tyX12_ok nmX12 5 (by decide) bw1383 rfl rfl rfl (by simp) (sS w34_ 5 ((w34_.2.2 5) + 1)) rfl rE_sS dX12_number_88 (fun H locs hH hS => ?_)
          obtain ⟨w88, ew88⟩ : ∃ z : CW, z = (sS w34_ 5 ((w34_.2.2 5) + 1)) := ⟨_, rfl⟩
          have hf := nm_s hf w88 ew88
          have hH : rH G w88 H := ew88 ▸ hH
          obtain ⟨x91, ex91⟩ : ∃ z : Int32, z = (v34_2 + 1) := ⟨_, rfl⟩
          have hf := nm_s hf x91 ex91
          refine lv_iinc (v := x91) (lv' := [(2, .int x91), (1, .int x80), (0, .ref (G.2.2.1 300))]) hx hb dX12_number_91 hl (k := 1) rfl (by rw [ex91]; rfl) (by decide) rfl (fun ls hl => ?_)
          refine lv_goto (tgt := 34) hx hb dX12_number_94 (by decide) ?_
          exact ih34 _ _ _ _ _ _ hf hH hS (lv_sub hl [0, 1, 2] rfl)
        refine lv_if_eq (tgt := 68) hx hb dX12_number_61 (by decide) (fun hc => ?_) (fun hc => ?_)
        · have hf := fo_t hc hf
          exact hj68 () _ _ _ hf hH hS (lv_sub hl [0, 1, 2] rfl)
        have hf := fo_f hc hf
        refine lv_iload_n hx hb dX12_number_64 rfl (lv_at hl 1 rfl) ?_
        refine lv_if_le (tgt := 97) hx hb dX12_number_65 (by decide) (fun hc => ?_) (fun hc => ?_)
        rotate_left
        · have hf := fo_f hc hf
          exact hj68 () _ _ _ hf hH hS (lv_sub hl [0, 1, 2] rfl)
        have hf := fo_t hc hf
        refine lv_iload_n hx hb dX12_number_97 rfl (lv_at hl 1 rfl) ?_
        subst hQ
        exact cEi X (rH2 (so_s hf) hH) hS (pf1 (so_s hf)) dX12_number_98
    exact hL34 _ _ _ _ _ _ _ hf hH hS (lv_sub hl [0, 1, 2] rfl)
  obtain ⟨j22, ej22, hf⟩ := nm_x hf
  have hj22 : ∀ (u0 : Unit) (H : Heap) (locs : List Loc) (ls : Array Slot), j22 u0 = some q → rH G w H → va_S (rA G) s.heap H locs → lv_has ls 3 [(0, .ref (G.2.2.1 300))] → W p l e rm_X12_number s m args below meth c H locs 0 0 Q (F0 m 22 ls [.ref (G.2.2.1 300)]) := by
    intro u0 H locs ls hf hH hS hl
    have hf := jb1 ej22 hf
    refine lv_iconst (v := 1) hx hb dX12_number_22 (by decide) ?_
    refine lv_goto (tgt := 27) hx hb dX12_number_23 (by decide) ?_
    exact hj27 _ _ _ _ zb1 hf hH hS (lv_sub hl [0] rfl)
  refine lv_if_ne (tgt := 22) hx hb dX12_number_5 (by decide) (fun hc => ?_) (fun hc => ?_)
  · have hf := fo_f hc hf
    exact hj22 () _ _ _ hf hH hS (lv_sub hl [0] rfl)
  have hf := fo_t hc hf
  refine lv_aload_n hx hb dX12_number_8 rfl (lv_at hl 0 rfl) ?_
  obtain ⟨q9, hq9, hf⟩ := bd_s hf
  refine cGi (cVrun (rest := [.ref (G.2.2.1 300)]) X (c_X12_here l G w q9 hq9) bw1520 bw1522 bw53 bw105 bw1523 cn_X12_here ⟨rfl, rfl, Nat.le_of_ble_eq_true rfl, Nat.le_of_ble_eq_true rfl⟩ (r_rec X hH) rA_g hH hS hl rfl (Nat.le_of_ble_eq_true rfl) dX12_number_9) hS (fun H locs hH hS => ?_)
  refine lv_bipush (v := 48) hx hb dX12_number_12 (by decide) ?_
  refine lv_bipush (v := 57) hx hb dX12_number_14 (by decide) ?_
  refine cGi (cSrun (rest := [.ref (G.2.2.1 300)]) X (c_X12_in l G (rH G w) (rA G) rA_g q9 48 57 _ rfl) bw1477 bw1478 bw105 bw1479 cn_X12_in ⟨rfl, rfl, Nat.le_of_ble_eq_true rfl, Nat.le_of_ble_eq_true rfl⟩ rA_g hH hS hl rfl (Nat.le_of_ble_eq_true rfl) dX12_number_16) hS (fun H locs hH hS => ?_)
  refine lv_if_ne (tgt := 26) hx hb dX12_number_19 (by decide) (fun hc => ?_) (fun hc => ?_)
  rotate_left
  · have hf := fo_t hc hf
    exact hj22 () _ _ _ hf hH hS (lv_sub hl [0] rfl)
  have hf := fo_f hc hf
  refine lv_iconst (v := 0) hx hb dX12_number_26 (by decide) ?_
  exact hj27 _ _ _ _ zb0 hf hH hS (lv_sub hl [0] rfl)
def f_X12_figure (w : CW) (a1 : Int32) : Option (Int32 × CW) := (nmk (fun (z29_0 : Int32) => (nmk (sS w 6 z29_0) fun w29 => (Option.bind (f_X12_here w29) fun q33 => (nmk (q33 - 48) fun (x39 : Int32) => (nmk (sS w29 5 ((w29.2.2 5) + (if (w29.2.2 6) = 0 then 1 else 0))) fun w58 => (some (x39, w58))))))) fun j29 => (nmk (fun (_ : Unit) => (j29 1)) fun j24 => (if (w.2.2 6) = 0 then (Option.bind (f_X12_here w) fun q9 => (if (f_X12_in q9 (48 + a1) 57) = 0 then (j24 ()) else (j29 0))) else (j24 ()))))
abbrev rm_X12_figure : Room := { frames := 2, cells := 0, slots := 0, locals := 22 }
theorem cn_X12_figure : CN yX12_figure 1 := ⟨by decide +kernel, by decide +kernel, by decide +kernel⟩
set_option maxHeartbeats 4000000 in
set_option maxRecDepth 100000 in
theorem c_X12_figure (l : Launch) (G : GX) (w : CW) (a1 : Int32) (q : Int32 × CW) (hf : f_X12_figure w a1 = some q) : MI l G yX12_figure cX12_figure 3 (some .int) rm_X12_figure [.ref (G.2.2.1 300), .int a1] (rA G) (rH G w) (rH G q.2) q.1 := by
  refine cM_start (by decide +kernel) (Nat.le_of_ble_eq_true rfl) ?_
  intro p e s m below meth c ls X hH hl
  have hS : va_S (rA G) s.heap s.heap [] := va_S.rf
  have hx := X.1.1
  have hb := X.1.2.1
  generalize hargs : ([.ref (G.2.2.1 300), .int a1] : List Value).toArray = args at X ⊢
  generalize hQ : MQ below (QI (rA G) (rH G q.2) q.1) args s 0 0 (rA G) = Q
  have hl : lv_has ls 3 [(0, .ref (G.2.2.1 300)), (1, .int a1)] := hl
  unfold f_X12_figure at hf
  refine lv_aload_n hx hb dX12_figure_0 rfl (lv_at hl 0 rfl) ?_
  refine lv_aload_n hx hb dX12_figure_1 rfl (lv_at hl 0 rfl) ?_
  refine ro_get (C := RX12) (N := 30) X hH 0 (by decide) rO rfl inBX12 6 (by decide) rfl bw1384 dX12_figure_2 ?_
  obtain ⟨j29, ej29, hf⟩ := nm_x hf
  have hj29 : ∀ (z29_0 : Int32) (H : Heap) (locs : List Loc) (ls : Array Slot), (z29_0 = 0 ∨ z29_0 = 1) → j29 z29_0 = some q → rH G w H → va_S (rA G) s.heap H locs → lv_has ls 3 [(0, .ref (G.2.2.1 300))] → W p l e rm_X12_figure s m args below meth c H locs 0 0 Q (F0 m 29 ls [.int z29_0, .ref (G.2.2.1 300)]) := by
    intro z29_0 H locs ls hzz29_0 hf hH hS hl
    have hf := jb1 ej29 hf
    refine ro_put (C := RX12) (N := 30) X hH hS 0 (by decide) rO rfl inBX12 tyX12 tyX12_ok nmX12 6 (by decide) bw1384 rfl (nz hzz29_0) (fz hzz29_0) (by simp) (sS w 6 z29_0) rfl rE_sS dX12_figure_29 (fun H locs hH hS => ?_)
    obtain ⟨w29, ew29⟩ : ∃ z : CW, z = (sS w 6 z29_0) := ⟨_, rfl⟩
    have hf := nm_s hf w29 ew29
    have hH : rH G w29 H := ew29 ▸ hH
    refine lv_aload_n hx hb dX12_figure_32 rfl (lv_at hl 0 rfl) ?_
    obtain ⟨q33, hq33, hf⟩ := bd_s hf
    refine cGi (cVrun (rest := []) X (c_X12_here l G w29 q33 hq33) bw1520 bw1522 bw53 bw105 bw1523 cn_X12_here ⟨rfl, rfl, Nat.le_of_ble_eq_true rfl, Nat.le_of_ble_eq_true rfl⟩ (r_rec X hH) rA_g hH hS hl rfl (Nat.le_of_ble_eq_true rfl) dX12_figure_33) hS (fun H locs hH hS => ?_)
    refine lv_bipush (v := 48) hx hb dX12_figure_36 (by decide) ?_
    refine lv_isub hx hb dX12_figure_38 ?_
    refine lv_topi (fun x39 ex39 => ?_)
    have hf := nm_s hf x39 ex39
    refine lv_istore_n (lv' := [(2, .int x39), (0, .ref (G.2.2.1 300))]) hx hb dX12_figure_39 rfl hl (by decide) rfl (fun ls hl => ?_)
    refine lv_aload_n hx hb dX12_figure_40 rfl (lv_at hl 1 rfl) ?_
    refine lv_dup hx hb dX12_figure_41 rfl ?_
    refine ro_get (C := RX12) (N := 30) X hH 0 (by decide) rO rfl inBX12 5 (by decide) rfl bw1383 dX12_figure_42 ?_
    refine lv_aload_n hx hb dX12_figure_45 rfl (lv_at hl 1 rfl) ?_
    refine ro_get (C := RX12) (N := 30) X hH 0 (by decide) rO rfl inBX12 6 (by decide) rfl bw1384 dX12_figure_46 ?_
    have hJ : ∀ (H : Heap) (locs : List Loc), rH G w29 H → va_S (rA G) s.heap H locs → W p l e rm_X12_figure s m args below meth c H locs 0 0 Q (F0 m 57 ls [.int (if (w29.2.2 6) = 0 then 1 else 0), .int (w29.2.2 5), .ref (G.2.2.1 300)]) := by
      intro H locs hH hS
      refine lv_iadd hx hb dX12_figure_57 ?_
      refine ro_put (C := RX12) (N := 30) X hH hS 0 (by decide) rO rfl inBX12 tyX12 tyX12_ok nmX12 5 (by decide) bw1383 rfl rfl rfl (by simp) (sS w29 5 ((w29.2.2 5) + (if (w29.2.2 6) = 0 then 1 else 0))) rfl rE_sS dX12_figure_58 (fun H locs hH hS => ?_)
      obtain ⟨w58, ew58⟩ : ∃ z : CW, z = (sS w29 5 ((w29.2.2 5) + (if (w29.2.2 6) = 0 then 1 else 0))) := ⟨_, rfl⟩
      have hf := nm_s hf w58 ew58
      have hH : rH G w58 H := ew58 ▸ hH
      refine lv_iload_n hx hb dX12_figure_61 rfl (lv_at hl 0 rfl) ?_
      subst hQ
      exact cEi X (rH2 (so_s hf) hH) hS (pf1 (so_s hf)) dX12_figure_62
    refine lv_if_eq (tgt := 56) hx hb dX12_figure_49 (by decide) (fun hc49 => ?_) (fun hc49 => ?_)
    · refine lv_iconst (v := 1) hx hb dX12_figure_56 (by decide) ?_
      exact W.eq (by rw [if_pos hc49] <;> rfl) (hJ _ _ hH hS)
    · refine lv_iconst (v := 0) hx hb dX12_figure_52 (by decide) ?_
      refine lv_goto (tgt := 57) hx hb dX12_figure_53 (by decide) ?_
      exact W.eq (by rw [if_neg hc49] <;> rfl) (hJ _ _ hH hS)
  obtain ⟨j24, ej24, hf⟩ := nm_x hf
  have hj24 : ∀ (u0 : Unit) (H : Heap) (locs : List Loc) (ls : Array Slot), j24 u0 = some q → rH G w H → va_S (rA G) s.heap H locs → lv_has ls 3 [(0, .ref (G.2.2.1 300))] → W p l e rm_X12_figure s m args below meth c H locs 0 0 Q (F0 m 24 ls [.ref (G.2.2.1 300)]) := by
    intro u0 H locs ls hf hH hS hl
    have hf := jb1 ej24 hf
    refine lv_iconst (v := 1) hx hb dX12_figure_24 (by decide) ?_
    refine lv_goto (tgt := 29) hx hb dX12_figure_25 (by decide) ?_
    exact hj29 _ _ _ _ zb1 hf hH hS (lv_sub hl [0] rfl)
  refine lv_if_ne (tgt := 24) hx hb dX12_figure_5 (by decide) (fun hc => ?_) (fun hc => ?_)
  · have hf := fo_f hc hf
    exact hj24 () _ _ _ hf hH hS (lv_sub hl [0] rfl)
  have hf := fo_t hc hf
  refine lv_aload_n hx hb dX12_figure_8 rfl (lv_at hl 0 rfl) ?_
  obtain ⟨q9, hq9, hf⟩ := bd_s hf
  refine cGi (cVrun (rest := [.ref (G.2.2.1 300)]) X (c_X12_here l G w q9 hq9) bw1520 bw1522 bw53 bw105 bw1523 cn_X12_here ⟨rfl, rfl, Nat.le_of_ble_eq_true rfl, Nat.le_of_ble_eq_true rfl⟩ (r_rec X hH) rA_g hH hS hl rfl (Nat.le_of_ble_eq_true rfl) dX12_figure_9) hS (fun H locs hH hS => ?_)
  refine lv_bipush (v := 48) hx hb dX12_figure_12 (by decide) ?_
  refine lv_iload_n hx hb dX12_figure_14 rfl (lv_at hl 1 rfl) ?_
  refine lv_iadd hx hb dX12_figure_15 ?_
  refine lv_bipush (v := 57) hx hb dX12_figure_16 (by decide) ?_
  refine cGi (cSrun (rest := [.ref (G.2.2.1 300)]) X (c_X12_in l G (rH G w) (rA G) rA_g q9 (48 + a1) 57 _ rfl) bw1477 bw1478 bw105 bw1479 cn_X12_in ⟨rfl, rfl, Nat.le_of_ble_eq_true rfl, Nat.le_of_ble_eq_true rfl⟩ rA_g hH hS hl rfl (Nat.le_of_ble_eq_true rfl) dX12_figure_18) hS (fun H locs hH hS => ?_)
  refine lv_if_ne (tgt := 28) hx hb dX12_figure_21 (by decide) (fun hc => ?_) (fun hc => ?_)
  rotate_left
  · have hf := fo_t hc hf
    exact hj24 () _ _ _ hf hH hS (lv_sub hl [0] rfl)
  have hf := fo_f hc hf
  refine lv_iconst (v := 0) hx hb dX12_figure_28 (by decide) ?_
  exact hj29 _ _ _ _ zb0 hf hH hS (lv_sub hl [0] rfl)
def f_X12_letter (w : CW) : Option (Int32 × CW) := (nmk (fun (z27_0 : Int32) => (nmk (sS w 6 z27_0) fun w27 => (Option.bind (f_X12_here w27) fun q31 => (nmk (q31 - 97) fun (x37 : Int32) => (nmk (sS w27 5 ((w27.2.2 5) + (if (w27.2.2 6) = 0 then 1 else 0))) fun w56 => (some (x37, w56))))))) fun j27 => (nmk (fun (_ : Unit) => (j27 1)) fun j22 => (if (w.2.2 6) = 0 then (Option.bind (f_X12_here w) fun q9 => (if (f_X12_in q9 97 122) = 0 then (j22 ()) else (j27 0))) else (j22 ()))))
abbrev rm_X12_letter : Room := { frames := 2, cells := 0, slots := 0, locals := 22 }
theorem cn_X12_letter : CN yX12_letter 0 := ⟨by decide +kernel, by decide +kernel, by decide +kernel⟩
set_option maxHeartbeats 4000000 in
set_option maxRecDepth 100000 in
theorem c_X12_letter (l : Launch) (G : GX) (w : CW) (q : Int32 × CW) (hf : f_X12_letter w = some q) : MI l G yX12_letter cX12_letter 2 (some .int) rm_X12_letter [.ref (G.2.2.1 300)] (rA G) (rH G w) (rH G q.2) q.1 := by
  refine cM_start (by decide +kernel) (Nat.le_of_ble_eq_true rfl) ?_
  intro p e s m below meth c ls X hH hl
  have hS : va_S (rA G) s.heap s.heap [] := va_S.rf
  have hx := X.1.1
  have hb := X.1.2.1
  generalize hargs : ([.ref (G.2.2.1 300)] : List Value).toArray = args at X ⊢
  generalize hQ : MQ below (QI (rA G) (rH G q.2) q.1) args s 0 0 (rA G) = Q
  have hl : lv_has ls 2 [(0, .ref (G.2.2.1 300))] := hl
  unfold f_X12_letter at hf
  refine lv_aload_n hx hb dX12_letter_0 rfl (lv_at hl 0 rfl) ?_
  refine lv_aload_n hx hb dX12_letter_1 rfl (lv_at hl 0 rfl) ?_
  refine ro_get (C := RX12) (N := 30) X hH 0 (by decide) rO rfl inBX12 6 (by decide) rfl bw1384 dX12_letter_2 ?_
  obtain ⟨j27, ej27, hf⟩ := nm_x hf
  have hj27 : ∀ (z27_0 : Int32) (H : Heap) (locs : List Loc) (ls : Array Slot), (z27_0 = 0 ∨ z27_0 = 1) → j27 z27_0 = some q → rH G w H → va_S (rA G) s.heap H locs → lv_has ls 2 [(0, .ref (G.2.2.1 300))] → W p l e rm_X12_letter s m args below meth c H locs 0 0 Q (F0 m 27 ls [.int z27_0, .ref (G.2.2.1 300)]) := by
    intro z27_0 H locs ls hzz27_0 hf hH hS hl
    have hf := jb1 ej27 hf
    refine ro_put (C := RX12) (N := 30) X hH hS 0 (by decide) rO rfl inBX12 tyX12 tyX12_ok nmX12 6 (by decide) bw1384 rfl (nz hzz27_0) (fz hzz27_0) (by simp) (sS w 6 z27_0) rfl rE_sS dX12_letter_27 (fun H locs hH hS => ?_)
    obtain ⟨w27, ew27⟩ : ∃ z : CW, z = (sS w 6 z27_0) := ⟨_, rfl⟩
    have hf := nm_s hf w27 ew27
    have hH : rH G w27 H := ew27 ▸ hH
    refine lv_aload_n hx hb dX12_letter_30 rfl (lv_at hl 0 rfl) ?_
    obtain ⟨q31, hq31, hf⟩ := bd_s hf
    refine cGi (cVrun (rest := []) X (c_X12_here l G w27 q31 hq31) bw1520 bw1522 bw53 bw105 bw1523 cn_X12_here ⟨rfl, rfl, Nat.le_of_ble_eq_true rfl, Nat.le_of_ble_eq_true rfl⟩ (r_rec X hH) rA_g hH hS hl rfl (Nat.le_of_ble_eq_true rfl) dX12_letter_31) hS (fun H locs hH hS => ?_)
    refine lv_bipush (v := 97) hx hb dX12_letter_34 (by decide) ?_
    refine lv_isub hx hb dX12_letter_36 ?_
    refine lv_topi (fun x37 ex37 => ?_)
    have hf := nm_s hf x37 ex37
    refine lv_istore_n (lv' := [(1, .int x37), (0, .ref (G.2.2.1 300))]) hx hb dX12_letter_37 rfl hl (by decide) rfl (fun ls hl => ?_)
    refine lv_aload_n hx hb dX12_letter_38 rfl (lv_at hl 1 rfl) ?_
    refine lv_dup hx hb dX12_letter_39 rfl ?_
    refine ro_get (C := RX12) (N := 30) X hH 0 (by decide) rO rfl inBX12 5 (by decide) rfl bw1383 dX12_letter_40 ?_
    refine lv_aload_n hx hb dX12_letter_43 rfl (lv_at hl 1 rfl) ?_
    refine ro_get (C := RX12) (N := 30) X hH 0 (by decide) rO rfl inBX12 6 (by decide) rfl bw1384 dX12_letter_44 ?_
    have hJ : ∀ (H : Heap) (locs : List Loc), rH G w27 H → va_S (rA G) s.heap H locs → W p l e rm_X12_letter s m args below meth c H locs 0 0 Q (F0 m 55 ls [.int (if (w27.2.2 6) = 0 then 1 else 0), .int (w27.2.2 5), .ref (G.2.2.1 300)]) := by
      intro H locs hH hS
      refine lv_iadd hx hb dX12_letter_55 ?_
      refine ro_put (C := RX12) (N := 30) X hH hS 0 (by decide) rO rfl inBX12 tyX12 tyX12_ok nmX12 5 (by decide) bw1383 rfl rfl rfl (by simp) (sS w27 5 ((w27.2.2 5) + (if (w27.2.2 6) = 0 then 1 else 0))) rfl rE_sS dX12_letter_56 (fun H locs hH hS => ?_)
      obtain ⟨w56, ew56⟩ : ∃ z : CW, z = (sS w27 5 ((w27.2.2 5) + (if (w27.2.2 6) = 0 then 1 else 0))) := ⟨_, rfl⟩
      have hf := nm_s hf w56 ew56
      have hH : rH G w56 H := ew56 ▸ hH
      refine lv_iload_n hx hb dX12_letter_59 rfl (lv_at hl 0 rfl) ?_
      subst hQ
      exact cEi X (rH2 (so_s hf) hH) hS (pf1 (so_s hf)) dX12_letter_60
    refine lv_if_eq (tgt := 54) hx hb dX12_letter_47 (by decide) (fun hc47 => ?_) (fun hc47 => ?_)
    · refine lv_iconst (v := 1) hx hb dX12_letter_54 (by decide) ?_
      exact W.eq (by rw [if_pos hc47] <;> rfl) (hJ _ _ hH hS)
    · refine lv_iconst (v := 0) hx hb dX12_letter_50 (by decide) ?_
      refine lv_goto (tgt := 55) hx hb dX12_letter_51 (by decide) ?_
      exact W.eq (by rw [if_neg hc47] <;> rfl) (hJ _ _ hH hS)
  obtain ⟨j22, ej22, hf⟩ := nm_x hf
  have hj22 : ∀ (u0 : Unit) (H : Heap) (locs : List Loc) (ls : Array Slot), j22 u0 = some q → rH G w H → va_S (rA G) s.heap H locs → lv_has ls 2 [(0, .ref (G.2.2.1 300))] → W p l e rm_X12_letter s m args below meth c H locs 0 0 Q (F0 m 22 ls [.ref (G.2.2.1 300)]) := by
    intro u0 H locs ls hf hH hS hl
    have hf := jb1 ej22 hf
    refine lv_iconst (v := 1) hx hb dX12_letter_22 (by decide) ?_
    refine lv_goto (tgt := 27) hx hb dX12_letter_23 (by decide) ?_
    exact hj27 _ _ _ _ zb1 hf hH hS (lv_sub hl [0] rfl)
  refine lv_if_ne (tgt := 22) hx hb dX12_letter_5 (by decide) (fun hc => ?_) (fun hc => ?_)
  · have hf := fo_f hc hf
    exact hj22 () _ _ _ hf hH hS (lv_sub hl [0] rfl)
  have hf := fo_t hc hf
  refine lv_aload_n hx hb dX12_letter_8 rfl (lv_at hl 0 rfl) ?_
  obtain ⟨q9, hq9, hf⟩ := bd_s hf
  refine cGi (cVrun (rest := [.ref (G.2.2.1 300)]) X (c_X12_here l G w q9 hq9) bw1520 bw1522 bw53 bw105 bw1523 cn_X12_here ⟨rfl, rfl, Nat.le_of_ble_eq_true rfl, Nat.le_of_ble_eq_true rfl⟩ (r_rec X hH) rA_g hH hS hl rfl (Nat.le_of_ble_eq_true rfl) dX12_letter_9) hS (fun H locs hH hS => ?_)
  refine lv_bipush (v := 97) hx hb dX12_letter_12 (by decide) ?_
  refine lv_bipush (v := 122) hx hb dX12_letter_14 (by decide) ?_
  refine cGi (cSrun (rest := [.ref (G.2.2.1 300)]) X (c_X12_in l G (rH G w) (rA G) rA_g q9 97 122 _ rfl) bw1477 bw1478 bw105 bw1479 cn_X12_in ⟨rfl, rfl, Nat.le_of_ble_eq_true rfl, Nat.le_of_ble_eq_true rfl⟩ rA_g hH hS hl rfl (Nat.le_of_ble_eq_true rfl) dX12_letter_16) hS (fun H locs hH hS => ?_)
  refine lv_if_ne (tgt := 26) hx hb dX12_letter_19 (by decide) (fun hc => ?_) (fun hc => ?_)
  rotate_left
  · have hf := fo_t hc hf
    exact hj22 () _ _ _ hf hH hS (lv_sub hl [0] rfl)
  have hf := fo_f hc hf
  refine lv_iconst (v := 0) hx hb dX12_letter_26 (by decide) ?_
  exact hj27 _ _ _ _ zb0 hf hH hS (lv_sub hl [0] rfl)
def f_X12_letters (w : CW) : Option (Int32 × CW) := (Option.bind (f_X12_letter w) fun q1 => (Option.bind (f_X12_letter q1.2) fun q6 => (nmk (fun (z40_0 : Int32) (w40_ : CW) => (some ((((10000 * q1.1) + (100 * q6.1)) + z40_0), w40_))) fun j40 => (nmk (fun (_ : Unit) => (j40 99 q6.2)) fun j38 => (if (q6.2.2.2 6) = 0 then (Option.bind (f_X12_here q6.2) fun q18 => (if (f_X12_in q18 97 122) = 0 then (j38 ()) else (Option.bind (f_X12_letter q6.2) fun q32 => (j40 q32.1 q32.2)))) else (j38 ()))))))
abbrev rm_X12_letters : Room := { frames := 3, cells := 0, slots := 0, locals := 43 }
theorem cn_X12_letters : CN yX12_letters 0 := ⟨by decide +kernel, by decide +kernel, by decide +kernel⟩
set_option maxHeartbeats 4000000 in
set_option maxRecDepth 100000 in
theorem c_X12_letters (l : Launch) (G : GX) (w : CW) (q : Int32 × CW) (hf : f_X12_letters w = some q) : MI l G yX12_letters cX12_letters 4 (some .int) rm_X12_letters [.ref (G.2.2.1 300)] (rA G) (rH G w) (rH G q.2) q.1 := by
  refine cM_start (by decide +kernel) (Nat.le_of_ble_eq_true rfl) ?_
  intro p e s m below meth c ls X hH hl
  have hS : va_S (rA G) s.heap s.heap [] := va_S.rf
  have hx := X.1.1
  have hb := X.1.2.1
  generalize hargs : ([.ref (G.2.2.1 300)] : List Value).toArray = args at X ⊢
  generalize hQ : MQ below (QI (rA G) (rH G q.2) q.1) args s 0 0 (rA G) = Q
  have hl : lv_has ls 4 [(0, .ref (G.2.2.1 300))] := hl
  unfold f_X12_letters at hf
  refine lv_aload_n hx hb dX12_letters_0 rfl (lv_at hl 0 rfl) ?_
  obtain ⟨q1, hq1, hf⟩ := bd_s hf
  refine cGi (cVrun (rest := []) X (c_X12_letter l G w q1 hq1) bw1546 bw1548 bw57 bw105 bw1549 cn_X12_letter ⟨rfl, rfl, Nat.le_of_ble_eq_true rfl, Nat.le_of_ble_eq_true rfl⟩ (r_rec X hH) rA_g hH hS hl rfl (Nat.le_of_ble_eq_true rfl) dX12_letters_1) hS (fun H locs hH hS => ?_)
  refine lv_istore_n (lv' := [(1, .int q1.1), (0, .ref (G.2.2.1 300))]) hx hb dX12_letters_4 rfl hl (by decide) rfl (fun ls hl => ?_)
  refine lv_aload_n hx hb dX12_letters_5 rfl (lv_at hl 1 rfl) ?_
  obtain ⟨q6, hq6, hf⟩ := bd_s hf
  refine cGi (cVrun (rest := []) X (c_X12_letter l G q1.2 q6 hq6) bw1546 bw1548 bw57 bw105 bw1549 cn_X12_letter ⟨rfl, rfl, Nat.le_of_ble_eq_true rfl, Nat.le_of_ble_eq_true rfl⟩ (r_rec X hH) rA_g hH hS hl rfl (Nat.le_of_ble_eq_true rfl) dX12_letters_6) hS (fun H locs hH hS => ?_)
  refine lv_istore_n (lv' := [(2, .int q6.1), (1, .int q1.1), (0, .ref (G.2.2.1 300))]) hx hb dX12_letters_9 rfl hl (by decide) rfl (fun ls hl => ?_)
  refine lv_aload_n hx hb dX12_letters_10 rfl (lv_at hl 2 rfl) ?_
  refine ro_get (C := RX12) (N := 30) X hH 0 (by decide) rO rfl inBX12 6 (by decide) rfl bw1384 dX12_letters_11 ?_
  obtain ⟨j40, ej40, hf⟩ := nm_x hf
  have hj40 : ∀ (z40_0 : Int32) (w40_ : CW) (H : Heap) (locs : List Loc) (ls : Array Slot), j40 z40_0 w40_ = some q → rH G w40_ H → va_S (rA G) s.heap H locs → lv_has ls 4 [(2, .int q6.1), (1, .int q1.1)] → W p l e rm_X12_letters s m args below meth c H locs 0 0 Q (F0 m 40 ls [.int z40_0]) := by
    intro z40_0 w40_ H locs ls hf hH hS hl
    have hf := jb2 ej40 hf
    refine lv_istore_n (lv' := [(3, .int z40_0), (2, .int q6.1), (1, .int q1.1)]) hx hb dX12_letters_40 rfl hl (by decide) rfl (fun ls hl => ?_)
    refine lv_sipush (v := 10000) hx hb dX12_letters_41 (by decide) ?_
    refine lv_iload_n hx hb dX12_letters_44 rfl (lv_at hl 2 rfl) ?_
    refine lv_imul hx hb dX12_letters_45 ?_
    refine lv_bipush (v := 100) hx hb dX12_letters_46 (by decide) ?_
    refine lv_iload_n hx hb dX12_letters_48 rfl (lv_at hl 1 rfl) ?_
    refine lv_imul hx hb dX12_letters_49 ?_
    refine lv_iadd hx hb dX12_letters_50 ?_
    refine lv_iload_n hx hb dX12_letters_51 rfl (lv_at hl 0 rfl) ?_
    refine lv_iadd hx hb dX12_letters_52 ?_
    subst hQ
    exact cEi X (rH2 (so_s hf) hH) hS (pf1 (so_s hf)) dX12_letters_53
  obtain ⟨j38, ej38, hf⟩ := nm_x hf
  have hj38 : ∀ (u0 : Unit) (H : Heap) (locs : List Loc) (ls : Array Slot), j38 u0 = some q → rH G q6.2 H → va_S (rA G) s.heap H locs → lv_has ls 4 [(2, .int q6.1), (1, .int q1.1)] → W p l e rm_X12_letters s m args below meth c H locs 0 0 Q (F0 m 38 ls []) := by
    intro u0 H locs ls hf hH hS hl
    have hf := jb1 ej38 hf
    refine lv_bipush (v := 99) hx hb dX12_letters_38 (by decide) ?_
    exact hj40 _ _ _ _ _ hf hH hS (lv_sub hl [0, 1] rfl)
  refine lv_if_ne (tgt := 38) hx hb dX12_letters_14 (by decide) (fun hc => ?_) (fun hc => ?_)
  · have hf := fo_f hc hf
    exact hj38 () _ _ _ hf hH hS (lv_sub hl [0, 1] rfl)
  have hf := fo_t hc hf
  refine lv_aload_n hx hb dX12_letters_17 rfl (lv_at hl 2 rfl) ?_
  obtain ⟨q18, hq18, hf⟩ := bd_s hf
  refine cGi (cVrun (rest := []) X (c_X12_here l G q6.2 q18 hq18) bw1520 bw1522 bw53 bw105 bw1523 cn_X12_here ⟨rfl, rfl, Nat.le_of_ble_eq_true rfl, Nat.le_of_ble_eq_true rfl⟩ (r_rec X hH) rA_g hH hS hl rfl (Nat.le_of_ble_eq_true rfl) dX12_letters_18) hS (fun H locs hH hS => ?_)
  refine lv_bipush (v := 97) hx hb dX12_letters_21 (by decide) ?_
  refine lv_bipush (v := 122) hx hb dX12_letters_23 (by decide) ?_
  refine cGi (cSrun (rest := []) X (c_X12_in l G (rH G q6.2) (rA G) rA_g q18 97 122 _ rfl) bw1477 bw1478 bw105 bw1479 cn_X12_in ⟨rfl, rfl, Nat.le_of_ble_eq_true rfl, Nat.le_of_ble_eq_true rfl⟩ rA_g hH hS hl rfl (Nat.le_of_ble_eq_true rfl) dX12_letters_25) hS (fun H locs hH hS => ?_)
  refine lv_if_eq (tgt := 38) hx hb dX12_letters_28 (by decide) (fun hc => ?_) (fun hc => ?_)
  · have hf := fo_t hc hf
    exact hj38 () _ _ _ hf hH hS (lv_sub hl [0, 1] rfl)
  have hf := fo_f hc hf
  refine lv_aload_n hx hb dX12_letters_31 rfl (lv_at hl 2 rfl) ?_
  obtain ⟨q32, hq32, hf⟩ := bd_s hf
  refine cGi (cVrun (rest := []) X (c_X12_letter l G q6.2 q32 hq32) bw1546 bw1548 bw57 bw105 bw1549 cn_X12_letter ⟨rfl, rfl, Nat.le_of_ble_eq_true rfl, Nat.le_of_ble_eq_true rfl⟩ (r_rec X hH) rA_g hH hS hl rfl (Nat.le_of_ble_eq_true rfl) dX12_letters_32) hS (fun H locs hH hS => ?_)
  refine lv_goto (tgt := 40) hx hb dX12_letters_35 (by decide) ?_
  exact hj40 _ _ _ _ _ hf hH hS (lv_sub hl [0, 1] rfl)
def f_X12_forgets_L4 (a1 : Int32) (j67 : Int32 → CW → Option (CW)) : Nat → Int32 → Int32 → CW → Option (CW)
  | 0, _, _, _ => none
  | n4 + 1, v4_2, v4_3, w4_ => (if (w4_.2.2 13) ≤ v4_3 then (j67 v4_2 w4_) else (if (v4_3 < 0 ∨ 80 ≤ v4_3.toNatClampNeg) then none else (nmk (fun (y61_2 : Int32) (w61_ : CW) => (nmk (v4_3 + 1) fun (x61 : Int32) => (f_X12_forgets_L4 a1 j67 n4 y61_2 x61 w61_))) fun j61 => (if (w4_.1 4 v4_3.toNatClampNeg) = a1 then (j61 v4_2 w4_) else (if (v4_3 < 0 ∨ 80 ≤ v4_3.toNatClampNeg) then none else (if (v4_2 < 0 ∨ 80 ≤ v4_2.toNatClampNeg) then none else (nmk (sC w4_ 4 v4_2.toNatClampNeg (w4_.1 4 v4_3.toNatClampNeg)) fun w33 => (if (v4_3 < 0 ∨ 80 ≤ v4_3.toNatClampNeg) then none else (if (v4_2 < 0 ∨ 80 ≤ v4_2.toNatClampNeg) then none else (nmk (sC w33 5 v4_2.toNatClampNeg (w33.1 5 v4_3.toNatClampNeg)) fun w45 => (if (v4_3 < 0 ∨ 80 ≤ v4_3.toNatClampNeg) then none else (if (v4_2 < 0 ∨ 80 ≤ v4_2.toNatClampNeg) then none else (nmk (sC w45 6 v4_2.toNatClampNeg (w45.1 6 v4_3.toNatClampNeg)) fun w57 => (nmk (v4_2 + 1) fun (x58 : Int32) => (j61 x58 w57)))))))))))))))
def f_X12_forgets (w : CW) (a1 : Int32) : Option (CW) := (nmk (fun (y67_2 : Int32) (w67_ : CW) => (nmk (sS w67_ 13 y67_2) fun w69 => (some w69))) fun j67 => (f_X12_forgets_L4 a1 j67 FU 0 0 w))
abbrev rm_X12_forgets : Room := { frames := 1, cells := 0, slots := 0, locals := 0 }
theorem cn_X12_forgets : CN yX12_forgets 1 := ⟨by decide +kernel, by decide +kernel, by decide +kernel⟩
set_option maxHeartbeats 4000000 in
set_option maxRecDepth 100000 in
theorem c_X12_forgets (l : Launch) (G : GX) (w : CW) (a1 : Int32) (q : CW) (hf : f_X12_forgets w a1 = some q) : MV l G yX12_forgets cX12_forgets 4 rm_X12_forgets [.ref (G.2.2.1 300), .int a1] (rA G) (rH G w) (rH G q) := by
  refine cM_start (by decide +kernel) (Nat.le_of_ble_eq_true rfl) ?_
  intro p e s m below meth c ls X hH hl
  have hS : va_S (rA G) s.heap s.heap [] := va_S.rf
  have hx := X.1.1
  have hb := X.1.2.1
  generalize hargs : ([.ref (G.2.2.1 300), .int a1] : List Value).toArray = args at X ⊢
  generalize hQ : MQ below (QV (rA G) (rH G q)) args s 0 0 (rA G) = Q
  have hl : lv_has ls 4 [(0, .ref (G.2.2.1 300)), (1, .int a1)] := hl
  unfold f_X12_forgets at hf
  refine lv_iconst (v := 0) hx hb dX12_forgets_0 (by decide) ?_
  refine lv_istore_n (lv' := [(2, .int 0), (0, .ref (G.2.2.1 300)), (1, .int a1)]) hx hb dX12_forgets_1 rfl hl (by decide) rfl (fun ls hl => ?_)
  refine lv_iconst (v := 0) hx hb dX12_forgets_2 (by decide) ?_
  refine lv_istore_n (lv' := [(3, .int 0), (2, .int 0), (0, .ref (G.2.2.1 300)), (1, .int a1)]) hx hb dX12_forgets_3 rfl hl (by decide) rfl (fun ls hl => ?_)
  obtain ⟨j67, ej67, hf⟩ := nm_x hf
  have hj67 : ∀ (y67_2 : Int32) (w67_ : CW) (H : Heap) (locs : List Loc) (ls : Array Slot), j67 y67_2 w67_ = some q → rH G w67_ H → va_S (rA G) s.heap H locs → lv_has ls 4 [(2, .int y67_2), (0, .ref (G.2.2.1 300))] → W p l e rm_X12_forgets s m args below meth c H locs 0 0 Q (F0 m 67 ls []) := by
    intro y67_2 w67_ H locs ls hf hH hS hl
    have hf := jb2 ej67 hf
    refine lv_aload_n hx hb dX12_forgets_67 rfl (lv_at hl 1 rfl) ?_
    refine lv_iload_n hx hb dX12_forgets_68 rfl (lv_at hl 0 rfl) ?_
    refine ro_put (C := RX12) (N := 30) X hH hS 0 (by decide) rO rfl inBX12 tyX12 tyX12_ok nmX12 13 (by decide) bw1391 rfl rfl rfl (by simp) (sS w67_ 13 y67_2) rfl rE_sS dX12_forgets_69 (fun H locs hH hS => ?_)
    obtain ⟨w69, ew69⟩ : ∃ z : CW, z = (sS w67_ 13 y67_2) := ⟨_, rfl⟩
    have hf := nm_s hf w69 ew69
    have hH : rH G w69 H := ew69 ▸ hH
    subst hQ
    exact cEv X (rH1 (so_s hf) hH) hS dX12_forgets_72
  have hL4 : ∀ (n4 : Nat) (v4_2 : Int32) (v4_3 : Int32) (w4_ : CW) (H : Heap) (locs : List Loc) (ls : Array Slot), f_X12_forgets_L4 a1 j67 n4 v4_2 v4_3 w4_ = some q → rH G w4_ H → va_S (rA G) s.heap H locs → lv_has ls 4 [(3, .int v4_3), (2, .int v4_2), (0, .ref (G.2.2.1 300)), (1, .int a1)] → W p l e rm_X12_forgets s m args below meth c H locs 0 0 Q (F0 m 4 ls []) := by
    intro n4
    induction n4 with
    | zero => intro v4_2 v4_3 w4_ H locs ls hf; rw [f_X12_forgets_L4] at hf; cases hf
    | succ n4 ih4 =>
      intro v4_2 v4_3 w4_ H locs ls hf hH hS hl
      rw [f_X12_forgets_L4] at hf
      refine lv_iload_n hx hb dX12_forgets_4 rfl (lv_at hl 0 rfl) ?_
      refine lv_aload_n hx hb dX12_forgets_5 rfl (lv_at hl 2 rfl) ?_
      refine ro_get (C := RX12) (N := 30) X hH 0 (by decide) rO rfl inBX12 13 (by decide) rfl bw1391 dX12_forgets_6 ?_
      refine lv_icmp_ge (tgt := 67) hx hb dX12_forgets_9 (by decide) (fun hc => ?_) (fun hc => ?_)
      · have hf := fo_t hc hf
        exact hj67 _ _ _ _ _ hf hH hS (lv_sub hl [1, 2] rfl)
      have hf := fo_f hc hf
      refine lv_aload_n hx hb dX12_forgets_12 rfl (lv_at hl 2 rfl) ?_
      refine ro_get (C := RX12) (N := 30) X hH 0 (by decide) rO rfl inBX12 9 (by decide) rfl bw1387 dX12_forgets_13 ?_
      refine lv_iload_n hx hb dX12_forgets_16 rfl (lv_at hl 0 rfl) ?_
      by_cases hc : (v4_3 < 0 ∨ 80 ≤ v4_3.toNatClampNeg)
      · cases (fo_t hc hf)
      have hf := fo_f hc hf
      refine ra_ld X hH 4 (by decide) (by decide) hc dX12_forgets_17 ?_
      refine lv_iload_n hx hb dX12_forgets_18 rfl (lv_at hl 3 rfl) ?_
      obtain ⟨j61, ej61, hf⟩ := nm_x hf
      have hj61 : ∀ (y61_2 : Int32) (w61_ : CW) (H : Heap) (locs : List Loc) (ls : Array Slot), j61 y61_2 w61_ = some q → rH G w61_ H → va_S (rA G) s.heap H locs → lv_has ls 4 [(3, .int v4_3), (2, .int y61_2), (0, .ref (G.2.2.1 300)), (1, .int a1)] → W p l e rm_X12_forgets s m args below meth c H locs 0 0 Q (F0 m 61 ls []) := by
        intro y61_2 w61_ H locs ls hf hH hS hl
        have hf := jb2 ej61 hf
        obtain ⟨x61, ex61⟩ : ∃ z : Int32, z = (v4_3 + 1) := ⟨_, rfl⟩
        have hf := nm_s hf x61 ex61
        refine lv_iinc (v := x61) (lv' := [(3, .int x61), (2, .int y61_2), (0, .ref (G.2.2.1 300)), (1, .int a1)]) hx hb dX12_forgets_61 hl (k := 0) rfl (by rw [ex61]; rfl) (by decide) rfl (fun ls hl => ?_)
        refine lv_goto (tgt := 4) hx hb dX12_forgets_64 (by decide) ?_
        exact ih4 _ _ _ _ _ _ hf hH hS (lv_sub hl [0, 1, 2, 3] rfl)
      refine lv_icmp_eq (tgt := 61) hx hb dX12_forgets_19 (by decide) (fun hc => ?_) (fun hc => ?_)
      · have hf := fo_t hc hf
        exact hj61 _ _ _ _ _ hf hH hS (lv_sub hl [0, 1, 2, 3] rfl)
      have hf := fo_f hc hf
      refine lv_aload_n hx hb dX12_forgets_22 rfl (lv_at hl 2 rfl) ?_
      refine ro_get (C := RX12) (N := 30) X hH 0 (by decide) rO rfl inBX12 9 (by decide) rfl bw1387 dX12_forgets_23 ?_
      refine lv_iload_n hx hb dX12_forgets_26 rfl (lv_at hl 1 rfl) ?_
      refine lv_aload_n hx hb dX12_forgets_27 rfl (lv_at hl 2 rfl) ?_
      refine ro_get (C := RX12) (N := 30) X hH 0 (by decide) rO rfl inBX12 9 (by decide) rfl bw1387 dX12_forgets_28 ?_
      refine lv_iload_n hx hb dX12_forgets_31 rfl (lv_at hl 0 rfl) ?_
      by_cases hc : (v4_3 < 0 ∨ 80 ≤ v4_3.toNatClampNeg)
      · cases (fo_t hc hf)
      have hf := fo_f hc hf
      refine ra_ld X hH 4 (by decide) (by decide) hc dX12_forgets_32 ?_
      by_cases hc : (v4_2 < 0 ∨ 80 ≤ v4_2.toNatClampNeg)
      · cases (fo_t hc hf)
      have hf := fo_f hc hf
      refine ra_st X hH hS 4 (by decide) (by decide) hc dX12_forgets_33 (fun H locs hH hS => ?_)
      obtain ⟨w33, ew33⟩ : ∃ z : CW, z = (sC w4_ 4 v4_2.toNatClampNeg (w4_.1 4 v4_3.toNatClampNeg)) := ⟨_, rfl⟩
      have hf := nm_s hf w33 ew33
      have hH : rH G w33 H := ew33 ▸ hH
      refine lv_aload_n hx hb dX12_forgets_34 rfl (lv_at hl 2 rfl) ?_
      refine ro_get (C := RX12) (N := 30) X hH 0 (by decide) rO rfl inBX12 10 (by decide) rfl bw1388 dX12_forgets_35 ?_
      refine lv_iload_n hx hb dX12_forgets_38 rfl (lv_at hl 1 rfl) ?_
      refine lv_aload_n hx hb dX12_forgets_39 rfl (lv_at hl 2 rfl) ?_
      refine ro_get (C := RX12) (N := 30) X hH 0 (by decide) rO rfl inBX12 10 (by decide) rfl bw1388 dX12_forgets_40 ?_
      refine lv_iload_n hx hb dX12_forgets_43 rfl (lv_at hl 0 rfl) ?_
      by_cases hc : (v4_3 < 0 ∨ 80 ≤ v4_3.toNatClampNeg)
      · cases (fo_t hc hf)
      have hf := fo_f hc hf
      refine ra_ld X hH 5 (by decide) (by decide) hc dX12_forgets_44 ?_
      by_cases hc : (v4_2 < 0 ∨ 80 ≤ v4_2.toNatClampNeg)
      · cases (fo_t hc hf)
      have hf := fo_f hc hf
      refine ra_st X hH hS 5 (by decide) (by decide) hc dX12_forgets_45 (fun H locs hH hS => ?_)
      obtain ⟨w45, ew45⟩ : ∃ z : CW, z = (sC w33 5 v4_2.toNatClampNeg (w33.1 5 v4_3.toNatClampNeg)) := ⟨_, rfl⟩
      have hf := nm_s hf w45 ew45
      have hH : rH G w45 H := ew45 ▸ hH
      refine lv_aload_n hx hb dX12_forgets_46 rfl (lv_at hl 2 rfl) ?_
      refine ro_get (C := RX12) (N := 30) X hH 0 (by decide) rO rfl inBX12 11 (by decide) rfl bw1389 dX12_forgets_47 ?_
      refine lv_iload_n hx hb dX12_forgets_50 rfl (lv_at hl 1 rfl) ?_
      refine lv_aload_n hx hb dX12_forgets_51 rfl (lv_at hl 2 rfl) ?_
      refine ro_get (C := RX12) (N := 30) X hH 0 (by decide) rO rfl inBX12 11 (by decide) rfl bw1389 dX12_forgets_52 ?_
      refine lv_iload_n hx hb dX12_forgets_55 rfl (lv_at hl 0 rfl) ?_
      by_cases hc : (v4_3 < 0 ∨ 80 ≤ v4_3.toNatClampNeg)
      · cases (fo_t hc hf)
      have hf := fo_f hc hf
      refine ra_ld X hH 6 (by decide) (by decide) hc dX12_forgets_56 ?_
      by_cases hc : (v4_2 < 0 ∨ 80 ≤ v4_2.toNatClampNeg)
      · cases (fo_t hc hf)
      have hf := fo_f hc hf
      refine ra_st X hH hS 6 (by decide) (by decide) hc dX12_forgets_57 (fun H locs hH hS => ?_)
      obtain ⟨w57, ew57⟩ : ∃ z : CW, z = (sC w45 6 v4_2.toNatClampNeg (w45.1 6 v4_3.toNatClampNeg)) := ⟨_, rfl⟩
      have hf := nm_s hf w57 ew57
      have hH : rH G w57 H := ew57 ▸ hH
      obtain ⟨x58, ex58⟩ : ∃ z : Int32, z = (v4_2 + 1) := ⟨_, rfl⟩
      have hf := nm_s hf x58 ex58
      refine lv_iinc (v := x58) (lv' := [(2, .int x58), (3, .int v4_3), (0, .ref (G.2.2.1 300)), (1, .int a1)]) hx hb dX12_forgets_58 hl (k := 1) rfl (by rw [ex58]; rfl) (by decide) rfl (fun ls hl => ?_)
      exact hj61 _ _ _ _ _ hf hH hS (lv_sub hl [1, 0, 2, 3] rfl)
  exact hL4 _ _ _ _ _ _ _ hf hH hS (lv_sub hl [0, 1, 2, 3] rfl)
def f_X12_takes_L128 (x124 : Int32) : Nat → Int32 → CW → Option (CW)
  | 0, _, _ => none
  | n128 + 1, v128_4, w128_ => (if 30 ≤ v128_4 then (some w128_) else (if (v128_4 < 0 ∨ 30 ≤ v128_4.toNatClampNeg) then none else (if (v128_4 < 0 ∨ 30 ≤ v128_4.toNatClampNeg) then none else (nmk (sC w128_ 7 v128_4.toNatClampNeg (vp_nar .boolean (if (w128_.1 7 v128_4.toNatClampNeg) = 0 then (if v128_4 = x124 then 1 else 0) else 1))) fun w162 => (nmk (v128_4 + 1) fun (x163 : Int32) => (f_X12_takes_L128 x124 n128 x163 w162))))))
def f_X12_takes (w : CW) (a1 : Int32) : Option (CW) := (if ((1340 + a1) < 0 ∨ 3250 ≤ (1340 + a1).toNatClampNeg) then none else (nmk (w.1 0 (1340 + a1).toNatClampNeg) fun (x10 : Int32) => (nmk (fun (w34_ : CW) => (if x10 = 0 then (if ((1420 + a1) < 0 ∨ 3250 ≤ (1420 + a1).toNatClampNeg) then none else (if ((w34_.2.2 13) < 0 ∨ 80 ≤ (w34_.2.2 13).toNatClampNeg) then none else (nmk (sC w34_ 4 (w34_.2.2 13).toNatClampNeg (w34_.1 0 (1420 + a1).toNatClampNeg)) fun w56 => (if ((1500 + a1) < 0 ∨ 3250 ≤ (1500 + a1).toNatClampNeg) then none else (if ((w56.2.2 13) < 0 ∨ 80 ≤ (w56.2.2 13).toNatClampNeg) then none else (nmk (sC w56 5 (w56.2.2 13).toNatClampNeg (w56.1 0 (1500 + a1).toNatClampNeg)) fun w75 => (if ((1580 + a1) < 0 ∨ 3250 ≤ (1580 + a1).toNatClampNeg) then none else (if ((w75.2.2 13) < 0 ∨ 80 ≤ (w75.2.2 13).toNatClampNeg) then none else (nmk (sC w75 6 (w75.2.2 13).toNatClampNeg (w75.1 0 (1580 + a1).toNatClampNeg)) fun w94 => (nmk (sS w94 13 ((w94.2.2 13) + 1)) fun w102 => (some w102))))))))))) else (if x10 = 7 then (if ((1500 + a1) < 0 ∨ 3250 ≤ (1500 + a1).toNatClampNeg) then none else (nmk (w34_.1 0 (1500 + a1).toNatClampNeg) fun (x124 : Int32) => (f_X12_takes_L128 x124 FU 0 w34_))) else (if x10 = 1 then (some w34_) else (if ((1500 + a1) < 0 ∨ 3250 ≤ (1500 + a1).toNatClampNeg) then none else (if (x10 < 0 ∨ 8 ≤ x10.toNatClampNeg) then none else (nmk (sC w34_ 3 x10.toNatClampNeg (w34_.1 0 (1500 + a1).toNatClampNeg)) fun w192 => (some w192)))))))) fun j34 => (nmk (fun (_ : Unit) => (if ((1420 + a1) < 0 ∨ 3250 ≤ (1420 + a1).toNatClampNeg) then none else (Option.bind (f_X12_forgets w (w.1 0 (1420 + a1).toNatClampNeg)) fun q31 => (j34 q31)))) fun j20 => (if x10 = 0 then (j20 ()) else (if x10 = 1 then (j20 ()) else (j34 w)))))))
abbrev rm_X12_takes : Room := { frames := 2, cells := 0, slots := 0, locals := 23 }
theorem cn_X12_takes : CN yX12_takes 1 := ⟨by decide +kernel, by decide +kernel, by decide +kernel⟩
set_option maxHeartbeats 4000000 in
set_option maxRecDepth 100000 in
theorem c_X12_takes (l : Launch) (G : GX) (w : CW) (a1 : Int32) (q : CW) (hf : f_X12_takes w a1 = some q) : MV l G yX12_takes cX12_takes 5 rm_X12_takes [.ref (G.2.2.1 300), .int a1] (rA G) (rH G w) (rH G q) := by
  refine cM_start (by decide +kernel) (Nat.le_of_ble_eq_true rfl) ?_
  intro p e s m below meth c ls X hH hl
  have hS : va_S (rA G) s.heap s.heap [] := va_S.rf
  have hx := X.1.1
  have hb := X.1.2.1
  generalize hargs : ([.ref (G.2.2.1 300), .int a1] : List Value).toArray = args at X ⊢
  generalize hQ : MQ below (QV (rA G) (rH G q)) args s 0 0 (rA G) = Q
  have hl : lv_has ls 5 [(0, .ref (G.2.2.1 300)), (1, .int a1)] := hl
  unfold f_X12_takes at hf
  refine lv_aload_n hx hb dX12_takes_0 rfl (lv_at hl 0 rfl) ?_
  refine ro_get (C := RX12) (N := 30) X hH 0 (by decide) rO rfl inBX12 1 (by decide) rfl bw1379 dX12_takes_1 ?_
  refine lv_sipush (v := 1340) hx hb dX12_takes_4 (by decide) ?_
  refine lv_iload_n hx hb dX12_takes_7 rfl (lv_at hl 1 rfl) ?_
  refine lv_iadd hx hb dX12_takes_8 ?_
  by_cases hc : ((1340 + a1) < 0 ∨ 3250 ≤ (1340 + a1).toNatClampNeg)
  · cases (fo_t hc hf)
  have hf := fo_f hc hf
  refine ra_ld X hH 0 (by decide) (by decide) hc dX12_takes_9 ?_
  refine lv_topi (fun x10 ex10 => ?_)
  have hf := nm_s hf x10 ex10
  refine lv_istore_n (lv' := [(2, .int x10), (0, .ref (G.2.2.1 300)), (1, .int a1)]) hx hb dX12_takes_10 rfl hl (by decide) rfl (fun ls hl => ?_)
  refine lv_iload_n hx hb dX12_takes_11 rfl (lv_at hl 0 rfl) ?_
  obtain ⟨j34, ej34, hf⟩ := nm_x hf
  have hj34 : ∀ (w34_ : CW) (H : Heap) (locs : List Loc) (ls : Array Slot), j34 w34_ = some q → rH G w34_ H → va_S (rA G) s.heap H locs → lv_has ls 5 [(2, .int x10), (0, .ref (G.2.2.1 300)), (1, .int a1)] → W p l e rm_X12_takes s m args below meth c H locs 0 0 Q (F0 m 34 ls []) := by
    intro w34_ H locs ls hf hH hS hl
    have hf := jb1 ej34 hf
    refine lv_iload_n hx hb dX12_takes_34 rfl (lv_at hl 0 rfl) ?_
    refine lv_if_ne (tgt := 108) hx hb dX12_takes_35 (by decide) (fun hc => ?_) (fun hc => ?_)
    rotate_left
    · have hf := fo_t hc hf
      refine lv_aload_n hx hb dX12_takes_38 rfl (lv_at hl 1 rfl) ?_
      refine ro_get (C := RX12) (N := 30) X hH 0 (by decide) rO rfl inBX12 9 (by decide) rfl bw1387 dX12_takes_39 ?_
      refine lv_aload_n hx hb dX12_takes_42 rfl (lv_at hl 1 rfl) ?_
      refine ro_get (C := RX12) (N := 30) X hH 0 (by decide) rO rfl inBX12 13 (by decide) rfl bw1391 dX12_takes_43 ?_
      refine lv_aload_n hx hb dX12_takes_46 rfl (lv_at hl 1 rfl) ?_
      refine ro_get (C := RX12) (N := 30) X hH 0 (by decide) rO rfl inBX12 1 (by decide) rfl bw1379 dX12_takes_47 ?_
      refine lv_sipush (v := 1420) hx hb dX12_takes_50 (by decide) ?_
      refine lv_iload_n hx hb dX12_takes_53 rfl (lv_at hl 2 rfl) ?_
      refine lv_iadd hx hb dX12_takes_54 ?_
      by_cases hc : ((1420 + a1) < 0 ∨ 3250 ≤ (1420 + a1).toNatClampNeg)
      · cases (fo_t hc hf)
      have hf := fo_f hc hf
      refine ra_ld X hH 0 (by decide) (by decide) hc dX12_takes_55 ?_
      by_cases hc : ((w34_.2.2 13) < 0 ∨ 80 ≤ (w34_.2.2 13).toNatClampNeg)
      · cases (fo_t hc hf)
      have hf := fo_f hc hf
      refine ra_st X hH hS 4 (by decide) (by decide) hc dX12_takes_56 (fun H locs hH hS => ?_)
      obtain ⟨w56, ew56⟩ : ∃ z : CW, z = (sC w34_ 4 (w34_.2.2 13).toNatClampNeg (w34_.1 0 (1420 + a1).toNatClampNeg)) := ⟨_, rfl⟩
      have hf := nm_s hf w56 ew56
      have hH : rH G w56 H := ew56 ▸ hH
      refine lv_aload_n hx hb dX12_takes_57 rfl (lv_at hl 1 rfl) ?_
      refine ro_get (C := RX12) (N := 30) X hH 0 (by decide) rO rfl inBX12 10 (by decide) rfl bw1388 dX12_takes_58 ?_
      refine lv_aload_n hx hb dX12_takes_61 rfl (lv_at hl 1 rfl) ?_
      refine ro_get (C := RX12) (N := 30) X hH 0 (by decide) rO rfl inBX12 13 (by decide) rfl bw1391 dX12_takes_62 ?_
      refine lv_aload_n hx hb dX12_takes_65 rfl (lv_at hl 1 rfl) ?_
      refine ro_get (C := RX12) (N := 30) X hH 0 (by decide) rO rfl inBX12 1 (by decide) rfl bw1379 dX12_takes_66 ?_
      refine lv_sipush (v := 1500) hx hb dX12_takes_69 (by decide) ?_
      refine lv_iload_n hx hb dX12_takes_72 rfl (lv_at hl 2 rfl) ?_
      refine lv_iadd hx hb dX12_takes_73 ?_
      by_cases hc : ((1500 + a1) < 0 ∨ 3250 ≤ (1500 + a1).toNatClampNeg)
      · cases (fo_t hc hf)
      have hf := fo_f hc hf
      refine ra_ld X hH 0 (by decide) (by decide) hc dX12_takes_74 ?_
      by_cases hc : ((w56.2.2 13) < 0 ∨ 80 ≤ (w56.2.2 13).toNatClampNeg)
      · cases (fo_t hc hf)
      have hf := fo_f hc hf
      refine ra_st X hH hS 5 (by decide) (by decide) hc dX12_takes_75 (fun H locs hH hS => ?_)
      obtain ⟨w75, ew75⟩ : ∃ z : CW, z = (sC w56 5 (w56.2.2 13).toNatClampNeg (w56.1 0 (1500 + a1).toNatClampNeg)) := ⟨_, rfl⟩
      have hf := nm_s hf w75 ew75
      have hH : rH G w75 H := ew75 ▸ hH
      refine lv_aload_n hx hb dX12_takes_76 rfl (lv_at hl 1 rfl) ?_
      refine ro_get (C := RX12) (N := 30) X hH 0 (by decide) rO rfl inBX12 11 (by decide) rfl bw1389 dX12_takes_77 ?_
      refine lv_aload_n hx hb dX12_takes_80 rfl (lv_at hl 1 rfl) ?_
      refine ro_get (C := RX12) (N := 30) X hH 0 (by decide) rO rfl inBX12 13 (by decide) rfl bw1391 dX12_takes_81 ?_
      refine lv_aload_n hx hb dX12_takes_84 rfl (lv_at hl 1 rfl) ?_
      refine ro_get (C := RX12) (N := 30) X hH 0 (by decide) rO rfl inBX12 1 (by decide) rfl bw1379 dX12_takes_85 ?_
      refine lv_sipush (v := 1580) hx hb dX12_takes_88 (by decide) ?_
      refine lv_iload_n hx hb dX12_takes_91 rfl (lv_at hl 2 rfl) ?_
      refine lv_iadd hx hb dX12_takes_92 ?_
      by_cases hc : ((1580 + a1) < 0 ∨ 3250 ≤ (1580 + a1).toNatClampNeg)
      · cases (fo_t hc hf)
      have hf := fo_f hc hf
      refine ra_ld X hH 0 (by decide) (by decide) hc dX12_takes_93 ?_
      by_cases hc : ((w75.2.2 13) < 0 ∨ 80 ≤ (w75.2.2 13).toNatClampNeg)
      · cases (fo_t hc hf)
      have hf := fo_f hc hf
      refine ra_st X hH hS 6 (by decide) (by decide) hc dX12_takes_94 (fun H locs hH hS => ?_)
      obtain ⟨w94, ew94⟩ : ∃ z : CW, z = (sC w75 6 (w75.2.2 13).toNatClampNeg (w75.1 0 (1580 + a1).toNatClampNeg)) := ⟨_, rfl⟩
      have hf := nm_s hf w94 ew94
      have hH : rH G w94 H := ew94 ▸ hH
      refine lv_aload_n hx hb dX12_takes_95 rfl (lv_at hl 1 rfl) ?_
      refine lv_dup hx hb dX12_takes_96 rfl ?_
      refine ro_get (C := RX12) (N := 30) X hH 0 (by decide) rO rfl inBX12 13 (by decide) rfl bw1391 dX12_takes_97 ?_
      refine lv_iconst (v := 1) hx hb dX12_takes_100 (by decide) ?_
      refine lv_iadd hx hb dX12_takes_101 ?_
      refine ro_put (C := RX12) (N := 30) X hH hS 0 (by decide) rO rfl inBX12 tyX12 tyX12_ok nmX12 13 (by decide) bw1391 rfl rfl rfl (by simp) (sS w94 13 ((w94.2.2 13) + 1)) rfl rE_sS dX12_takes_102 (fun H locs hH hS => ?_)
      obtain ⟨w102, ew102⟩ : ∃ z : CW, z = (sS w94 13 ((w94.2.2 13) + 1)) := ⟨_, rfl⟩
      have hf := nm_s hf w102 ew102
      have hH : rH G w102 H := ew102 ▸ hH
      refine lv_goto (tgt := 193) hx hb dX12_takes_105 (by decide) ?_
      subst hQ
      exact cEv X (rH1 (so_s hf) hH) hS dX12_takes_193
    have hf := fo_f hc hf
    refine lv_iload_n hx hb dX12_takes_108 rfl (lv_at hl 0 rfl) ?_
    refine lv_bipush (v := 7) hx hb dX12_takes_109 (by decide) ?_
    refine lv_icmp_ne (tgt := 172) hx hb dX12_takes_111 (by decide) (fun hc => ?_) (fun hc => ?_)
    · have hf := fo_f hc hf
      refine lv_iload_n hx hb dX12_takes_172 rfl (lv_at hl 0 rfl) ?_
      refine lv_iconst (v := 1) hx hb dX12_takes_173 (by decide) ?_
      refine lv_icmp_eq (tgt := 193) hx hb dX12_takes_174 (by decide) (fun hc => ?_) (fun hc => ?_)
      · have hf := fo_t hc hf
        subst hQ
        exact cEv X (rH1 (so_s hf) hH) hS dX12_takes_193
      have hf := fo_f hc hf
      refine lv_aload_n hx hb dX12_takes_177 rfl (lv_at hl 1 rfl) ?_
      refine ro_get (C := RX12) (N := 30) X hH 0 (by decide) rO rfl inBX12 8 (by decide) rfl bw1386 dX12_takes_178 ?_
      refine lv_iload_n hx hb dX12_takes_181 rfl (lv_at hl 0 rfl) ?_
      refine lv_aload_n hx hb dX12_takes_182 rfl (lv_at hl 1 rfl) ?_
      refine ro_get (C := RX12) (N := 30) X hH 0 (by decide) rO rfl inBX12 1 (by decide) rfl bw1379 dX12_takes_183 ?_
      refine lv_sipush (v := 1500) hx hb dX12_takes_186 (by decide) ?_
      refine lv_iload_n hx hb dX12_takes_189 rfl (lv_at hl 2 rfl) ?_
      refine lv_iadd hx hb dX12_takes_190 ?_
      by_cases hc : ((1500 + a1) < 0 ∨ 3250 ≤ (1500 + a1).toNatClampNeg)
      · cases (fo_t hc hf)
      have hf := fo_f hc hf
      refine ra_ld X hH 0 (by decide) (by decide) hc dX12_takes_191 ?_
      by_cases hc : (x10 < 0 ∨ 8 ≤ x10.toNatClampNeg)
      · cases (fo_t hc hf)
      have hf := fo_f hc hf
      refine ra_st X hH hS 3 (by decide) (by decide) hc dX12_takes_192 (fun H locs hH hS => ?_)
      obtain ⟨w192, ew192⟩ : ∃ z : CW, z = (sC w34_ 3 x10.toNatClampNeg (w34_.1 0 (1500 + a1).toNatClampNeg)) := ⟨_, rfl⟩
      have hf := nm_s hf w192 ew192
      have hH : rH G w192 H := ew192 ▸ hH
      subst hQ
      exact cEv X (rH1 (so_s hf) hH) hS dX12_takes_193
    have hf := fo_t hc hf
    refine lv_aload_n hx hb dX12_takes_114 rfl (lv_at hl 1 rfl) ?_
    refine ro_get (C := RX12) (N := 30) X hH 0 (by decide) rO rfl inBX12 1 (by decide) rfl bw1379 dX12_takes_115 ?_
    refine lv_sipush (v := 1500) hx hb dX12_takes_118 (by decide) ?_
    refine lv_iload_n hx hb dX12_takes_121 rfl (lv_at hl 2 rfl) ?_
    refine lv_iadd hx hb dX12_takes_122 ?_
    by_cases hc : ((1500 + a1) < 0 ∨ 3250 ≤ (1500 + a1).toNatClampNeg)
    · cases (fo_t hc hf)
    have hf := fo_f hc hf
    refine ra_ld X hH 0 (by decide) (by decide) hc dX12_takes_123 ?_
    refine lv_topi (fun x124 ex124 => ?_)
    have hf := nm_s hf x124 ex124
    refine lv_istore_n (lv' := [(3, .int x124), (2, .int x10), (0, .ref (G.2.2.1 300)), (1, .int a1)]) hx hb dX12_takes_124 rfl hl (by decide) rfl (fun ls hl => ?_)
    refine lv_iconst (v := 0) hx hb dX12_takes_125 (by decide) ?_
    refine lv_istore (lv' := [(4, .int 0), (3, .int x124), (2, .int x10), (0, .ref (G.2.2.1 300)), (1, .int a1)]) hx hb dX12_takes_126 hl (by decide) rfl (fun ls hl => ?_)
    have hL128 : ∀ (n128 : Nat) (v128_4 : Int32) (w128_ : CW) (H : Heap) (locs : List Loc) (ls : Array Slot), f_X12_takes_L128 x124 n128 v128_4 w128_ = some q → rH G w128_ H → va_S (rA G) s.heap H locs → lv_has ls 5 [(4, .int v128_4), (3, .int x124), (0, .ref (G.2.2.1 300))] → W p l e rm_X12_takes s m args below meth c H locs 0 0 Q (F0 m 128 ls []) := by
      intro n128
      induction n128 with
      | zero => intro v128_4 w128_ H locs ls hf; rw [f_X12_takes_L128] at hf; cases hf
      | succ n128 ih128 =>
        intro v128_4 w128_ H locs ls hf hH hS hl
        rw [f_X12_takes_L128] at hf
        refine lv_iload hx hb dX12_takes_128 (lv_at hl 0 rfl) ?_
        refine lv_bipush (v := 30) hx hb dX12_takes_130 (by decide) ?_
        refine lv_icmp_ge (tgt := 169) hx hb dX12_takes_132 (by decide) (fun hc => ?_) (fun hc => ?_)
        · have hf := fo_t hc hf
          refine lv_goto (tgt := 193) hx hb dX12_takes_169 (by decide) ?_
          subst hQ
          exact cEv X (rH1 (so_s hf) hH) hS dX12_takes_193
        have hf := fo_f hc hf
        refine lv_aload_n hx hb dX12_takes_135 rfl (lv_at hl 2 rfl) ?_
        refine ro_get (C := RX12) (N := 30) X hH 0 (by decide) rO rfl inBX12 12 (by decide) rfl bw1390 dX12_takes_136 ?_
        refine lv_iload hx hb dX12_takes_139 (lv_at hl 0 rfl) ?_
        refine lv_aload_n hx hb dX12_takes_141 rfl (lv_at hl 2 rfl) ?_
        refine ro_get (C := RX12) (N := 30) X hH 0 (by decide) rO rfl inBX12 12 (by decide) rfl bw1390 dX12_takes_142 ?_
        refine lv_iload hx hb dX12_takes_145 (lv_at hl 0 rfl) ?_
        by_cases hc : (v128_4 < 0 ∨ 30 ≤ v128_4.toNatClampNeg)
        · cases (fo_t hc hf)
        have hf := fo_f hc hf
        refine rz_ld X hH hc dX12_takes_147 ?_
        have hJ : ∀ (H : Heap) (locs : List Loc), rH G w128_ H → va_S (rA G) s.heap H locs → W p l e rm_X12_takes s m args below meth c H locs 0 0 Q (F0 m 162 ls [.int (if (w128_.1 7 v128_4.toNatClampNeg) = 0 then (if v128_4 = x124 then 1 else 0) else 1), .int v128_4, .ref (G.2.2.1 308)]) := by
          intro H locs hH hS
          by_cases hc : (v128_4 < 0 ∨ 30 ≤ v128_4.toNatClampNeg)
          · cases (fo_t hc hf)
          have hf := fo_f hc hf
          refine rz_st X hH hS hc dX12_takes_162 (fun H locs hH hS => ?_)
          obtain ⟨w162, ew162⟩ : ∃ z : CW, z = (sC w128_ 7 v128_4.toNatClampNeg (vp_nar .boolean (if (w128_.1 7 v128_4.toNatClampNeg) = 0 then (if v128_4 = x124 then 1 else 0) else 1))) := ⟨_, rfl⟩
          have hf := nm_s hf w162 ew162
          have hH : rH G w162 H := ew162 ▸ hH
          obtain ⟨x163, ex163⟩ : ∃ z : Int32, z = (v128_4 + 1) := ⟨_, rfl⟩
          have hf := nm_s hf x163 ex163
          refine lv_iinc (v := x163) (lv' := [(4, .int x163), (3, .int x124), (0, .ref (G.2.2.1 300))]) hx hb dX12_takes_163 hl (k := 0) rfl (by rw [ex163]; rfl) (by decide) rfl (fun ls hl => ?_)
          refine lv_goto (tgt := 128) hx hb dX12_takes_166 (by decide) ?_
          exact ih128 _ _ _ _ _ hf hH hS (lv_sub hl [0, 1, 2] rfl)
        refine lv_if_ne (tgt := 157) hx hb dX12_takes_148 (by decide) (fun hc148 => ?_) (fun hc148 => ?_)
        · refine lv_iconst (v := 1) hx hb dX12_takes_157 (by decide) ?_
          refine lv_goto (tgt := 162) hx hb dX12_takes_158 (by decide) ?_
          exact W.eq (by rw [if_neg hc148] <;> rfl) (hJ _ _ hH hS)
        · refine lv_iload hx hb dX12_takes_151 (lv_at hl 0 rfl) ?_
          refine lv_iload_n hx hb dX12_takes_153 rfl (lv_at hl 1 rfl) ?_
          refine lv_icmp_ne (tgt := 161) hx hb dX12_takes_154 (by decide) (fun hc154 => ?_) (fun hc154 => ?_)
          · refine lv_iconst (v := 0) hx hb dX12_takes_161 (by decide) ?_
            exact W.eq (by rw [if_pos hc148, if_neg hc154] <;> rfl) (hJ _ _ hH hS)
          · refine lv_iconst (v := 1) hx hb dX12_takes_157 (by decide) ?_
            refine lv_goto (tgt := 162) hx hb dX12_takes_158 (by decide) ?_
            exact W.eq (by rw [if_pos hc148, if_pos hc154] <;> rfl) (hJ _ _ hH hS)
    exact hL128 _ _ _ _ _ _ hf hH hS (lv_sub hl [0, 1, 3] rfl)
  obtain ⟨j20, ej20, hf⟩ := nm_x hf
  have hj20 : ∀ (u0 : Unit) (H : Heap) (locs : List Loc) (ls : Array Slot), j20 u0 = some q → rH G w H → va_S (rA G) s.heap H locs → lv_has ls 5 [(2, .int x10), (0, .ref (G.2.2.1 300)), (1, .int a1)] → W p l e rm_X12_takes s m args below meth c H locs 0 0 Q (F0 m 20 ls []) := by
    intro u0 H locs ls hf hH hS hl
    have hf := jb1 ej20 hf
    refine lv_aload_n hx hb dX12_takes_20 rfl (lv_at hl 1 rfl) ?_
    refine lv_aload_n hx hb dX12_takes_21 rfl (lv_at hl 1 rfl) ?_
    refine ro_get (C := RX12) (N := 30) X hH 0 (by decide) rO rfl inBX12 1 (by decide) rfl bw1379 dX12_takes_22 ?_
    refine lv_sipush (v := 1420) hx hb dX12_takes_25 (by decide) ?_
    refine lv_iload_n hx hb dX12_takes_28 rfl (lv_at hl 2 rfl) ?_
    refine lv_iadd hx hb dX12_takes_29 ?_
    by_cases hc : ((1420 + a1) < 0 ∨ 3250 ≤ (1420 + a1).toNatClampNeg)
    · cases (fo_t hc hf)
    have hf := fo_f hc hf
    refine ra_ld X hH 0 (by decide) (by decide) hc dX12_takes_30 ?_
    obtain ⟨q31, hq31, hf⟩ := bd_s hf
    refine cGv (cVrun (rest := []) X (c_X12_forgets l G w (w.1 0 (1420 + a1).toNatClampNeg) q31 hq31) bw1570 bw1572 bw62 bw105 bw1573 cn_X12_forgets ⟨rfl, rfl, Nat.le_of_ble_eq_true rfl, Nat.le_of_ble_eq_true rfl⟩ (r_rec X hH) rA_g hH hS hl rfl (Nat.le_of_ble_eq_true rfl) dX12_takes_31) hS (fun H locs hH hS => ?_)
    exact hj34 _ _ _ _ hf hH hS (lv_sub hl [0, 1, 2] rfl)
  refine lv_if_eq (tgt := 20) hx hb dX12_takes_12 (by decide) (fun hc => ?_) (fun hc => ?_)
  · have hf := fo_t hc hf
    exact hj20 () _ _ _ hf hH hS (lv_sub hl [0, 1, 2] rfl)
  have hf := fo_f hc hf
  refine lv_iload_n hx hb dX12_takes_15 rfl (lv_at hl 0 rfl) ?_
  refine lv_iconst (v := 1) hx hb dX12_takes_16 (by decide) ?_
  refine lv_icmp_ne (tgt := 34) hx hb dX12_takes_17 (by decide) (fun hc => ?_) (fun hc => ?_)
  · have hf := fo_f hc hf
    exact hj34 _ _ _ _ hf hH hS (lv_sub hl [0, 1, 2] rfl)
  have hf := fo_t hc hf
  exact hj20 () _ _ _ hf hH hS (lv_sub hl [0, 1, 2] rfl)
