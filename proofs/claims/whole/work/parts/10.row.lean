theorem pf1 {a : Int32} {w : CW} {q : Int32 × CW} (h : (a, w) = q) : a = q.1 := by rw [← h]
def f_X5_at (w : CW) (k0 : Nat) (a1 : Int32) : Option (Int32) := (if a1 < 0 then (some 0) else (if (Int32.ofNat (cp k0)) ≤ a1 then (some 0) else (if (a1 < 0 ∨ cp k0 ≤ a1.toNatClampNeg) then none else (some (w.1 k0 a1.toNatClampNeg)))))
abbrev rm_X5_at : Room := { frames := 1, cells := 0, slots := 0, locals := 0 }
theorem cn_X5_at : CN yX5_at 1 := ⟨by decide +kernel, by decide +kernel, by decide +kernel⟩
set_option maxHeartbeats 4000000 in
set_option maxRecDepth 100000 in
theorem c_X5_at (l : Launch) (G : GX) (w : CW) (k0 : Nat) (hk0 : k0 < 95) (a1 : Int32) (q : Int32) (hf : f_X5_at w k0 a1 = some q) : MI l G yX5_at cX5_at 2 (some .int) rm_X5_at [.ref (G.2.2.1 k0), .int a1] (cA G) (cH G w) (cH G w) q := by
  refine cM_start (by decide +kernel) (Nat.le_of_ble_eq_true rfl) ?_
  intro p e s m below meth c ls X hH hl
  have hS : va_S (cA G) s.heap s.heap [] := va_S.rf
  have hx := X.1.1
  have hb := X.1.2.1
  generalize hargs : ([.ref (G.2.2.1 k0), .int a1] : List Value).toArray = args at X ⊢
  generalize hQ : MQ below (QI (cA G) (cH G w) q) args s 0 0 (cA G) = Q
  have hl : lv_has ls 2 [(0, .ref (G.2.2.1 k0)), (1, .int a1)] := hl
  unfold f_X5_at at hf
  refine lv_iload_n hx hb dX5_at_0 rfl (lv_at hl 1 rfl) ?_
  refine lv_if_lt (tgt := 22) hx hb dX5_at_1 (by decide) (fun hc => ?_) (fun hc => ?_)
  · have hf := fo_t hc hf
    refine lv_iconst (v := 0) hx hb dX5_at_22 (by decide) ?_
    subst hQ
    exact cEi X hH hS (so_s hf) dX5_at_23
  have hf := fo_f hc hf
  refine lv_iload_n hx hb dX5_at_4 rfl (lv_at hl 1 rfl) ?_
  refine lv_aload_n hx hb dX5_at_5 rfl (lv_at hl 0 rfl) ?_
  refine co_get (C := RX5) (N := 2) X hH k0 (Nat.lt_trans hk0 (by decide)) (cE_row hk0) rfl inBX5 0 (by decide) rfl bw169 dX5_at_6 ?_
  refine ca_len X hH hk0 dX5_at_9 ?_
  refine lv_icmp_ge (tgt := 22) hx hb dX5_at_10 (by decide) (fun hc => ?_) (fun hc => ?_)
  · have hf := fo_t hc hf
    refine lv_iconst (v := 0) hx hb dX5_at_22 (by decide) ?_
    subst hQ
    exact cEi X hH hS (so_s hf) dX5_at_23
  have hf := fo_f hc hf
  refine lv_aload_n hx hb dX5_at_13 rfl (lv_at hl 0 rfl) ?_
  refine co_get (C := RX5) (N := 2) X hH k0 (Nat.lt_trans hk0 (by decide)) (cE_row hk0) rfl inBX5 0 (by decide) rfl bw169 dX5_at_14 ?_
  refine lv_iload_n hx hb dX5_at_17 rfl (lv_at hl 1 rfl) ?_
  by_cases hc : (a1 < 0 ∨ cp k0 ≤ a1.toNatClampNeg)
  · cases (fo_t hc hf)
  have hf := fo_f hc hf
  refine ca_ld X hH hk0 hc dX5_at_18 ?_
  refine lv_goto (tgt := 23) hx hb dX5_at_19 (by decide) ?_
  subst hQ
  exact cEi X hH hS (so_s hf) dX5_at_23
def f_X5_put (w : CW) (k0 : Nat) (a1 : Int32) (a2 : Int32) : Option (CW) := (if a1 < 0 then (some w) else (if (Int32.ofNat (cp k0)) ≤ a1 then (some w) else (if (a1 < 0 ∨ cp k0 ≤ a1.toNatClampNeg) then none else (nmk (sC w k0 a1.toNatClampNeg a2) fun w19 => (some w19)))))
abbrev rm_X5_put : Room := { frames := 1, cells := 0, slots := 0, locals := 0 }
theorem cn_X5_put : CN yX5_put 2 := ⟨by decide +kernel, by decide +kernel, by decide +kernel⟩
set_option maxHeartbeats 4000000 in
set_option maxRecDepth 100000 in
theorem c_X5_put (l : Launch) (G : GX) (w : CW) (k0 : Nat) (hk0 : k0 < 95) (a1 : Int32) (a2 : Int32) (q : CW) (hf : f_X5_put w k0 a1 a2 = some q) : MV l G yX5_put cX5_put 3 rm_X5_put [.ref (G.2.2.1 k0), .int a1, .int a2] (cA G) (cH G w) (cH G q) := by
  refine cM_start (by decide +kernel) (Nat.le_of_ble_eq_true rfl) ?_
  intro p e s m below meth c ls X hH hl
  have hS : va_S (cA G) s.heap s.heap [] := va_S.rf
  have hx := X.1.1
  have hb := X.1.2.1
  generalize hargs : ([.ref (G.2.2.1 k0), .int a1, .int a2] : List Value).toArray = args at X ⊢
  generalize hQ : MQ below (QV (cA G) (cH G q)) args s 0 0 (cA G) = Q
  have hl : lv_has ls 3 [(0, .ref (G.2.2.1 k0)), (1, .int a1), (2, .int a2)] := hl
  unfold f_X5_put at hf
  refine lv_iload_n hx hb dX5_put_0 rfl (lv_at hl 1 rfl) ?_
  refine lv_if_lt (tgt := 20) hx hb dX5_put_1 (by decide) (fun hc => ?_) (fun hc => ?_)
  · have hf := fo_t hc hf
    subst hQ
    exact cEv X (cH1 (so_s hf) hH) hS dX5_put_20
  have hf := fo_f hc hf
  refine lv_iload_n hx hb dX5_put_4 rfl (lv_at hl 1 rfl) ?_
  refine lv_aload_n hx hb dX5_put_5 rfl (lv_at hl 0 rfl) ?_
  refine co_get (C := RX5) (N := 2) X hH k0 (Nat.lt_trans hk0 (by decide)) (cE_row hk0) rfl inBX5 0 (by decide) rfl bw169 dX5_put_6 ?_
  refine ca_len X hH hk0 dX5_put_9 ?_
  refine lv_icmp_ge (tgt := 20) hx hb dX5_put_10 (by decide) (fun hc => ?_) (fun hc => ?_)
  · have hf := fo_t hc hf
    subst hQ
    exact cEv X (cH1 (so_s hf) hH) hS dX5_put_20
  have hf := fo_f hc hf
  refine lv_aload_n hx hb dX5_put_13 rfl (lv_at hl 0 rfl) ?_
  refine co_get (C := RX5) (N := 2) X hH k0 (Nat.lt_trans hk0 (by decide)) (cE_row hk0) rfl inBX5 0 (by decide) rfl bw169 dX5_put_14 ?_
  refine lv_iload_n hx hb dX5_put_17 rfl (lv_at hl 1 rfl) ?_
  refine lv_iload_n hx hb dX5_put_18 rfl (lv_at hl 2 rfl) ?_
  by_cases hc : (a1 < 0 ∨ cp k0 ≤ a1.toNatClampNeg)
  · cases (fo_t hc hf)
  have hf := fo_f hc hf
  refine ca_st X hH hS hk0 hc dX5_put_19 (fun H locs hH hS => ?_)
  obtain ⟨w19, ew19⟩ : ∃ z : CW, z = (sC w k0 a1.toNatClampNeg a2) := ⟨_, rfl⟩
  have hf := nm_s hf w19 ew19
  have hH : cH G w19 H := ew19 ▸ hH
  subst hQ
  exact cEv X (cH1 (so_s hf) hH) hS dX5_put_20
def f_X5_add (w : CW) (k0 : Nat) (a1 : Int32) (a2 : Int32) : Option (CW) := (Option.bind (f_X5_at w k0 a1) fun q4 => (Option.bind (f_X5_put w k0 a1 (q4 + a2)) fun q9 => (some q9)))
abbrev rm_X5_add : Room := { frames := 2, cells := 0, slots := 0, locals := 22 }
theorem cn_X5_add : CN yX5_add 2 := ⟨by decide +kernel, by decide +kernel, by decide +kernel⟩
set_option maxHeartbeats 4000000 in
set_option maxRecDepth 100000 in
theorem c_X5_add (l : Launch) (G : GX) (w : CW) (k0 : Nat) (hk0 : k0 < 95) (a1 : Int32) (a2 : Int32) (q : CW) (hf : f_X5_add w k0 a1 a2 = some q) : MV l G yX5_add cX5_add 3 rm_X5_add [.ref (G.2.2.1 k0), .int a1, .int a2] (cA G) (cH G w) (cH G q) := by
  refine cM_start (by decide +kernel) (Nat.le_of_ble_eq_true rfl) ?_
  intro p e s m below meth c ls X hH hl
  have hS : va_S (cA G) s.heap s.heap [] := va_S.rf
  have hx := X.1.1
  have hb := X.1.2.1
  generalize hargs : ([.ref (G.2.2.1 k0), .int a1, .int a2] : List Value).toArray = args at X ⊢
  generalize hQ : MQ below (QV (cA G) (cH G q)) args s 0 0 (cA G) = Q
  have hl : lv_has ls 3 [(0, .ref (G.2.2.1 k0)), (1, .int a1), (2, .int a2)] := hl
  unfold f_X5_add at hf
  refine lv_aload_n hx hb dX5_add_0 rfl (lv_at hl 0 rfl) ?_
  refine lv_iload_n hx hb dX5_add_1 rfl (lv_at hl 1 rfl) ?_
  refine lv_aload_n hx hb dX5_add_2 rfl (lv_at hl 0 rfl) ?_
  refine lv_iload_n hx hb dX5_add_3 rfl (lv_at hl 1 rfl) ?_
  obtain ⟨q4, hq4, hf⟩ := bd_s hf
  refine cGi (cVrun (rest := [.int a1, .ref (G.2.2.1 k0)]) X (c_X5_at l G w k0 hk0 a1 q4 hq4) bw635 bw628 bw629 bw91 bw630 cn_X5_at ⟨rfl, rfl, Nat.le_of_ble_eq_true rfl, Nat.le_of_ble_eq_true rfl⟩ (c_recR X hH hk0) cA_g hH hS hl rfl (Nat.le_of_ble_eq_true rfl) dX5_add_4) hS (fun H locs hH hS => ?_)
  refine lv_iload_n hx hb dX5_add_7 rfl (lv_at hl 2 rfl) ?_
  refine lv_iadd hx hb dX5_add_8 ?_
  obtain ⟨q9, hq9, hf⟩ := bd_s hf
  refine cGv (cVrun (rest := []) X (c_X5_put l G w k0 hk0 a1 (q4 + a2) q9 hq9) bw636 bw352 bw353 bw91 bw354 cn_X5_put ⟨rfl, rfl, Nat.le_of_ble_eq_true rfl, Nat.le_of_ble_eq_true rfl⟩ (c_recR X hH hk0) cA_g hH hS hl rfl (Nat.le_of_ble_eq_true rfl) dX5_add_9) hS (fun H locs hH hS => ?_)
  subst hQ
  exact cEv X (cH1 (so_s hf) hH) hS dX5_add_12
def f_X5_swap (w : CW) (k0 : Nat) (a1 : Int32) (a2 : Int32) : Option (Int32 × CW) := (Option.bind (f_X5_at w k0 a1) fun q2 => (Option.bind (f_X5_put w k0 a1 a2) fun q9 => (some (q2, q9))))
abbrev rm_X5_swap : Room := { frames := 2, cells := 0, slots := 0, locals := 22 }
theorem cn_X5_swap : CN yX5_swap 2 := ⟨by decide +kernel, by decide +kernel, by decide +kernel⟩
set_option maxHeartbeats 4000000 in
set_option maxRecDepth 100000 in
theorem c_X5_swap (l : Launch) (G : GX) (w : CW) (k0 : Nat) (hk0 : k0 < 95) (a1 : Int32) (a2 : Int32) (q : Int32 × CW) (hf : f_X5_swap w k0 a1 a2 = some q) : MI l G yX5_swap cX5_swap 4 (some .int) rm_X5_swap [.ref (G.2.2.1 k0), .int a1, .int a2] (cA G) (cH G w) (cH G q.2) q.1 := by
  refine cM_start (by decide +kernel) (Nat.le_of_ble_eq_true rfl) ?_
  intro p e s m below meth c ls X hH hl
  have hS : va_S (cA G) s.heap s.heap [] := va_S.rf
  have hx := X.1.1
  have hb := X.1.2.1
  generalize hargs : ([.ref (G.2.2.1 k0), .int a1, .int a2] : List Value).toArray = args at X ⊢
  generalize hQ : MQ below (QI (cA G) (cH G q.2) q.1) args s 0 0 (cA G) = Q
  have hl : lv_has ls 4 [(0, .ref (G.2.2.1 k0)), (1, .int a1), (2, .int a2)] := hl
  unfold f_X5_swap at hf
  refine lv_aload_n hx hb dX5_swap_0 rfl (lv_at hl 0 rfl) ?_
  refine lv_iload_n hx hb dX5_swap_1 rfl (lv_at hl 1 rfl) ?_
  obtain ⟨q2, hq2, hf⟩ := bd_s hf
  refine cGi (cVrun (rest := []) X (c_X5_at l G w k0 hk0 a1 q2 hq2) bw635 bw628 bw629 bw91 bw630 cn_X5_at ⟨rfl, rfl, Nat.le_of_ble_eq_true rfl, Nat.le_of_ble_eq_true rfl⟩ (c_recR X hH hk0) cA_g hH hS hl rfl (Nat.le_of_ble_eq_true rfl) dX5_swap_2) hS (fun H locs hH hS => ?_)
  refine lv_istore_n (lv' := [(3, .int q2), (0, .ref (G.2.2.1 k0)), (1, .int a1), (2, .int a2)]) hx hb dX5_swap_5 rfl hl (by decide) rfl (fun ls hl => ?_)
  refine lv_aload_n hx hb dX5_swap_6 rfl (lv_at hl 1 rfl) ?_
  refine lv_iload_n hx hb dX5_swap_7 rfl (lv_at hl 2 rfl) ?_
  refine lv_iload_n hx hb dX5_swap_8 rfl (lv_at hl 3 rfl) ?_
  obtain ⟨q9, hq9, hf⟩ := bd_s hf
  refine cGv (cVrun (rest := []) X (c_X5_put l G w k0 hk0 a1 a2 q9 hq9) bw636 bw352 bw353 bw91 bw354 cn_X5_put ⟨rfl, rfl, Nat.le_of_ble_eq_true rfl, Nat.le_of_ble_eq_true rfl⟩ (c_recR X hH hk0) cA_g hH hS hl rfl (Nat.le_of_ble_eq_true rfl) dX5_swap_9) hS (fun H locs hH hS => ?_)
  refine lv_iload_n hx hb dX5_swap_12 rfl (lv_at hl 0 rfl) ?_
  subst hQ
  exact cEi X (cH2 (so_s hf) hH) hS (pf1 (so_s hf)) dX5_swap_13
def f_X5_fill_L2 (k0 : Nat) (a1 : Int32) : Nat → Int32 → CW → Option (CW)
  | 0, _, _ => none
  | n2 + 1, v2_2, w2_ => (if (Int32.ofNat (cp k0)) ≤ v2_2 then (some w2_) else (if (v2_2 < 0 ∨ cp k0 ≤ v2_2.toNatClampNeg) then none else (nmk (sC w2_ k0 v2_2.toNatClampNeg a1) fun w17 => (nmk (v2_2 + 1) fun (x18 : Int32) => (f_X5_fill_L2 k0 a1 n2 x18 w17)))))
def f_X5_fill (w : CW) (k0 : Nat) (a1 : Int32) : Option (CW) := (f_X5_fill_L2 k0 a1 FU 0 w)
abbrev rm_X5_fill : Room := { frames := 1, cells := 0, slots := 0, locals := 0 }
theorem cn_X5_fill : CN yX5_fill 1 := ⟨by decide +kernel, by decide +kernel, by decide +kernel⟩
set_option maxHeartbeats 4000000 in
set_option maxRecDepth 100000 in
theorem c_X5_fill (l : Launch) (G : GX) (w : CW) (k0 : Nat) (hk0 : k0 < 95) (a1 : Int32) (q : CW) (hf : f_X5_fill w k0 a1 = some q) : MV l G yX5_fill cX5_fill 3 rm_X5_fill [.ref (G.2.2.1 k0), .int a1] (cA G) (cH G w) (cH G q) := by
  refine cM_start (by decide +kernel) (Nat.le_of_ble_eq_true rfl) ?_
  intro p e s m below meth c ls X hH hl
  have hS : va_S (cA G) s.heap s.heap [] := va_S.rf
  have hx := X.1.1
  have hb := X.1.2.1
  generalize hargs : ([.ref (G.2.2.1 k0), .int a1] : List Value).toArray = args at X ⊢
  generalize hQ : MQ below (QV (cA G) (cH G q)) args s 0 0 (cA G) = Q
  have hl : lv_has ls 3 [(0, .ref (G.2.2.1 k0)), (1, .int a1)] := hl
  unfold f_X5_fill at hf
  refine lv_iconst (v := 0) hx hb dX5_fill_0 (by decide) ?_
  refine lv_istore_n (lv' := [(2, .int 0), (0, .ref (G.2.2.1 k0)), (1, .int a1)]) hx hb dX5_fill_1 rfl hl (by decide) rfl (fun ls hl => ?_)
  have hL2 : ∀ (n2 : Nat) (v2_2 : Int32) (w2_ : CW) (H : Heap) (locs : List Loc) (ls : Array Slot), f_X5_fill_L2 k0 a1 n2 v2_2 w2_ = some q → cH G w2_ H → va_S (cA G) s.heap H locs → lv_has ls 3 [(2, .int v2_2), (0, .ref (G.2.2.1 k0)), (1, .int a1)] → W p l e rm_X5_fill s m args below meth c H locs 0 0 Q (F0 m 2 ls []) := by
    intro n2
    induction n2 with
    | zero => intro v2_2 w2_ H locs ls hf; rw [f_X5_fill_L2] at hf; cases hf
    | succ n2 ih2 =>
      intro v2_2 w2_ H locs ls hf hH hS hl
      rw [f_X5_fill_L2] at hf
      refine lv_iload_n hx hb dX5_fill_2 rfl (lv_at hl 0 rfl) ?_
      refine lv_aload_n hx hb dX5_fill_3 rfl (lv_at hl 1 rfl) ?_
      refine co_get (C := RX5) (N := 2) X hH k0 (Nat.lt_trans hk0 (by decide)) (cE_row hk0) rfl inBX5 0 (by decide) rfl bw169 dX5_fill_4 ?_
      refine ca_len X hH hk0 dX5_fill_7 ?_
      refine lv_icmp_ge (tgt := 24) hx hb dX5_fill_8 (by decide) (fun hc => ?_) (fun hc => ?_)
      · have hf := fo_t hc hf
        subst hQ
        exact cEv X (cH1 (so_s hf) hH) hS dX5_fill_24
      have hf := fo_f hc hf
      refine lv_aload_n hx hb dX5_fill_11 rfl (lv_at hl 1 rfl) ?_
      refine co_get (C := RX5) (N := 2) X hH k0 (Nat.lt_trans hk0 (by decide)) (cE_row hk0) rfl inBX5 0 (by decide) rfl bw169 dX5_fill_12 ?_
      refine lv_iload_n hx hb dX5_fill_15 rfl (lv_at hl 0 rfl) ?_
      refine lv_iload_n hx hb dX5_fill_16 rfl (lv_at hl 2 rfl) ?_
      by_cases hc : (v2_2 < 0 ∨ cp k0 ≤ v2_2.toNatClampNeg)
      · cases (fo_t hc hf)
      have hf := fo_f hc hf
      refine ca_st X hH hS hk0 hc dX5_fill_17 (fun H locs hH hS => ?_)
      obtain ⟨w17, ew17⟩ : ∃ z : CW, z = (sC w2_ k0 v2_2.toNatClampNeg a1) := ⟨_, rfl⟩
      have hf := nm_s hf w17 ew17
      have hH : cH G w17 H := ew17 ▸ hH
      obtain ⟨x18, ex18⟩ : ∃ z : Int32, z = (v2_2 + 1) := ⟨_, rfl⟩
      have hf := nm_s hf x18 ex18
      refine lv_iinc (v := x18) (lv' := [(2, .int x18), (0, .ref (G.2.2.1 k0)), (1, .int a1)]) hx hb dX5_fill_18 hl (k := 0) rfl (by rw [ex18]; rfl) (by decide) rfl (fun ls hl => ?_)
      refine lv_goto (tgt := 2) hx hb dX5_fill_21 (by decide) ?_
      exact ih2 _ _ _ _ _ hf hH hS (lv_sub hl [0, 1, 2] rfl)
  exact hL2 _ _ _ _ _ _ hf hH hS (lv_sub hl [0, 1, 2] rfl)
def f_X5_size (w : CW) (k0 : Nat) : Int32 := ((w.2.1 k0))
abbrev rm_X5_size : Room := { frames := 1, cells := 0, slots := 0, locals := 0 }
theorem cn_X5_size : CN yX5_size 0 := ⟨by decide +kernel, by decide +kernel, by decide +kernel⟩
set_option maxHeartbeats 4000000 in
set_option maxRecDepth 100000 in
theorem c_X5_size (l : Launch) (G : GX) (w : CW) (k0 : Nat) (hk0 : k0 < 95) (q : Int32) (hf : f_X5_size w k0 = q) : MI l G yX5_size cX5_size 1 (some .int) rm_X5_size [.ref (G.2.2.1 k0)] (cA G) (cH G w) (cH G w) q := by
  refine cM_start (by decide +kernel) (Nat.le_of_ble_eq_true rfl) ?_
  intro p e s m below meth c ls X hH hl
  have hS : va_S (cA G) s.heap s.heap [] := va_S.rf
  have hx := X.1.1
  have hb := X.1.2.1
  generalize hargs : ([.ref (G.2.2.1 k0)] : List Value).toArray = args at X ⊢
  generalize hQ : MQ below (QI (cA G) (cH G w) q) args s 0 0 (cA G) = Q
  have hl : lv_has ls 1 [(0, .ref (G.2.2.1 k0))] := hl
  unfold f_X5_size at hf
  refine lv_aload_n hx hb dX5_size_0 rfl (lv_at hl 0 rfl) ?_
  refine co_get (C := RX5) (N := 2) X hH k0 (Nat.lt_trans hk0 (by decide)) (cE_row hk0) rfl inBX5 1 (by decide) rfl bw170 dX5_size_1 ?_
  subst hQ
  exact cEi X hH hS (hf) dX5_size_4
def f_X5_isFull (w : CW) (k0 : Nat) : Int32 := ((if (w.2.1 k0) < (Int32.ofNat (cp k0)) then 0 else 1))
abbrev rm_X5_isFull : Room := { frames := 1, cells := 0, slots := 0, locals := 0 }
theorem cn_X5_isFull : CN yX5_isFull 0 := ⟨by decide +kernel, by decide +kernel, by decide +kernel⟩
set_option maxHeartbeats 4000000 in
set_option maxRecDepth 100000 in
theorem c_X5_isFull (l : Launch) (G : GX) (w : CW) (k0 : Nat) (hk0 : k0 < 95) (q : Int32) (hf : f_X5_isFull w k0 = q) : MI l G yX5_isFull cX5_isFull 1 (some .boolean) rm_X5_isFull [.ref (G.2.2.1 k0)] (cA G) (cH G w) (cH G w) q := by
  refine cM_start (by decide +kernel) (Nat.le_of_ble_eq_true rfl) ?_
  intro p e s m below meth c ls X hH hl
  have hS : va_S (cA G) s.heap s.heap [] := va_S.rf
  have hx := X.1.1
  have hb := X.1.2.1
  generalize hargs : ([.ref (G.2.2.1 k0)] : List Value).toArray = args at X ⊢
  generalize hQ : MQ below (QI (cA G) (cH G w) q) args s 0 0 (cA G) = Q
  have hl : lv_has ls 1 [(0, .ref (G.2.2.1 k0))] := hl
  unfold f_X5_isFull at hf
  refine lv_aload_n hx hb dX5_isFull_0 rfl (lv_at hl 0 rfl) ?_
  refine co_get (C := RX5) (N := 2) X hH k0 (Nat.lt_trans hk0 (by decide)) (cE_row hk0) rfl inBX5 1 (by decide) rfl bw170 dX5_isFull_1 ?_
  refine lv_aload_n hx hb dX5_isFull_4 rfl (lv_at hl 0 rfl) ?_
  refine co_get (C := RX5) (N := 2) X hH k0 (Nat.lt_trans hk0 (by decide)) (cE_row hk0) rfl inBX5 0 (by decide) rfl bw169 dX5_isFull_5 ?_
  refine ca_len X hH hk0 dX5_isFull_8 ?_
  have hJ : ∀ (H : Heap) (locs : List Loc), cH G w H → va_S (cA G) s.heap H locs → W p l e rm_X5_isFull s m args below meth c H locs 0 0 Q (F0 m 17 ls [.int (if (w.2.1 k0) < (Int32.ofNat (cp k0)) then 0 else 1)]) := by
    intro H locs hH hS
    subst hQ
    exact cEz X hH hS (hf) (nz (zb_ite zb0 zb1)) dX5_isFull_17
  refine lv_icmp_lt (tgt := 16) hx hb dX5_isFull_9 (by decide) (fun hc9 => ?_) (fun hc9 => ?_)
  · refine lv_iconst (v := 0) hx hb dX5_isFull_16 (by decide) ?_
    exact W.eq (by rw [if_pos hc9] <;> rfl) (hJ _ _ hH hS)
  · refine lv_iconst (v := 1) hx hb dX5_isFull_12 (by decide) ?_
    refine lv_goto (tgt := 17) hx hb dX5_isFull_13 (by decide) ?_
    exact W.eq (by rw [if_neg hc9] <;> rfl) (hJ _ _ hH hS)
theorem zb_X5_isFull (w : CW) (k0 : Nat) : f_X5_isFull w k0 = 0 ∨ f_X5_isFull w k0 = 1 := by
  unfold f_X5_isFull
  repeat' split
  all_goals first | exact zb0 | exact zb1 | exact (zb_ite zb0 zb1)
def f_X5_push (w : CW) (k0 : Nat) (a1 : Int32) : Option (CW) := (if (w.2.1 k0) < 0 then (some w) else (if (Int32.ofNat (cp k0)) ≤ (w.2.1 k0) then (some w) else (if ((w.2.1 k0) < 0 ∨ cp k0 ≤ (w.2.1 k0).toNatClampNeg) then none else (nmk (sC w k0 (w.2.1 k0).toNatClampNeg a1) fun w28 => (nmk (sN w28 k0 ((w28.2.1 k0) + 1)) fun w36 => (some w36))))))
abbrev rm_X5_push : Room := { frames := 1, cells := 0, slots := 0, locals := 0 }
theorem cn_X5_push : CN yX5_push 1 := ⟨by decide +kernel, by decide +kernel, by decide +kernel⟩
set_option maxHeartbeats 4000000 in
set_option maxRecDepth 100000 in
theorem c_X5_push (l : Launch) (G : GX) (w : CW) (k0 : Nat) (hk0 : k0 < 95) (a1 : Int32) (q : CW) (hf : f_X5_push w k0 a1 = some q) : MV l G yX5_push cX5_push 2 rm_X5_push [.ref (G.2.2.1 k0), .int a1] (cA G) (cH G w) (cH G q) := by
  refine cM_start (by decide +kernel) (Nat.le_of_ble_eq_true rfl) ?_
  intro p e s m below meth c ls X hH hl
  have hS : va_S (cA G) s.heap s.heap [] := va_S.rf
  have hx := X.1.1
  have hb := X.1.2.1
  generalize hargs : ([.ref (G.2.2.1 k0), .int a1] : List Value).toArray = args at X ⊢
  generalize hQ : MQ below (QV (cA G) (cH G q)) args s 0 0 (cA G) = Q
  have hl : lv_has ls 2 [(0, .ref (G.2.2.1 k0)), (1, .int a1)] := hl
  unfold f_X5_push at hf
  refine lv_aload_n hx hb dX5_push_0 rfl (lv_at hl 0 rfl) ?_
  refine co_get (C := RX5) (N := 2) X hH k0 (Nat.lt_trans hk0 (by decide)) (cE_row hk0) rfl inBX5 1 (by decide) rfl bw170 dX5_push_1 ?_
  refine lv_if_lt (tgt := 39) hx hb dX5_push_4 (by decide) (fun hc => ?_) (fun hc => ?_)
  · have hf := fo_t hc hf
    subst hQ
    exact cEv X (cH1 (so_s hf) hH) hS dX5_push_39
  have hf := fo_f hc hf
  refine lv_aload_n hx hb dX5_push_7 rfl (lv_at hl 0 rfl) ?_
  refine co_get (C := RX5) (N := 2) X hH k0 (Nat.lt_trans hk0 (by decide)) (cE_row hk0) rfl inBX5 1 (by decide) rfl bw170 dX5_push_8 ?_
  refine lv_aload_n hx hb dX5_push_11 rfl (lv_at hl 0 rfl) ?_
  refine co_get (C := RX5) (N := 2) X hH k0 (Nat.lt_trans hk0 (by decide)) (cE_row hk0) rfl inBX5 0 (by decide) rfl bw169 dX5_push_12 ?_
  refine ca_len X hH hk0 dX5_push_15 ?_
  refine lv_icmp_ge (tgt := 39) hx hb dX5_push_16 (by decide) (fun hc => ?_) (fun hc => ?_)
  · have hf := fo_t hc hf
    subst hQ
    exact cEv X (cH1 (so_s hf) hH) hS dX5_push_39
  have hf := fo_f hc hf
  refine lv_aload_n hx hb dX5_push_19 rfl (lv_at hl 0 rfl) ?_
  refine co_get (C := RX5) (N := 2) X hH k0 (Nat.lt_trans hk0 (by decide)) (cE_row hk0) rfl inBX5 0 (by decide) rfl bw169 dX5_push_20 ?_
  refine lv_aload_n hx hb dX5_push_23 rfl (lv_at hl 0 rfl) ?_
  refine co_get (C := RX5) (N := 2) X hH k0 (Nat.lt_trans hk0 (by decide)) (cE_row hk0) rfl inBX5 1 (by decide) rfl bw170 dX5_push_24 ?_
  refine lv_iload_n hx hb dX5_push_27 rfl (lv_at hl 1 rfl) ?_
  by_cases hc : ((w.2.1 k0) < 0 ∨ cp k0 ≤ (w.2.1 k0).toNatClampNeg)
  · cases (fo_t hc hf)
  have hf := fo_f hc hf
  refine ca_st X hH hS hk0 hc dX5_push_28 (fun H locs hH hS => ?_)
  obtain ⟨w28, ew28⟩ : ∃ z : CW, z = (sC w k0 (w.2.1 k0).toNatClampNeg a1) := ⟨_, rfl⟩
  have hf := nm_s hf w28 ew28
  have hH : cH G w28 H := ew28 ▸ hH
  refine lv_aload_n hx hb dX5_push_29 rfl (lv_at hl 0 rfl) ?_
  refine lv_dup hx hb dX5_push_30 rfl ?_
  refine co_get (C := RX5) (N := 2) X hH k0 (Nat.lt_trans hk0 (by decide)) (cE_row hk0) rfl inBX5 1 (by decide) rfl bw170 dX5_push_31 ?_
  refine lv_iconst (v := 1) hx hb dX5_push_34 (by decide) ?_
  refine lv_iadd hx hb dX5_push_35 ?_
  refine c_putsize X hH hS hk0 bw170 dX5_push_36 (fun H locs hH hS => ?_)
  obtain ⟨w36, ew36⟩ : ∃ z : CW, z = (sN w28 k0 ((w28.2.1 k0) + 1)) := ⟨_, rfl⟩
  have hf := nm_s hf w36 ew36
  have hH : cH G w36 H := ew36 ▸ hH
  subst hQ
  exact cEv X (cH1 (so_s hf) hH) hS dX5_push_39
def f_X5_number (w : CW) (k0 : Nat) (a1 : Int32) : Option (Int32 × CW) := (if (w.2.1 k0) < 0 then (some ((-4), w)) else (if (w.2.1 k0) < (Int32.ofNat (cp k0)) then (if ((w.2.1 k0) < 0 ∨ cp k0 ≤ (w.2.1 k0).toNatClampNeg) then none else (nmk (sC w k0 (w.2.1 k0).toNatClampNeg a1) fun w31 => (nmk (sN w31 k0 ((w31.2.1 k0) + 1)) fun w39 => (some (((w39.2.1 k0) - 1), w39))))) else (some ((-4), w))))
abbrev rm_X5_number : Room := { frames := 1, cells := 0, slots := 0, locals := 0 }
theorem cn_X5_number : CN yX5_number 1 := ⟨by decide +kernel, by decide +kernel, by decide +kernel⟩
set_option maxHeartbeats 4000000 in
set_option maxRecDepth 100000 in
theorem c_X5_number (l : Launch) (G : GX) (w : CW) (k0 : Nat) (hk0 : k0 < 95) (a1 : Int32) (q : Int32 × CW) (hf : f_X5_number w k0 a1 = some q) : MI l G yX5_number cX5_number 2 (some .int) rm_X5_number [.ref (G.2.2.1 k0), .int a1] (cA G) (cH G w) (cH G q.2) q.1 := by
  refine cM_start (by decide +kernel) (Nat.le_of_ble_eq_true rfl) ?_
  intro p e s m below meth c ls X hH hl
  have hS : va_S (cA G) s.heap s.heap [] := va_S.rf
  have hx := X.1.1
  have hb := X.1.2.1
  generalize hargs : ([.ref (G.2.2.1 k0), .int a1] : List Value).toArray = args at X ⊢
  generalize hQ : MQ below (QI (cA G) (cH G q.2) q.1) args s 0 0 (cA G) = Q
  have hl : lv_has ls 2 [(0, .ref (G.2.2.1 k0)), (1, .int a1)] := hl
  unfold f_X5_number at hf
  refine lv_aload_n hx hb dX5_number_0 rfl (lv_at hl 0 rfl) ?_
  refine co_get (C := RX5) (N := 2) X hH k0 (Nat.lt_trans hk0 (by decide)) (cE_row hk0) rfl inBX5 1 (by decide) rfl bw170 dX5_number_1 ?_
  refine lv_if_lt (tgt := 19) hx hb dX5_number_4 (by decide) (fun hc => ?_) (fun hc => ?_)
  · have hf := fo_t hc hf
    refine lv_bipush (v := (-4)) hx hb dX5_number_19 (by decide) ?_
    subst hQ
    exact cEi X (cH2 (so_s hf) hH) hS (pf1 (so_s hf)) dX5_number_21
  have hf := fo_f hc hf
  refine lv_aload_n hx hb dX5_number_7 rfl (lv_at hl 0 rfl) ?_
  refine co_get (C := RX5) (N := 2) X hH k0 (Nat.lt_trans hk0 (by decide)) (cE_row hk0) rfl inBX5 1 (by decide) rfl bw170 dX5_number_8 ?_
  refine lv_aload_n hx hb dX5_number_11 rfl (lv_at hl 0 rfl) ?_
  refine co_get (C := RX5) (N := 2) X hH k0 (Nat.lt_trans hk0 (by decide)) (cE_row hk0) rfl inBX5 0 (by decide) rfl bw169 dX5_number_12 ?_
  refine ca_len X hH hk0 dX5_number_15 ?_
  refine lv_icmp_lt (tgt := 22) hx hb dX5_number_16 (by decide) (fun hc => ?_) (fun hc => ?_)
  rotate_left
  · have hf := fo_f hc hf
    refine lv_bipush (v := (-4)) hx hb dX5_number_19 (by decide) ?_
    subst hQ
    exact cEi X (cH2 (so_s hf) hH) hS (pf1 (so_s hf)) dX5_number_21
  have hf := fo_t hc hf
  refine lv_aload_n hx hb dX5_number_22 rfl (lv_at hl 0 rfl) ?_
  refine co_get (C := RX5) (N := 2) X hH k0 (Nat.lt_trans hk0 (by decide)) (cE_row hk0) rfl inBX5 0 (by decide) rfl bw169 dX5_number_23 ?_
  refine lv_aload_n hx hb dX5_number_26 rfl (lv_at hl 0 rfl) ?_
  refine co_get (C := RX5) (N := 2) X hH k0 (Nat.lt_trans hk0 (by decide)) (cE_row hk0) rfl inBX5 1 (by decide) rfl bw170 dX5_number_27 ?_
  refine lv_iload_n hx hb dX5_number_30 rfl (lv_at hl 1 rfl) ?_
  by_cases hc : ((w.2.1 k0) < 0 ∨ cp k0 ≤ (w.2.1 k0).toNatClampNeg)
  · cases (fo_t hc hf)
  have hf := fo_f hc hf
  refine ca_st X hH hS hk0 hc dX5_number_31 (fun H locs hH hS => ?_)
  obtain ⟨w31, ew31⟩ : ∃ z : CW, z = (sC w k0 (w.2.1 k0).toNatClampNeg a1) := ⟨_, rfl⟩
  have hf := nm_s hf w31 ew31
  have hH : cH G w31 H := ew31 ▸ hH
  refine lv_aload_n hx hb dX5_number_32 rfl (lv_at hl 0 rfl) ?_
  refine lv_dup hx hb dX5_number_33 rfl ?_
  refine co_get (C := RX5) (N := 2) X hH k0 (Nat.lt_trans hk0 (by decide)) (cE_row hk0) rfl inBX5 1 (by decide) rfl bw170 dX5_number_34 ?_
  refine lv_iconst (v := 1) hx hb dX5_number_37 (by decide) ?_
  refine lv_iadd hx hb dX5_number_38 ?_
  refine c_putsize X hH hS hk0 bw170 dX5_number_39 (fun H locs hH hS => ?_)
  obtain ⟨w39, ew39⟩ : ∃ z : CW, z = (sN w31 k0 ((w31.2.1 k0) + 1)) := ⟨_, rfl⟩
  have hf := nm_s hf w39 ew39
  have hH : cH G w39 H := ew39 ▸ hH
  refine lv_aload_n hx hb dX5_number_42 rfl (lv_at hl 0 rfl) ?_
  refine co_get (C := RX5) (N := 2) X hH k0 (Nat.lt_trans hk0 (by decide)) (cE_row hk0) rfl inBX5 1 (by decide) rfl bw170 dX5_number_43 ?_
  refine lv_iconst (v := 1) hx hb dX5_number_46 (by decide) ?_
  refine lv_isub hx hb dX5_number_47 ?_
  subst hQ
  exact cEi X (cH2 (so_s hf) hH) hS (pf1 (so_s hf)) dX5_number_48
def f_X5_indexOf_L2 (w : CW) (k0 : Nat) (a1 : Int32) : Nat → Int32 → Option (Int32)
  | 0, _ => none
  | n2 + 1, v2_2 => (if (w.2.1 k0) ≤ v2_2 then (some (-1)) else (if (Int32.ofNat (cp k0)) ≤ v2_2 then (some (-1)) else (if (v2_2 < 0 ∨ cp k0 ≤ v2_2.toNatClampNeg) then none else (if (w.1 k0 v2_2.toNatClampNeg) = a1 then (some v2_2) else (nmk (v2_2 + 1) fun (x31 : Int32) => (f_X5_indexOf_L2 w k0 a1 n2 x31))))))
def f_X5_indexOf (w : CW) (k0 : Nat) (a1 : Int32) : Option (Int32) := (f_X5_indexOf_L2 w k0 a1 FU 0)
abbrev rm_X5_indexOf : Room := { frames := 1, cells := 0, slots := 0, locals := 0 }
theorem cn_X5_indexOf : CN yX5_indexOf 1 := ⟨by decide +kernel, by decide +kernel, by decide +kernel⟩
set_option maxHeartbeats 4000000 in
set_option maxRecDepth 100000 in
theorem c_X5_indexOf (l : Launch) (G : GX) (w : CW) (k0 : Nat) (hk0 : k0 < 95) (a1 : Int32) (q : Int32) (hf : f_X5_indexOf w k0 a1 = some q) : MI l G yX5_indexOf cX5_indexOf 3 (some .int) rm_X5_indexOf [.ref (G.2.2.1 k0), .int a1] (cA G) (cH G w) (cH G w) q := by
  refine cM_start (by decide +kernel) (Nat.le_of_ble_eq_true rfl) ?_
  intro p e s m below meth c ls X hH hl
  have hS : va_S (cA G) s.heap s.heap [] := va_S.rf
  have hx := X.1.1
  have hb := X.1.2.1
  generalize hargs : ([.ref (G.2.2.1 k0), .int a1] : List Value).toArray = args at X ⊢
  generalize hQ : MQ below (QI (cA G) (cH G w) q) args s 0 0 (cA G) = Q
  have hl : lv_has ls 3 [(0, .ref (G.2.2.1 k0)), (1, .int a1)] := hl
  unfold f_X5_indexOf at hf
  refine lv_iconst (v := 0) hx hb dX5_indexOf_0 (by decide) ?_
  refine lv_istore_n (lv' := [(2, .int 0), (0, .ref (G.2.2.1 k0)), (1, .int a1)]) hx hb dX5_indexOf_1 rfl hl (by decide) rfl (fun ls hl => ?_)
  have hL2 : ∀ (n2 : Nat) (v2_2 : Int32) (H : Heap) (locs : List Loc) (ls : Array Slot), f_X5_indexOf_L2 w k0 a1 n2 v2_2 = some q → cH G w H → va_S (cA G) s.heap H locs → lv_has ls 3 [(2, .int v2_2), (0, .ref (G.2.2.1 k0)), (1, .int a1)] → W p l e rm_X5_indexOf s m args below meth c H locs 0 0 Q (F0 m 2 ls []) := by
    intro n2
    induction n2 with
    | zero => intro v2_2 H locs ls hf; rw [f_X5_indexOf_L2] at hf; cases hf
    | succ n2 ih2 =>
      intro v2_2 H locs ls hf hH hS hl
      rw [f_X5_indexOf_L2] at hf
      refine lv_iload_n hx hb dX5_indexOf_2 rfl (lv_at hl 0 rfl) ?_
      refine lv_aload_n hx hb dX5_indexOf_3 rfl (lv_at hl 1 rfl) ?_
      refine co_get (C := RX5) (N := 2) X hH k0 (Nat.lt_trans hk0 (by decide)) (cE_row hk0) rfl inBX5 1 (by decide) rfl bw170 dX5_indexOf_4 ?_
      refine lv_icmp_ge (tgt := 37) hx hb dX5_indexOf_7 (by decide) (fun hc => ?_) (fun hc => ?_)
      · have hf := fo_t hc hf
        refine lv_iconst (v := (-1)) hx hb dX5_indexOf_37 (by decide) ?_
        subst hQ
        exact cEi X hH hS (so_s hf) dX5_indexOf_38
      have hf := fo_f hc hf
      refine lv_iload_n hx hb dX5_indexOf_10 rfl (lv_at hl 0 rfl) ?_
      refine lv_aload_n hx hb dX5_indexOf_11 rfl (lv_at hl 1 rfl) ?_
      refine co_get (C := RX5) (N := 2) X hH k0 (Nat.lt_trans hk0 (by decide)) (cE_row hk0) rfl inBX5 0 (by decide) rfl bw169 dX5_indexOf_12 ?_
      refine ca_len X hH hk0 dX5_indexOf_15 ?_
      refine lv_icmp_ge (tgt := 37) hx hb dX5_indexOf_16 (by decide) (fun hc => ?_) (fun hc => ?_)
      · have hf := fo_t hc hf
        refine lv_iconst (v := (-1)) hx hb dX5_indexOf_37 (by decide) ?_
        subst hQ
        exact cEi X hH hS (so_s hf) dX5_indexOf_38
      have hf := fo_f hc hf
      refine lv_aload_n hx hb dX5_indexOf_19 rfl (lv_at hl 1 rfl) ?_
      refine co_get (C := RX5) (N := 2) X hH k0 (Nat.lt_trans hk0 (by decide)) (cE_row hk0) rfl inBX5 0 (by decide) rfl bw169 dX5_indexOf_20 ?_
      refine lv_iload_n hx hb dX5_indexOf_23 rfl (lv_at hl 0 rfl) ?_
      by_cases hc : (v2_2 < 0 ∨ cp k0 ≤ v2_2.toNatClampNeg)
      · cases (fo_t hc hf)
      have hf := fo_f hc hf
      refine ca_ld X hH hk0 hc dX5_indexOf_24 ?_
      refine lv_iload_n hx hb dX5_indexOf_25 rfl (lv_at hl 2 rfl) ?_
      refine lv_icmp_ne (tgt := 31) hx hb dX5_indexOf_26 (by decide) (fun hc => ?_) (fun hc => ?_)
      rotate_left
      · have hf := fo_t hc hf
        refine lv_iload_n hx hb dX5_indexOf_29 rfl (lv_at hl 0 rfl) ?_
        subst hQ
        exact cEi X hH hS (so_s hf) dX5_indexOf_30
      have hf := fo_f hc hf
      obtain ⟨x31, ex31⟩ : ∃ z : Int32, z = (v2_2 + 1) := ⟨_, rfl⟩
      have hf := nm_s hf x31 ex31
      refine lv_iinc (v := x31) (lv' := [(2, .int x31), (0, .ref (G.2.2.1 k0)), (1, .int a1)]) hx hb dX5_indexOf_31 hl (k := 0) rfl (by rw [ex31]; rfl) (by decide) rfl (fun ls hl => ?_)
      refine lv_goto (tgt := 2) hx hb dX5_indexOf_34 (by decide) ?_
      exact ih2 _ _ _ _ hf hH hS (lv_sub hl [0, 1, 2] rfl)
  exact hL2 _ _ _ _ _ hf hH hS (lv_sub hl [0, 1, 2] rfl)
def f_X5_has (w : CW) (k0 : Nat) (a1 : Int32) : Option (Int32) := (Option.bind (f_X5_indexOf w k0 a1) fun q2 => (some (if q2 < 0 then 0 else 1)))
abbrev rm_X5_has : Room := { frames := 2, cells := 0, slots := 0, locals := 22 }
theorem cn_X5_has : CN yX5_has 1 := ⟨by decide +kernel, by decide +kernel, by decide +kernel⟩
set_option maxHeartbeats 4000000 in
set_option maxRecDepth 100000 in
theorem c_X5_has (l : Launch) (G : GX) (w : CW) (k0 : Nat) (hk0 : k0 < 95) (a1 : Int32) (q : Int32) (hf : f_X5_has w k0 a1 = some q) : MZ l G yX5_has cX5_has 2 (some .boolean) rm_X5_has [.ref (G.2.2.1 k0), .int a1] (cA G) (cH G w) (cH G w) q := by
  refine cM_start (by decide +kernel) (Nat.le_of_ble_eq_true rfl) ?_
  intro p e s m below meth c ls X hH hl
  have hS : va_S (cA G) s.heap s.heap [] := va_S.rf
  have hx := X.1.1
  have hb := X.1.2.1
  generalize hargs : ([.ref (G.2.2.1 k0), .int a1] : List Value).toArray = args at X ⊢
  generalize hQ : MQ below (QZ (cA G) (cH G w) q) args s 0 0 (cA G) = Q
  have hl : lv_has ls 2 [(0, .ref (G.2.2.1 k0)), (1, .int a1)] := hl
  unfold f_X5_has at hf
  refine lv_aload_n hx hb dX5_has_0 rfl (lv_at hl 0 rfl) ?_
  refine lv_iload_n hx hb dX5_has_1 rfl (lv_at hl 1 rfl) ?_
  obtain ⟨q2, hq2, hf⟩ := bd_s hf
  refine cGi (cVrun (rest := []) X (c_X5_indexOf l G w k0 hk0 a1 q2 hq2) bw1156 bw854 bw855 bw91 bw856 cn_X5_indexOf ⟨rfl, rfl, Nat.le_of_ble_eq_true rfl, Nat.le_of_ble_eq_true rfl⟩ (c_recR X hH hk0) cA_g hH hS hl rfl (Nat.le_of_ble_eq_true rfl) dX5_has_2) hS (fun H locs hH hS => ?_)
  have hJ : ∀ (H : Heap) (locs : List Loc), cH G w H → va_S (cA G) s.heap H locs → W p l e rm_X5_has s m args below meth c H locs 0 0 Q (F0 m 13 ls [.int (if q2 < 0 then 0 else 1)]) := by
    intro H locs hH hS
    subst hQ
    exact cEzz X hH hS (so_s hf) (zb_ite zb0 zb1) dX5_has_13
  refine lv_if_lt (tgt := 12) hx hb dX5_has_5 (by decide) (fun hc5 => ?_) (fun hc5 => ?_)
  · refine lv_iconst (v := 0) hx hb dX5_has_12 (by decide) ?_
    exact W.eq (by rw [if_pos hc5] <;> rfl) (hJ _ _ hH hS)
  · refine lv_iconst (v := 1) hx hb dX5_has_8 (by decide) ?_
    refine lv_goto (tgt := 13) hx hb dX5_has_9 (by decide) ?_
    exact W.eq (by rw [if_neg hc5] <;> rfl) (hJ _ _ hH hS)
def f_X5_shorten (w : CW) (k0 : Nat) : CW := (nmk (sN w k0 (if (w.2.1 k0) ≤ 0 then 0 else ((w.2.1 k0) - 1))) fun w18 => (w18))
abbrev rm_X5_shorten : Room := { frames := 1, cells := 0, slots := 0, locals := 0 }
theorem cn_X5_shorten : CN yX5_shorten 0 := ⟨by decide +kernel, by decide +kernel, by decide +kernel⟩
set_option maxHeartbeats 4000000 in
set_option maxRecDepth 100000 in
theorem c_X5_shorten (l : Launch) (G : GX) (w : CW) (k0 : Nat) (hk0 : k0 < 95) (q : CW) (hf : f_X5_shorten w k0 = q) : MV l G yX5_shorten cX5_shorten 1 rm_X5_shorten [.ref (G.2.2.1 k0)] (cA G) (cH G w) (cH G q) := by
  refine cM_start (by decide +kernel) (Nat.le_of_ble_eq_true rfl) ?_
  intro p e s m below meth c ls X hH hl
  have hS : va_S (cA G) s.heap s.heap [] := va_S.rf
  have hx := X.1.1
  have hb := X.1.2.1
  generalize hargs : ([.ref (G.2.2.1 k0)] : List Value).toArray = args at X ⊢
  generalize hQ : MQ below (QV (cA G) (cH G q)) args s 0 0 (cA G) = Q
  have hl : lv_has ls 1 [(0, .ref (G.2.2.1 k0))] := hl
  unfold f_X5_shorten at hf
  refine lv_aload_n hx hb dX5_shorten_0 rfl (lv_at hl 0 rfl) ?_
  refine lv_aload_n hx hb dX5_shorten_1 rfl (lv_at hl 0 rfl) ?_
  refine co_get (C := RX5) (N := 2) X hH k0 (Nat.lt_trans hk0 (by decide)) (cE_row hk0) rfl inBX5 1 (by decide) rfl bw170 dX5_shorten_2 ?_
  have hJ : ∀ (H : Heap) (locs : List Loc), cH G w H → va_S (cA G) s.heap H locs → W p l e rm_X5_shorten s m args below meth c H locs 0 0 Q (F0 m 18 ls [.int (if (w.2.1 k0) ≤ 0 then 0 else ((w.2.1 k0) - 1)), .ref (G.2.2.1 k0)]) := by
    intro H locs hH hS
    refine c_putsize X hH hS hk0 bw170 dX5_shorten_18 (fun H locs hH hS => ?_)
    obtain ⟨w18, ew18⟩ : ∃ z : CW, z = (sN w k0 (if (w.2.1 k0) ≤ 0 then 0 else ((w.2.1 k0) - 1))) := ⟨_, rfl⟩
    have hf := nm_s hf w18 ew18
    have hH : cH G w18 H := ew18 ▸ hH
    subst hQ
    exact cEv X (cH1 (hf) hH) hS dX5_shorten_21
  refine lv_if_le (tgt := 17) hx hb dX5_shorten_5 (by decide) (fun hc5 => ?_) (fun hc5 => ?_)
  · refine lv_iconst (v := 0) hx hb dX5_shorten_17 (by decide) ?_
    exact W.eq (by rw [if_pos hc5] <;> rfl) (hJ _ _ hH hS)
  · refine lv_aload_n hx hb dX5_shorten_8 rfl (lv_at hl 0 rfl) ?_
    refine co_get (C := RX5) (N := 2) X hH k0 (Nat.lt_trans hk0 (by decide)) (cE_row hk0) rfl inBX5 1 (by decide) rfl bw170 dX5_shorten_9 ?_
    refine lv_iconst (v := 1) hx hb dX5_shorten_12 (by decide) ?_
    refine lv_isub hx hb dX5_shorten_13 ?_
    refine lv_goto (tgt := 18) hx hb dX5_shorten_14 (by decide) ?_
    exact W.eq (by rw [if_neg hc5] <;> rfl) (hJ _ _ hH hS)
def f_X5_clear (w : CW) (k0 : Nat) : CW := (nmk (sN w k0 0) fun w2 => (w2))
abbrev rm_X5_clear : Room := { frames := 1, cells := 0, slots := 0, locals := 0 }
theorem cn_X5_clear : CN yX5_clear 0 := ⟨by decide +kernel, by decide +kernel, by decide +kernel⟩
set_option maxHeartbeats 4000000 in
set_option maxRecDepth 100000 in
theorem c_X5_clear (l : Launch) (G : GX) (w : CW) (k0 : Nat) (hk0 : k0 < 95) (q : CW) (hf : f_X5_clear w k0 = q) : MV l G yX5_clear cX5_clear 1 rm_X5_clear [.ref (G.2.2.1 k0)] (cA G) (cH G w) (cH G q) := by
  refine cM_start (by decide +kernel) (Nat.le_of_ble_eq_true rfl) ?_
  intro p e s m below meth c ls X hH hl
  have hS : va_S (cA G) s.heap s.heap [] := va_S.rf
  have hx := X.1.1
  have hb := X.1.2.1
  generalize hargs : ([.ref (G.2.2.1 k0)] : List Value).toArray = args at X ⊢
  generalize hQ : MQ below (QV (cA G) (cH G q)) args s 0 0 (cA G) = Q
  have hl : lv_has ls 1 [(0, .ref (G.2.2.1 k0))] := hl
  unfold f_X5_clear at hf
  refine lv_aload_n hx hb dX5_clear_0 rfl (lv_at hl 0 rfl) ?_
  refine lv_iconst (v := 0) hx hb dX5_clear_1 (by decide) ?_
  refine c_putsize X hH hS hk0 bw170 dX5_clear_2 (fun H locs hH hS => ?_)
  obtain ⟨w2, ew2⟩ : ∃ z : CW, z = (sN w k0 0) := ⟨_, rfl⟩
  have hf := nm_s hf w2 ew2
  have hH : cH G w2 H := ew2 ▸ hH
  subst hQ
  exact cEv X (cH1 (hf) hH) hS dX5_clear_5
