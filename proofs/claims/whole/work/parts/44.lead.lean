def f_X11_isSort (a0 : Int32) : Int32 := ((if a0 < 0 then 0 else (if 27 ≤ a0 then 0 else 1)))
abbrev rm_X11_isSort : Room := { frames := 1, cells := 0, slots := 0, locals := 0 }
theorem cn_X11_isSort : CN yX11_isSort 1 := ⟨by decide +kernel, by decide +kernel, by decide +kernel⟩
set_option maxHeartbeats 4000000 in
set_option maxRecDepth 100000 in
theorem c_X11_isSort (l : Launch) (G : GX) (P : Heap → Prop) (A : Nat → Prop) (hAG : ∀ q, A q → gA G q) (a0 : Int32) (q : Int32) (hf : f_X11_isSort a0 = q) : MI l G yX11_isSort cX11_isSort 1 (some .boolean) rm_X11_isSort [.int a0] A P P q := by
  refine cM_start (by decide +kernel) (Nat.le_of_ble_eq_true rfl) ?_
  intro p e s m below meth c ls X hH hl
  have hS : va_S A s.heap s.heap [] := va_S.rf
  have hx := X.1.1
  have hb := X.1.2.1
  generalize hargs : ([.int a0] : List Value).toArray = args at X ⊢
  generalize hQ : MQ below (QI A P q) args s 0 0 A = Q
  have hl : lv_has ls 1 [(0, .int a0)] := hl
  unfold f_X11_isSort at hf
  refine lv_iload_n hx hb dX11_isSort_0 rfl (lv_at hl 0 rfl) ?_
  have hJ : ∀ (H : Heap) (locs : List Loc), P H → va_S A s.heap H locs → W p l e rm_X11_isSort s m args below meth c H locs 0 0 Q (F0 m 15 ls [.int (if a0 < 0 then 0 else (if 27 ≤ a0 then 0 else 1))]) := by
    intro H locs hH hS
    subst hQ
    exact cEz X hH hS (hf) (nz (zb_ite zb0 (zb_ite zb0 zb1))) dX11_isSort_15
  refine lv_if_lt (tgt := 14) hx hb dX11_isSort_1 (by decide) (fun hc1 => ?_) (fun hc1 => ?_)
  · refine lv_iconst (v := 0) hx hb dX11_isSort_14 (by decide) ?_
    exact W.eq (by rw [if_pos hc1] <;> rfl) (hJ _ _ hH hS)
  · refine lv_iload_n hx hb dX11_isSort_4 rfl (lv_at hl 0 rfl) ?_
    refine lv_bipush (v := 27) hx hb dX11_isSort_5 (by decide) ?_
    refine lv_icmp_ge (tgt := 14) hx hb dX11_isSort_7 (by decide) (fun hc7 => ?_) (fun hc7 => ?_)
    · refine lv_iconst (v := 0) hx hb dX11_isSort_14 (by decide) ?_
      exact W.eq (by rw [if_neg hc1, if_pos hc7] <;> rfl) (hJ _ _ hH hS)
    · refine lv_iconst (v := 1) hx hb dX11_isSort_10 (by decide) ?_
      refine lv_goto (tgt := 15) hx hb dX11_isSort_11 (by decide) ?_
      exact W.eq (by rw [if_neg hc1, if_neg hc7] <;> rfl) (hJ _ _ hH hS)
theorem zb_X11_isSort (a0 : Int32) : f_X11_isSort a0 = 0 ∨ f_X11_isSort a0 = 1 := by
  unfold f_X11_isSort
  try simp only [nmk]
  repeat' (first | exact zb0 | exact zb1 | refine zb_ite ?_ ?_)
def f_X11_sort (w : CW) (a1 : Int32) (a2 : Int32) : Option (Int32 × CW) := (if (f_X11_isSort a1) = 0 then (some ((-1), w)) else (if a2 < 1 then (some ((-2), w)) else (if a2 ≤ 9 then (Option.bind (f_X8_standing w) fun q27 => (if q27 ≤ 0 then (nmk (rSwap w 12 a1 a2) fun q45 => (some (q45.1, q45.2))) else (some ((-3), w)))) else (some ((-2), w)))))
abbrev rm_X11_sort : Room := { frames := 3, cells := 0, slots := 0, locals := 45 }
theorem cn_X11_sort : CN yX11_sort 2 := ⟨by decide +kernel, by decide +kernel, by decide +kernel⟩
set_option maxHeartbeats 4000000 in
set_option maxRecDepth 100000 in
theorem c_X11_sort (l : Launch) (G : GX) (w : CW) (a1 : Int32) (a2 : Int32) (q : Int32 × CW) (hf : f_X11_sort w a1 a2 = some q) : MI l G yX11_sort cX11_sort 3 (some .int) rm_X11_sort [.ref (G.2.2.1 190), .int a1, .int a2] (cA G) (cH G w) (cH G q.2) q.1 := by
  refine cM_start (by decide +kernel) (Nat.le_of_ble_eq_true rfl) ?_
  intro p e s m below meth c ls X hH hl
  have hS : va_S (cA G) s.heap s.heap [] := va_S.rf
  have hx := X.1.1
  have hb := X.1.2.1
  generalize hargs : ([.ref (G.2.2.1 190), .int a1, .int a2] : List Value).toArray = args at X ⊢
  generalize hQ : MQ below (QI (cA G) (cH G q.2) q.1) args s 0 0 (cA G) = Q
  have hl : lv_has ls 3 [(0, .ref (G.2.2.1 190)), (1, .int a1), (2, .int a2)] := hl
  unfold f_X11_sort at hf
  refine lv_iload_n hx hb dX11_sort_0 rfl (lv_at hl 1 rfl) ?_
  refine cGi (cSrun (rest := []) X (c_X11_isSort l G (cH G w) (cA G) cA_g a1 _ rfl) bw616 bw617 bw86 bw618 cn_X11_isSort ⟨rfl, rfl, Nat.le_of_ble_eq_true rfl, Nat.le_of_ble_eq_true rfl⟩ cA_g hH hS hl rfl (Nat.le_of_ble_eq_true rfl) dX11_sort_1) hS (fun H locs hH hS => ?_)
  refine lv_if_ne (tgt := 9) hx hb dX11_sort_4 (by decide) (fun hc => ?_) (fun hc => ?_)
  rotate_left
  · have hf := fo_t hc hf
    refine lv_iconst (v := (-1)) hx hb dX11_sort_7 (by decide) ?_
    subst hQ
    exact cEi X (cH2 (so_s hf) hH) hS (pf1 (so_s hf)) dX11_sort_8
  have hf := fo_f hc hf
  refine lv_iload_n hx hb dX11_sort_9 rfl (lv_at hl 2 rfl) ?_
  refine lv_iconst (v := 1) hx hb dX11_sort_10 (by decide) ?_
  refine lv_icmp_lt (tgt := 20) hx hb dX11_sort_11 (by decide) (fun hc => ?_) (fun hc => ?_)
  · have hf := fo_t hc hf
    refine lv_bipush (v := (-2)) hx hb dX11_sort_20 (by decide) ?_
    subst hQ
    exact cEi X (cH2 (so_s hf) hH) hS (pf1 (so_s hf)) dX11_sort_22
  have hf := fo_f hc hf
  refine lv_iload_n hx hb dX11_sort_14 rfl (lv_at hl 2 rfl) ?_
  refine lv_bipush (v := 9) hx hb dX11_sort_15 (by decide) ?_
  refine lv_icmp_le (tgt := 23) hx hb dX11_sort_17 (by decide) (fun hc => ?_) (fun hc => ?_)
  rotate_left
  · have hf := fo_f hc hf
    refine lv_bipush (v := (-2)) hx hb dX11_sort_20 (by decide) ?_
    subst hQ
    exact cEi X (cH2 (so_s hf) hH) hS (pf1 (so_s hf)) dX11_sort_22
  have hf := fo_t hc hf
  refine lv_aload_n hx hb dX11_sort_23 rfl (lv_at hl 0 rfl) ?_
  refine co_get X hH 190 (by decide) eO190 rfl inBX11 6 (by decide) rfl bw578 dX11_sort_24 ?_
  obtain ⟨q27, hq27, hf⟩ := bd_s hf
  refine cGi (cVrun (rest := []) X (c_X8_standing l G w q27 hq27) bw619 bw620 bw621 bw99 bw622 cn_X8_standing ⟨rfl, rfl, Nat.le_of_ble_eq_true rfl, Nat.le_of_ble_eq_true rfl⟩ (c_rec X hH 195 (by decide) eO195 rfl) cA_g hH hS hl rfl (Nat.le_of_ble_eq_true rfl) dX11_sort_27) hS (fun H locs hH hS => ?_)
  refine lv_if_le (tgt := 36) hx hb dX11_sort_30 (by decide) (fun hc => ?_) (fun hc => ?_)
  rotate_left
  · have hf := fo_f hc hf
    refine lv_bipush (v := (-3)) hx hb dX11_sort_33 (by decide) ?_
    subst hQ
    exact cEi X (cH2 (so_s hf) hH) hS (pf1 (so_s hf)) dX11_sort_35
  have hf := fo_t hc hf
  refine lv_aload_n hx hb dX11_sort_36 rfl (lv_at hl 0 rfl) ?_
  refine co_get X hH 190 (by decide) eO190 rfl inBX11 6 (by decide) rfl bw578 dX11_sort_37 ?_
  refine co_getN X hH 195 (by decide) eO195 rfl inBX8 0 (by decide) rfl bw356 dX11_sort_40 ?_
  refine lv_iload_n hx hb dX11_sort_43 rfl (lv_at hl 1 rfl) ?_
  refine lv_iload_n hx hb dX11_sort_44 rfl (lv_at hl 2 rfl) ?_
  obtain ⟨q45, hq45, hf⟩ := nm_x hf
  have hq45 := hq45.symm
  refine cGi (cVrun (rest := []) X (cl_X5_swap l G w 12 (by decide) a1 a2 q45 hq45) bw631 bw632 bw633 bw91 bw634 cn_X5_swap ⟨rfl, rfl, Nat.le_of_ble_eq_true rfl, Nat.le_of_ble_eq_true rfl⟩ (c_recR X hH (by decide)) cA_g hH hS hl rfl (Nat.le_of_ble_eq_true rfl) dX11_sort_45) hS (fun H locs hH hS => ?_)
  subst hQ
  exact cEi X (cH2 (so_s hf) hH) hS (pf1 (so_s hf)) dX11_sort_48
def f_X11_cast (w : CW) (a1 : Int32) (a2 : Int32) : Int32 × CW := (if (f_X11_isSort a1) = 0 then (((-1), w)) else (if a2 < 1 then (((-2), w)) else (if a2 ≤ 999 then (if ((rAt w 13 a1) + a2) ≤ 9999 then (nmk (f_X8_castAnew w a1 a2) fun q52 => ((q52.1, q52.2))) else (((-4), w))) else (((-2), w)))))
abbrev rm_X11_cast : Room := { frames := 4, cells := 0, slots := 0, locals := 66 }
theorem cn_X11_cast : CN yX11_cast 2 := ⟨by decide +kernel, by decide +kernel, by decide +kernel⟩
set_option maxHeartbeats 4000000 in
set_option maxRecDepth 100000 in
theorem c_X11_cast (l : Launch) (G : GX) (w : CW) (a1 : Int32) (a2 : Int32) (q : Int32 × CW) (hf : f_X11_cast w a1 a2 = q) : MI l G yX11_cast cX11_cast 3 (some .int) rm_X11_cast [.ref (G.2.2.1 190), .int a1, .int a2] (cA G) (cH G w) (cH G q.2) q.1 := by
  refine cM_start (by decide +kernel) (Nat.le_of_ble_eq_true rfl) ?_
  intro p e s m below meth c ls X hH hl
  have hS : va_S (cA G) s.heap s.heap [] := va_S.rf
  have hx := X.1.1
  have hb := X.1.2.1
  generalize hargs : ([.ref (G.2.2.1 190), .int a1, .int a2] : List Value).toArray = args at X ⊢
  generalize hQ : MQ below (QI (cA G) (cH G q.2) q.1) args s 0 0 (cA G) = Q
  have hl : lv_has ls 3 [(0, .ref (G.2.2.1 190)), (1, .int a1), (2, .int a2)] := hl
  unfold f_X11_cast at hf
  refine lv_iload_n hx hb dX11_cast_0 rfl (lv_at hl 1 rfl) ?_
  refine cGi (cSrun (rest := []) X (c_X11_isSort l G (cH G w) (cA G) cA_g a1 _ rfl) bw616 bw617 bw86 bw618 cn_X11_isSort ⟨rfl, rfl, Nat.le_of_ble_eq_true rfl, Nat.le_of_ble_eq_true rfl⟩ cA_g hH hS hl rfl (Nat.le_of_ble_eq_true rfl) dX11_cast_1) hS (fun H locs hH hS => ?_)
  refine lv_if_ne (tgt := 9) hx hb dX11_cast_4 (by decide) (fun hc => ?_) (fun hc => ?_)
  rotate_left
  · have hf := fo_t hc hf
    refine lv_iconst (v := (-1)) hx hb dX11_cast_7 (by decide) ?_
    subst hQ
    exact cEi X (cH2 (hf) hH) hS (pf1 (hf)) dX11_cast_8
  have hf := fo_f hc hf
  refine lv_iload_n hx hb dX11_cast_9 rfl (lv_at hl 2 rfl) ?_
  refine lv_iconst (v := 1) hx hb dX11_cast_10 (by decide) ?_
  refine lv_icmp_lt (tgt := 21) hx hb dX11_cast_11 (by decide) (fun hc => ?_) (fun hc => ?_)
  · have hf := fo_t hc hf
    refine lv_bipush (v := (-2)) hx hb dX11_cast_21 (by decide) ?_
    subst hQ
    exact cEi X (cH2 (hf) hH) hS (pf1 (hf)) dX11_cast_23
  have hf := fo_f hc hf
  refine lv_iload_n hx hb dX11_cast_14 rfl (lv_at hl 2 rfl) ?_
  refine lv_sipush (v := 999) hx hb dX11_cast_15 (by decide) ?_
  refine lv_icmp_le (tgt := 24) hx hb dX11_cast_18 (by decide) (fun hc => ?_) (fun hc => ?_)
  rotate_left
  · have hf := fo_f hc hf
    refine lv_bipush (v := (-2)) hx hb dX11_cast_21 (by decide) ?_
    subst hQ
    exact cEi X (cH2 (hf) hH) hS (pf1 (hf)) dX11_cast_23
  have hf := fo_t hc hf
  refine lv_aload_n hx hb dX11_cast_24 rfl (lv_at hl 0 rfl) ?_
  refine co_get X hH 190 (by decide) eO190 rfl inBX11 6 (by decide) rfl bw578 dX11_cast_25 ?_
  refine co_getN X hH 195 (by decide) eO195 rfl inBX8 1 (by decide) rfl bw358 dX11_cast_28 ?_
  refine lv_iload_n hx hb dX11_cast_31 rfl (lv_at hl 1 rfl) ?_
  refine cGi (cVrun (rest := []) X (cl_X5_at l G w 13 (by decide) a1 _ rfl) bw641 bw628 bw629 bw91 bw630 cn_X5_at ⟨rfl, rfl, Nat.le_of_ble_eq_true rfl, Nat.le_of_ble_eq_true rfl⟩ (c_recR X hH (by decide)) cA_g hH hS hl rfl (Nat.le_of_ble_eq_true rfl) dX11_cast_32) hS (fun H locs hH hS => ?_)
  refine lv_iload_n hx hb dX11_cast_35 rfl (lv_at hl 2 rfl) ?_
  refine lv_iadd hx hb dX11_cast_36 ?_
  refine lv_sipush (v := 9999) hx hb dX11_cast_37 (by decide) ?_
  refine lv_icmp_le (tgt := 46) hx hb dX11_cast_40 (by decide) (fun hc => ?_) (fun hc => ?_)
  rotate_left
  · have hf := fo_f hc hf
    refine lv_bipush (v := (-4)) hx hb dX11_cast_43 (by decide) ?_
    subst hQ
    exact cEi X (cH2 (hf) hH) hS (pf1 (hf)) dX11_cast_45
  have hf := fo_t hc hf
  refine lv_aload_n hx hb dX11_cast_46 rfl (lv_at hl 0 rfl) ?_
  refine co_get X hH 190 (by decide) eO190 rfl inBX11 6 (by decide) rfl bw578 dX11_cast_47 ?_
  refine lv_iload_n hx hb dX11_cast_50 rfl (lv_at hl 1 rfl) ?_
  refine lv_iload_n hx hb dX11_cast_51 rfl (lv_at hl 2 rfl) ?_
  obtain ⟨q52, hq52, hf⟩ := nm_x hf
  have hq52 := hq52.symm
  refine cGi (cVrun (rest := []) X (c_X8_castAnew l G w a1 a2 q52 hq52) bw642 bw643 bw644 bw99 bw645 cn_X8_castAnew ⟨rfl, rfl, Nat.le_of_ble_eq_true rfl, Nat.le_of_ble_eq_true rfl⟩ (c_rec X hH 195 (by decide) eO195 rfl) cA_g hH hS hl rfl (Nat.le_of_ble_eq_true rfl) dX11_cast_52) hS (fun H locs hH hS => ?_)
  subst hQ
  exact cEi X (cH2 (hf) hH) hS (pf1 (hf)) dX11_cast_55
def f_X11_many (w : CW) (a1 : Int32) (a2 : Int32) : Option (Int32) := (if (f_X11_isSort a1) = 0 then (some (-1)) else (if a2 = 0 then (some (rAt w 13 a1)) else (if a2 = 1 then (Option.bind (f_X8_inPages w a1) fun q53 => (some q53)) else (if a2 = 2 then (some (rAt w 14 a1)) else (some (-1))))))
abbrev rm_X11_many : Room := { frames := 4, cells := 0, slots := 0, locals := 65 }
theorem cn_X11_many : CN yX11_many 2 := ⟨by decide +kernel, by decide +kernel, by decide +kernel⟩
set_option maxHeartbeats 4000000 in
set_option maxRecDepth 100000 in
theorem c_X11_many (l : Launch) (G : GX) (w : CW) (a1 : Int32) (a2 : Int32) (q : Int32) (hf : f_X11_many w a1 a2 = some q) : MI l G yX11_many cX11_many 3 (some .int) rm_X11_many [.ref (G.2.2.1 190), .int a1, .int a2] (cA G) (cH G w) (cH G w) q := by
  refine cM_start (by decide +kernel) (Nat.le_of_ble_eq_true rfl) ?_
  intro p e s m below meth c ls X hH hl
  have hS : va_S (cA G) s.heap s.heap [] := va_S.rf
  have hx := X.1.1
  have hb := X.1.2.1
  generalize hargs : ([.ref (G.2.2.1 190), .int a1, .int a2] : List Value).toArray = args at X ⊢
  generalize hQ : MQ below (QI (cA G) (cH G w) q) args s 0 0 (cA G) = Q
  have hl : lv_has ls 3 [(0, .ref (G.2.2.1 190)), (1, .int a1), (2, .int a2)] := hl
  unfold f_X11_many at hf
  refine lv_iload_n hx hb dX11_many_0 rfl (lv_at hl 1 rfl) ?_
  refine cGi (cSrun (rest := []) X (c_X11_isSort l G (cH G w) (cA G) cA_g a1 _ rfl) bw616 bw617 bw86 bw618 cn_X11_isSort ⟨rfl, rfl, Nat.le_of_ble_eq_true rfl, Nat.le_of_ble_eq_true rfl⟩ cA_g hH hS hl rfl (Nat.le_of_ble_eq_true rfl) dX11_many_1) hS (fun H locs hH hS => ?_)
  refine lv_if_ne (tgt := 9) hx hb dX11_many_4 (by decide) (fun hc => ?_) (fun hc => ?_)
  rotate_left
  · have hf := fo_t hc hf
    refine lv_iconst (v := (-1)) hx hb dX11_many_7 (by decide) ?_
    subst hQ
    exact cEi X hH hS (so_s hf) dX11_many_8
  have hf := fo_f hc hf
  refine lv_iload_n hx hb dX11_many_9 rfl (lv_at hl 2 rfl) ?_
  by_cases hc0 : a2 = 0
  · have hf := fo_t hc0 hf
    refine lv_tableIn (tgt := 36) hx hb dX11_many_10 (by rw [hc0]; decide) (by rw [hc0]; decide) (by rw [hc0]; rfl) (by decide) ?_
    refine lv_aload_n hx hb dX11_many_36 rfl (lv_at hl 0 rfl) ?_
    refine co_get X hH 190 (by decide) eO190 rfl inBX11 6 (by decide) rfl bw578 dX11_many_37 ?_
    refine co_getN X hH 195 (by decide) eO195 rfl inBX8 1 (by decide) rfl bw358 dX11_many_40 ?_
    refine lv_iload_n hx hb dX11_many_43 rfl (lv_at hl 1 rfl) ?_
    refine cGi (cVrun (rest := []) X (cl_X5_at l G w 13 (by decide) a1 _ rfl) bw641 bw628 bw629 bw91 bw630 cn_X5_at ⟨rfl, rfl, Nat.le_of_ble_eq_true rfl, Nat.le_of_ble_eq_true rfl⟩ (c_recR X hH (by decide)) cA_g hH hS hl rfl (Nat.le_of_ble_eq_true rfl) dX11_many_44) hS (fun H locs hH hS => ?_)
    subst hQ
    exact cEi X hH hS (so_s hf) dX11_many_47
  have hf := fo_f hc0 hf
  by_cases hc1 : a2 = 1
  · have hf := fo_t hc1 hf
    refine lv_tableIn (tgt := 48) hx hb dX11_many_10 (by rw [hc1]; decide) (by rw [hc1]; decide) (by rw [hc1]; rfl) (by decide) ?_
    refine lv_aload_n hx hb dX11_many_48 rfl (lv_at hl 0 rfl) ?_
    refine co_get X hH 190 (by decide) eO190 rfl inBX11 6 (by decide) rfl bw578 dX11_many_49 ?_
    refine lv_iload_n hx hb dX11_many_52 rfl (lv_at hl 1 rfl) ?_
    obtain ⟨q53, hq53, hf⟩ := bd_s hf
    refine cGi (cVrun (rest := []) X (c_X8_inPages l G w a1 q53 hq53) bw655 bw656 bw657 bw99 bw658 cn_X8_inPages ⟨rfl, rfl, Nat.le_of_ble_eq_true rfl, Nat.le_of_ble_eq_true rfl⟩ (c_rec X hH 195 (by decide) eO195 rfl) cA_g hH hS hl rfl (Nat.le_of_ble_eq_true rfl) dX11_many_53) hS (fun H locs hH hS => ?_)
    subst hQ
    exact cEi X hH hS (so_s hf) dX11_many_56
  have hf := fo_f hc1 hf
  by_cases hc2 : a2 = 2
  · have hf := fo_t hc2 hf
    refine lv_tableIn (tgt := 57) hx hb dX11_many_10 (by rw [hc2]; decide) (by rw [hc2]; decide) (by rw [hc2]; rfl) (by decide) ?_
    refine lv_aload_n hx hb dX11_many_57 rfl (lv_at hl 0 rfl) ?_
    refine co_get X hH 190 (by decide) eO190 rfl inBX11 6 (by decide) rfl bw578 dX11_many_58 ?_
    refine co_getN X hH 195 (by decide) eO195 rfl inBX8 2 (by decide) rfl bw360 dX11_many_61 ?_
    refine lv_iload_n hx hb dX11_many_64 rfl (lv_at hl 1 rfl) ?_
    refine cGi (cVrun (rest := []) X (cl_X5_at l G w 14 (by decide) a1 _ rfl) bw641 bw628 bw629 bw91 bw630 cn_X5_at ⟨rfl, rfl, Nat.le_of_ble_eq_true rfl, Nat.le_of_ble_eq_true rfl⟩ (c_recR X hH (by decide)) cA_g hH hS hl rfl (Nat.le_of_ble_eq_true rfl) dX11_many_65) hS (fun H locs hH hS => ?_)
    subst hQ
    exact cEi X hH hS (so_s hf) dX11_many_68
  have hf := fo_f hc2 hf
  refine lv_tableOut (tgt := 69) hx hb dX11_many_10 (sw_out (ks := [0, 1, 2]) (by intro k hk; simp only [List.mem_cons, List.not_mem_nil, or_false] at hk; rcases hk with rfl | rfl | rfl <;> assumption) (sw_all 0 [0, 1, 2] (by decide))) (by decide) ?_
  refine lv_iconst (v := (-1)) hx hb dX11_many_69 (by decide) ?_
  subst hQ
  exact cEi X hH hS (so_s hf) dX11_many_70
def f_X11_now (w : CW) : Int32 := ((rAt w 0 0))
abbrev rm_X11_now : Room := { frames := 2, cells := 0, slots := 0, locals := 21 }
theorem cn_X11_now : CN yX11_now 0 := ⟨by decide +kernel, by decide +kernel, by decide +kernel⟩
set_option maxHeartbeats 4000000 in
set_option maxRecDepth 100000 in
theorem c_X11_now (l : Launch) (G : GX) (w : CW) (q : Int32) (hf : f_X11_now w = q) : MI l G yX11_now cX11_now 1 (some .int) rm_X11_now [.ref (G.2.2.1 190)] (cA G) (cH G w) (cH G w) q := by
  refine cM_start (by decide +kernel) (Nat.le_of_ble_eq_true rfl) ?_
  intro p e s m below meth c ls X hH hl
  have hS : va_S (cA G) s.heap s.heap [] := va_S.rf
  have hx := X.1.1
  have hb := X.1.2.1
  generalize hargs : ([.ref (G.2.2.1 190)] : List Value).toArray = args at X ⊢
  generalize hQ : MQ below (QI (cA G) (cH G w) q) args s 0 0 (cA G) = Q
  have hl : lv_has ls 1 [(0, .ref (G.2.2.1 190))] := hl
  unfold f_X11_now at hf
  refine lv_aload_n hx hb dX11_now_0 rfl (lv_at hl 0 rfl) ?_
  refine co_get X hH 190 (by decide) eO190 rfl inBX11 1 (by decide) rfl bw573 dX11_now_1 ?_
  refine lv_iconst (v := 0) hx hb dX11_now_4 (by decide) ?_
  refine cGi (cVrun (rest := []) X (cl_X5_at l G w 0 (by decide) 0 _ rfl) bw641 bw628 bw629 bw91 bw630 cn_X5_at ⟨rfl, rfl, Nat.le_of_ble_eq_true rfl, Nat.le_of_ble_eq_true rfl⟩ (c_recR X hH (by decide)) cA_g hH hS hl rfl (Nat.le_of_ble_eq_true rfl) dX11_now_5) hS (fun H locs hH hS => ?_)
  subst hQ
  exact cEi X hH hS (hf) dX11_now_8
def f_X11_day (w : CW) (a1 : Int32) : Int32 × CW := (if a1 < 1 then (((-2), w)) else (if 99 < a1 then (((-2), w)) else (if ((f_X11_now w) + a1) ≤ 999 then (nmk (rAdd w 0 0 a1) fun q32 => (((f_X11_now q32), q32))) else (((-2), w)))))
abbrev rm_X11_day : Room := { frames := 3, cells := 0, slots := 0, locals := 44 }
theorem cn_X11_day : CN yX11_day 1 := ⟨by decide +kernel, by decide +kernel, by decide +kernel⟩
set_option maxHeartbeats 4000000 in
set_option maxRecDepth 100000 in
theorem c_X11_day (l : Launch) (G : GX) (w : CW) (a1 : Int32) (q : Int32 × CW) (hf : f_X11_day w a1 = q) : MI l G yX11_day cX11_day 2 (some .int) rm_X11_day [.ref (G.2.2.1 190), .int a1] (cA G) (cH G w) (cH G q.2) q.1 := by
  refine cM_start (by decide +kernel) (Nat.le_of_ble_eq_true rfl) ?_
  intro p e s m below meth c ls X hH hl
  have hS : va_S (cA G) s.heap s.heap [] := va_S.rf
  have hx := X.1.1
  have hb := X.1.2.1
  generalize hargs : ([.ref (G.2.2.1 190), .int a1] : List Value).toArray = args at X ⊢
  generalize hQ : MQ below (QI (cA G) (cH G q.2) q.1) args s 0 0 (cA G) = Q
  have hl : lv_has ls 2 [(0, .ref (G.2.2.1 190)), (1, .int a1)] := hl
  unfold f_X11_day at hf
  refine lv_iload_n hx hb dX11_day_0 rfl (lv_at hl 1 rfl) ?_
  refine lv_iconst (v := 1) hx hb dX11_day_1 (by decide) ?_
  refine lv_icmp_lt (tgt := 23) hx hb dX11_day_2 (by decide) (fun hc => ?_) (fun hc => ?_)
  · have hf := fo_t hc hf
    refine lv_bipush (v := (-2)) hx hb dX11_day_23 (by decide) ?_
    subst hQ
    exact cEi X (cH2 (hf) hH) hS (pf1 (hf)) dX11_day_25
  have hf := fo_f hc hf
  refine lv_iload_n hx hb dX11_day_5 rfl (lv_at hl 1 rfl) ?_
  refine lv_bipush (v := 99) hx hb dX11_day_6 (by decide) ?_
  refine lv_icmp_gt (tgt := 23) hx hb dX11_day_8 (by decide) (fun hc => ?_) (fun hc => ?_)
  · have hf := fo_t hc hf
    refine lv_bipush (v := (-2)) hx hb dX11_day_23 (by decide) ?_
    subst hQ
    exact cEi X (cH2 (hf) hH) hS (pf1 (hf)) dX11_day_25
  have hf := fo_f hc hf
  refine lv_aload_n hx hb dX11_day_11 rfl (lv_at hl 0 rfl) ?_
  refine cGi (cVrun (rest := []) X (c_X11_now l G w _ rfl) bw667 bw669 bw3 bw86 bw670 cn_X11_now ⟨rfl, rfl, Nat.le_of_ble_eq_true rfl, Nat.le_of_ble_eq_true rfl⟩ (c_rec X hH 190 (by decide) eO190 rfl) cA_g hH hS hl rfl (Nat.le_of_ble_eq_true rfl) dX11_day_12) hS (fun H locs hH hS => ?_)
  refine lv_iload_n hx hb dX11_day_15 rfl (lv_at hl 1 rfl) ?_
  refine lv_iadd hx hb dX11_day_16 ?_
  refine lv_sipush (v := 999) hx hb dX11_day_17 (by decide) ?_
  refine lv_icmp_le (tgt := 26) hx hb dX11_day_20 (by decide) (fun hc => ?_) (fun hc => ?_)
  rotate_left
  · have hf := fo_f hc hf
    refine lv_bipush (v := (-2)) hx hb dX11_day_23 (by decide) ?_
    subst hQ
    exact cEi X (cH2 (hf) hH) hS (pf1 (hf)) dX11_day_25
  have hf := fo_t hc hf
  refine lv_aload_n hx hb dX11_day_26 rfl (lv_at hl 0 rfl) ?_
  refine co_get X hH 190 (by decide) eO190 rfl inBX11 1 (by decide) rfl bw573 dX11_day_27 ?_
  refine lv_iconst (v := 0) hx hb dX11_day_30 (by decide) ?_
  refine lv_iload_n hx hb dX11_day_31 rfl (lv_at hl 1 rfl) ?_
  obtain ⟨q32, hq32, hf⟩ := nm_x hf
  have hq32 := hq32.symm
  refine cGv (cVrun (rest := []) X (cl_X5_add l G w 0 (by decide) 0 a1 q32 hq32) bw671 bw648 bw649 bw91 bw650 cn_X5_add ⟨rfl, rfl, Nat.le_of_ble_eq_true rfl, Nat.le_of_ble_eq_true rfl⟩ (c_recR X hH (by decide)) cA_g hH hS hl rfl (Nat.le_of_ble_eq_true rfl) dX11_day_32) hS (fun H locs hH hS => ?_)
  refine lv_aload_n hx hb dX11_day_35 rfl (lv_at hl 0 rfl) ?_
  refine cGi (cVrun (rest := []) X (c_X11_now l G q32 _ rfl) bw667 bw669 bw3 bw86 bw670 cn_X11_now ⟨rfl, rfl, Nat.le_of_ble_eq_true rfl, Nat.le_of_ble_eq_true rfl⟩ (c_rec X hH 190 (by decide) eO190 rfl) cA_g hH hS hl rfl (Nat.le_of_ble_eq_true rfl) dX11_day_36) hS (fun H locs hH hS => ?_)
  subst hQ
  exact cEi X (cH2 (hf) hH) hS (pf1 (hf)) dX11_day_39
def f_X11_feed_L36 (a1 : Int64) (j66 : CW → Option (Int32 × CW)) : Nat → Int32 → CW → Option (Int32 × CW)
  | 0, _, _ => none
  | n36 + 1, v36_4, w36_ => (if v36_4 < 0 then (j66 w36_) else (nmk (rPush w36_ 1 (((a1.toUInt64 >>> ((8 * v36_4).toInt64.toUInt64 &&& Int64.toUInt64 63)).toInt64 &&& 255).toInt32)) fun q57 => (nmk (v36_4 + (-1)) fun (x60 : Int32) => (f_X11_feed_L36 a1 j66 n36 x60 q57))))
def f_X11_feed (w : CW) (a1 : Int64) (a3 : Int32) : Option (Int32 × CW) := (if a3 < 1 then (some ((-2), w)) else (if a3 ≤ 8 then (if ((f_X5_size w 1) + a3) ≤ 120 then (nmk (a3 - 1) fun (x34 : Int32) => (nmk (fun (w66_ : CW) => (some ((f_X5_size w66_ 1), w66_))) fun j66 => (f_X11_feed_L36 a1 j66 FU x34 w))) else (some ((-4), w))) else (some ((-2), w))))
abbrev rm_X11_feed : Room := { frames := 2, cells := 0, slots := 0, locals := 21 }
theorem cn_X11_feed : CN yX11_feed 2 := ⟨by decide +kernel, by decide +kernel, by decide +kernel⟩
set_option maxHeartbeats 4000000 in
set_option maxRecDepth 100000 in
theorem c_X11_feed (l : Launch) (G : GX) (w : CW) (a1 : Int64) (a3 : Int32) (q : Int32 × CW) (hf : f_X11_feed w a1 a3 = some q) : MI l G yX11_feed cX11_feed 5 (some .int) rm_X11_feed [.ref (G.2.2.1 190), .long a1, .int a3] (cA G) (cH G w) (cH G q.2) q.1 := by
  refine cM_start (by decide +kernel) (Nat.le_of_ble_eq_true rfl) ?_
  intro p e s m below meth c ls X hH hl
  have hS : va_S (cA G) s.heap s.heap [] := va_S.rf
  have hx := X.1.1
  have hb := X.1.2.1
  generalize hargs : ([.ref (G.2.2.1 190), .long a1, .int a3] : List Value).toArray = args at X ⊢
  generalize hQ : MQ below (QI (cA G) (cH G q.2) q.1) args s 0 0 (cA G) = Q
  have hl : lv_has ls 5 [(0, .ref (G.2.2.1 190)), (1, .long a1), (3, .int a3)] := hl
  unfold f_X11_feed at hf
  refine lv_iload_n hx hb dX11_feed_0 rfl (lv_at hl 2 rfl) ?_
  refine lv_iconst (v := 1) hx hb dX11_feed_1 (by decide) ?_
  refine lv_icmp_lt (tgt := 11) hx hb dX11_feed_2 (by decide) (fun hc => ?_) (fun hc => ?_)
  · have hf := fo_t hc hf
    refine lv_bipush (v := (-2)) hx hb dX11_feed_11 (by decide) ?_
    subst hQ
    exact cEi X (cH2 (so_s hf) hH) hS (pf1 (so_s hf)) dX11_feed_13
  have hf := fo_f hc hf
  refine lv_iload_n hx hb dX11_feed_5 rfl (lv_at hl 2 rfl) ?_
  refine lv_bipush (v := 8) hx hb dX11_feed_6 (by decide) ?_
  refine lv_icmp_le (tgt := 14) hx hb dX11_feed_8 (by decide) (fun hc => ?_) (fun hc => ?_)
  rotate_left
  · have hf := fo_f hc hf
    refine lv_bipush (v := (-2)) hx hb dX11_feed_11 (by decide) ?_
    subst hQ
    exact cEi X (cH2 (so_s hf) hH) hS (pf1 (so_s hf)) dX11_feed_13
  have hf := fo_t hc hf
  refine lv_aload_n hx hb dX11_feed_14 rfl (lv_at hl 0 rfl) ?_
  refine co_get X hH 190 (by decide) eO190 rfl inBX11 2 (by decide) rfl bw574 dX11_feed_15 ?_
  refine cGi (cVrun (rest := []) X (c_X5_size l G w 1 (by decide) _ rfl) bw676 bw624 bw625 bw91 bw626 cn_X5_size ⟨rfl, rfl, Nat.le_of_ble_eq_true rfl, Nat.le_of_ble_eq_true rfl⟩ (c_recR X hH (by decide)) cA_g hH hS hl rfl (Nat.le_of_ble_eq_true rfl) dX11_feed_18) hS (fun H locs hH hS => ?_)
  refine lv_iload_n hx hb dX11_feed_21 rfl (lv_at hl 2 rfl) ?_
  refine lv_iadd hx hb dX11_feed_22 ?_
  refine lv_bipush (v := 120) hx hb dX11_feed_23 (by decide) ?_
  refine lv_icmp_le (tgt := 31) hx hb dX11_feed_25 (by decide) (fun hc => ?_) (fun hc => ?_)
  rotate_left
  · have hf := fo_f hc hf
    refine lv_bipush (v := (-4)) hx hb dX11_feed_28 (by decide) ?_
    subst hQ
    exact cEi X (cH2 (so_s hf) hH) hS (pf1 (so_s hf)) dX11_feed_30
  have hf := fo_t hc hf
  refine lv_iload_n hx hb dX11_feed_31 rfl (lv_at hl 2 rfl) ?_
  refine lv_iconst (v := 1) hx hb dX11_feed_32 (by decide) ?_
  refine lv_isub hx hb dX11_feed_33 ?_
  refine lv_topi (fun x34 ex34 => ?_)
  have hf := nm_s hf x34 ex34
  refine lv_istore (lv' := [(4, .int x34), (0, .ref (G.2.2.1 190)), (1, .long a1), (3, .int a3)]) hx hb dX11_feed_34 hl (by decide) rfl (fun ls hl => ?_)
  obtain ⟨j66, ej66, hf⟩ := nm_x hf
  have hj66 : ∀ (w66_ : CW) (H : Heap) (locs : List Loc) (ls : Array Slot), j66 w66_ = some q → cH G w66_ H → va_S (cA G) s.heap H locs → lv_has ls 5 [(0, .ref (G.2.2.1 190))] → W p l e rm_X11_feed s m args below meth c H locs 0 0 Q (F0 m 66 ls []) := by
    intro w66_ H locs ls hf hH hS hl
    have hf := jb1 ej66 hf
    refine lv_aload_n hx hb dX11_feed_66 rfl (lv_at hl 0 rfl) ?_
    refine co_get X hH 190 (by decide) eO190 rfl inBX11 2 (by decide) rfl bw574 dX11_feed_67 ?_
    refine cGi (cVrun (rest := []) X (c_X5_size l G w66_ 1 (by decide) _ rfl) bw676 bw624 bw625 bw91 bw626 cn_X5_size ⟨rfl, rfl, Nat.le_of_ble_eq_true rfl, Nat.le_of_ble_eq_true rfl⟩ (c_recR X hH (by decide)) cA_g hH hS hl rfl (Nat.le_of_ble_eq_true rfl) dX11_feed_70) hS (fun H locs hH hS => ?_)
    subst hQ
    exact cEi X (cH2 (so_s hf) hH) hS (pf1 (so_s hf)) dX11_feed_73
  have hL36 : ∀ (n36 : Nat) (v36_4 : Int32) (w36_ : CW) (H : Heap) (locs : List Loc) (ls : Array Slot), f_X11_feed_L36 a1 j66 n36 v36_4 w36_ = some q → cH G w36_ H → va_S (cA G) s.heap H locs → lv_has ls 5 [(4, .int v36_4), (0, .ref (G.2.2.1 190)), (1, .long a1)] → W p l e rm_X11_feed s m args below meth c H locs 0 0 Q (F0 m 36 ls []) := by
    intro n36
    induction n36 with
    | zero => intro v36_4 w36_ H locs ls hf; rw [f_X11_feed_L36] at hf; cases hf
    | succ n36 ih36 =>
      intro v36_4 w36_ H locs ls hf hH hS hl
      rw [f_X11_feed_L36] at hf
      refine lv_iload hx hb dX11_feed_36 (lv_at hl 0 rfl) ?_
      refine lv_if_lt (tgt := 66) hx hb dX11_feed_38 (by decide) (fun hc => ?_) (fun hc => ?_)
      · have hf := fo_t hc hf
        exact hj66 _ _ _ _ hf hH hS (lv_sub hl [1] rfl)
      have hf := fo_f hc hf
      refine lv_aload_n hx hb dX11_feed_41 rfl (lv_at hl 1 rfl) ?_
      refine co_get X hH 190 (by decide) eO190 rfl inBX11 2 (by decide) rfl bw574 dX11_feed_42 ?_
      refine lv_lload_n hx hb dX11_feed_45 rfl (lv_at hl 2 rfl) ?_
      refine lv_bipush (v := 8) hx hb dX11_feed_46 (by decide) ?_
      refine lv_iload hx hb dX11_feed_48 (lv_at hl 0 rfl) ?_
      refine lv_imul hx hb dX11_feed_50 ?_
      refine lv_lushr hx hb dX11_feed_51 rfl ?_
      refine lv_ldc2 (v := 255) hx hb X.1.2.2.2.1 (X.w bw677) dX11_feed_52 ?_
      refine lv_land hx hb dX11_feed_55 ?_
      refine lv_l2i hx hb dX11_feed_56 rfl ?_
      obtain ⟨q57, hq57, hf⟩ := nm_x hf
      have hq57 := hq57.symm
      refine cGv (cVrun (rest := []) X (cl_X5_push l G w36_ 1 (by decide) (((a1.toUInt64 >>> ((8 * v36_4).toInt64.toUInt64 &&& Int64.toUInt64 63)).toInt64 &&& 255).toInt32) q57 hq57) bw678 bw679 bw680 bw91 bw681 cn_X5_push ⟨rfl, rfl, Nat.le_of_ble_eq_true rfl, Nat.le_of_ble_eq_true rfl⟩ (c_recR X hH (by decide)) cA_g hH hS hl rfl (Nat.le_of_ble_eq_true rfl) dX11_feed_57) hS (fun H locs hH hS => ?_)
      obtain ⟨x60, ex60⟩ : ∃ z : Int32, z = (v36_4 + (-1)) := ⟨_, rfl⟩
      have hf := nm_s hf x60 ex60
      refine lv_iinc (v := x60) (lv' := [(4, .int x60), (0, .ref (G.2.2.1 190)), (1, .long a1)]) hx hb dX11_feed_60 hl (k := 0) rfl (by rw [ex60]; rfl) (by decide) rfl (fun ls hl => ?_)
      refine lv_goto (tgt := 36) hx hb dX11_feed_63 (by decide) ?_
      exact ih36 _ _ _ _ _ hf hH hS (lv_sub hl [0, 1, 2] rfl)
  exact hL36 _ _ _ _ _ _ hf hH hS (lv_sub hl [0, 1, 2] rfl)
def f_X11_isDay (a0 : Int32) : Int32 := ((if a0 < 0 then 0 else (if 999 < a0 then 0 else 1)))
abbrev rm_X11_isDay : Room := { frames := 1, cells := 0, slots := 0, locals := 0 }
theorem cn_X11_isDay : CN yX11_isDay 1 := ⟨by decide +kernel, by decide +kernel, by decide +kernel⟩
set_option maxHeartbeats 4000000 in
set_option maxRecDepth 100000 in
theorem c_X11_isDay (l : Launch) (G : GX) (P : Heap → Prop) (A : Nat → Prop) (hAG : ∀ q, A q → gA G q) (a0 : Int32) (q : Int32) (hf : f_X11_isDay a0 = q) : MI l G yX11_isDay cX11_isDay 1 (some .boolean) rm_X11_isDay [.int a0] A P P q := by
  refine cM_start (by decide +kernel) (Nat.le_of_ble_eq_true rfl) ?_
  intro p e s m below meth c ls X hH hl
  have hS : va_S A s.heap s.heap [] := va_S.rf
  have hx := X.1.1
  have hb := X.1.2.1
  generalize hargs : ([.int a0] : List Value).toArray = args at X ⊢
  generalize hQ : MQ below (QI A P q) args s 0 0 A = Q
  have hl : lv_has ls 1 [(0, .int a0)] := hl
  unfold f_X11_isDay at hf
  refine lv_iload_n hx hb dX11_isDay_0 rfl (lv_at hl 0 rfl) ?_
  have hJ : ∀ (H : Heap) (locs : List Loc), P H → va_S A s.heap H locs → W p l e rm_X11_isDay s m args below meth c H locs 0 0 Q (F0 m 16 ls [.int (if a0 < 0 then 0 else (if 999 < a0 then 0 else 1))]) := by
    intro H locs hH hS
    subst hQ
    exact cEz X hH hS (hf) (nz (zb_ite zb0 (zb_ite zb0 zb1))) dX11_isDay_16
  refine lv_if_lt (tgt := 15) hx hb dX11_isDay_1 (by decide) (fun hc1 => ?_) (fun hc1 => ?_)
  · refine lv_iconst (v := 0) hx hb dX11_isDay_15 (by decide) ?_
    exact W.eq (by rw [if_pos hc1] <;> rfl) (hJ _ _ hH hS)
  · refine lv_iload_n hx hb dX11_isDay_4 rfl (lv_at hl 0 rfl) ?_
    refine lv_sipush (v := 999) hx hb dX11_isDay_5 (by decide) ?_
    refine lv_icmp_gt (tgt := 15) hx hb dX11_isDay_8 (by decide) (fun hc8 => ?_) (fun hc8 => ?_)
    · refine lv_iconst (v := 0) hx hb dX11_isDay_15 (by decide) ?_
      exact W.eq (by rw [if_neg hc1, if_pos hc8] <;> rfl) (hJ _ _ hH hS)
    · refine lv_iconst (v := 1) hx hb dX11_isDay_11 (by decide) ?_
      refine lv_goto (tgt := 16) hx hb dX11_isDay_12 (by decide) ?_
      exact W.eq (by rw [if_neg hc1, if_neg hc8] <;> rfl) (hJ _ _ hH hS)
theorem zb_X11_isDay (a0 : Int32) : f_X11_isDay a0 = 0 ∨ f_X11_isDay a0 = 1 := by
  unfold f_X11_isDay
  try simp only [nmk]
  repeat' (first | exact zb0 | exact zb1 | refine zb_ite ?_ ?_)
def f_X11_text (w : CW) (a1 : Int32) : Option (Int32 × CW) := (if (f_X11_isDay a1) = 0 then (some ((-2), w)) else (if (f_X10_isFull w) = 0 then (Option.bind (f_X10_read w) fun q27 => (nmk (f_X5_clear q27.2 1) fun q35 => (if q27.1 < 0 then (Option.bind (f_X10_accept q35 a1) fun q54 => (some (q54.1, q54.2))) else (some (((-10) - q27.1), q35))))) else (some ((-4), w))))
abbrev rm_X11_text : Room := { frames := 9, cells := 0, slots := 0, locals := 176 }
theorem cn_X11_text : CN yX11_text 1 := ⟨by decide +kernel, by decide +kernel, by decide +kernel⟩
set_option maxHeartbeats 4000000 in
set_option maxRecDepth 100000 in
theorem c_X11_text (l : Launch) (G : GX) (w : CW) (a1 : Int32) (q : Int32 × CW) (hf : f_X11_text w a1 = some q) : MI l G yX11_text cX11_text 3 (some .int) rm_X11_text [.ref (G.2.2.1 190), .int a1] (cA G) (cH G w) (cH G q.2) q.1 := by
  refine cM_start (by decide +kernel) (Nat.le_of_ble_eq_true rfl) ?_
  intro p e s m below meth c ls X hH hl
  have hS : va_S (cA G) s.heap s.heap [] := va_S.rf
  have hx := X.1.1
  have hb := X.1.2.1
  generalize hargs : ([.ref (G.2.2.1 190), .int a1] : List Value).toArray = args at X ⊢
  generalize hQ : MQ below (QI (cA G) (cH G q.2) q.1) args s 0 0 (cA G) = Q
  have hl : lv_has ls 3 [(0, .ref (G.2.2.1 190)), (1, .int a1)] := hl
  unfold f_X11_text at hf
  refine lv_iload_n hx hb dX11_text_0 rfl (lv_at hl 1 rfl) ?_
  refine cGi (cSrun (rest := []) X (c_X11_isDay l G (cH G w) (cA G) cA_g a1 _ rfl) bw686 bw687 bw86 bw688 cn_X11_isDay ⟨rfl, rfl, Nat.le_of_ble_eq_true rfl, Nat.le_of_ble_eq_true rfl⟩ cA_g hH hS hl rfl (Nat.le_of_ble_eq_true rfl) dX11_text_1) hS (fun H locs hH hS => ?_)
  refine lv_if_ne (tgt := 10) hx hb dX11_text_4 (by decide) (fun hc => ?_) (fun hc => ?_)
  rotate_left
  · have hf := fo_t hc hf
    refine lv_bipush (v := (-2)) hx hb dX11_text_7 (by decide) ?_
    subst hQ
    exact cEi X (cH2 (so_s hf) hH) hS (pf1 (so_s hf)) dX11_text_9
  have hf := fo_f hc hf
  refine lv_aload_n hx hb dX11_text_10 rfl (lv_at hl 0 rfl) ?_
  refine co_get X hH 190 (by decide) eO190 rfl inBX11 3 (by decide) rfl bw575 dX11_text_11 ?_
  refine cGi (cVrun (rest := []) X (c_X10_isFull l G w _ rfl) bw689 bw690 bw691 bw96 bw692 cn_X10_isFull ⟨rfl, rfl, Nat.le_of_ble_eq_true rfl, Nat.le_of_ble_eq_true rfl⟩ (c_rec X hH 192 (by decide) eO192 rfl) cA_g hH hS hl rfl (Nat.le_of_ble_eq_true rfl) dX11_text_14) hS (fun H locs hH hS => ?_)
  refine lv_if_eq (tgt := 23) hx hb dX11_text_17 (by decide) (fun hc => ?_) (fun hc => ?_)
  rotate_left
  · have hf := fo_f hc hf
    refine lv_bipush (v := (-4)) hx hb dX11_text_20 (by decide) ?_
    subst hQ
    exact cEi X (cH2 (so_s hf) hH) hS (pf1 (so_s hf)) dX11_text_22
  have hf := fo_t hc hf
  refine lv_aload_n hx hb dX11_text_23 rfl (lv_at hl 0 rfl) ?_
  refine co_get X hH 190 (by decide) eO190 rfl inBX11 3 (by decide) rfl bw575 dX11_text_24 ?_
  obtain ⟨q27, hq27, hf⟩ := bd_s hf
  refine cGi (cVrun (rest := []) X (c_X10_read l G w q27 hq27) bw697 bw698 bw699 bw96 bw700 cn_X10_read ⟨rfl, rfl, Nat.le_of_ble_eq_true rfl, Nat.le_of_ble_eq_true rfl⟩ (c_rec X hH 192 (by decide) eO192 rfl) cA_g hH hS hl rfl (Nat.le_of_ble_eq_true rfl) dX11_text_27) hS (fun H locs hH hS => ?_)
  refine lv_istore_n (lv' := [(2, .int q27.1), (0, .ref (G.2.2.1 190)), (1, .int a1)]) hx hb dX11_text_30 rfl hl (by decide) rfl (fun ls hl => ?_)
  refine lv_aload_n hx hb dX11_text_31 rfl (lv_at hl 1 rfl) ?_
  refine co_get X hH 190 (by decide) eO190 rfl inBX11 2 (by decide) rfl bw574 dX11_text_32 ?_
  obtain ⟨q35, hq35, hf⟩ := nm_x hf
  have hq35 := hq35.symm
  refine cGv (cVrun (rest := []) X (c_X5_clear l G q27.2 1 (by decide) q35 hq35) bw808 bw809 bw810 bw91 bw811 cn_X5_clear ⟨rfl, rfl, Nat.le_of_ble_eq_true rfl, Nat.le_of_ble_eq_true rfl⟩ (c_recR X hH (by decide)) cA_g hH hS hl rfl (Nat.le_of_ble_eq_true rfl) dX11_text_35) hS (fun H locs hH hS => ?_)
  refine lv_iload_n hx hb dX11_text_38 rfl (lv_at hl 0 rfl) ?_
  refine lv_if_lt (tgt := 49) hx hb dX11_text_39 (by decide) (fun hc => ?_) (fun hc => ?_)
  rotate_left
  · have hf := fo_f hc hf
    refine lv_bipush (v := (-10)) hx hb dX11_text_42 (by decide) ?_
    refine lv_iload_n hx hb dX11_text_44 rfl (lv_at hl 0 rfl) ?_
    refine lv_isub hx hb dX11_text_45 ?_
    refine lv_goto (tgt := 57) hx hb dX11_text_46 (by decide) ?_
    subst hQ
    exact cEi X (cH2 (so_s hf) hH) hS (pf1 (so_s hf)) dX11_text_57
  have hf := fo_t hc hf
  refine lv_aload_n hx hb dX11_text_49 rfl (lv_at hl 1 rfl) ?_
  refine co_get X hH 190 (by decide) eO190 rfl inBX11 3 (by decide) rfl bw575 dX11_text_50 ?_
  refine lv_iload_n hx hb dX11_text_53 rfl (lv_at hl 2 rfl) ?_
  obtain ⟨q54, hq54, hf⟩ := bd_s hf
  refine cGi (cVrun (rest := []) X (c_X10_accept l G q35 a1 q54 hq54) bw812 bw813 bw814 bw96 bw815 cn_X10_accept ⟨rfl, rfl, Nat.le_of_ble_eq_true rfl, Nat.le_of_ble_eq_true rfl⟩ (c_rec X hH 192 (by decide) eO192 rfl) cA_g hH hS hl rfl (Nat.le_of_ble_eq_true rfl) dX11_text_54) hS (fun H locs hH hS => ?_)
  subst hQ
  exact cEi X (cH2 (so_s hf) hH) hS (pf1 (so_s hf)) dX11_text_57
def f_X11_force (w : CW) (a1 : Int32) (a2 : Int32) : Option (Int32 × CW) := (if a1 < 0 then (some ((-1), w)) else (if a1 ≤ 6 then (if (f_X11_isDay a2) = 0 then (some ((-2), w)) else (if a1 = 5 then (Option.bind (f_X10_isFeast w a2) fun q32 => (some ((if q32 = 0 then 0 else 1), w))) else (Option.bind (f_X0_gather w a2 0) fun q54 => (some ((f_X0_told q54 a1), q54))))) else (some ((-1), w))))
abbrev rm_X11_force : Room := { frames := 6, cells := 0, slots := 0, locals := 117 }
theorem cn_X11_force : CN yX11_force 2 := ⟨by decide +kernel, by decide +kernel, by decide +kernel⟩
set_option maxHeartbeats 4000000 in
set_option maxRecDepth 100000 in
theorem c_X11_force (l : Launch) (G : GX) (w : CW) (a1 : Int32) (a2 : Int32) (q : Int32 × CW) (hf : f_X11_force w a1 a2 = some q) : MI l G yX11_force cX11_force 3 (some .int) rm_X11_force [.ref (G.2.2.1 190), .int a1, .int a2] (cA G) (cH G w) (cH G q.2) q.1 := by
  refine cM_start (by decide +kernel) (Nat.le_of_ble_eq_true rfl) ?_
  intro p e s m below meth c ls X hH hl
  have hS : va_S (cA G) s.heap s.heap [] := va_S.rf
  have hx := X.1.1
  have hb := X.1.2.1
  generalize hargs : ([.ref (G.2.2.1 190), .int a1, .int a2] : List Value).toArray = args at X ⊢
  generalize hQ : MQ below (QI (cA G) (cH G q.2) q.1) args s 0 0 (cA G) = Q
  have hl : lv_has ls 3 [(0, .ref (G.2.2.1 190)), (1, .int a1), (2, .int a2)] := hl
  unfold f_X11_force at hf
  refine lv_iload_n hx hb dX11_force_0 rfl (lv_at hl 1 rfl) ?_
  refine lv_if_lt (tgt := 10) hx hb dX11_force_1 (by decide) (fun hc => ?_) (fun hc => ?_)
  · have hf := fo_t hc hf
    refine lv_iconst (v := (-1)) hx hb dX11_force_10 (by decide) ?_
    subst hQ
    exact cEi X (cH2 (so_s hf) hH) hS (pf1 (so_s hf)) dX11_force_11
  have hf := fo_f hc hf
  refine lv_iload_n hx hb dX11_force_4 rfl (lv_at hl 1 rfl) ?_
  refine lv_bipush (v := 6) hx hb dX11_force_5 (by decide) ?_
  refine lv_icmp_le (tgt := 12) hx hb dX11_force_7 (by decide) (fun hc => ?_) (fun hc => ?_)
  rotate_left
  · have hf := fo_f hc hf
    refine lv_iconst (v := (-1)) hx hb dX11_force_10 (by decide) ?_
    subst hQ
    exact cEi X (cH2 (so_s hf) hH) hS (pf1 (so_s hf)) dX11_force_11
  have hf := fo_t hc hf
  refine lv_iload_n hx hb dX11_force_12 rfl (lv_at hl 2 rfl) ?_
  refine cGi (cSrun (rest := []) X (c_X11_isDay l G (cH G w) (cA G) cA_g a2 _ rfl) bw686 bw687 bw86 bw688 cn_X11_isDay ⟨rfl, rfl, Nat.le_of_ble_eq_true rfl, Nat.le_of_ble_eq_true rfl⟩ cA_g hH hS hl rfl (Nat.le_of_ble_eq_true rfl) dX11_force_13) hS (fun H locs hH hS => ?_)
  refine lv_if_ne (tgt := 22) hx hb dX11_force_16 (by decide) (fun hc => ?_) (fun hc => ?_)
  rotate_left
  · have hf := fo_t hc hf
    refine lv_bipush (v := (-2)) hx hb dX11_force_19 (by decide) ?_
    subst hQ
    exact cEi X (cH2 (so_s hf) hH) hS (pf1 (so_s hf)) dX11_force_21
  have hf := fo_f hc hf
  refine lv_iload_n hx hb dX11_force_22 rfl (lv_at hl 1 rfl) ?_
  refine lv_iconst (v := 5) hx hb dX11_force_23 (by decide) ?_
  refine lv_icmp_ne (tgt := 44) hx hb dX11_force_24 (by decide) (fun hc => ?_) (fun hc => ?_)
  · have hf := fo_f hc hf
    refine lv_aload_n hx hb dX11_force_44 rfl (lv_at hl 0 rfl) ?_
    refine co_get X hH 190 (by decide) eO190 rfl inBX11 4 (by decide) rfl bw576 dX11_force_45 ?_
    refine lv_aload_n hx hb dX11_force_48 rfl (lv_at hl 0 rfl) ?_
    refine co_get X hH 190 (by decide) eO190 rfl inBX11 3 (by decide) rfl bw575 dX11_force_49 ?_
    refine lv_iload_n hx hb dX11_force_52 rfl (lv_at hl 2 rfl) ?_
    refine lv_iconst (v := 0) hx hb dX11_force_53 (by decide) ?_
    obtain ⟨q54, hq54, hf⟩ := bd_s hf
    refine cGv (cVrun (rest := []) X (c_X0_gather l G w a2 0 q54 hq54) bw834 bw835 bw836 bw97 bw837 cn_X0_gather ⟨rfl, rfl, Nat.le_of_ble_eq_true rfl, Nat.le_of_ble_eq_true rfl⟩ (c_rec X hH 193 (by decide) eO193 rfl) cA_g hH hS hl rfl (Nat.le_of_ble_eq_true rfl) dX11_force_54) hS (fun H locs hH hS => ?_)
    refine lv_aload_n hx hb dX11_force_57 rfl (lv_at hl 0 rfl) ?_
    refine co_get X hH 190 (by decide) eO190 rfl inBX11 4 (by decide) rfl bw576 dX11_force_58 ?_
    refine lv_iload_n hx hb dX11_force_61 rfl (lv_at hl 1 rfl) ?_
    refine cGi (cVrun (rest := []) X (c_X0_told l G q54 a1 _ rfl) bw873 bw874 bw875 bw97 bw876 cn_X0_told ⟨rfl, rfl, Nat.le_of_ble_eq_true rfl, Nat.le_of_ble_eq_true rfl⟩ (c_rec X hH 193 (by decide) eO193 rfl) cA_g hH hS hl rfl (Nat.le_of_ble_eq_true rfl) dX11_force_62) hS (fun H locs hH hS => ?_)
    subst hQ
    exact cEi X (cH2 (so_s hf) hH) hS (pf1 (so_s hf)) dX11_force_65
  have hf := fo_t hc hf
  refine lv_aload_n hx hb dX11_force_27 rfl (lv_at hl 0 rfl) ?_
  refine co_get X hH 190 (by decide) eO190 rfl inBX11 3 (by decide) rfl bw575 dX11_force_28 ?_
  refine lv_iload_n hx hb dX11_force_31 rfl (lv_at hl 2 rfl) ?_
  obtain ⟨q32, hq32, hf⟩ := bd_s hf
  refine cGz (cVrun (rest := []) X (c_X10_isFeast l G w a2 q32 hq32) bw827 bw828 bw829 bw96 bw830 cn_X10_isFeast ⟨rfl, rfl, Nat.le_of_ble_eq_true rfl, Nat.le_of_ble_eq_true rfl⟩ (c_rec X hH 192 (by decide) eO192 rfl) cA_g hH hS hl rfl (Nat.le_of_ble_eq_true rfl) dX11_force_32) hS (fun hz32 H locs hH hS => ?_)
  have hJ : ∀ (H : Heap) (locs : List Loc), cH G w H → va_S (cA G) s.heap H locs → W p l e rm_X11_force s m args below meth c H locs 0 0 Q (F0 m 43 ls [.int (if q32 = 0 then 0 else 1)]) := by
    intro H locs hH hS
    subst hQ
    exact cEi X (cH2 (so_s hf) hH) hS (pf1 (so_s hf)) dX11_force_43
  refine lv_if_eq (tgt := 42) hx hb dX11_force_35 (by decide) (fun hc35 => ?_) (fun hc35 => ?_)
  · refine lv_iconst (v := 0) hx hb dX11_force_42 (by decide) ?_
    exact W.eq (by rw [if_pos hc35] <;> rfl) (hJ _ _ hH hS)
  · refine lv_iconst (v := 1) hx hb dX11_force_38 (by decide) ?_
    refine lv_goto (tgt := 43) hx hb dX11_force_39 (by decide) ?_
    exact W.eq (by rw [if_neg hc35] <;> rfl) (hJ _ _ hH hS)
def f_X11_verse (w : CW) : Option (Int32 × CW) := (if (f_X9_isFull w) = 0 then (Option.bind (f_X9_faultOf w 1) fun q21 => (if q21 < 0 then (Option.bind (f_X9_accept w 1) fun q49 => (nmk (f_X5_clear q49.2 1) fun q57 => (some (q49.1, q57)))) else (nmk (f_X5_clear w 1) fun q33 => (some (((-10) - q21), q33))))) else (some ((-4), w)))
abbrev rm_X11_verse : Room := { frames := 4, cells := 0, slots := 0, locals := 66 }
theorem cn_X11_verse : CN yX11_verse 0 := ⟨by decide +kernel, by decide +kernel, by decide +kernel⟩
set_option maxHeartbeats 4000000 in
set_option maxRecDepth 100000 in
theorem c_X11_verse (l : Launch) (G : GX) (w : CW) (q : Int32 × CW) (hf : f_X11_verse w = some q) : MI l G yX11_verse cX11_verse 3 (some .int) rm_X11_verse [.ref (G.2.2.1 190)] (cA G) (cH G w) (cH G q.2) q.1 := by
  refine cM_start (by decide +kernel) (Nat.le_of_ble_eq_true rfl) ?_
  intro p e s m below meth c ls X hH hl
  have hS : va_S (cA G) s.heap s.heap [] := va_S.rf
  have hx := X.1.1
  have hb := X.1.2.1
  generalize hargs : ([.ref (G.2.2.1 190)] : List Value).toArray = args at X ⊢
  generalize hQ : MQ below (QI (cA G) (cH G q.2) q.1) args s 0 0 (cA G) = Q
  have hl : lv_has ls 3 [(0, .ref (G.2.2.1 190))] := hl
  unfold f_X11_verse at hf
  refine lv_aload_n hx hb dX11_verse_0 rfl (lv_at hl 0 rfl) ?_
  refine co_get X hH 190 (by decide) eO190 rfl inBX11 5 (by decide) rfl bw577 dX11_verse_1 ?_
  refine cGi (cVrun (rest := []) X (c_X9_isFull l G w _ rfl) bw881 bw882 bw883 bw98 bw884 cn_X9_isFull ⟨rfl, rfl, Nat.le_of_ble_eq_true rfl, Nat.le_of_ble_eq_true rfl⟩ (c_rec X hH 194 (by decide) eO194 rfl) cA_g hH hS hl rfl (Nat.le_of_ble_eq_true rfl) dX11_verse_4) hS (fun H locs hH hS => ?_)
  refine lv_if_eq (tgt := 13) hx hb dX11_verse_7 (by decide) (fun hc => ?_) (fun hc => ?_)
  rotate_left
  · have hf := fo_f hc hf
    refine lv_bipush (v := (-4)) hx hb dX11_verse_10 (by decide) ?_
    subst hQ
    exact cEi X (cH2 (so_s hf) hH) hS (pf1 (so_s hf)) dX11_verse_12
  have hf := fo_t hc hf
  refine lv_aload_n hx hb dX11_verse_13 rfl (lv_at hl 0 rfl) ?_
  refine co_get X hH 190 (by decide) eO190 rfl inBX11 5 (by decide) rfl bw577 dX11_verse_14 ?_
  refine lv_aload_n hx hb dX11_verse_17 rfl (lv_at hl 0 rfl) ?_
  refine co_get X hH 190 (by decide) eO190 rfl inBX11 2 (by decide) rfl bw574 dX11_verse_18 ?_
  obtain ⟨q21, hq21, hf⟩ := bd_s hf
  refine cGi (cVrun (rest := []) X (c_X9_faultOf l G w 1 (by decide) q21 hq21) bw886 bw887 bw888 bw98 bw889 cn_X9_faultOf ⟨rfl, rfl, Nat.le_of_ble_eq_true rfl, Nat.le_of_ble_eq_true rfl⟩ (c_rec X hH 194 (by decide) eO194 rfl) cA_g hH hS hl rfl (Nat.le_of_ble_eq_true rfl) dX11_verse_21) hS (fun H locs hH hS => ?_)
  refine lv_istore_n (lv' := [(1, .int q21), (0, .ref (G.2.2.1 190))]) hx hb dX11_verse_24 rfl hl (by decide) rfl (fun ls hl => ?_)
  refine lv_iload_n hx hb dX11_verse_25 rfl (lv_at hl 0 rfl) ?_
  refine lv_if_lt (tgt := 41) hx hb dX11_verse_26 (by decide) (fun hc => ?_) (fun hc => ?_)
  rotate_left
  · have hf := fo_f hc hf
    refine lv_aload_n hx hb dX11_verse_29 rfl (lv_at hl 1 rfl) ?_
    refine co_get X hH 190 (by decide) eO190 rfl inBX11 2 (by decide) rfl bw574 dX11_verse_30 ?_
    obtain ⟨q33, hq33, hf⟩ := nm_x hf
    have hq33 := hq33.symm
    refine cGv (cVrun (rest := []) X (c_X5_clear l G w 1 (by decide) q33 hq33) bw808 bw809 bw810 bw91 bw811 cn_X5_clear ⟨rfl, rfl, Nat.le_of_ble_eq_true rfl, Nat.le_of_ble_eq_true rfl⟩ (c_recR X hH (by decide)) cA_g hH hS hl rfl (Nat.le_of_ble_eq_true rfl) dX11_verse_33) hS (fun H locs hH hS => ?_)
    refine lv_bipush (v := (-10)) hx hb dX11_verse_36 (by decide) ?_
    refine lv_iload_n hx hb dX11_verse_38 rfl (lv_at hl 0 rfl) ?_
    refine lv_isub hx hb dX11_verse_39 ?_
    subst hQ
    exact cEi X (cH2 (so_s hf) hH) hS (pf1 (so_s hf)) dX11_verse_40
  have hf := fo_t hc hf
  refine lv_aload_n hx hb dX11_verse_41 rfl (lv_at hl 1 rfl) ?_
  refine co_get X hH 190 (by decide) eO190 rfl inBX11 5 (by decide) rfl bw577 dX11_verse_42 ?_
  refine lv_aload_n hx hb dX11_verse_45 rfl (lv_at hl 1 rfl) ?_
  refine co_get X hH 190 (by decide) eO190 rfl inBX11 2 (by decide) rfl bw574 dX11_verse_46 ?_
  obtain ⟨q49, hq49, hf⟩ := bd_s hf
  refine cGi (cVrun (rest := []) X (c_X9_accept l G w 1 (by decide) q49 hq49) bw896 bw897 bw898 bw98 bw899 cn_X9_accept ⟨rfl, rfl, Nat.le_of_ble_eq_true rfl, Nat.le_of_ble_eq_true rfl⟩ (c_rec X hH 194 (by decide) eO194 rfl) cA_g hH hS hl rfl (Nat.le_of_ble_eq_true rfl) dX11_verse_49) hS (fun H locs hH hS => ?_)
  refine lv_istore_n (lv' := [(2, .int q49.1), (1, .int q21), (0, .ref (G.2.2.1 190))]) hx hb dX11_verse_52 rfl hl (by decide) rfl (fun ls hl => ?_)
  refine lv_aload_n hx hb dX11_verse_53 rfl (lv_at hl 2 rfl) ?_
  refine co_get X hH 190 (by decide) eO190 rfl inBX11 2 (by decide) rfl bw574 dX11_verse_54 ?_
  obtain ⟨q57, hq57, hf⟩ := nm_x hf
  have hq57 := hq57.symm
  refine cGv (cVrun (rest := []) X (c_X5_clear l G q49.2 1 (by decide) q57 hq57) bw808 bw809 bw810 bw91 bw811 cn_X5_clear ⟨rfl, rfl, Nat.le_of_ble_eq_true rfl, Nat.le_of_ble_eq_true rfl⟩ (c_recR X hH (by decide)) cA_g hH hS hl rfl (Nat.le_of_ble_eq_true rfl) dX11_verse_57) hS (fun H locs hH hS => ?_)
  refine lv_iload_n hx hb dX11_verse_60 rfl (lv_at hl 0 rfl) ?_
  subst hQ
  exact cEi X (cH2 (so_s hf) hH) hS (pf1 (so_s hf)) dX11_verse_61
def f_X11_isSet (w : CW) (a1 : Int32) (a2 : Int32) (a3 : Int32) : Option (Int32 × CW) := (Option.bind (f_X0_gather w a2 a3) fun q10 => (Option.bind (f_X9_copyTo q10 a1 40) fun q25 => (Option.bind (f_X6_find q25) fun q32 => (some (q32.1, q32.2)))))
abbrev rm_X11_isSet : Room := { frames := 6, cells := 0, slots := 0, locals := 142 }
theorem cn_X11_isSet : CN yX11_isSet 3 := ⟨by decide +kernel, by decide +kernel, by decide +kernel⟩
set_option maxHeartbeats 4000000 in
set_option maxRecDepth 100000 in
theorem c_X11_isSet (l : Launch) (G : GX) (w : CW) (a1 : Int32) (a2 : Int32) (a3 : Int32) (q : Int32 × CW) (hf : f_X11_isSet w a1 a2 a3 = some q) : MZ l G yX11_isSet cX11_isSet 4 (some .boolean) rm_X11_isSet [.ref (G.2.2.1 190), .int a1, .int a2, .int a3] (cA G) (cH G w) (cH G q.2) q.1 := by
  refine cM_start (by decide +kernel) (Nat.le_of_ble_eq_true rfl) ?_
  intro p e s m below meth c ls X hH hl
  have hS : va_S (cA G) s.heap s.heap [] := va_S.rf
  have hx := X.1.1
  have hb := X.1.2.1
  generalize hargs : ([.ref (G.2.2.1 190), .int a1, .int a2, .int a3] : List Value).toArray = args at X ⊢
  generalize hQ : MQ below (QZ (cA G) (cH G q.2) q.1) args s 0 0 (cA G) = Q
  have hl : lv_has ls 4 [(0, .ref (G.2.2.1 190)), (1, .int a1), (2, .int a2), (3, .int a3)] := hl
  unfold f_X11_isSet at hf
  refine lv_aload_n hx hb dX11_isSet_0 rfl (lv_at hl 0 rfl) ?_
  refine co_get X hH 190 (by decide) eO190 rfl inBX11 4 (by decide) rfl bw576 dX11_isSet_1 ?_
  refine lv_aload_n hx hb dX11_isSet_4 rfl (lv_at hl 0 rfl) ?_
  refine co_get X hH 190 (by decide) eO190 rfl inBX11 3 (by decide) rfl bw575 dX11_isSet_5 ?_
  refine lv_iload_n hx hb dX11_isSet_8 rfl (lv_at hl 2 rfl) ?_
  refine lv_iload_n hx hb dX11_isSet_9 rfl (lv_at hl 3 rfl) ?_
  obtain ⟨q10, hq10, hf⟩ := bd_s hf
  refine cGv (cVrun (rest := []) X (c_X0_gather l G w a2 a3 q10 hq10) bw834 bw835 bw836 bw97 bw837 cn_X0_gather ⟨rfl, rfl, Nat.le_of_ble_eq_true rfl, Nat.le_of_ble_eq_true rfl⟩ (c_rec X hH 193 (by decide) eO193 rfl) cA_g hH hS hl rfl (Nat.le_of_ble_eq_true rfl) dX11_isSet_10) hS (fun H locs hH hS => ?_)
  refine lv_aload_n hx hb dX11_isSet_13 rfl (lv_at hl 0 rfl) ?_
  refine co_get X hH 190 (by decide) eO190 rfl inBX11 5 (by decide) rfl bw577 dX11_isSet_14 ?_
  refine lv_iload_n hx hb dX11_isSet_17 rfl (lv_at hl 1 rfl) ?_
  refine lv_aload_n hx hb dX11_isSet_18 rfl (lv_at hl 0 rfl) ?_
  refine co_get X hH 190 (by decide) eO190 rfl inBX11 7 (by decide) rfl bw579 dX11_isSet_19 ?_
  refine co_getN X hH 196 (by decide) eO196 rfl inBX6 2 (by decide) rfl bw389 dX11_isSet_22 ?_
  obtain ⟨q25, hq25, hf⟩ := bd_s hf
  refine cGv (cVrun (rest := []) X (c_X9_copyTo l G q10 a1 40 (by decide) q25 hq25) bw914 bw915 bw916 bw98 bw917 cn_X9_copyTo ⟨rfl, rfl, Nat.le_of_ble_eq_true rfl, Nat.le_of_ble_eq_true rfl⟩ (c_rec X hH 194 (by decide) eO194 rfl) cA_g hH hS hl rfl (Nat.le_of_ble_eq_true rfl) dX11_isSet_25) hS (fun H locs hH hS => ?_)
  refine lv_aload_n hx hb dX11_isSet_28 rfl (lv_at hl 0 rfl) ?_
  refine co_get X hH 190 (by decide) eO190 rfl inBX11 7 (by decide) rfl bw579 dX11_isSet_29 ?_
  obtain ⟨q32, hq32, hf⟩ := bd_s hf
  refine cGz (cVrun (rest := []) X (c_X6_find l G q25 q32 hq32) bw920 bw921 bw922 bw100 bw923 cn_X6_find ⟨rfl, rfl, Nat.le_of_ble_eq_true rfl, Nat.le_of_ble_eq_true rfl⟩ (c_rec X hH 196 (by decide) eO196 rfl) cA_g hH hS hl rfl (Nat.le_of_ble_eq_true rfl) dX11_isSet_32) hS (fun hz32 H locs hH hS => ?_)
  subst hQ
  exact cEzz X (cH2 (so_s hf) hH) hS (pf1 (so_s hf)) hz32 dX11_isSet_35
def f_X11_line (w : CW) (a1 : Int32) (a2 : Int32) (a3 : Int32) : Option (Int32 × CW) := (if (f_X9_has w a1) = 0 then (some ((-1), w)) else (if a3 < 0 then (some ((-1), w)) else (nmk (fun (_ : Unit) => (if (f_X11_isDay a2) = 0 then (some ((-2), w)) else (Option.bind (f_X11_isSet w a1 a2 0) fun q42 => (if q42.1 = 0 then (some ((-9), q42.2)) else (if a3 = 0 then (some ((q42.2.2.2 7), q42.2)) else (if a3 = 1 then (some ((q42.2.2.2 8), q42.2)) else (if a3 = 2 then (some ((q42.2.2.2 9), q42.2)) else (if a3 = 3 then (some ((rAt q42.2 48 26), q42.2)) else (some ((if (q42.2.2.2 8) ≤ (a3 - 10) then (-1) else (rAt q42.2 47 (a3 - 10))), q42.2)))))))))) fun j28 => (if a3 ≤ 3 then (j28 ()) else (if 10 ≤ a3 then (j28 ()) else (some ((-1), w)))))))
abbrev rm_X11_line : Room := { frames := 7, cells := 0, slots := 0, locals := 165 }
theorem cn_X11_line : CN yX11_line 3 := ⟨by decide +kernel, by decide +kernel, by decide +kernel⟩
set_option maxHeartbeats 4000000 in
set_option maxRecDepth 100000 in
theorem c_X11_line (l : Launch) (G : GX) (w : CW) (a1 : Int32) (a2 : Int32) (a3 : Int32) (q : Int32 × CW) (hf : f_X11_line w a1 a2 a3 = some q) : MI l G yX11_line cX11_line 4 (some .int) rm_X11_line [.ref (G.2.2.1 190), .int a1, .int a2, .int a3] (cA G) (cH G w) (cH G q.2) q.1 := by
  refine cM_start (by decide +kernel) (Nat.le_of_ble_eq_true rfl) ?_
  intro p e s m below meth c ls X hH hl
  have hS : va_S (cA G) s.heap s.heap [] := va_S.rf
  have hx := X.1.1
  have hb := X.1.2.1
  generalize hargs : ([.ref (G.2.2.1 190), .int a1, .int a2, .int a3] : List Value).toArray = args at X ⊢
  generalize hQ : MQ below (QI (cA G) (cH G q.2) q.1) args s 0 0 (cA G) = Q
  have hl : lv_has ls 4 [(0, .ref (G.2.2.1 190)), (1, .int a1), (2, .int a2), (3, .int a3)] := hl
  unfold f_X11_line at hf
  refine lv_aload_n hx hb dX11_line_0 rfl (lv_at hl 0 rfl) ?_
  refine co_get X hH 190 (by decide) eO190 rfl inBX11 5 (by decide) rfl bw577 dX11_line_1 ?_
  refine lv_iload_n hx hb dX11_line_4 rfl (lv_at hl 1 rfl) ?_
  refine cGi (cVrun (rest := []) X (c_X9_has l G w a1 _ rfl) bw906 bw907 bw908 bw98 bw909 cn_X9_has ⟨rfl, rfl, Nat.le_of_ble_eq_true rfl, Nat.le_of_ble_eq_true rfl⟩ (c_rec X hH 194 (by decide) eO194 rfl) cA_g hH hS hl rfl (Nat.le_of_ble_eq_true rfl) dX11_line_5) hS (fun H locs hH hS => ?_)
  refine lv_if_eq (tgt := 26) hx hb dX11_line_8 (by decide) (fun hc => ?_) (fun hc => ?_)
  · have hf := fo_t hc hf
    refine lv_iconst (v := (-1)) hx hb dX11_line_26 (by decide) ?_
    subst hQ
    exact cEi X (cH2 (so_s hf) hH) hS (pf1 (so_s hf)) dX11_line_27
  have hf := fo_f hc hf
  refine lv_iload_n hx hb dX11_line_11 rfl (lv_at hl 3 rfl) ?_
  refine lv_if_lt (tgt := 26) hx hb dX11_line_12 (by decide) (fun hc => ?_) (fun hc => ?_)
  · have hf := fo_t hc hf
    refine lv_iconst (v := (-1)) hx hb dX11_line_26 (by decide) ?_
    subst hQ
    exact cEi X (cH2 (so_s hf) hH) hS (pf1 (so_s hf)) dX11_line_27
  have hf := fo_f hc hf
  refine lv_iload_n hx hb dX11_line_15 rfl (lv_at hl 3 rfl) ?_
  refine lv_iconst (v := 3) hx hb dX11_line_16 (by decide) ?_
  obtain ⟨j28, ej28, hf⟩ := nm_x hf
  have hj28 : ∀ (u0 : Unit) (H : Heap) (locs : List Loc) (ls : Array Slot), j28 u0 = some q → cH G w H → va_S (cA G) s.heap H locs → lv_has ls 4 [(0, .ref (G.2.2.1 190)), (1, .int a1), (2, .int a2), (3, .int a3)] → W p l e rm_X11_line s m args below meth c H locs 0 0 Q (F0 m 28 ls []) := by
    intro u0 H locs ls hf hH hS hl
    have hf := jb1 ej28 hf
    refine lv_iload_n hx hb dX11_line_28 rfl (lv_at hl 2 rfl) ?_
    refine cGi (cSrun (rest := []) X (c_X11_isDay l G (cH G w) (cA G) cA_g a2 _ rfl) bw686 bw687 bw86 bw688 cn_X11_isDay ⟨rfl, rfl, Nat.le_of_ble_eq_true rfl, Nat.le_of_ble_eq_true rfl⟩ cA_g hH hS hl rfl (Nat.le_of_ble_eq_true rfl) dX11_line_29) hS (fun H locs hH hS => ?_)
    refine lv_if_ne (tgt := 38) hx hb dX11_line_32 (by decide) (fun hc => ?_) (fun hc => ?_)
    rotate_left
    · have hf := fo_t hc hf
      refine lv_bipush (v := (-2)) hx hb dX11_line_35 (by decide) ?_
      subst hQ
      exact cEi X (cH2 (so_s hf) hH) hS (pf1 (so_s hf)) dX11_line_37
    have hf := fo_f hc hf
    refine lv_aload_n hx hb dX11_line_38 rfl (lv_at hl 0 rfl) ?_
    refine lv_iload_n hx hb dX11_line_39 rfl (lv_at hl 1 rfl) ?_
    refine lv_iload_n hx hb dX11_line_40 rfl (lv_at hl 2 rfl) ?_
    refine lv_iconst (v := 0) hx hb dX11_line_41 (by decide) ?_
    obtain ⟨q42, hq42, hf⟩ := bd_s hf
    refine cGz (cVrun (rest := []) X (c_X11_isSet l G w a1 a2 0 q42 hq42) bw910 bw912 bw17 bw86 bw913 cn_X11_isSet ⟨rfl, rfl, Nat.le_of_ble_eq_true rfl, Nat.le_of_ble_eq_true rfl⟩ (c_rec X hH 190 (by decide) eO190 rfl) cA_g hH hS hl rfl (Nat.le_of_ble_eq_true rfl) dX11_line_42) hS (fun hz42 H locs hH hS => ?_)
    refine lv_if_ne (tgt := 51) hx hb dX11_line_45 (by decide) (fun hc => ?_) (fun hc => ?_)
    rotate_left
    · have hf := fo_t hc hf
      refine lv_bipush (v := (-9)) hx hb dX11_line_48 (by decide) ?_
      subst hQ
      exact cEi X (cH2 (so_s hf) hH) hS (pf1 (so_s hf)) dX11_line_50
    have hf := fo_f hc hf
    refine lv_iload_n hx hb dX11_line_51 rfl (lv_at hl 3 rfl) ?_
    by_cases hc0 : a3 = 0
    · have hf := fo_t hc0 hf
      refine lv_tableIn (tgt := 84) hx hb dX11_line_52 (by rw [hc0]; decide) (by rw [hc0]; decide) (by rw [hc0]; rfl) (by decide) ?_
      refine lv_aload_n hx hb dX11_line_84 rfl (lv_at hl 0 rfl) ?_
      refine co_get X hH 190 (by decide) eO190 rfl inBX11 7 (by decide) rfl bw579 dX11_line_85 ?_
      refine co_getN X hH 196 (by decide) eO196 rfl inBX6 13 (by decide) rfl bw403 dX11_line_88 ?_
      subst hQ
      exact cEi X (cH2 (so_s hf) hH) hS (pf1 (so_s hf)) dX11_line_91
    have hf := fo_f hc0 hf
    by_cases hc1 : a3 = 1
    · have hf := fo_t hc1 hf
      refine lv_tableIn (tgt := 92) hx hb dX11_line_52 (by rw [hc1]; decide) (by rw [hc1]; decide) (by rw [hc1]; rfl) (by decide) ?_
      refine lv_aload_n hx hb dX11_line_92 rfl (lv_at hl 0 rfl) ?_
      refine co_get X hH 190 (by decide) eO190 rfl inBX11 7 (by decide) rfl bw579 dX11_line_93 ?_
      refine co_getN X hH 196 (by decide) eO196 rfl inBX6 14 (by decide) rfl bw404 dX11_line_96 ?_
      subst hQ
      exact cEi X (cH2 (so_s hf) hH) hS (pf1 (so_s hf)) dX11_line_99
    have hf := fo_f hc1 hf
    by_cases hc2 : a3 = 2
    · have hf := fo_t hc2 hf
      refine lv_tableIn (tgt := 100) hx hb dX11_line_52 (by rw [hc2]; decide) (by rw [hc2]; decide) (by rw [hc2]; rfl) (by decide) ?_
      refine lv_aload_n hx hb dX11_line_100 rfl (lv_at hl 0 rfl) ?_
      refine co_get X hH 190 (by decide) eO190 rfl inBX11 7 (by decide) rfl bw579 dX11_line_101 ?_
      refine co_getN X hH 196 (by decide) eO196 rfl inBX6 15 (by decide) rfl bw406 dX11_line_104 ?_
      subst hQ
      exact cEi X (cH2 (so_s hf) hH) hS (pf1 (so_s hf)) dX11_line_107
    have hf := fo_f hc2 hf
    by_cases hc3 : a3 = 3
    · have hf := fo_t hc3 hf
      refine lv_tableIn (tgt := 108) hx hb dX11_line_52 (by rw [hc3]; decide) (by rw [hc3]; decide) (by rw [hc3]; rfl) (by decide) ?_
      refine lv_aload_n hx hb dX11_line_108 rfl (lv_at hl 0 rfl) ?_
      refine co_get X hH 190 (by decide) eO190 rfl inBX11 7 (by decide) rfl bw579 dX11_line_109 ?_
      refine co_getN X hH 196 (by decide) eO196 rfl inBX6 10 (by decide) rfl bw399 dX11_line_112 ?_
      refine lv_bipush (v := 26) hx hb dX11_line_115 (by decide) ?_
      refine cGi (cVrun (rest := []) X (cl_X5_at l G q42.2 48 (by decide) 26 _ rfl) bw641 bw628 bw629 bw91 bw630 cn_X5_at ⟨rfl, rfl, Nat.le_of_ble_eq_true rfl, Nat.le_of_ble_eq_true rfl⟩ (c_recR X hH (by decide)) cA_g hH hS hl rfl (Nat.le_of_ble_eq_true rfl) dX11_line_117) hS (fun H locs hH hS => ?_)
      subst hQ
      exact cEi X (cH2 (so_s hf) hH) hS (pf1 (so_s hf)) dX11_line_120
    have hf := fo_f hc3 hf
    refine lv_tableOut (tgt := 121) hx hb dX11_line_52 (sw_out (ks := [0, 1, 2, 3]) (by intro k hk; simp only [List.mem_cons, List.not_mem_nil, or_false] at hk; rcases hk with rfl | rfl | rfl | rfl <;> assumption) (sw_all 0 [0, 1, 2, 3] (by decide))) (by decide) ?_
    refine lv_iload_n hx hb dX11_line_121 rfl (lv_at hl 3 rfl) ?_
    refine lv_bipush (v := 10) hx hb dX11_line_122 (by decide) ?_
    refine lv_isub hx hb dX11_line_124 ?_
    refine lv_aload_n hx hb dX11_line_125 rfl (lv_at hl 0 rfl) ?_
    refine co_get X hH 190 (by decide) eO190 rfl inBX11 7 (by decide) rfl bw579 dX11_line_126 ?_
    refine co_getN X hH 196 (by decide) eO196 rfl inBX6 14 (by decide) rfl bw404 dX11_line_129 ?_
    have hJ : ∀ (H : Heap) (locs : List Loc), cH G q42.2 H → va_S (cA G) s.heap H locs → W p l e rm_X11_line s m args below meth c H locs 0 0 Q (F0 m 153 ls [.int (if (q42.2.2.2 8) ≤ (a3 - 10) then (-1) else (rAt q42.2 47 (a3 - 10)))]) := by
      intro H locs hH hS
      subst hQ
      exact cEi X (cH2 (so_s hf) hH) hS (pf1 (so_s hf)) dX11_line_153
    refine lv_icmp_ge (tgt := 152) hx hb dX11_line_132 (by decide) (fun hc132 => ?_) (fun hc132 => ?_)
    · refine lv_iconst (v := (-1)) hx hb dX11_line_152 (by decide) ?_
      exact W.eq (by rw [if_pos hc132] <;> rfl) (hJ _ _ hH hS)
    · refine lv_aload_n hx hb dX11_line_135 rfl (lv_at hl 0 rfl) ?_
      refine co_get X hH 190 (by decide) eO190 rfl inBX11 7 (by decide) rfl bw579 dX11_line_136 ?_
      refine co_getN X hH 196 (by decide) eO196 rfl inBX6 9 (by decide) rfl bw397 dX11_line_139 ?_
      refine lv_iload_n hx hb dX11_line_142 rfl (lv_at hl 3 rfl) ?_
      refine lv_bipush (v := 10) hx hb dX11_line_143 (by decide) ?_
      refine lv_isub hx hb dX11_line_145 ?_
      refine cGi (cVrun (rest := []) X (cl_X5_at l G q42.2 47 (by decide) (a3 - 10) _ rfl) bw641 bw628 bw629 bw91 bw630 cn_X5_at ⟨rfl, rfl, Nat.le_of_ble_eq_true rfl, Nat.le_of_ble_eq_true rfl⟩ (c_recR X hH (by decide)) cA_g hH hS hl rfl (Nat.le_of_ble_eq_true rfl) dX11_line_146) hS (fun H locs hH hS => ?_)
      refine lv_goto (tgt := 153) hx hb dX11_line_149 (by decide) ?_
      exact W.eq (by rw [if_neg hc132] <;> rfl) (hJ _ _ hH hS)
  refine lv_icmp_le (tgt := 28) hx hb dX11_line_17 (by decide) (fun hc => ?_) (fun hc => ?_)
  · have hf := fo_t hc hf
    exact hj28 () _ _ _ hf hH hS (lv_sub hl [0, 1, 2, 3] rfl)
  have hf := fo_f hc hf
  refine lv_iload_n hx hb dX11_line_20 rfl (lv_at hl 3 rfl) ?_
  refine lv_bipush (v := 10) hx hb dX11_line_21 (by decide) ?_
  refine lv_icmp_ge (tgt := 28) hx hb dX11_line_23 (by decide) (fun hc => ?_) (fun hc => ?_)
  · have hf := fo_t hc hf
    exact hj28 () _ _ _ hf hH hS (lv_sub hl [0, 1, 2, 3] rfl)
  have hf := fo_f hc hf
  refine lv_iconst (v := (-1)) hx hb dX11_line_26 (by decide) ?_
  subst hQ
  exact cEi X (cH2 (so_s hf) hH) hS (pf1 (so_s hf)) dX11_line_27
def f_X11_needs (w : CW) (a1 : Int32) (a2 : Int32) (a3 : Int32) : Option (Int32 × CW) := (if (f_X9_has w a1) = 0 then (some ((-1), w)) else (if (f_X11_isSort a3) = 0 then (some ((-1), w)) else (if (f_X11_isDay a2) = 0 then (some ((-2), w)) else (Option.bind (f_X11_isSet w a1 a2 0) fun q34 => (some ((if q34.1 = 0 then (-9) else (rAt q34.2 48 a3)), q34.2))))))
abbrev rm_X11_needs : Room := { frames := 7, cells := 0, slots := 0, locals := 165 }
theorem cn_X11_needs : CN yX11_needs 3 := ⟨by decide +kernel, by decide +kernel, by decide +kernel⟩
set_option maxHeartbeats 4000000 in
set_option maxRecDepth 100000 in
theorem c_X11_needs (l : Launch) (G : GX) (w : CW) (a1 : Int32) (a2 : Int32) (a3 : Int32) (q : Int32 × CW) (hf : f_X11_needs w a1 a2 a3 = some q) : MI l G yX11_needs cX11_needs 4 (some .int) rm_X11_needs [.ref (G.2.2.1 190), .int a1, .int a2, .int a3] (cA G) (cH G w) (cH G q.2) q.1 := by
  refine cM_start (by decide +kernel) (Nat.le_of_ble_eq_true rfl) ?_
  intro p e s m below meth c ls X hH hl
  have hS : va_S (cA G) s.heap s.heap [] := va_S.rf
  have hx := X.1.1
  have hb := X.1.2.1
  generalize hargs : ([.ref (G.2.2.1 190), .int a1, .int a2, .int a3] : List Value).toArray = args at X ⊢
  generalize hQ : MQ below (QI (cA G) (cH G q.2) q.1) args s 0 0 (cA G) = Q
  have hl : lv_has ls 4 [(0, .ref (G.2.2.1 190)), (1, .int a1), (2, .int a2), (3, .int a3)] := hl
  unfold f_X11_needs at hf
  refine lv_aload_n hx hb dX11_needs_0 rfl (lv_at hl 0 rfl) ?_
  refine co_get X hH 190 (by decide) eO190 rfl inBX11 5 (by decide) rfl bw577 dX11_needs_1 ?_
  refine lv_iload_n hx hb dX11_needs_4 rfl (lv_at hl 1 rfl) ?_
  refine cGi (cVrun (rest := []) X (c_X9_has l G w a1 _ rfl) bw906 bw907 bw908 bw98 bw909 cn_X9_has ⟨rfl, rfl, Nat.le_of_ble_eq_true rfl, Nat.le_of_ble_eq_true rfl⟩ (c_rec X hH 194 (by decide) eO194 rfl) cA_g hH hS hl rfl (Nat.le_of_ble_eq_true rfl) dX11_needs_5) hS (fun H locs hH hS => ?_)
  refine lv_if_eq (tgt := 18) hx hb dX11_needs_8 (by decide) (fun hc => ?_) (fun hc => ?_)
  · have hf := fo_t hc hf
    refine lv_iconst (v := (-1)) hx hb dX11_needs_18 (by decide) ?_
    subst hQ
    exact cEi X (cH2 (so_s hf) hH) hS (pf1 (so_s hf)) dX11_needs_19
  have hf := fo_f hc hf
  refine lv_iload_n hx hb dX11_needs_11 rfl (lv_at hl 3 rfl) ?_
  refine cGi (cSrun (rest := []) X (c_X11_isSort l G (cH G w) (cA G) cA_g a3 _ rfl) bw616 bw617 bw86 bw618 cn_X11_isSort ⟨rfl, rfl, Nat.le_of_ble_eq_true rfl, Nat.le_of_ble_eq_true rfl⟩ cA_g hH hS hl rfl (Nat.le_of_ble_eq_true rfl) dX11_needs_12) hS (fun H locs hH hS => ?_)
  refine lv_if_ne (tgt := 20) hx hb dX11_needs_15 (by decide) (fun hc => ?_) (fun hc => ?_)
  rotate_left
  · have hf := fo_t hc hf
    refine lv_iconst (v := (-1)) hx hb dX11_needs_18 (by decide) ?_
    subst hQ
    exact cEi X (cH2 (so_s hf) hH) hS (pf1 (so_s hf)) dX11_needs_19
  have hf := fo_f hc hf
  refine lv_iload_n hx hb dX11_needs_20 rfl (lv_at hl 2 rfl) ?_
  refine cGi (cSrun (rest := []) X (c_X11_isDay l G (cH G w) (cA G) cA_g a2 _ rfl) bw686 bw687 bw86 bw688 cn_X11_isDay ⟨rfl, rfl, Nat.le_of_ble_eq_true rfl, Nat.le_of_ble_eq_true rfl⟩ cA_g hH hS hl rfl (Nat.le_of_ble_eq_true rfl) dX11_needs_21) hS (fun H locs hH hS => ?_)
  refine lv_if_ne (tgt := 30) hx hb dX11_needs_24 (by decide) (fun hc => ?_) (fun hc => ?_)
  rotate_left
  · have hf := fo_t hc hf
    refine lv_bipush (v := (-2)) hx hb dX11_needs_27 (by decide) ?_
    subst hQ
    exact cEi X (cH2 (so_s hf) hH) hS (pf1 (so_s hf)) dX11_needs_29
  have hf := fo_f hc hf
  refine lv_aload_n hx hb dX11_needs_30 rfl (lv_at hl 0 rfl) ?_
  refine lv_iload_n hx hb dX11_needs_31 rfl (lv_at hl 1 rfl) ?_
  refine lv_iload_n hx hb dX11_needs_32 rfl (lv_at hl 2 rfl) ?_
  refine lv_iconst (v := 0) hx hb dX11_needs_33 (by decide) ?_
  obtain ⟨q34, hq34, hf⟩ := bd_s hf
  refine cGz (cVrun (rest := []) X (c_X11_isSet l G w a1 a2 0 q34 hq34) bw910 bw912 bw17 bw86 bw913 cn_X11_isSet ⟨rfl, rfl, Nat.le_of_ble_eq_true rfl, Nat.le_of_ble_eq_true rfl⟩ (c_rec X hH 190 (by decide) eO190 rfl) cA_g hH hS hl rfl (Nat.le_of_ble_eq_true rfl) dX11_needs_34) hS (fun hz34 H locs hH hS => ?_)
  have hJ : ∀ (H : Heap) (locs : List Loc), cH G q34.2 H → va_S (cA G) s.heap H locs → W p l e rm_X11_needs s m args below meth c H locs 0 0 Q (F0 m 56 ls [.int (if q34.1 = 0 then (-9) else (rAt q34.2 48 a3))]) := by
    intro H locs hH hS
    subst hQ
    exact cEi X (cH2 (so_s hf) hH) hS (pf1 (so_s hf)) dX11_needs_56
  refine lv_if_eq (tgt := 54) hx hb dX11_needs_37 (by decide) (fun hc37 => ?_) (fun hc37 => ?_)
  · refine lv_bipush (v := (-9)) hx hb dX11_needs_54 (by decide) ?_
    exact W.eq (by rw [if_pos hc37] <;> rfl) (hJ _ _ hH hS)
  · refine lv_aload_n hx hb dX11_needs_40 rfl (lv_at hl 0 rfl) ?_
    refine co_get X hH 190 (by decide) eO190 rfl inBX11 7 (by decide) rfl bw579 dX11_needs_41 ?_
    refine co_getN X hH 196 (by decide) eO196 rfl inBX6 10 (by decide) rfl bw399 dX11_needs_44 ?_
    refine lv_iload_n hx hb dX11_needs_47 rfl (lv_at hl 3 rfl) ?_
    refine cGi (cVrun (rest := []) X (cl_X5_at l G q34.2 48 (by decide) a3 _ rfl) bw641 bw628 bw629 bw91 bw630 cn_X5_at ⟨rfl, rfl, Nat.le_of_ble_eq_true rfl, Nat.le_of_ble_eq_true rfl⟩ (c_recR X hH (by decide)) cA_g hH hS hl rfl (Nat.le_of_ble_eq_true rfl) dX11_needs_48) hS (fun H locs hH hS => ?_)
    refine lv_goto (tgt := 56) hx hb dX11_needs_51 (by decide) ?_
    exact W.eq (by rw [if_neg hc37] <;> rfl) (hJ _ _ hH hS)
def f_X11_enough (w : CW) (a1 : Int32) (a2 : Int32) : Option (Int32 × CW) := (if (f_X9_has w a1) = 0 then (some ((-1), w)) else (if a2 < 0 then (some ((-1), w)) else (if a2 ≤ 2 then (Option.bind (f_X11_isSet w a1 (f_X11_now w) 0) fun q29 => (if q29.1 = 0 then (some ((-9), q29.2)) else (Option.bind (f_X8_lacking q29.2 48) fun q49 => (if a2 = 0 then (some ((if q49 = (-5) then 1 else 0), q29.2)) else (if a2 = 1 then (some (q49, q29.2)) else (Option.bind (f_X6_sparing q29.2 q49) fun q83 => (some (q83, q29.2)))))))) else (some ((-1), w)))))
abbrev rm_X11_enough : Room := { frames := 7, cells := 0, slots := 0, locals := 165 }
theorem cn_X11_enough : CN yX11_enough 2 := ⟨by decide +kernel, by decide +kernel, by decide +kernel⟩
set_option maxHeartbeats 4000000 in
set_option maxRecDepth 100000 in
theorem c_X11_enough (l : Launch) (G : GX) (w : CW) (a1 : Int32) (a2 : Int32) (q : Int32 × CW) (hf : f_X11_enough w a1 a2 = some q) : MI l G yX11_enough cX11_enough 4 (some .int) rm_X11_enough [.ref (G.2.2.1 190), .int a1, .int a2] (cA G) (cH G w) (cH G q.2) q.1 := by
  refine cM_start (by decide +kernel) (Nat.le_of_ble_eq_true rfl) ?_
  intro p e s m below meth c ls X hH hl
  have hS : va_S (cA G) s.heap s.heap [] := va_S.rf
  have hx := X.1.1
  have hb := X.1.2.1
  generalize hargs : ([.ref (G.2.2.1 190), .int a1, .int a2] : List Value).toArray = args at X ⊢
  generalize hQ : MQ below (QI (cA G) (cH G q.2) q.1) args s 0 0 (cA G) = Q
  have hl : lv_has ls 4 [(0, .ref (G.2.2.1 190)), (1, .int a1), (2, .int a2)] := hl
  unfold f_X11_enough at hf
  refine lv_aload_n hx hb dX11_enough_0 rfl (lv_at hl 0 rfl) ?_
  refine co_get X hH 190 (by decide) eO190 rfl inBX11 5 (by decide) rfl bw577 dX11_enough_1 ?_
  refine lv_iload_n hx hb dX11_enough_4 rfl (lv_at hl 1 rfl) ?_
  refine cGi (cVrun (rest := []) X (c_X9_has l G w a1 _ rfl) bw906 bw907 bw908 bw98 bw909 cn_X9_has ⟨rfl, rfl, Nat.le_of_ble_eq_true rfl, Nat.le_of_ble_eq_true rfl⟩ (c_rec X hH 194 (by decide) eO194 rfl) cA_g hH hS hl rfl (Nat.le_of_ble_eq_true rfl) dX11_enough_5) hS (fun H locs hH hS => ?_)
  refine lv_if_eq (tgt := 20) hx hb dX11_enough_8 (by decide) (fun hc => ?_) (fun hc => ?_)
  · have hf := fo_t hc hf
    refine lv_iconst (v := (-1)) hx hb dX11_enough_20 (by decide) ?_
    subst hQ
    exact cEi X (cH2 (so_s hf) hH) hS (pf1 (so_s hf)) dX11_enough_21
  have hf := fo_f hc hf
  refine lv_iload_n hx hb dX11_enough_11 rfl (lv_at hl 2 rfl) ?_
  refine lv_if_lt (tgt := 20) hx hb dX11_enough_12 (by decide) (fun hc => ?_) (fun hc => ?_)
  · have hf := fo_t hc hf
    refine lv_iconst (v := (-1)) hx hb dX11_enough_20 (by decide) ?_
    subst hQ
    exact cEi X (cH2 (so_s hf) hH) hS (pf1 (so_s hf)) dX11_enough_21
  have hf := fo_f hc hf
  refine lv_iload_n hx hb dX11_enough_15 rfl (lv_at hl 2 rfl) ?_
  refine lv_iconst (v := 2) hx hb dX11_enough_16 (by decide) ?_
  refine lv_icmp_le (tgt := 22) hx hb dX11_enough_17 (by decide) (fun hc => ?_) (fun hc => ?_)
  rotate_left
  · have hf := fo_f hc hf
    refine lv_iconst (v := (-1)) hx hb dX11_enough_20 (by decide) ?_
    subst hQ
    exact cEi X (cH2 (so_s hf) hH) hS (pf1 (so_s hf)) dX11_enough_21
  have hf := fo_t hc hf
  refine lv_aload_n hx hb dX11_enough_22 rfl (lv_at hl 0 rfl) ?_
  refine lv_iload_n hx hb dX11_enough_23 rfl (lv_at hl 1 rfl) ?_
  refine lv_aload_n hx hb dX11_enough_24 rfl (lv_at hl 0 rfl) ?_
  refine cGi (cVrun (rest := [.int a1, .ref (G.2.2.1 190)]) X (c_X11_now l G w _ rfl) bw667 bw669 bw3 bw86 bw670 cn_X11_now ⟨rfl, rfl, Nat.le_of_ble_eq_true rfl, Nat.le_of_ble_eq_true rfl⟩ (c_rec X hH 190 (by decide) eO190 rfl) cA_g hH hS hl rfl (Nat.le_of_ble_eq_true rfl) dX11_enough_25) hS (fun H locs hH hS => ?_)
  refine lv_iconst (v := 0) hx hb dX11_enough_28 (by decide) ?_
  obtain ⟨q29, hq29, hf⟩ := bd_s hf
  refine cGz (cVrun (rest := []) X (c_X11_isSet l G w a1 (f_X11_now w) 0 q29 hq29) bw910 bw912 bw17 bw86 bw913 cn_X11_isSet ⟨rfl, rfl, Nat.le_of_ble_eq_true rfl, Nat.le_of_ble_eq_true rfl⟩ (c_rec X hH 190 (by decide) eO190 rfl) cA_g hH hS hl rfl (Nat.le_of_ble_eq_true rfl) dX11_enough_29) hS (fun hz29 H locs hH hS => ?_)
  refine lv_if_ne (tgt := 38) hx hb dX11_enough_32 (by decide) (fun hc => ?_) (fun hc => ?_)
  rotate_left
  · have hf := fo_t hc hf
    refine lv_bipush (v := (-9)) hx hb dX11_enough_35 (by decide) ?_
    subst hQ
    exact cEi X (cH2 (so_s hf) hH) hS (pf1 (so_s hf)) dX11_enough_37
  have hf := fo_f hc hf
  refine lv_aload_n hx hb dX11_enough_38 rfl (lv_at hl 0 rfl) ?_
  refine co_get X hH 190 (by decide) eO190 rfl inBX11 6 (by decide) rfl bw578 dX11_enough_39 ?_
  refine lv_aload_n hx hb dX11_enough_42 rfl (lv_at hl 0 rfl) ?_
  refine co_get X hH 190 (by decide) eO190 rfl inBX11 7 (by decide) rfl bw579 dX11_enough_43 ?_
  refine co_getN X hH 196 (by decide) eO196 rfl inBX6 10 (by decide) rfl bw399 dX11_enough_46 ?_
  obtain ⟨q49, hq49, hf⟩ := bd_s hf
  refine cGi (cVrun (rest := []) X (c_X8_lacking l G q29.2 48 (by decide) q49 hq49) bw1008 bw1009 bw1010 bw99 bw1011 cn_X8_lacking ⟨rfl, rfl, Nat.le_of_ble_eq_true rfl, Nat.le_of_ble_eq_true rfl⟩ (c_rec X hH 195 (by decide) eO195 rfl) cA_g hH hS hl rfl (Nat.le_of_ble_eq_true rfl) dX11_enough_49) hS (fun H locs hH hS => ?_)
  refine lv_istore_n (lv' := [(3, .int q49), (0, .ref (G.2.2.1 190)), (1, .int a1), (2, .int a2)]) hx hb dX11_enough_52 rfl hl (by decide) rfl (fun ls hl => ?_)
  refine lv_iload_n hx hb dX11_enough_53 rfl (lv_at hl 3 rfl) ?_
  refine lv_if_ne (tgt := 69) hx hb dX11_enough_54 (by decide) (fun hc => ?_) (fun hc => ?_)
  rotate_left
  · have hf := fo_t hc hf
    refine lv_iload_n hx hb dX11_enough_57 rfl (lv_at hl 0 rfl) ?_
    refine lv_bipush (v := (-5)) hx hb dX11_enough_58 (by decide) ?_
    have hJ : ∀ (H : Heap) (locs : List Loc), cH G q29.2 H → va_S (cA G) s.heap H locs → W p l e rm_X11_enough s m args below meth c H locs 0 0 Q (F0 m 68 ls [.int (if q49 = (-5) then 1 else 0)]) := by
      intro H locs hH hS
      subst hQ
      exact cEi X (cH2 (so_s hf) hH) hS (pf1 (so_s hf)) dX11_enough_68
    refine lv_icmp_ne (tgt := 67) hx hb dX11_enough_60 (by decide) (fun hc60 => ?_) (fun hc60 => ?_)
    · refine lv_iconst (v := 0) hx hb dX11_enough_67 (by decide) ?_
      exact W.eq (by rw [if_neg hc60] <;> rfl) (hJ _ _ hH hS)
    · refine lv_iconst (v := 1) hx hb dX11_enough_63 (by decide) ?_
      refine lv_goto (tgt := 68) hx hb dX11_enough_64 (by decide) ?_
      exact W.eq (by rw [if_pos hc60] <;> rfl) (hJ _ _ hH hS)
  have hf := fo_f hc hf
  refine lv_iload_n hx hb dX11_enough_69 rfl (lv_at hl 3 rfl) ?_
  refine lv_iconst (v := 1) hx hb dX11_enough_70 (by decide) ?_
  refine lv_icmp_ne (tgt := 78) hx hb dX11_enough_71 (by decide) (fun hc => ?_) (fun hc => ?_)
  rotate_left
  · have hf := fo_t hc hf
    refine lv_iload_n hx hb dX11_enough_74 rfl (lv_at hl 0 rfl) ?_
    refine lv_goto (tgt := 86) hx hb dX11_enough_75 (by decide) ?_
    subst hQ
    exact cEi X (cH2 (so_s hf) hH) hS (pf1 (so_s hf)) dX11_enough_86
  have hf := fo_f hc hf
  refine lv_aload_n hx hb dX11_enough_78 rfl (lv_at hl 1 rfl) ?_
  refine co_get X hH 190 (by decide) eO190 rfl inBX11 7 (by decide) rfl bw579 dX11_enough_79 ?_
  refine lv_iload_n hx hb dX11_enough_82 rfl (lv_at hl 0 rfl) ?_
  obtain ⟨q83, hq83, hf⟩ := bd_s hf
  refine cGi (cVrun (rest := []) X (c_X6_sparing l G q29.2 q49 q83 hq83) bw1012 bw1013 bw1014 bw100 bw1015 cn_X6_sparing ⟨rfl, rfl, Nat.le_of_ble_eq_true rfl, Nat.le_of_ble_eq_true rfl⟩ (c_rec X hH 196 (by decide) eO196 rfl) cA_g hH hS hl rfl (Nat.le_of_ble_eq_true rfl) dX11_enough_83) hS (fun H locs hH hS => ?_)
  subst hQ
  exact cEi X (cH2 (so_s hf) hH) hS (pf1 (so_s hf)) dX11_enough_86
def f_X11_page (w : CW) (a1 : Int32) : Option (Int32 × CW) := (if (f_X9_has w a1) = 0 then (some ((-1), w)) else (if (f_X8_hasAllPages w) = 0 then (Option.bind (f_X11_isSet w a1 (f_X11_now w) 0) fun q33 => (if q33.1 = 0 then (some ((-9), q33.2)) else (Option.bind (f_X8_lacking q33.2 48) fun q53 => (if q53 = (-5) then (Option.bind (f_X8_putUp q33.2 48) fun q72 => (some (q72.1, q72.2))) else (some ((-3), q33.2)))))) else (some ((-4), w))))
abbrev rm_X11_page : Room := { frames := 7, cells := 0, slots := 0, locals := 165 }
theorem cn_X11_page : CN yX11_page 1 := ⟨by decide +kernel, by decide +kernel, by decide +kernel⟩
set_option maxHeartbeats 4000000 in
set_option maxRecDepth 100000 in
theorem c_X11_page (l : Launch) (G : GX) (w : CW) (a1 : Int32) (q : Int32 × CW) (hf : f_X11_page w a1 = some q) : MI l G yX11_page cX11_page 2 (some .int) rm_X11_page [.ref (G.2.2.1 190), .int a1] (cA G) (cH G w) (cH G q.2) q.1 := by
  refine cM_start (by decide +kernel) (Nat.le_of_ble_eq_true rfl) ?_
  intro p e s m below meth c ls X hH hl
  have hS : va_S (cA G) s.heap s.heap [] := va_S.rf
  have hx := X.1.1
  have hb := X.1.2.1
  generalize hargs : ([.ref (G.2.2.1 190), .int a1] : List Value).toArray = args at X ⊢
  generalize hQ : MQ below (QI (cA G) (cH G q.2) q.1) args s 0 0 (cA G) = Q
  have hl : lv_has ls 2 [(0, .ref (G.2.2.1 190)), (1, .int a1)] := hl
  unfold f_X11_page at hf
  refine lv_aload_n hx hb dX11_page_0 rfl (lv_at hl 0 rfl) ?_
  refine co_get X hH 190 (by decide) eO190 rfl inBX11 5 (by decide) rfl bw577 dX11_page_1 ?_
  refine lv_iload_n hx hb dX11_page_4 rfl (lv_at hl 1 rfl) ?_
  refine cGi (cVrun (rest := []) X (c_X9_has l G w a1 _ rfl) bw906 bw907 bw908 bw98 bw909 cn_X9_has ⟨rfl, rfl, Nat.le_of_ble_eq_true rfl, Nat.le_of_ble_eq_true rfl⟩ (c_rec X hH 194 (by decide) eO194 rfl) cA_g hH hS hl rfl (Nat.le_of_ble_eq_true rfl) dX11_page_5) hS (fun H locs hH hS => ?_)
  refine lv_if_ne (tgt := 13) hx hb dX11_page_8 (by decide) (fun hc => ?_) (fun hc => ?_)
  rotate_left
  · have hf := fo_t hc hf
    refine lv_iconst (v := (-1)) hx hb dX11_page_11 (by decide) ?_
    subst hQ
    exact cEi X (cH2 (so_s hf) hH) hS (pf1 (so_s hf)) dX11_page_12
  have hf := fo_f hc hf
  refine lv_aload_n hx hb dX11_page_13 rfl (lv_at hl 0 rfl) ?_
  refine co_get X hH 190 (by decide) eO190 rfl inBX11 6 (by decide) rfl bw578 dX11_page_14 ?_
  refine cGi (cVrun (rest := []) X (c_X8_hasAllPages l G w _ rfl) bw1028 bw1029 bw1030 bw99 bw1031 cn_X8_hasAllPages ⟨rfl, rfl, Nat.le_of_ble_eq_true rfl, Nat.le_of_ble_eq_true rfl⟩ (c_rec X hH 195 (by decide) eO195 rfl) cA_g hH hS hl rfl (Nat.le_of_ble_eq_true rfl) dX11_page_17) hS (fun H locs hH hS => ?_)
  refine lv_if_eq (tgt := 26) hx hb dX11_page_20 (by decide) (fun hc => ?_) (fun hc => ?_)
  rotate_left
  · have hf := fo_f hc hf
    refine lv_bipush (v := (-4)) hx hb dX11_page_23 (by decide) ?_
    subst hQ
    exact cEi X (cH2 (so_s hf) hH) hS (pf1 (so_s hf)) dX11_page_25
  have hf := fo_t hc hf
  refine lv_aload_n hx hb dX11_page_26 rfl (lv_at hl 0 rfl) ?_
  refine lv_iload_n hx hb dX11_page_27 rfl (lv_at hl 1 rfl) ?_
  refine lv_aload_n hx hb dX11_page_28 rfl (lv_at hl 0 rfl) ?_
  refine cGi (cVrun (rest := [.int a1, .ref (G.2.2.1 190)]) X (c_X11_now l G w _ rfl) bw667 bw669 bw3 bw86 bw670 cn_X11_now ⟨rfl, rfl, Nat.le_of_ble_eq_true rfl, Nat.le_of_ble_eq_true rfl⟩ (c_rec X hH 190 (by decide) eO190 rfl) cA_g hH hS hl rfl (Nat.le_of_ble_eq_true rfl) dX11_page_29) hS (fun H locs hH hS => ?_)
  refine lv_iconst (v := 0) hx hb dX11_page_32 (by decide) ?_
  obtain ⟨q33, hq33, hf⟩ := bd_s hf
  refine cGz (cVrun (rest := []) X (c_X11_isSet l G w a1 (f_X11_now w) 0 q33 hq33) bw910 bw912 bw17 bw86 bw913 cn_X11_isSet ⟨rfl, rfl, Nat.le_of_ble_eq_true rfl, Nat.le_of_ble_eq_true rfl⟩ (c_rec X hH 190 (by decide) eO190 rfl) cA_g hH hS hl rfl (Nat.le_of_ble_eq_true rfl) dX11_page_33) hS (fun hz33 H locs hH hS => ?_)
  refine lv_if_ne (tgt := 42) hx hb dX11_page_36 (by decide) (fun hc => ?_) (fun hc => ?_)
  rotate_left
  · have hf := fo_t hc hf
    refine lv_bipush (v := (-9)) hx hb dX11_page_39 (by decide) ?_
    subst hQ
    exact cEi X (cH2 (so_s hf) hH) hS (pf1 (so_s hf)) dX11_page_41
  have hf := fo_f hc hf
  refine lv_aload_n hx hb dX11_page_42 rfl (lv_at hl 0 rfl) ?_
  refine co_get X hH 190 (by decide) eO190 rfl inBX11 6 (by decide) rfl bw578 dX11_page_43 ?_
  refine lv_aload_n hx hb dX11_page_46 rfl (lv_at hl 0 rfl) ?_
  refine co_get X hH 190 (by decide) eO190 rfl inBX11 7 (by decide) rfl bw579 dX11_page_47 ?_
  refine co_getN X hH 196 (by decide) eO196 rfl inBX6 10 (by decide) rfl bw399 dX11_page_50 ?_
  obtain ⟨q53, hq53, hf⟩ := bd_s hf
  refine cGi (cVrun (rest := []) X (c_X8_lacking l G q33.2 48 (by decide) q53 hq53) bw1008 bw1009 bw1010 bw99 bw1011 cn_X8_lacking ⟨rfl, rfl, Nat.le_of_ble_eq_true rfl, Nat.le_of_ble_eq_true rfl⟩ (c_rec X hH 195 (by decide) eO195 rfl) cA_g hH hS hl rfl (Nat.le_of_ble_eq_true rfl) dX11_page_53) hS (fun H locs hH hS => ?_)
  refine lv_bipush (v := (-5)) hx hb dX11_page_56 (by decide) ?_
  refine lv_icmp_ne (tgt := 78) hx hb dX11_page_58 (by decide) (fun hc => ?_) (fun hc => ?_)
  · have hf := fo_f hc hf
    refine lv_bipush (v := (-3)) hx hb dX11_page_78 (by decide) ?_
    subst hQ
    exact cEi X (cH2 (so_s hf) hH) hS (pf1 (so_s hf)) dX11_page_80
  have hf := fo_t hc hf
  refine lv_aload_n hx hb dX11_page_61 rfl (lv_at hl 0 rfl) ?_
  refine co_get X hH 190 (by decide) eO190 rfl inBX11 6 (by decide) rfl bw578 dX11_page_62 ?_
  refine lv_aload_n hx hb dX11_page_65 rfl (lv_at hl 0 rfl) ?_
  refine co_get X hH 190 (by decide) eO190 rfl inBX11 7 (by decide) rfl bw579 dX11_page_66 ?_
  refine co_getN X hH 196 (by decide) eO196 rfl inBX6 10 (by decide) rfl bw399 dX11_page_69 ?_
  obtain ⟨q72, hq72, hf⟩ := bd_s hf
  refine cGi (cVrun (rest := []) X (c_X8_putUp l G q33.2 48 (by decide) q72 hq72) bw1033 bw1034 bw1035 bw99 bw1036 cn_X8_putUp ⟨rfl, rfl, Nat.le_of_ble_eq_true rfl, Nat.le_of_ble_eq_true rfl⟩ (c_rec X hH 195 (by decide) eO195 rfl) cA_g hH hS hl rfl (Nat.le_of_ble_eq_true rfl) dX11_page_72) hS (fun H locs hH hS => ?_)
  refine lv_goto (tgt := 80) hx hb dX11_page_75 (by decide) ?_
  subst hQ
  exact cEi X (cH2 (so_s hf) hH) hS (pf1 (so_s hf)) dX11_page_80
def f_X11_pull (w : CW) (a1 : Int32) (a2 : Int32) : Int32 × CW := (if (f_X8_hasPage w a1) = 0 then (((-1), w)) else (if a2 < 1 then (((-2), w)) else (if a2 ≤ 500 then (if (f_X8_stands w a1) = 0 then (((-3), w)) else (nmk (rAdd w 15 a1 a2) fun q51 => (((rAt q51 15 a1), q51)))) else (((-2), w)))))
abbrev rm_X11_pull : Room := { frames := 3, cells := 0, slots := 0, locals := 44 }
theorem cn_X11_pull : CN yX11_pull 2 := ⟨by decide +kernel, by decide +kernel, by decide +kernel⟩
set_option maxHeartbeats 4000000 in
set_option maxRecDepth 100000 in
theorem c_X11_pull (l : Launch) (G : GX) (w : CW) (a1 : Int32) (a2 : Int32) (q : Int32 × CW) (hf : f_X11_pull w a1 a2 = q) : MI l G yX11_pull cX11_pull 3 (some .int) rm_X11_pull [.ref (G.2.2.1 190), .int a1, .int a2] (cA G) (cH G w) (cH G q.2) q.1 := by
  refine cM_start (by decide +kernel) (Nat.le_of_ble_eq_true rfl) ?_
  intro p e s m below meth c ls X hH hl
  have hS : va_S (cA G) s.heap s.heap [] := va_S.rf
  have hx := X.1.1
  have hb := X.1.2.1
  generalize hargs : ([.ref (G.2.2.1 190), .int a1, .int a2] : List Value).toArray = args at X ⊢
  generalize hQ : MQ below (QI (cA G) (cH G q.2) q.1) args s 0 0 (cA G) = Q
  have hl : lv_has ls 3 [(0, .ref (G.2.2.1 190)), (1, .int a1), (2, .int a2)] := hl
  unfold f_X11_pull at hf
  refine lv_aload_n hx hb dX11_pull_0 rfl (lv_at hl 0 rfl) ?_
  refine co_get X hH 190 (by decide) eO190 rfl inBX11 6 (by decide) rfl bw578 dX11_pull_1 ?_
  refine lv_iload_n hx hb dX11_pull_4 rfl (lv_at hl 1 rfl) ?_
  refine cGi (cVrun (rest := []) X (c_X8_hasPage l G w a1 _ rfl) bw1042 bw1043 bw1044 bw99 bw1045 cn_X8_hasPage ⟨rfl, rfl, Nat.le_of_ble_eq_true rfl, Nat.le_of_ble_eq_true rfl⟩ (c_rec X hH 195 (by decide) eO195 rfl) cA_g hH hS hl rfl (Nat.le_of_ble_eq_true rfl) dX11_pull_5) hS (fun H locs hH hS => ?_)
  refine lv_if_ne (tgt := 13) hx hb dX11_pull_8 (by decide) (fun hc => ?_) (fun hc => ?_)
  rotate_left
  · have hf := fo_t hc hf
    refine lv_iconst (v := (-1)) hx hb dX11_pull_11 (by decide) ?_
    subst hQ
    exact cEi X (cH2 (hf) hH) hS (pf1 (hf)) dX11_pull_12
  have hf := fo_f hc hf
  refine lv_iload_n hx hb dX11_pull_13 rfl (lv_at hl 2 rfl) ?_
  refine lv_iconst (v := 1) hx hb dX11_pull_14 (by decide) ?_
  refine lv_icmp_lt (tgt := 25) hx hb dX11_pull_15 (by decide) (fun hc => ?_) (fun hc => ?_)
  · have hf := fo_t hc hf
    refine lv_bipush (v := (-2)) hx hb dX11_pull_25 (by decide) ?_
    subst hQ
    exact cEi X (cH2 (hf) hH) hS (pf1 (hf)) dX11_pull_27
  have hf := fo_f hc hf
  refine lv_iload_n hx hb dX11_pull_18 rfl (lv_at hl 2 rfl) ?_
  refine lv_sipush (v := 500) hx hb dX11_pull_19 (by decide) ?_
  refine lv_icmp_le (tgt := 28) hx hb dX11_pull_22 (by decide) (fun hc => ?_) (fun hc => ?_)
  rotate_left
  · have hf := fo_f hc hf
    refine lv_bipush (v := (-2)) hx hb dX11_pull_25 (by decide) ?_
    subst hQ
    exact cEi X (cH2 (hf) hH) hS (pf1 (hf)) dX11_pull_27
  have hf := fo_t hc hf
  refine lv_aload_n hx hb dX11_pull_28 rfl (lv_at hl 0 rfl) ?_
  refine co_get X hH 190 (by decide) eO190 rfl inBX11 6 (by decide) rfl bw578 dX11_pull_29 ?_
  refine lv_iload_n hx hb dX11_pull_32 rfl (lv_at hl 1 rfl) ?_
  refine cGi (cVrun (rest := []) X (c_X8_stands l G w a1 _ rfl) bw1046 bw660 bw661 bw99 bw662 cn_X8_stands ⟨rfl, rfl, Nat.le_of_ble_eq_true rfl, Nat.le_of_ble_eq_true rfl⟩ (c_rec X hH 195 (by decide) eO195 rfl) cA_g hH hS hl rfl (Nat.le_of_ble_eq_true rfl) dX11_pull_33) hS (fun H locs hH hS => ?_)
  refine lv_if_ne (tgt := 42) hx hb dX11_pull_36 (by decide) (fun hc => ?_) (fun hc => ?_)
  rotate_left
  · have hf := fo_t hc hf
    refine lv_bipush (v := (-3)) hx hb dX11_pull_39 (by decide) ?_
    subst hQ
    exact cEi X (cH2 (hf) hH) hS (pf1 (hf)) dX11_pull_41
  have hf := fo_f hc hf
  refine lv_aload_n hx hb dX11_pull_42 rfl (lv_at hl 0 rfl) ?_
  refine co_get X hH 190 (by decide) eO190 rfl inBX11 6 (by decide) rfl bw578 dX11_pull_43 ?_
  refine co_getN X hH 195 (by decide) eO195 rfl inBX8 3 (by decide) rfl bw362 dX11_pull_46 ?_
  refine lv_iload_n hx hb dX11_pull_49 rfl (lv_at hl 1 rfl) ?_
  refine lv_iload_n hx hb dX11_pull_50 rfl (lv_at hl 2 rfl) ?_
  obtain ⟨q51, hq51, hf⟩ := nm_x hf
  have hq51 := hq51.symm
  refine cGv (cVrun (rest := []) X (cl_X5_add l G w 15 (by decide) a1 a2 q51 hq51) bw671 bw648 bw649 bw91 bw650 cn_X5_add ⟨rfl, rfl, Nat.le_of_ble_eq_true rfl, Nat.le_of_ble_eq_true rfl⟩ (c_recR X hH (by decide)) cA_g hH hS hl rfl (Nat.le_of_ble_eq_true rfl) dX11_pull_51) hS (fun H locs hH hS => ?_)
  refine lv_aload_n hx hb dX11_pull_54 rfl (lv_at hl 0 rfl) ?_
  refine co_get X hH 190 (by decide) eO190 rfl inBX11 6 (by decide) rfl bw578 dX11_pull_55 ?_
  refine co_getN X hH 195 (by decide) eO195 rfl inBX8 3 (by decide) rfl bw362 dX11_pull_58 ?_
  refine lv_iload_n hx hb dX11_pull_61 rfl (lv_at hl 1 rfl) ?_
  refine cGi (cVrun (rest := []) X (cl_X5_at l G q51 15 (by decide) a1 _ rfl) bw641 bw628 bw629 bw91 bw630 cn_X5_at ⟨rfl, rfl, Nat.le_of_ble_eq_true rfl, Nat.le_of_ble_eq_true rfl⟩ (c_recR X hH (by decide)) cA_g hH hS hl rfl (Nat.le_of_ble_eq_true rfl) dX11_pull_62) hS (fun H locs hH hS => ?_)
  subst hQ
  exact cEi X (cH2 (hf) hH) hS (pf1 (hf)) dX11_pull_65
def f_X11_down (w : CW) (a1 : Int32) : Option (Int32 × CW) := (if (f_X8_hasPage w a1) = 0 then (some ((-1), w)) else (if (f_X8_stands w a1) = 0 then (some ((-3), w)) else (Option.bind (f_X8_takeDown w a1) fun q29 => (some (q29.1, q29.2)))))
abbrev rm_X11_down : Room := { frames := 4, cells := 0, slots := 0, locals := 69 }
theorem cn_X11_down : CN yX11_down 1 := ⟨by decide +kernel, by decide +kernel, by decide +kernel⟩
set_option maxHeartbeats 4000000 in
set_option maxRecDepth 100000 in
theorem c_X11_down (l : Launch) (G : GX) (w : CW) (a1 : Int32) (q : Int32 × CW) (hf : f_X11_down w a1 = some q) : MI l G yX11_down cX11_down 2 (some .int) rm_X11_down [.ref (G.2.2.1 190), .int a1] (cA G) (cH G w) (cH G q.2) q.1 := by
  refine cM_start (by decide +kernel) (Nat.le_of_ble_eq_true rfl) ?_
  intro p e s m below meth c ls X hH hl
  have hS : va_S (cA G) s.heap s.heap [] := va_S.rf
  have hx := X.1.1
  have hb := X.1.2.1
  generalize hargs : ([.ref (G.2.2.1 190), .int a1] : List Value).toArray = args at X ⊢
  generalize hQ : MQ below (QI (cA G) (cH G q.2) q.1) args s 0 0 (cA G) = Q
  have hl : lv_has ls 2 [(0, .ref (G.2.2.1 190)), (1, .int a1)] := hl
  unfold f_X11_down at hf
  refine lv_aload_n hx hb dX11_down_0 rfl (lv_at hl 0 rfl) ?_
  refine co_get X hH 190 (by decide) eO190 rfl inBX11 6 (by decide) rfl bw578 dX11_down_1 ?_
  refine lv_iload_n hx hb dX11_down_4 rfl (lv_at hl 1 rfl) ?_
  refine cGi (cVrun (rest := []) X (c_X8_hasPage l G w a1 _ rfl) bw1042 bw1043 bw1044 bw99 bw1045 cn_X8_hasPage ⟨rfl, rfl, Nat.le_of_ble_eq_true rfl, Nat.le_of_ble_eq_true rfl⟩ (c_rec X hH 195 (by decide) eO195 rfl) cA_g hH hS hl rfl (Nat.le_of_ble_eq_true rfl) dX11_down_5) hS (fun H locs hH hS => ?_)
  refine lv_if_ne (tgt := 13) hx hb dX11_down_8 (by decide) (fun hc => ?_) (fun hc => ?_)
  rotate_left
  · have hf := fo_t hc hf
    refine lv_iconst (v := (-1)) hx hb dX11_down_11 (by decide) ?_
    subst hQ
    exact cEi X (cH2 (so_s hf) hH) hS (pf1 (so_s hf)) dX11_down_12
  have hf := fo_f hc hf
  refine lv_aload_n hx hb dX11_down_13 rfl (lv_at hl 0 rfl) ?_
  refine co_get X hH 190 (by decide) eO190 rfl inBX11 6 (by decide) rfl bw578 dX11_down_14 ?_
  refine lv_iload_n hx hb dX11_down_17 rfl (lv_at hl 1 rfl) ?_
  refine cGi (cVrun (rest := []) X (c_X8_stands l G w a1 _ rfl) bw1046 bw660 bw661 bw99 bw662 cn_X8_stands ⟨rfl, rfl, Nat.le_of_ble_eq_true rfl, Nat.le_of_ble_eq_true rfl⟩ (c_rec X hH 195 (by decide) eO195 rfl) cA_g hH hS hl rfl (Nat.le_of_ble_eq_true rfl) dX11_down_18) hS (fun H locs hH hS => ?_)
  refine lv_if_eq (tgt := 35) hx hb dX11_down_21 (by decide) (fun hc => ?_) (fun hc => ?_)
  · have hf := fo_t hc hf
    refine lv_bipush (v := (-3)) hx hb dX11_down_35 (by decide) ?_
    subst hQ
    exact cEi X (cH2 (so_s hf) hH) hS (pf1 (so_s hf)) dX11_down_37
  have hf := fo_f hc hf
  refine lv_aload_n hx hb dX11_down_24 rfl (lv_at hl 0 rfl) ?_
  refine co_get X hH 190 (by decide) eO190 rfl inBX11 6 (by decide) rfl bw578 dX11_down_25 ?_
  refine lv_iload_n hx hb dX11_down_28 rfl (lv_at hl 1 rfl) ?_
  obtain ⟨q29, hq29, hf⟩ := bd_s hf
  refine cGi (cVrun (rest := []) X (c_X8_takeDown l G w a1 q29 hq29) bw1051 bw1052 bw1053 bw99 bw1054 cn_X8_takeDown ⟨rfl, rfl, Nat.le_of_ble_eq_true rfl, Nat.le_of_ble_eq_true rfl⟩ (c_rec X hH 195 (by decide) eO195 rfl) cA_g hH hS hl rfl (Nat.le_of_ble_eq_true rfl) dX11_down_29) hS (fun H locs hH hS => ?_)
  refine lv_goto (tgt := 37) hx hb dX11_down_32 (by decide) ?_
  subst hQ
  exact cEi X (cH2 (so_s hf) hH) hS (pf1 (so_s hf)) dX11_down_37
def f_X11_press (w : CW) (a1 : Int32) (a2 : Int32) : Int32 × CW := (if a1 < 0 then (((-1), w)) else (if a1 < 4 then (if a2 < 0 then (((-2), w)) else (if a2 ≤ 99 then (nmk (rSwap w 18 a1 a2) fun q33 => ((q33.1, q33.2))) else (((-2), w)))) else (((-1), w))))
abbrev rm_X11_press : Room := { frames := 3, cells := 0, slots := 0, locals := 45 }
theorem cn_X11_press : CN yX11_press 2 := ⟨by decide +kernel, by decide +kernel, by decide +kernel⟩
set_option maxHeartbeats 4000000 in
set_option maxRecDepth 100000 in
theorem c_X11_press (l : Launch) (G : GX) (w : CW) (a1 : Int32) (a2 : Int32) (q : Int32 × CW) (hf : f_X11_press w a1 a2 = q) : MI l G yX11_press cX11_press 3 (some .int) rm_X11_press [.ref (G.2.2.1 190), .int a1, .int a2] (cA G) (cH G w) (cH G q.2) q.1 := by
  refine cM_start (by decide +kernel) (Nat.le_of_ble_eq_true rfl) ?_
  intro p e s m below meth c ls X hH hl
  have hS : va_S (cA G) s.heap s.heap [] := va_S.rf
  have hx := X.1.1
  have hb := X.1.2.1
  generalize hargs : ([.ref (G.2.2.1 190), .int a1, .int a2] : List Value).toArray = args at X ⊢
  generalize hQ : MQ below (QI (cA G) (cH G q.2) q.1) args s 0 0 (cA G) = Q
  have hl : lv_has ls 3 [(0, .ref (G.2.2.1 190)), (1, .int a1), (2, .int a2)] := hl
  unfold f_X11_press at hf
  refine lv_iload_n hx hb dX11_press_0 rfl (lv_at hl 1 rfl) ?_
  refine lv_if_lt (tgt := 9) hx hb dX11_press_1 (by decide) (fun hc => ?_) (fun hc => ?_)
  · have hf := fo_t hc hf
    refine lv_iconst (v := (-1)) hx hb dX11_press_9 (by decide) ?_
    subst hQ
    exact cEi X (cH2 (hf) hH) hS (pf1 (hf)) dX11_press_10
  have hf := fo_f hc hf
  refine lv_iload_n hx hb dX11_press_4 rfl (lv_at hl 1 rfl) ?_
  refine lv_iconst (v := 4) hx hb dX11_press_5 (by decide) ?_
  refine lv_icmp_lt (tgt := 11) hx hb dX11_press_6 (by decide) (fun hc => ?_) (fun hc => ?_)
  rotate_left
  · have hf := fo_f hc hf
    refine lv_iconst (v := (-1)) hx hb dX11_press_9 (by decide) ?_
    subst hQ
    exact cEi X (cH2 (hf) hH) hS (pf1 (hf)) dX11_press_10
  have hf := fo_t hc hf
  refine lv_iload_n hx hb dX11_press_11 rfl (lv_at hl 2 rfl) ?_
  refine lv_if_lt (tgt := 21) hx hb dX11_press_12 (by decide) (fun hc => ?_) (fun hc => ?_)
  · have hf := fo_t hc hf
    refine lv_bipush (v := (-2)) hx hb dX11_press_21 (by decide) ?_
    subst hQ
    exact cEi X (cH2 (hf) hH) hS (pf1 (hf)) dX11_press_23
  have hf := fo_f hc hf
  refine lv_iload_n hx hb dX11_press_15 rfl (lv_at hl 2 rfl) ?_
  refine lv_bipush (v := 99) hx hb dX11_press_16 (by decide) ?_
  refine lv_icmp_le (tgt := 24) hx hb dX11_press_18 (by decide) (fun hc => ?_) (fun hc => ?_)
  rotate_left
  · have hf := fo_f hc hf
    refine lv_bipush (v := (-2)) hx hb dX11_press_21 (by decide) ?_
    subst hQ
    exact cEi X (cH2 (hf) hH) hS (pf1 (hf)) dX11_press_23
  have hf := fo_t hc hf
  refine lv_aload_n hx hb dX11_press_24 rfl (lv_at hl 0 rfl) ?_
  refine co_get X hH 190 (by decide) eO190 rfl inBX11 8 (by decide) rfl bw580 dX11_press_25 ?_
  refine co_getN X hH 197 (by decide) eO197 rfl inBX4 0 (by decide) rfl bw449 dX11_press_28 ?_
  refine lv_iload_n hx hb dX11_press_31 rfl (lv_at hl 1 rfl) ?_
  refine lv_iload_n hx hb dX11_press_32 rfl (lv_at hl 2 rfl) ?_
  obtain ⟨q33, hq33, hf⟩ := nm_x hf
  have hq33 := hq33.symm
  refine cGi (cVrun (rest := []) X (cl_X5_swap l G w 18 (by decide) a1 a2 q33 hq33) bw631 bw632 bw633 bw91 bw634 cn_X5_swap ⟨rfl, rfl, Nat.le_of_ble_eq_true rfl, Nat.le_of_ble_eq_true rfl⟩ (c_recR X hH (by decide)) cA_g hH hS hl rfl (Nat.le_of_ble_eq_true rfl) dX11_press_33) hS (fun H locs hH hS => ?_)
  subst hQ
  exact cEi X (cH2 (hf) hH) hS (pf1 (hf)) dX11_press_36
def f_X11_order (w : CW) (a1 : Int32) (a2 : Int32) : Option (Int32 × CW) := (if (f_X8_hasPage w a1) = 0 then (some ((-1), w)) else (if a2 < 1 then (some ((-2), w)) else (if a2 ≤ 999 then (Option.bind (f_X4_firstFree w (f_X11_now w)) fun q36 => (if 0 ≤ q36 then (if (f_X5_isFull w 20) = 0 then (Option.bind (f_X4_give w q36 a2 (f_X11_now w)) fun q79 => (some (q79.1, q79.2))) else (some ((-4), w))) else (some ((-3), w)))) else (some ((-2), w)))))
abbrev rm_X11_order : Room := { frames := 4, cells := 0, slots := 0, locals := 74 }
theorem cn_X11_order : CN yX11_order 2 := ⟨by decide +kernel, by decide +kernel, by decide +kernel⟩
set_option maxHeartbeats 4000000 in
set_option maxRecDepth 100000 in
theorem c_X11_order (l : Launch) (G : GX) (w : CW) (a1 : Int32) (a2 : Int32) (q : Int32 × CW) (hf : f_X11_order w a1 a2 = some q) : MI l G yX11_order cX11_order 4 (some .int) rm_X11_order [.ref (G.2.2.1 190), .int a1, .int a2] (cA G) (cH G w) (cH G q.2) q.1 := by
  refine cM_start (by decide +kernel) (Nat.le_of_ble_eq_true rfl) ?_
  intro p e s m below meth c ls X hH hl
  have hS : va_S (cA G) s.heap s.heap [] := va_S.rf
  have hx := X.1.1
  have hb := X.1.2.1
  generalize hargs : ([.ref (G.2.2.1 190), .int a1, .int a2] : List Value).toArray = args at X ⊢
  generalize hQ : MQ below (QI (cA G) (cH G q.2) q.1) args s 0 0 (cA G) = Q
  have hl : lv_has ls 4 [(0, .ref (G.2.2.1 190)), (1, .int a1), (2, .int a2)] := hl
  unfold f_X11_order at hf
  refine lv_aload_n hx hb dX11_order_0 rfl (lv_at hl 0 rfl) ?_
  refine co_get X hH 190 (by decide) eO190 rfl inBX11 6 (by decide) rfl bw578 dX11_order_1 ?_
  refine lv_iload_n hx hb dX11_order_4 rfl (lv_at hl 1 rfl) ?_
  refine cGi (cVrun (rest := []) X (c_X8_hasPage l G w a1 _ rfl) bw1042 bw1043 bw1044 bw99 bw1045 cn_X8_hasPage ⟨rfl, rfl, Nat.le_of_ble_eq_true rfl, Nat.le_of_ble_eq_true rfl⟩ (c_rec X hH 195 (by decide) eO195 rfl) cA_g hH hS hl rfl (Nat.le_of_ble_eq_true rfl) dX11_order_5) hS (fun H locs hH hS => ?_)
  refine lv_if_ne (tgt := 13) hx hb dX11_order_8 (by decide) (fun hc => ?_) (fun hc => ?_)
  rotate_left
  · have hf := fo_t hc hf
    refine lv_iconst (v := (-1)) hx hb dX11_order_11 (by decide) ?_
    subst hQ
    exact cEi X (cH2 (so_s hf) hH) hS (pf1 (so_s hf)) dX11_order_12
  have hf := fo_f hc hf
  refine lv_iload_n hx hb dX11_order_13 rfl (lv_at hl 2 rfl) ?_
  refine lv_iconst (v := 1) hx hb dX11_order_14 (by decide) ?_
  refine lv_icmp_lt (tgt := 25) hx hb dX11_order_15 (by decide) (fun hc => ?_) (fun hc => ?_)
  · have hf := fo_t hc hf
    refine lv_bipush (v := (-2)) hx hb dX11_order_25 (by decide) ?_
    subst hQ
    exact cEi X (cH2 (so_s hf) hH) hS (pf1 (so_s hf)) dX11_order_27
  have hf := fo_f hc hf
  refine lv_iload_n hx hb dX11_order_18 rfl (lv_at hl 2 rfl) ?_
  refine lv_sipush (v := 999) hx hb dX11_order_19 (by decide) ?_
  refine lv_icmp_le (tgt := 28) hx hb dX11_order_22 (by decide) (fun hc => ?_) (fun hc => ?_)
  rotate_left
  · have hf := fo_f hc hf
    refine lv_bipush (v := (-2)) hx hb dX11_order_25 (by decide) ?_
    subst hQ
    exact cEi X (cH2 (so_s hf) hH) hS (pf1 (so_s hf)) dX11_order_27
  have hf := fo_t hc hf
  refine lv_aload_n hx hb dX11_order_28 rfl (lv_at hl 0 rfl) ?_
  refine co_get X hH 190 (by decide) eO190 rfl inBX11 8 (by decide) rfl bw580 dX11_order_29 ?_
  refine lv_aload_n hx hb dX11_order_32 rfl (lv_at hl 0 rfl) ?_
  refine cGi (cVrun (rest := [.ref (G.2.2.1 197)]) X (c_X11_now l G w _ rfl) bw667 bw669 bw3 bw86 bw670 cn_X11_now ⟨rfl, rfl, Nat.le_of_ble_eq_true rfl, Nat.le_of_ble_eq_true rfl⟩ (c_rec X hH 190 (by decide) eO190 rfl) cA_g hH hS hl rfl (Nat.le_of_ble_eq_true rfl) dX11_order_33) hS (fun H locs hH hS => ?_)
  obtain ⟨q36, hq36, hf⟩ := bd_s hf
  refine cGi (cVrun (rest := []) X (c_X4_firstFree l G w (f_X11_now w) q36 hq36) bw1063 bw1064 bw1065 bw101 bw1066 cn_X4_firstFree ⟨rfl, rfl, Nat.le_of_ble_eq_true rfl, Nat.le_of_ble_eq_true rfl⟩ (c_rec X hH 197 (by decide) eO197 rfl) cA_g hH hS hl rfl (Nat.le_of_ble_eq_true rfl) dX11_order_36) hS (fun H locs hH hS => ?_)
  refine lv_istore_n (lv' := [(3, .int q36), (0, .ref (G.2.2.1 190)), (1, .int a1), (2, .int a2)]) hx hb dX11_order_39 rfl hl (by decide) rfl (fun ls hl => ?_)
  refine lv_iload_n hx hb dX11_order_40 rfl (lv_at hl 0 rfl) ?_
  refine lv_if_ge (tgt := 47) hx hb dX11_order_41 (by decide) (fun hc => ?_) (fun hc => ?_)
  rotate_left
  · have hf := fo_f hc hf
    refine lv_bipush (v := (-3)) hx hb dX11_order_44 (by decide) ?_
    subst hQ
    exact cEi X (cH2 (so_s hf) hH) hS (pf1 (so_s hf)) dX11_order_46
  have hf := fo_t hc hf
  refine lv_aload_n hx hb dX11_order_47 rfl (lv_at hl 1 rfl) ?_
  refine co_get X hH 190 (by decide) eO190 rfl inBX11 8 (by decide) rfl bw580 dX11_order_48 ?_
  refine co_getN X hH 197 (by decide) eO197 rfl inBX4 2 (by decide) rfl bw452 dX11_order_51 ?_
  refine cGi (cVrun (rest := []) X (c_X5_isFull l G w 20 (by decide) _ rfl) bw1073 bw694 bw695 bw91 bw696 cn_X5_isFull ⟨rfl, rfl, Nat.le_of_ble_eq_true rfl, Nat.le_of_ble_eq_true rfl⟩ (c_recR X hH (by decide)) cA_g hH hS hl rfl (Nat.le_of_ble_eq_true rfl) dX11_order_54) hS (fun H locs hH hS => ?_)
  refine lv_if_eq (tgt := 65) hx hb dX11_order_57 (by decide) (fun hc => ?_) (fun hc => ?_)
  rotate_left
  · have hf := fo_f hc hf
    refine lv_bipush (v := (-4)) hx hb dX11_order_60 (by decide) ?_
    refine lv_goto (tgt := 82) hx hb dX11_order_62 (by decide) ?_
    subst hQ
    exact cEi X (cH2 (so_s hf) hH) hS (pf1 (so_s hf)) dX11_order_82
  have hf := fo_t hc hf
  refine lv_aload_n hx hb dX11_order_65 rfl (lv_at hl 1 rfl) ?_
  refine co_get X hH 190 (by decide) eO190 rfl inBX11 8 (by decide) rfl bw580 dX11_order_66 ?_
  refine lv_iload_n hx hb dX11_order_69 rfl (lv_at hl 0 rfl) ?_
  refine lv_iload_n hx hb dX11_order_70 rfl (lv_at hl 3 rfl) ?_
  refine lv_aload_n hx hb dX11_order_71 rfl (lv_at hl 1 rfl) ?_
  refine cGi (cVrun (rest := [.int a2, .int q36, .ref (G.2.2.1 197)]) X (c_X11_now l G w _ rfl) bw667 bw669 bw3 bw86 bw670 cn_X11_now ⟨rfl, rfl, Nat.le_of_ble_eq_true rfl, Nat.le_of_ble_eq_true rfl⟩ (c_rec X hH 190 (by decide) eO190 rfl) cA_g hH hS hl rfl (Nat.le_of_ble_eq_true rfl) dX11_order_72) hS (fun H locs hH hS => ?_)
  refine lv_aload_n hx hb dX11_order_75 rfl (lv_at hl 1 rfl) ?_
  refine co_get X hH 190 (by decide) eO190 rfl inBX11 3 (by decide) rfl bw575 dX11_order_76 ?_
  obtain ⟨q79, hq79, hf⟩ := bd_s hf
  refine cGi (cVrun (rest := []) X (c_X4_give l G w q36 a2 (f_X11_now w) q79 hq79) bw1074 bw1075 bw1076 bw101 bw1077 cn_X4_give ⟨rfl, rfl, Nat.le_of_ble_eq_true rfl, Nat.le_of_ble_eq_true rfl⟩ (c_rec X hH 197 (by decide) eO197 rfl) cA_g hH hS hl rfl (Nat.le_of_ble_eq_true rfl) dX11_order_79) hS (fun H locs hH hS => ?_)
  subst hQ
  exact cEi X (cH2 (so_s hf) hH) hS (pf1 (so_s hf)) dX11_order_82
def f_X11_done (w : CW) (a1 : Int32) (a2 : Int32) : Int32 := (if a1 < 0 then ((-1)) else (if a1 < (f_X5_size w 20) then (if a2 = 0 then ((rAt w 20 a1)) else (if a2 = 1 then ((rAt w 21 a1)) else (if a2 = 2 then ((rAt w 22 a1)) else ((-1))))) else ((-1))))
abbrev rm_X11_done : Room := { frames := 2, cells := 0, slots := 0, locals := 21 }
theorem cn_X11_done : CN yX11_done 2 := ⟨by decide +kernel, by decide +kernel, by decide +kernel⟩
set_option maxHeartbeats 4000000 in
set_option maxRecDepth 100000 in
theorem c_X11_done (l : Launch) (G : GX) (w : CW) (a1 : Int32) (a2 : Int32) (q : Int32) (hf : f_X11_done w a1 a2 = q) : MI l G yX11_done cX11_done 3 (some .int) rm_X11_done [.ref (G.2.2.1 190), .int a1, .int a2] (cA G) (cH G w) (cH G w) q := by
  refine cM_start (by decide +kernel) (Nat.le_of_ble_eq_true rfl) ?_
  intro p e s m below meth c ls X hH hl
  have hS : va_S (cA G) s.heap s.heap [] := va_S.rf
  have hx := X.1.1
  have hb := X.1.2.1
  generalize hargs : ([.ref (G.2.2.1 190), .int a1, .int a2] : List Value).toArray = args at X ⊢
  generalize hQ : MQ below (QI (cA G) (cH G w) q) args s 0 0 (cA G) = Q
  have hl : lv_has ls 3 [(0, .ref (G.2.2.1 190)), (1, .int a1), (2, .int a2)] := hl
  unfold f_X11_done at hf
  refine lv_iload_n hx hb dX11_done_0 rfl (lv_at hl 1 rfl) ?_
  refine lv_if_lt (tgt := 18) hx hb dX11_done_1 (by decide) (fun hc => ?_) (fun hc => ?_)
  · have hf := fo_t hc hf
    refine lv_iconst (v := (-1)) hx hb dX11_done_18 (by decide) ?_
    subst hQ
    exact cEi X hH hS (hf) dX11_done_19
  have hf := fo_f hc hf
  refine lv_iload_n hx hb dX11_done_4 rfl (lv_at hl 1 rfl) ?_
  refine lv_aload_n hx hb dX11_done_5 rfl (lv_at hl 0 rfl) ?_
  refine co_get X hH 190 (by decide) eO190 rfl inBX11 8 (by decide) rfl bw580 dX11_done_6 ?_
  refine co_getN X hH 197 (by decide) eO197 rfl inBX4 2 (by decide) rfl bw452 dX11_done_9 ?_
  refine cGi (cVrun (rest := [.int a1]) X (c_X5_size l G w 20 (by decide) _ rfl) bw676 bw624 bw625 bw91 bw626 cn_X5_size ⟨rfl, rfl, Nat.le_of_ble_eq_true rfl, Nat.le_of_ble_eq_true rfl⟩ (c_recR X hH (by decide)) cA_g hH hS hl rfl (Nat.le_of_ble_eq_true rfl) dX11_done_12) hS (fun H locs hH hS => ?_)
  refine lv_icmp_lt (tgt := 20) hx hb dX11_done_15 (by decide) (fun hc => ?_) (fun hc => ?_)
  rotate_left
  · have hf := fo_f hc hf
    refine lv_iconst (v := (-1)) hx hb dX11_done_18 (by decide) ?_
    subst hQ
    exact cEi X hH hS (hf) dX11_done_19
  have hf := fo_t hc hf
  refine lv_iload_n hx hb dX11_done_20 rfl (lv_at hl 2 rfl) ?_
  by_cases hc0 : a2 = 0
  · have hf := fo_t hc0 hf
    refine lv_tableIn (tgt := 48) hx hb dX11_done_21 (by rw [hc0]; decide) (by rw [hc0]; decide) (by rw [hc0]; rfl) (by decide) ?_
    refine lv_aload_n hx hb dX11_done_48 rfl (lv_at hl 0 rfl) ?_
    refine co_get X hH 190 (by decide) eO190 rfl inBX11 8 (by decide) rfl bw580 dX11_done_49 ?_
    refine co_getN X hH 197 (by decide) eO197 rfl inBX4 2 (by decide) rfl bw452 dX11_done_52 ?_
    refine lv_iload_n hx hb dX11_done_55 rfl (lv_at hl 1 rfl) ?_
    refine cGi (cVrun (rest := []) X (cl_X5_at l G w 20 (by decide) a1 _ rfl) bw641 bw628 bw629 bw91 bw630 cn_X5_at ⟨rfl, rfl, Nat.le_of_ble_eq_true rfl, Nat.le_of_ble_eq_true rfl⟩ (c_recR X hH (by decide)) cA_g hH hS hl rfl (Nat.le_of_ble_eq_true rfl) dX11_done_56) hS (fun H locs hH hS => ?_)
    subst hQ
    exact cEi X hH hS (hf) dX11_done_59
  have hf := fo_f hc0 hf
  by_cases hc1 : a2 = 1
  · have hf := fo_t hc1 hf
    refine lv_tableIn (tgt := 60) hx hb dX11_done_21 (by rw [hc1]; decide) (by rw [hc1]; decide) (by rw [hc1]; rfl) (by decide) ?_
    refine lv_aload_n hx hb dX11_done_60 rfl (lv_at hl 0 rfl) ?_
    refine co_get X hH 190 (by decide) eO190 rfl inBX11 8 (by decide) rfl bw580 dX11_done_61 ?_
    refine co_getN X hH 197 (by decide) eO197 rfl inBX4 3 (by decide) rfl bw454 dX11_done_64 ?_
    refine lv_iload_n hx hb dX11_done_67 rfl (lv_at hl 1 rfl) ?_
    refine cGi (cVrun (rest := []) X (cl_X5_at l G w 21 (by decide) a1 _ rfl) bw641 bw628 bw629 bw91 bw630 cn_X5_at ⟨rfl, rfl, Nat.le_of_ble_eq_true rfl, Nat.le_of_ble_eq_true rfl⟩ (c_recR X hH (by decide)) cA_g hH hS hl rfl (Nat.le_of_ble_eq_true rfl) dX11_done_68) hS (fun H locs hH hS => ?_)
    subst hQ
    exact cEi X hH hS (hf) dX11_done_71
  have hf := fo_f hc1 hf
  by_cases hc2 : a2 = 2
  · have hf := fo_t hc2 hf
    refine lv_tableIn (tgt := 72) hx hb dX11_done_21 (by rw [hc2]; decide) (by rw [hc2]; decide) (by rw [hc2]; rfl) (by decide) ?_
    refine lv_aload_n hx hb dX11_done_72 rfl (lv_at hl 0 rfl) ?_
    refine co_get X hH 190 (by decide) eO190 rfl inBX11 8 (by decide) rfl bw580 dX11_done_73 ?_
    refine co_getN X hH 197 (by decide) eO197 rfl inBX4 4 (by decide) rfl bw456 dX11_done_76 ?_
    refine lv_iload_n hx hb dX11_done_79 rfl (lv_at hl 1 rfl) ?_
    refine cGi (cVrun (rest := []) X (cl_X5_at l G w 22 (by decide) a1 _ rfl) bw641 bw628 bw629 bw91 bw630 cn_X5_at ⟨rfl, rfl, Nat.le_of_ble_eq_true rfl, Nat.le_of_ble_eq_true rfl⟩ (c_recR X hH (by decide)) cA_g hH hS hl rfl (Nat.le_of_ble_eq_true rfl) dX11_done_80) hS (fun H locs hH hS => ?_)
    subst hQ
    exact cEi X hH hS (hf) dX11_done_83
  have hf := fo_f hc2 hf
  refine lv_tableOut (tgt := 84) hx hb dX11_done_21 (sw_out (ks := [0, 1, 2]) (by intro k hk; simp only [List.mem_cons, List.not_mem_nil, or_false] at hk; rcases hk with rfl | rfl | rfl <;> assumption) (sw_all 0 [0, 1, 2] (by decide))) (by decide) ?_
  refine lv_iconst (v := (-1)) hx hb dX11_done_84 (by decide) ?_
  subst hQ
  exact cEi X hH hS (hf) dX11_done_85
