def f_X11_leaf (w : CW) (a1 : Int32) (a2 : Int32) (a3 : Int32) (a4 : Int32) : Int32 × CW := (if (f_X2_isKind a1) = 0 then (((-1), w)) else (if a4 < 0 then (((-1), w)) else (if a4 < 10 then (if a2 < 0 then (((-2), w)) else (if 29 < a2 then (((-2), w)) else (if a3 < 0 then (((-2), w)) else (if a3 ≤ 255 then (if (f_X5_isFull w 23) = 0 then (nmk (f_X2_lay w a1 a2 a3 a4) fun q72 => ((q72.1, q72.2))) else (((-4), w))) else (((-2), w)))))) else (((-1), w)))))
abbrev rm_X11_leaf : Room := { frames := 3, cells := 0, slots := 0, locals := 45 }
theorem cn_X11_leaf : CN yX11_leaf 4 := ⟨by decide +kernel, by decide +kernel, by decide +kernel⟩
set_option maxHeartbeats 4000000 in
set_option maxRecDepth 100000 in
theorem c_X11_leaf (l : Launch) (G : GX) (w : CW) (a1 : Int32) (a2 : Int32) (a3 : Int32) (a4 : Int32) (q : Int32 × CW) (hf : f_X11_leaf w a1 a2 a3 a4 = q) : MI l G yX11_leaf cX11_leaf 5 (some .int) rm_X11_leaf [.ref (G.2.2.1 190), .int a1, .int a2, .int a3, .int a4] (cA G) (cH G w) (cH G q.2) q.1 := by
  refine cM_start (by decide +kernel) (Nat.le_of_ble_eq_true rfl) ?_
  intro p e s m below meth c ls X hH hl
  have hS : va_S (cA G) s.heap s.heap [] := va_S.rf
  have hx := X.1.1
  have hb := X.1.2.1
  generalize hargs : ([.ref (G.2.2.1 190), .int a1, .int a2, .int a3, .int a4] : List Value).toArray = args at X ⊢
  generalize hQ : MQ below (QI (cA G) (cH G q.2) q.1) args s 0 0 (cA G) = Q
  have hl : lv_has ls 5 [(0, .ref (G.2.2.1 190)), (1, .int a1), (2, .int a2), (3, .int a3), (4, .int a4)] := hl
  unfold f_X11_leaf at hf
  refine lv_iload_n hx hb dX11_leaf_0 rfl (lv_at hl 1 rfl) ?_
  refine cGi (cSrun (rest := []) X (c_X2_isKind l G (cH G w) (cA G) cA_g a1 _ rfl) bw1090 bw1091 bw102 bw1092 cn_X2_isKind ⟨rfl, rfl, Nat.le_of_ble_eq_true rfl, Nat.le_of_ble_eq_true rfl⟩ cA_g hH hS hl rfl (Nat.le_of_ble_eq_true rfl) dX11_leaf_1) hS (fun H locs hH hS => ?_)
  refine lv_if_eq (tgt := 19) hx hb dX11_leaf_4 (by decide) (fun hc => ?_) (fun hc => ?_)
  · have hf := fo_t hc hf
    refine lv_iconst (v := (-1)) hx hb dX11_leaf_19 (by decide) ?_
    subst hQ
    exact cEi X (cH2 (hf) hH) hS (pf1 (hf)) dX11_leaf_20
  have hf := fo_f hc hf
  refine lv_iload hx hb dX11_leaf_7 (lv_at hl 4 rfl) ?_
  refine lv_if_lt (tgt := 19) hx hb dX11_leaf_9 (by decide) (fun hc => ?_) (fun hc => ?_)
  · have hf := fo_t hc hf
    refine lv_iconst (v := (-1)) hx hb dX11_leaf_19 (by decide) ?_
    subst hQ
    exact cEi X (cH2 (hf) hH) hS (pf1 (hf)) dX11_leaf_20
  have hf := fo_f hc hf
  refine lv_iload hx hb dX11_leaf_12 (lv_at hl 4 rfl) ?_
  refine lv_bipush (v := 10) hx hb dX11_leaf_14 (by decide) ?_
  refine lv_icmp_lt (tgt := 21) hx hb dX11_leaf_16 (by decide) (fun hc => ?_) (fun hc => ?_)
  rotate_left
  · have hf := fo_f hc hf
    refine lv_iconst (v := (-1)) hx hb dX11_leaf_19 (by decide) ?_
    subst hQ
    exact cEi X (cH2 (hf) hH) hS (pf1 (hf)) dX11_leaf_20
  have hf := fo_t hc hf
  refine lv_iload_n hx hb dX11_leaf_21 rfl (lv_at hl 2 rfl) ?_
  refine lv_if_lt (tgt := 42) hx hb dX11_leaf_22 (by decide) (fun hc => ?_) (fun hc => ?_)
  · have hf := fo_t hc hf
    refine lv_bipush (v := (-2)) hx hb dX11_leaf_42 (by decide) ?_
    subst hQ
    exact cEi X (cH2 (hf) hH) hS (pf1 (hf)) dX11_leaf_44
  have hf := fo_f hc hf
  refine lv_iload_n hx hb dX11_leaf_25 rfl (lv_at hl 2 rfl) ?_
  refine lv_bipush (v := 29) hx hb dX11_leaf_26 (by decide) ?_
  refine lv_icmp_gt (tgt := 42) hx hb dX11_leaf_28 (by decide) (fun hc => ?_) (fun hc => ?_)
  · have hf := fo_t hc hf
    refine lv_bipush (v := (-2)) hx hb dX11_leaf_42 (by decide) ?_
    subst hQ
    exact cEi X (cH2 (hf) hH) hS (pf1 (hf)) dX11_leaf_44
  have hf := fo_f hc hf
  refine lv_iload_n hx hb dX11_leaf_31 rfl (lv_at hl 3 rfl) ?_
  refine lv_if_lt (tgt := 42) hx hb dX11_leaf_32 (by decide) (fun hc => ?_) (fun hc => ?_)
  · have hf := fo_t hc hf
    refine lv_bipush (v := (-2)) hx hb dX11_leaf_42 (by decide) ?_
    subst hQ
    exact cEi X (cH2 (hf) hH) hS (pf1 (hf)) dX11_leaf_44
  have hf := fo_f hc hf
  refine lv_iload_n hx hb dX11_leaf_35 rfl (lv_at hl 3 rfl) ?_
  refine lv_sipush (v := 255) hx hb dX11_leaf_36 (by decide) ?_
  refine lv_icmp_le (tgt := 45) hx hb dX11_leaf_39 (by decide) (fun hc => ?_) (fun hc => ?_)
  rotate_left
  · have hf := fo_f hc hf
    refine lv_bipush (v := (-2)) hx hb dX11_leaf_42 (by decide) ?_
    subst hQ
    exact cEi X (cH2 (hf) hH) hS (pf1 (hf)) dX11_leaf_44
  have hf := fo_t hc hf
  refine lv_aload_n hx hb dX11_leaf_45 rfl (lv_at hl 0 rfl) ?_
  refine co_get X hH 190 (by decide) eO190 rfl inBX11 9 (by decide) rfl bw581 dX11_leaf_46 ?_
  refine co_getN X hH 198 (by decide) eO198 rfl inBX2 0 (by decide) rfl bw478 dX11_leaf_49 ?_
  refine cGi (cVrun (rest := []) X (c_X5_isFull l G w 23 (by decide) _ rfl) bw1073 bw694 bw695 bw91 bw696 cn_X5_isFull ⟨rfl, rfl, Nat.le_of_ble_eq_true rfl, Nat.le_of_ble_eq_true rfl⟩ (c_recR X hH (by decide)) cA_g hH hS hl rfl (Nat.le_of_ble_eq_true rfl) dX11_leaf_52) hS (fun H locs hH hS => ?_)
  refine lv_if_eq (tgt := 63) hx hb dX11_leaf_55 (by decide) (fun hc => ?_) (fun hc => ?_)
  rotate_left
  · have hf := fo_f hc hf
    refine lv_bipush (v := (-4)) hx hb dX11_leaf_58 (by decide) ?_
    refine lv_goto (tgt := 75) hx hb dX11_leaf_60 (by decide) ?_
    subst hQ
    exact cEi X (cH2 (hf) hH) hS (pf1 (hf)) dX11_leaf_75
  have hf := fo_t hc hf
  refine lv_aload_n hx hb dX11_leaf_63 rfl (lv_at hl 0 rfl) ?_
  refine co_get X hH 190 (by decide) eO190 rfl inBX11 9 (by decide) rfl bw581 dX11_leaf_64 ?_
  refine lv_iload_n hx hb dX11_leaf_67 rfl (lv_at hl 1 rfl) ?_
  refine lv_iload_n hx hb dX11_leaf_68 rfl (lv_at hl 2 rfl) ?_
  refine lv_iload_n hx hb dX11_leaf_69 rfl (lv_at hl 3 rfl) ?_
  refine lv_iload hx hb dX11_leaf_70 (lv_at hl 4 rfl) ?_
  obtain ⟨q72, hq72, hf⟩ := nm_x hf
  have hq72 := hq72.symm
  refine cGi (cVrun (rest := []) X (c_X2_lay l G w a1 a2 a3 a4 q72 hq72) bw1093 bw1094 bw1095 bw102 bw1096 cn_X2_lay ⟨rfl, rfl, Nat.le_of_ble_eq_true rfl, Nat.le_of_ble_eq_true rfl⟩ (c_rec X hH 198 (by decide) eO198 rfl) cA_g hH hS hl rfl (Nat.le_of_ble_eq_true rfl) dX11_leaf_72) hS (fun H locs hH hS => ?_)
  subst hQ
  exact cEi X (cH2 (hf) hH) hS (pf1 (hf)) dX11_leaf_75
def f_X11_shows (w : CW) (a1 : Int32) (a2 : Int32) : Option (Int32) := (if (f_X2_has w a1) = 0 then (some (-1)) else (if a2 = 0 then (Option.bind (f_X2_costOf w a1) fun q45 => (some q45)) else (if a2 = 1 then (Option.bind (f_X2_faceOf w a1) fun q54 => (some q54)) else (some (-1)))))
abbrev rm_X11_shows : Room := { frames := 4, cells := 0, slots := 0, locals := 64 }
theorem cn_X11_shows : CN yX11_shows 2 := ⟨by decide +kernel, by decide +kernel, by decide +kernel⟩
set_option maxHeartbeats 4000000 in
set_option maxRecDepth 100000 in
theorem c_X11_shows (l : Launch) (G : GX) (w : CW) (a1 : Int32) (a2 : Int32) (q : Int32) (hf : f_X11_shows w a1 a2 = some q) : MI l G yX11_shows cX11_shows 3 (some .int) rm_X11_shows [.ref (G.2.2.1 190), .int a1, .int a2] (cA G) (cH G w) (cH G w) q := by
  refine cM_start (by decide +kernel) (Nat.le_of_ble_eq_true rfl) ?_
  intro p e s m below meth c ls X hH hl
  have hS : va_S (cA G) s.heap s.heap [] := va_S.rf
  have hx := X.1.1
  have hb := X.1.2.1
  generalize hargs : ([.ref (G.2.2.1 190), .int a1, .int a2] : List Value).toArray = args at X ⊢
  generalize hQ : MQ below (QI (cA G) (cH G w) q) args s 0 0 (cA G) = Q
  have hl : lv_has ls 3 [(0, .ref (G.2.2.1 190)), (1, .int a1), (2, .int a2)] := hl
  unfold f_X11_shows at hf
  refine lv_aload_n hx hb dX11_shows_0 rfl (lv_at hl 0 rfl) ?_
  refine co_get X hH 190 (by decide) eO190 rfl inBX11 9 (by decide) rfl bw581 dX11_shows_1 ?_
  refine lv_iload_n hx hb dX11_shows_4 rfl (lv_at hl 1 rfl) ?_
  refine cGi (cVrun (rest := []) X (c_X2_has l G w a1 _ rfl) bw1103 bw1104 bw1105 bw102 bw1106 cn_X2_has ⟨rfl, rfl, Nat.le_of_ble_eq_true rfl, Nat.le_of_ble_eq_true rfl⟩ (c_rec X hH 198 (by decide) eO198 rfl) cA_g hH hS hl rfl (Nat.le_of_ble_eq_true rfl) dX11_shows_5) hS (fun H locs hH hS => ?_)
  refine lv_if_ne (tgt := 13) hx hb dX11_shows_8 (by decide) (fun hc => ?_) (fun hc => ?_)
  rotate_left
  · have hf := fo_t hc hf
    refine lv_iconst (v := (-1)) hx hb dX11_shows_11 (by decide) ?_
    subst hQ
    exact cEi X hH hS (so_s hf) dX11_shows_12
  have hf := fo_f hc hf
  refine lv_iload_n hx hb dX11_shows_13 rfl (lv_at hl 2 rfl) ?_
  by_cases hc0 : a2 = 0
  · have hf := fo_t hc0 hf
    refine lv_lookup (tgt := 40) hx hb dX11_shows_14 (by decide) (by rw [hc0] <;> rfl) (by decide) ?_
    refine lv_aload_n hx hb dX11_shows_40 rfl (lv_at hl 0 rfl) ?_
    refine co_get X hH 190 (by decide) eO190 rfl inBX11 9 (by decide) rfl bw581 dX11_shows_41 ?_
    refine lv_iload_n hx hb dX11_shows_44 rfl (lv_at hl 1 rfl) ?_
    obtain ⟨q45, hq45, hf⟩ := bd_s hf
    refine cGi (cVrun (rest := []) X (c_X2_costOf l G w a1 q45 hq45) bw1108 bw1109 bw1110 bw102 bw1111 cn_X2_costOf ⟨rfl, rfl, Nat.le_of_ble_eq_true rfl, Nat.le_of_ble_eq_true rfl⟩ (c_rec X hH 198 (by decide) eO198 rfl) cA_g hH hS hl rfl (Nat.le_of_ble_eq_true rfl) dX11_shows_45) hS (fun H locs hH hS => ?_)
    subst hQ
    exact cEi X hH hS (so_s hf) dX11_shows_48
  have hf := fo_f hc0 hf
  by_cases hc1 : a2 = 1
  · have hf := fo_t hc1 hf
    refine lv_lookup (tgt := 49) hx hb dX11_shows_14 (by decide) (by rw [hc1] <;> rfl) (by decide) ?_
    refine lv_aload_n hx hb dX11_shows_49 rfl (lv_at hl 0 rfl) ?_
    refine co_get X hH 190 (by decide) eO190 rfl inBX11 9 (by decide) rfl bw581 dX11_shows_50 ?_
    refine lv_iload_n hx hb dX11_shows_53 rfl (lv_at hl 1 rfl) ?_
    obtain ⟨q54, hq54, hf⟩ := bd_s hf
    refine cGi (cVrun (rest := []) X (c_X2_faceOf l G w a1 q54 hq54) bw1114 bw1115 bw1116 bw102 bw1117 cn_X2_faceOf ⟨rfl, rfl, Nat.le_of_ble_eq_true rfl, Nat.le_of_ble_eq_true rfl⟩ (c_rec X hH 198 (by decide) eO198 rfl) cA_g hH hS hl rfl (Nat.le_of_ble_eq_true rfl) dX11_shows_54) hS (fun H locs hH hS => ?_)
    subst hQ
    exact cEi X hH hS (so_s hf) dX11_shows_57
  have hf := fo_f hc1 hf
  refine lv_lookup (off := 44) (tgt := 58) hx hb dX11_shows_14 (by decide) ((lv_osw hc0 (by decide)).trans ((lv_osw hc1 (by decide)).trans rfl)) (by decide) ?_
  refine lv_iconst (v := (-1)) hx hb dX11_shows_58 (by decide) ?_
  subst hQ
  exact cEi X hH hS (so_s hf) dX11_shows_59
def f_X11_as (w : CW) (a1 : Int32) (a2 : Int32) : Int32 := (if (f_X2_has w a1) = 0 then ((-1)) else (if (f_X2_isKind a2) = 0 then ((-1)) else ((if (f_X2_isUnder (rAt w 23 a1) a2) = 0 then (-6) else (rAt w 24 a1)))))
abbrev rm_X11_as : Room := { frames := 3, cells := 0, slots := 0, locals := 41 }
theorem cn_X11_as : CN yX11_as 2 := ⟨by decide +kernel, by decide +kernel, by decide +kernel⟩
set_option maxHeartbeats 4000000 in
set_option maxRecDepth 100000 in
theorem c_X11_as (l : Launch) (G : GX) (w : CW) (a1 : Int32) (a2 : Int32) (q : Int32) (hf : f_X11_as w a1 a2 = q) : MI l G yX11_as cX11_as 3 (some .int) rm_X11_as [.ref (G.2.2.1 190), .int a1, .int a2] (cA G) (cH G w) (cH G w) q := by
  refine cM_start (by decide +kernel) (Nat.le_of_ble_eq_true rfl) ?_
  intro p e s m below meth c ls X hH hl
  have hS : va_S (cA G) s.heap s.heap [] := va_S.rf
  have hx := X.1.1
  have hb := X.1.2.1
  generalize hargs : ([.ref (G.2.2.1 190), .int a1, .int a2] : List Value).toArray = args at X ⊢
  generalize hQ : MQ below (QI (cA G) (cH G w) q) args s 0 0 (cA G) = Q
  have hl : lv_has ls 3 [(0, .ref (G.2.2.1 190)), (1, .int a1), (2, .int a2)] := hl
  unfold f_X11_as at hf
  refine lv_aload_n hx hb dX11_as_0 rfl (lv_at hl 0 rfl) ?_
  refine co_get X hH 190 (by decide) eO190 rfl inBX11 9 (by decide) rfl bw581 dX11_as_1 ?_
  refine lv_iload_n hx hb dX11_as_4 rfl (lv_at hl 1 rfl) ?_
  refine cGi (cVrun (rest := []) X (c_X2_has l G w a1 _ rfl) bw1103 bw1104 bw1105 bw102 bw1106 cn_X2_has ⟨rfl, rfl, Nat.le_of_ble_eq_true rfl, Nat.le_of_ble_eq_true rfl⟩ (c_rec X hH 198 (by decide) eO198 rfl) cA_g hH hS hl rfl (Nat.le_of_ble_eq_true rfl) dX11_as_5) hS (fun H locs hH hS => ?_)
  refine lv_if_eq (tgt := 18) hx hb dX11_as_8 (by decide) (fun hc => ?_) (fun hc => ?_)
  · have hf := fo_t hc hf
    refine lv_iconst (v := (-1)) hx hb dX11_as_18 (by decide) ?_
    subst hQ
    exact cEi X hH hS (hf) dX11_as_19
  have hf := fo_f hc hf
  refine lv_iload_n hx hb dX11_as_11 rfl (lv_at hl 2 rfl) ?_
  refine cGi (cSrun (rest := []) X (c_X2_isKind l G (cH G w) (cA G) cA_g a2 _ rfl) bw1090 bw1091 bw102 bw1092 cn_X2_isKind ⟨rfl, rfl, Nat.le_of_ble_eq_true rfl, Nat.le_of_ble_eq_true rfl⟩ cA_g hH hS hl rfl (Nat.le_of_ble_eq_true rfl) dX11_as_12) hS (fun H locs hH hS => ?_)
  refine lv_if_ne (tgt := 20) hx hb dX11_as_15 (by decide) (fun hc => ?_) (fun hc => ?_)
  rotate_left
  · have hf := fo_t hc hf
    refine lv_iconst (v := (-1)) hx hb dX11_as_18 (by decide) ?_
    subst hQ
    exact cEi X hH hS (hf) dX11_as_19
  have hf := fo_f hc hf
  refine lv_aload_n hx hb dX11_as_20 rfl (lv_at hl 0 rfl) ?_
  refine co_get X hH 190 (by decide) eO190 rfl inBX11 9 (by decide) rfl bw581 dX11_as_21 ?_
  refine co_getN X hH 198 (by decide) eO198 rfl inBX2 0 (by decide) rfl bw478 dX11_as_24 ?_
  refine lv_iload_n hx hb dX11_as_27 rfl (lv_at hl 1 rfl) ?_
  refine cGi (cVrun (rest := []) X (cl_X5_at l G w 23 (by decide) a1 _ rfl) bw641 bw628 bw629 bw91 bw630 cn_X5_at ⟨rfl, rfl, Nat.le_of_ble_eq_true rfl, Nat.le_of_ble_eq_true rfl⟩ (c_recR X hH (by decide)) cA_g hH hS hl rfl (Nat.le_of_ble_eq_true rfl) dX11_as_28) hS (fun H locs hH hS => ?_)
  refine lv_iload_n hx hb dX11_as_31 rfl (lv_at hl 2 rfl) ?_
  refine cGi (cSrun (rest := []) X (c_X2_isUnder l G (cH G w) (cA G) cA_g (rAt w 23 a1) a2 _ rfl) bw1123 bw1124 bw102 bw1125 cn_X2_isUnder ⟨rfl, rfl, Nat.le_of_ble_eq_true rfl, Nat.le_of_ble_eq_true rfl⟩ cA_g hH hS hl rfl (Nat.le_of_ble_eq_true rfl) dX11_as_32) hS (fun H locs hH hS => ?_)
  have hJ : ∀ (H : Heap) (locs : List Loc), cH G w H → va_S (cA G) s.heap H locs → W p l e rm_X11_as s m args below meth c H locs 0 0 Q (F0 m 54 ls [.int (if (f_X2_isUnder (rAt w 23 a1) a2) = 0 then (-6) else (rAt w 24 a1))]) := by
    intro H locs hH hS
    subst hQ
    exact cEi X hH hS (hf) dX11_as_54
  refine lv_if_eq (tgt := 52) hx hb dX11_as_35 (by decide) (fun hc35 => ?_) (fun hc35 => ?_)
  · refine lv_bipush (v := (-6)) hx hb dX11_as_52 (by decide) ?_
    exact W.eq (by rw [if_pos hc35] <;> rfl) (hJ _ _ hH hS)
  · refine lv_aload_n hx hb dX11_as_38 rfl (lv_at hl 0 rfl) ?_
    refine co_get X hH 190 (by decide) eO190 rfl inBX11 9 (by decide) rfl bw581 dX11_as_39 ?_
    refine co_getN X hH 198 (by decide) eO198 rfl inBX2 1 (by decide) rfl bw480 dX11_as_42 ?_
    refine lv_iload_n hx hb dX11_as_45 rfl (lv_at hl 1 rfl) ?_
    refine cGi (cVrun (rest := []) X (cl_X5_at l G w 24 (by decide) a1 _ rfl) bw641 bw628 bw629 bw91 bw630 cn_X5_at ⟨rfl, rfl, Nat.le_of_ble_eq_true rfl, Nat.le_of_ble_eq_true rfl⟩ (c_recR X hH (by decide)) cA_g hH hS hl rfl (Nat.le_of_ble_eq_true rfl) dX11_as_46) hS (fun H locs hH hS => ?_)
    refine lv_goto (tgt := 54) hx hb dX11_as_49 (by decide) ?_
    exact W.eq (by rw [if_neg hc35] <;> rfl) (hJ _ _ hH hS)
def f_X11_copies (w : CW) (a1 : Int32) : Option (Int32 × CW) := (if a1 < 0 then (some ((-2), w)) else (if a1 < 1024 then (Option.bind (f_X2_fewestCopies w a1) fun q21 => (some (q21.1, q21.2))) else (some ((-2), w))))
abbrev rm_X11_copies : Room := { frames := 4, cells := 0, slots := 0, locals := 68 }
theorem cn_X11_copies : CN yX11_copies 1 := ⟨by decide +kernel, by decide +kernel, by decide +kernel⟩
set_option maxHeartbeats 4000000 in
set_option maxRecDepth 100000 in
theorem c_X11_copies (l : Launch) (G : GX) (w : CW) (a1 : Int32) (q : Int32 × CW) (hf : f_X11_copies w a1 = some q) : MI l G yX11_copies cX11_copies 2 (some .int) rm_X11_copies [.ref (G.2.2.1 190), .int a1] (cA G) (cH G w) (cH G q.2) q.1 := by
  refine cM_start (by decide +kernel) (Nat.le_of_ble_eq_true rfl) ?_
  intro p e s m below meth c ls X hH hl
  have hS : va_S (cA G) s.heap s.heap [] := va_S.rf
  have hx := X.1.1
  have hb := X.1.2.1
  generalize hargs : ([.ref (G.2.2.1 190), .int a1] : List Value).toArray = args at X ⊢
  generalize hQ : MQ below (QI (cA G) (cH G q.2) q.1) args s 0 0 (cA G) = Q
  have hl : lv_has ls 2 [(0, .ref (G.2.2.1 190)), (1, .int a1)] := hl
  unfold f_X11_copies at hf
  refine lv_iload_n hx hb dX11_copies_0 rfl (lv_at hl 1 rfl) ?_
  refine lv_if_lt (tgt := 11) hx hb dX11_copies_1 (by decide) (fun hc => ?_) (fun hc => ?_)
  · have hf := fo_t hc hf
    refine lv_bipush (v := (-2)) hx hb dX11_copies_11 (by decide) ?_
    refine lv_goto (tgt := 24) hx hb dX11_copies_13 (by decide) ?_
    subst hQ
    exact cEi X (cH2 (so_s hf) hH) hS (pf1 (so_s hf)) dX11_copies_24
  have hf := fo_f hc hf
  refine lv_iload_n hx hb dX11_copies_4 rfl (lv_at hl 1 rfl) ?_
  refine lv_sipush (v := 1024) hx hb dX11_copies_5 (by decide) ?_
  refine lv_icmp_lt (tgt := 16) hx hb dX11_copies_8 (by decide) (fun hc => ?_) (fun hc => ?_)
  rotate_left
  · have hf := fo_f hc hf
    refine lv_bipush (v := (-2)) hx hb dX11_copies_11 (by decide) ?_
    refine lv_goto (tgt := 24) hx hb dX11_copies_13 (by decide) ?_
    subst hQ
    exact cEi X (cH2 (so_s hf) hH) hS (pf1 (so_s hf)) dX11_copies_24
  have hf := fo_t hc hf
  refine lv_aload_n hx hb dX11_copies_16 rfl (lv_at hl 0 rfl) ?_
  refine co_get X hH 190 (by decide) eO190 rfl inBX11 9 (by decide) rfl bw581 dX11_copies_17 ?_
  refine lv_iload_n hx hb dX11_copies_20 rfl (lv_at hl 1 rfl) ?_
  obtain ⟨q21, hq21, hf⟩ := bd_s hf
  refine cGi (cVrun (rest := []) X (c_X2_fewestCopies l G w a1 q21 hq21) bw1130 bw1131 bw1132 bw102 bw1133 cn_X2_fewestCopies ⟨rfl, rfl, Nat.le_of_ble_eq_true rfl, Nat.le_of_ble_eq_true rfl⟩ (c_rec X hH 198 (by decide) eO198 rfl) cA_g hH hS hl rfl (Nat.le_of_ble_eq_true rfl) dX11_copies_21) hS (fun H locs hH hS => ?_)
  subst hQ
  exact cEi X (cH2 (so_s hf) hH) hS (pf1 (so_s hf)) dX11_copies_24
def f_X11_state (w : CW) (a1 : Int32) : Int32 × CW := (if a1 < 0 then (((-2), w)) else (if a1 ≤ 65535 then (if (rHas w 27 a1) = 0 then (nmk (rNumber w 27 a1) fun q39 => ((q39.1, q39.2))) else (((-3), w))) else (((-2), w))))
abbrev rm_X11_state : Room := { frames := 3, cells := 0, slots := 0, locals := 43 }
theorem cn_X11_state : CN yX11_state 1 := ⟨by decide +kernel, by decide +kernel, by decide +kernel⟩
set_option maxHeartbeats 4000000 in
set_option maxRecDepth 100000 in
theorem c_X11_state (l : Launch) (G : GX) (w : CW) (a1 : Int32) (q : Int32 × CW) (hf : f_X11_state w a1 = q) : MI l G yX11_state cX11_state 2 (some .int) rm_X11_state [.ref (G.2.2.1 190), .int a1] (cA G) (cH G w) (cH G q.2) q.1 := by
  refine cM_start (by decide +kernel) (Nat.le_of_ble_eq_true rfl) ?_
  intro p e s m below meth c ls X hH hl
  have hS : va_S (cA G) s.heap s.heap [] := va_S.rf
  have hx := X.1.1
  have hb := X.1.2.1
  generalize hargs : ([.ref (G.2.2.1 190), .int a1] : List Value).toArray = args at X ⊢
  generalize hQ : MQ below (QI (cA G) (cH G q.2) q.1) args s 0 0 (cA G) = Q
  have hl : lv_has ls 2 [(0, .ref (G.2.2.1 190)), (1, .int a1)] := hl
  unfold f_X11_state at hf
  refine lv_iload_n hx hb dX11_state_0 rfl (lv_at hl 1 rfl) ?_
  refine lv_if_lt (tgt := 11) hx hb dX11_state_1 (by decide) (fun hc => ?_) (fun hc => ?_)
  · have hf := fo_t hc hf
    refine lv_bipush (v := (-2)) hx hb dX11_state_11 (by decide) ?_
    subst hQ
    exact cEi X (cH2 (hf) hH) hS (pf1 (hf)) dX11_state_13
  have hf := fo_f hc hf
  refine lv_iload_n hx hb dX11_state_4 rfl (lv_at hl 1 rfl) ?_
  refine lv_ldcw (v := 65535) hx hb X.1.2.2.2.1 (X.w bw1151) dX11_state_5 ?_
  refine lv_icmp_le (tgt := 14) hx hb dX11_state_8 (by decide) (fun hc => ?_) (fun hc => ?_)
  rotate_left
  · have hf := fo_f hc hf
    refine lv_bipush (v := (-2)) hx hb dX11_state_11 (by decide) ?_
    subst hQ
    exact cEi X (cH2 (hf) hH) hS (pf1 (hf)) dX11_state_13
  have hf := fo_t hc hf
  refine lv_aload_n hx hb dX11_state_14 rfl (lv_at hl 0 rfl) ?_
  refine co_get X hH 190 (by decide) eO190 rfl inBX11 10 (by decide) rfl bw582 dX11_state_15 ?_
  refine co_getN X hH 199 (by decide) eO199 rfl inBX1 0 (by decide) rfl bw505 dX11_state_18 ?_
  refine lv_iload_n hx hb dX11_state_21 rfl (lv_at hl 1 rfl) ?_
  refine cGz (cVrun (rest := []) X (cl_X5_has l G w 27 (by decide) a1 _ rfl) bw1152 bw1153 bw1154 bw91 bw1155 cn_X5_has ⟨rfl, rfl, Nat.le_of_ble_eq_true rfl, Nat.le_of_ble_eq_true rfl⟩ (c_recR X hH (by decide)) cA_g hH hS hl rfl (Nat.le_of_ble_eq_true rfl) dX11_state_22) hS (fun _ H locs hH hS => ?_)
  refine lv_if_eq (tgt := 31) hx hb dX11_state_25 (by decide) (fun hc => ?_) (fun hc => ?_)
  rotate_left
  · have hf := fo_f hc hf
    refine lv_bipush (v := (-3)) hx hb dX11_state_28 (by decide) ?_
    subst hQ
    exact cEi X (cH2 (hf) hH) hS (pf1 (hf)) dX11_state_30
  have hf := fo_t hc hf
  refine lv_aload_n hx hb dX11_state_31 rfl (lv_at hl 0 rfl) ?_
  refine co_get X hH 190 (by decide) eO190 rfl inBX11 10 (by decide) rfl bw582 dX11_state_32 ?_
  refine co_getN X hH 199 (by decide) eO199 rfl inBX1 0 (by decide) rfl bw505 dX11_state_35 ?_
  refine lv_iload_n hx hb dX11_state_38 rfl (lv_at hl 1 rfl) ?_
  obtain ⟨q39, hq39, hf⟩ := nm_x hf
  have hq39 := hq39.symm
  refine cGi (cVrun (rest := []) X (cl_X5_number l G w 27 (by decide) a1 q39 hq39) bw1157 bw817 bw818 bw91 bw819 cn_X5_number ⟨rfl, rfl, Nat.le_of_ble_eq_true rfl, Nat.le_of_ble_eq_true rfl⟩ (c_recR X hH (by decide)) cA_g hH hS hl rfl (Nat.le_of_ble_eq_true rfl) dX11_state_39) hS (fun H locs hH hS => ?_)
  subst hQ
  exact cEi X (cH2 (hf) hH) hS (pf1 (hf)) dX11_state_42
def f_X11_allowed (w : CW) (a1 : Int32) : Option (Int32 × CW) := (if a1 < (-1) then (some ((-1), w)) else (if a1 < (f_X5_size w 27) then (Option.bind (f_X1_countStateOrders w) fun q25 => (if 0 ≤ a1 then (some ((if q25.1 ≤ 0 then (-1) else (rAt q25.2 52 a1)), q25.2)) else (some (q25.1, q25.2)))) else (some ((-1), w))))
abbrev rm_X11_allowed : Room := { frames := 38, cells := 0, slots := 0, locals := 677 }
theorem cn_X11_allowed : CN yX11_allowed 1 := ⟨by decide +kernel, by decide +kernel, by decide +kernel⟩
set_option maxHeartbeats 4000000 in
set_option maxRecDepth 100000 in
theorem c_X11_allowed (l : Launch) (G : GX) (w : CW) (a1 : Int32) (q : Int32 × CW) (hf : f_X11_allowed w a1 = some q) : MI l G yX11_allowed cX11_allowed 3 (some .int) rm_X11_allowed [.ref (G.2.2.1 190), .int a1] (cA G) (cH G w) (cH G q.2) q.1 := by
  refine cM_start (by decide +kernel) (Nat.le_of_ble_eq_true rfl) ?_
  intro p e s m below meth c ls X hH hl
  have hS : va_S (cA G) s.heap s.heap [] := va_S.rf
  have hx := X.1.1
  have hb := X.1.2.1
  generalize hargs : ([.ref (G.2.2.1 190), .int a1] : List Value).toArray = args at X ⊢
  generalize hQ : MQ below (QI (cA G) (cH G q.2) q.1) args s 0 0 (cA G) = Q
  have hl : lv_has ls 3 [(0, .ref (G.2.2.1 190)), (1, .int a1)] := hl
  unfold f_X11_allowed at hf
  refine lv_iload_n hx hb dX11_allowed_0 rfl (lv_at hl 1 rfl) ?_
  refine lv_iconst (v := (-1)) hx hb dX11_allowed_1 (by decide) ?_
  refine lv_icmp_lt (tgt := 19) hx hb dX11_allowed_2 (by decide) (fun hc => ?_) (fun hc => ?_)
  · have hf := fo_t hc hf
    refine lv_iconst (v := (-1)) hx hb dX11_allowed_19 (by decide) ?_
    subst hQ
    exact cEi X (cH2 (so_s hf) hH) hS (pf1 (so_s hf)) dX11_allowed_20
  have hf := fo_f hc hf
  refine lv_iload_n hx hb dX11_allowed_5 rfl (lv_at hl 1 rfl) ?_
  refine lv_aload_n hx hb dX11_allowed_6 rfl (lv_at hl 0 rfl) ?_
  refine co_get X hH 190 (by decide) eO190 rfl inBX11 10 (by decide) rfl bw582 dX11_allowed_7 ?_
  refine co_getN X hH 199 (by decide) eO199 rfl inBX1 0 (by decide) rfl bw505 dX11_allowed_10 ?_
  refine cGi (cVrun (rest := [.int a1]) X (c_X5_size l G w 27 (by decide) _ rfl) bw676 bw624 bw625 bw91 bw626 cn_X5_size ⟨rfl, rfl, Nat.le_of_ble_eq_true rfl, Nat.le_of_ble_eq_true rfl⟩ (c_recR X hH (by decide)) cA_g hH hS hl rfl (Nat.le_of_ble_eq_true rfl) dX11_allowed_13) hS (fun H locs hH hS => ?_)
  refine lv_icmp_lt (tgt := 21) hx hb dX11_allowed_16 (by decide) (fun hc => ?_) (fun hc => ?_)
  rotate_left
  · have hf := fo_f hc hf
    refine lv_iconst (v := (-1)) hx hb dX11_allowed_19 (by decide) ?_
    subst hQ
    exact cEi X (cH2 (so_s hf) hH) hS (pf1 (so_s hf)) dX11_allowed_20
  have hf := fo_t hc hf
  refine lv_aload_n hx hb dX11_allowed_21 rfl (lv_at hl 0 rfl) ?_
  refine co_get X hH 190 (by decide) eO190 rfl inBX11 10 (by decide) rfl bw582 dX11_allowed_22 ?_
  obtain ⟨q25, hq25, hf⟩ := bd_s hf
  refine cGi (cVrun (rest := []) X (c_X1_countStateOrders l G w q25 hq25) bw1162 bw1163 bw1164 bw103 bw1165 cn_X1_countStateOrders ⟨rfl, rfl, Nat.le_of_ble_eq_true rfl, Nat.le_of_ble_eq_true rfl⟩ (c_rec X hH 199 (by decide) eO199 rfl) cA_g hH hS hl rfl (Nat.le_of_ble_eq_true rfl) dX11_allowed_25) hS (fun H locs hH hS => ?_)
  refine lv_istore_n (lv' := [(2, .int q25.1), (0, .ref (G.2.2.1 190)), (1, .int a1)]) hx hb dX11_allowed_28 rfl hl (by decide) rfl (fun ls hl => ?_)
  refine lv_iload_n hx hb dX11_allowed_29 rfl (lv_at hl 2 rfl) ?_
  refine lv_if_ge (tgt := 35) hx hb dX11_allowed_30 (by decide) (fun hc => ?_) (fun hc => ?_)
  rotate_left
  · have hf := fo_f hc hf
    refine lv_iload_n hx hb dX11_allowed_33 rfl (lv_at hl 0 rfl) ?_
    subst hQ
    exact cEi X (cH2 (so_s hf) hH) hS (pf1 (so_s hf)) dX11_allowed_34
  have hf := fo_t hc hf
  refine lv_iload_n hx hb dX11_allowed_35 rfl (lv_at hl 0 rfl) ?_
  have hJ : ∀ (H : Heap) (locs : List Loc), cH G q25.2 H → va_S (cA G) s.heap H locs → W p l e rm_X11_allowed s m args below meth c H locs 0 0 Q (F0 m 54 ls [.int (if q25.1 ≤ 0 then (-1) else (rAt q25.2 52 a1))]) := by
    intro H locs hH hS
    subst hQ
    exact cEi X (cH2 (so_s hf) hH) hS (pf1 (so_s hf)) dX11_allowed_54
  refine lv_if_le (tgt := 53) hx hb dX11_allowed_36 (by decide) (fun hc36 => ?_) (fun hc36 => ?_)
  · refine lv_iconst (v := (-1)) hx hb dX11_allowed_53 (by decide) ?_
    exact W.eq (by rw [if_pos hc36] <;> rfl) (hJ _ _ hH hS)
  · refine lv_aload_n hx hb dX11_allowed_39 rfl (lv_at hl 1 rfl) ?_
    refine co_get X hH 190 (by decide) eO190 rfl inBX11 10 (by decide) rfl bw582 dX11_allowed_40 ?_
    refine co_getN X hH 199 (by decide) eO199 rfl inBX1 4 (by decide) rfl bw512 dX11_allowed_43 ?_
    refine lv_iload_n hx hb dX11_allowed_46 rfl (lv_at hl 2 rfl) ?_
    refine cGi (cVrun (rest := []) X (cl_X5_at l G q25.2 52 (by decide) a1 _ rfl) bw641 bw628 bw629 bw91 bw630 cn_X5_at ⟨rfl, rfl, Nat.le_of_ble_eq_true rfl, Nat.le_of_ble_eq_true rfl⟩ (c_recR X hH (by decide)) cA_g hH hS hl rfl (Nat.le_of_ble_eq_true rfl) dX11_allowed_47) hS (fun H locs hH hS => ?_)
    refine lv_goto (tgt := 54) hx hb dX11_allowed_50 (by decide) ?_
    exact W.eq (by rw [if_neg hc36] <;> rfl) (hJ _ _ hH hS)
def f_X11_hand (w : CW) (a1 : Int32) : Int32 × CW := (if a1 < 0 then (((-2), w)) else (if a1 ≤ 9999 then (nmk (rNumber w 28 a1) fun q24 => ((q24.1, q24.2))) else (((-2), w))))
abbrev rm_X11_hand : Room := { frames := 2, cells := 0, slots := 0, locals := 21 }
theorem cn_X11_hand : CN yX11_hand 1 := ⟨by decide +kernel, by decide +kernel, by decide +kernel⟩
set_option maxHeartbeats 4000000 in
set_option maxRecDepth 100000 in
theorem c_X11_hand (l : Launch) (G : GX) (w : CW) (a1 : Int32) (q : Int32 × CW) (hf : f_X11_hand w a1 = q) : MI l G yX11_hand cX11_hand 2 (some .int) rm_X11_hand [.ref (G.2.2.1 190), .int a1] (cA G) (cH G w) (cH G q.2) q.1 := by
  refine cM_start (by decide +kernel) (Nat.le_of_ble_eq_true rfl) ?_
  intro p e s m below meth c ls X hH hl
  have hS : va_S (cA G) s.heap s.heap [] := va_S.rf
  have hx := X.1.1
  have hb := X.1.2.1
  generalize hargs : ([.ref (G.2.2.1 190), .int a1] : List Value).toArray = args at X ⊢
  generalize hQ : MQ below (QI (cA G) (cH G q.2) q.1) args s 0 0 (cA G) = Q
  have hl : lv_has ls 2 [(0, .ref (G.2.2.1 190)), (1, .int a1)] := hl
  unfold f_X11_hand at hf
  refine lv_iload_n hx hb dX11_hand_0 rfl (lv_at hl 1 rfl) ?_
  refine lv_if_lt (tgt := 11) hx hb dX11_hand_1 (by decide) (fun hc => ?_) (fun hc => ?_)
  · have hf := fo_t hc hf
    refine lv_bipush (v := (-2)) hx hb dX11_hand_11 (by decide) ?_
    refine lv_goto (tgt := 27) hx hb dX11_hand_13 (by decide) ?_
    subst hQ
    exact cEi X (cH2 (hf) hH) hS (pf1 (hf)) dX11_hand_27
  have hf := fo_f hc hf
  refine lv_iload_n hx hb dX11_hand_4 rfl (lv_at hl 1 rfl) ?_
  refine lv_sipush (v := 9999) hx hb dX11_hand_5 (by decide) ?_
  refine lv_icmp_le (tgt := 16) hx hb dX11_hand_8 (by decide) (fun hc => ?_) (fun hc => ?_)
  rotate_left
  · have hf := fo_f hc hf
    refine lv_bipush (v := (-2)) hx hb dX11_hand_11 (by decide) ?_
    refine lv_goto (tgt := 27) hx hb dX11_hand_13 (by decide) ?_
    subst hQ
    exact cEi X (cH2 (hf) hH) hS (pf1 (hf)) dX11_hand_27
  have hf := fo_t hc hf
  refine lv_aload_n hx hb dX11_hand_16 rfl (lv_at hl 0 rfl) ?_
  refine co_get X hH 190 (by decide) eO190 rfl inBX11 10 (by decide) rfl bw582 dX11_hand_17 ?_
  refine co_getN X hH 199 (by decide) eO199 rfl inBX1 1 (by decide) rfl bw507 dX11_hand_20 ?_
  refine lv_iload_n hx hb dX11_hand_23 rfl (lv_at hl 1 rfl) ?_
  obtain ⟨q24, hq24, hf⟩ := nm_x hf
  have hq24 := hq24.symm
  refine cGi (cVrun (rest := []) X (cl_X5_number l G w 28 (by decide) a1 q24 hq24) bw1157 bw817 bw818 bw91 bw819 cn_X5_number ⟨rfl, rfl, Nat.le_of_ble_eq_true rfl, Nat.le_of_ble_eq_true rfl⟩ (c_recR X hH (by decide)) cA_g hH hS hl rfl (Nat.le_of_ble_eq_true rfl) dX11_hand_24) hS (fun H locs hH hS => ?_)
  subst hQ
  exact cEi X (cH2 (hf) hH) hS (pf1 (hf)) dX11_hand_27
def f_X11_rival (w : CW) (a1 : Int32) (a2 : Int32) : Option (Int32 × CW) := (if a2 < 0 then (some ((-1), w)) else (if a2 ≤ 1 then (if a1 < 0 then (some ((-2), w)) else (if a1 ≤ 36 then (Option.bind (f_X1_findHands w a1) fun q29 => (some ((if a2 = 0 then (f_X1_hands q29) else (f_X1_rivals q29)), q29))) else (some ((-2), w)))) else (some ((-1), w))))
abbrev rm_X11_rival : Room := { frames := 6, cells := 0, slots := 0, locals := 117 }
theorem cn_X11_rival : CN yX11_rival 2 := ⟨by decide +kernel, by decide +kernel, by decide +kernel⟩
set_option maxHeartbeats 4000000 in
set_option maxRecDepth 100000 in
theorem c_X11_rival (l : Launch) (G : GX) (w : CW) (a1 : Int32) (a2 : Int32) (q : Int32 × CW) (hf : f_X11_rival w a1 a2 = some q) : MI l G yX11_rival cX11_rival 3 (some .int) rm_X11_rival [.ref (G.2.2.1 190), .int a1, .int a2] (cA G) (cH G w) (cH G q.2) q.1 := by
  refine cM_start (by decide +kernel) (Nat.le_of_ble_eq_true rfl) ?_
  intro p e s m below meth c ls X hH hl
  have hS : va_S (cA G) s.heap s.heap [] := va_S.rf
  have hx := X.1.1
  have hb := X.1.2.1
  generalize hargs : ([.ref (G.2.2.1 190), .int a1, .int a2] : List Value).toArray = args at X ⊢
  generalize hQ : MQ below (QI (cA G) (cH G q.2) q.1) args s 0 0 (cA G) = Q
  have hl : lv_has ls 3 [(0, .ref (G.2.2.1 190)), (1, .int a1), (2, .int a2)] := hl
  unfold f_X11_rival at hf
  refine lv_iload_n hx hb dX11_rival_0 rfl (lv_at hl 2 rfl) ?_
  refine lv_if_lt (tgt := 9) hx hb dX11_rival_1 (by decide) (fun hc => ?_) (fun hc => ?_)
  · have hf := fo_t hc hf
    refine lv_iconst (v := (-1)) hx hb dX11_rival_9 (by decide) ?_
    subst hQ
    exact cEi X (cH2 (so_s hf) hH) hS (pf1 (so_s hf)) dX11_rival_10
  have hf := fo_f hc hf
  refine lv_iload_n hx hb dX11_rival_4 rfl (lv_at hl 2 rfl) ?_
  refine lv_iconst (v := 1) hx hb dX11_rival_5 (by decide) ?_
  refine lv_icmp_le (tgt := 11) hx hb dX11_rival_6 (by decide) (fun hc => ?_) (fun hc => ?_)
  rotate_left
  · have hf := fo_f hc hf
    refine lv_iconst (v := (-1)) hx hb dX11_rival_9 (by decide) ?_
    subst hQ
    exact cEi X (cH2 (so_s hf) hH) hS (pf1 (so_s hf)) dX11_rival_10
  have hf := fo_t hc hf
  refine lv_iload_n hx hb dX11_rival_11 rfl (lv_at hl 1 rfl) ?_
  refine lv_if_lt (tgt := 21) hx hb dX11_rival_12 (by decide) (fun hc => ?_) (fun hc => ?_)
  · have hf := fo_t hc hf
    refine lv_bipush (v := (-2)) hx hb dX11_rival_21 (by decide) ?_
    subst hQ
    exact cEi X (cH2 (so_s hf) hH) hS (pf1 (so_s hf)) dX11_rival_23
  have hf := fo_f hc hf
  refine lv_iload_n hx hb dX11_rival_15 rfl (lv_at hl 1 rfl) ?_
  refine lv_bipush (v := 36) hx hb dX11_rival_16 (by decide) ?_
  refine lv_icmp_le (tgt := 24) hx hb dX11_rival_18 (by decide) (fun hc => ?_) (fun hc => ?_)
  rotate_left
  · have hf := fo_f hc hf
    refine lv_bipush (v := (-2)) hx hb dX11_rival_21 (by decide) ?_
    subst hQ
    exact cEi X (cH2 (so_s hf) hH) hS (pf1 (so_s hf)) dX11_rival_23
  have hf := fo_t hc hf
  refine lv_aload_n hx hb dX11_rival_24 rfl (lv_at hl 0 rfl) ?_
  refine co_get X hH 190 (by decide) eO190 rfl inBX11 10 (by decide) rfl bw582 dX11_rival_25 ?_
  refine lv_iload_n hx hb dX11_rival_28 rfl (lv_at hl 1 rfl) ?_
  obtain ⟨q29, hq29, hf⟩ := bd_s hf
  refine cGv (cVrun (rest := []) X (c_X1_findHands l G w a1 q29 hq29) bw1186 bw1187 bw1188 bw103 bw1189 cn_X1_findHands ⟨rfl, rfl, Nat.le_of_ble_eq_true rfl, Nat.le_of_ble_eq_true rfl⟩ (c_rec X hH 199 (by decide) eO199 rfl) cA_g hH hS hl rfl (Nat.le_of_ble_eq_true rfl) dX11_rival_29) hS (fun H locs hH hS => ?_)
  refine lv_iload_n hx hb dX11_rival_32 rfl (lv_at hl 2 rfl) ?_
  have hJ : ∀ (H : Heap) (locs : List Loc), cH G q29 H → va_S (cA G) s.heap H locs → W p l e rm_X11_rival s m args below meth c H locs 0 0 Q (F0 m 53 ls [.int (if a2 = 0 then (f_X1_hands q29) else (f_X1_rivals q29))]) := by
    intro H locs hH hS
    subst hQ
    exact cEi X (cH2 (so_s hf) hH) hS (pf1 (so_s hf)) dX11_rival_53
  refine lv_if_ne (tgt := 46) hx hb dX11_rival_33 (by decide) (fun hc33 => ?_) (fun hc33 => ?_)
  · refine lv_aload_n hx hb dX11_rival_46 rfl (lv_at hl 0 rfl) ?_
    refine co_get X hH 190 (by decide) eO190 rfl inBX11 10 (by decide) rfl bw582 dX11_rival_47 ?_
    refine cGi (cVrun (rest := []) X (c_X1_rivals l G q29 _ rfl) bw1218 bw1219 bw1220 bw103 bw1221 cn_X1_rivals ⟨rfl, rfl, Nat.le_of_ble_eq_true rfl, Nat.le_of_ble_eq_true rfl⟩ (c_rec X hH 199 (by decide) eO199 rfl) cA_g hH hS hl rfl (Nat.le_of_ble_eq_true rfl) dX11_rival_50) hS (fun H locs hH hS => ?_)
    exact W.eq (by rw [if_neg hc33] <;> rfl) (hJ _ _ hH hS)
  · refine lv_aload_n hx hb dX11_rival_36 rfl (lv_at hl 0 rfl) ?_
    refine co_get X hH 190 (by decide) eO190 rfl inBX11 10 (by decide) rfl bw582 dX11_rival_37 ?_
    refine cGi (cVrun (rest := []) X (c_X1_hands l G q29 _ rfl) bw1214 bw1215 bw1216 bw103 bw1217 cn_X1_hands ⟨rfl, rfl, Nat.le_of_ble_eq_true rfl, Nat.le_of_ble_eq_true rfl⟩ (c_rec X hH 199 (by decide) eO199 rfl) cA_g hH hS hl rfl (Nat.le_of_ble_eq_true rfl) dX11_rival_40) hS (fun H locs hH hS => ?_)
    refine lv_goto (tgt := 53) hx hb dX11_rival_43 (by decide) ?_
    exact W.eq (by rw [if_pos hc33] <;> rfl) (hJ _ _ hH hS)
def f_X11_ahead (w : CW) (a1 : Int32) (a2 : Int32) : Int32 × CW := (if (f_X1_isPrinted a1) = 0 then (((-1), w)) else (if (f_X1_isPrinted a2) = 0 then (((-1), w)) else (if a1 = a2 then (((-2), w)) else (if (rHas w 29 (f_X1_rule a1 a2)) = 0 then (nmk (rNumber w 29 (f_X1_rule a1 a2)) fun q57 => (((if 0 ≤ q57.1 then (f_X5_size q57.2 29) else (-4)), q57.2))) else (((-3), w))))))
abbrev rm_X11_ahead : Room := { frames := 3, cells := 0, slots := 0, locals := 43 }
theorem cn_X11_ahead : CN yX11_ahead 2 := ⟨by decide +kernel, by decide +kernel, by decide +kernel⟩
set_option maxHeartbeats 4000000 in
set_option maxRecDepth 100000 in
theorem c_X11_ahead (l : Launch) (G : GX) (w : CW) (a1 : Int32) (a2 : Int32) (q : Int32 × CW) (hf : f_X11_ahead w a1 a2 = q) : MI l G yX11_ahead cX11_ahead 3 (some .int) rm_X11_ahead [.ref (G.2.2.1 190), .int a1, .int a2] (cA G) (cH G w) (cH G q.2) q.1 := by
  refine cM_start (by decide +kernel) (Nat.le_of_ble_eq_true rfl) ?_
  intro p e s m below meth c ls X hH hl
  have hS : va_S (cA G) s.heap s.heap [] := va_S.rf
  have hx := X.1.1
  have hb := X.1.2.1
  generalize hargs : ([.ref (G.2.2.1 190), .int a1, .int a2] : List Value).toArray = args at X ⊢
  generalize hQ : MQ below (QI (cA G) (cH G q.2) q.1) args s 0 0 (cA G) = Q
  have hl : lv_has ls 3 [(0, .ref (G.2.2.1 190)), (1, .int a1), (2, .int a2)] := hl
  unfold f_X11_ahead at hf
  refine lv_iload_n hx hb dX11_ahead_0 rfl (lv_at hl 1 rfl) ?_
  refine cGi (cSrun (rest := []) X (c_X1_isPrinted l G (cH G w) (cA G) cA_g a1 _ rfl) bw1226 bw1227 bw103 bw1228 cn_X1_isPrinted ⟨rfl, rfl, Nat.le_of_ble_eq_true rfl, Nat.le_of_ble_eq_true rfl⟩ cA_g hH hS hl rfl (Nat.le_of_ble_eq_true rfl) dX11_ahead_1) hS (fun H locs hH hS => ?_)
  refine lv_if_eq (tgt := 14) hx hb dX11_ahead_4 (by decide) (fun hc => ?_) (fun hc => ?_)
  · have hf := fo_t hc hf
    refine lv_iconst (v := (-1)) hx hb dX11_ahead_14 (by decide) ?_
    subst hQ
    exact cEi X (cH2 (hf) hH) hS (pf1 (hf)) dX11_ahead_15
  have hf := fo_f hc hf
  refine lv_iload_n hx hb dX11_ahead_7 rfl (lv_at hl 2 rfl) ?_
  refine cGi (cSrun (rest := []) X (c_X1_isPrinted l G (cH G w) (cA G) cA_g a2 _ rfl) bw1226 bw1227 bw103 bw1228 cn_X1_isPrinted ⟨rfl, rfl, Nat.le_of_ble_eq_true rfl, Nat.le_of_ble_eq_true rfl⟩ cA_g hH hS hl rfl (Nat.le_of_ble_eq_true rfl) dX11_ahead_8) hS (fun H locs hH hS => ?_)
  refine lv_if_ne (tgt := 16) hx hb dX11_ahead_11 (by decide) (fun hc => ?_) (fun hc => ?_)
  rotate_left
  · have hf := fo_t hc hf
    refine lv_iconst (v := (-1)) hx hb dX11_ahead_14 (by decide) ?_
    subst hQ
    exact cEi X (cH2 (hf) hH) hS (pf1 (hf)) dX11_ahead_15
  have hf := fo_f hc hf
  refine lv_iload_n hx hb dX11_ahead_16 rfl (lv_at hl 1 rfl) ?_
  refine lv_iload_n hx hb dX11_ahead_17 rfl (lv_at hl 2 rfl) ?_
  refine lv_icmp_ne (tgt := 24) hx hb dX11_ahead_18 (by decide) (fun hc => ?_) (fun hc => ?_)
  rotate_left
  · have hf := fo_t hc hf
    refine lv_bipush (v := (-2)) hx hb dX11_ahead_21 (by decide) ?_
    subst hQ
    exact cEi X (cH2 (hf) hH) hS (pf1 (hf)) dX11_ahead_23
  have hf := fo_f hc hf
  refine lv_aload_n hx hb dX11_ahead_24 rfl (lv_at hl 0 rfl) ?_
  refine co_get X hH 190 (by decide) eO190 rfl inBX11 10 (by decide) rfl bw582 dX11_ahead_25 ?_
  refine co_getN X hH 199 (by decide) eO199 rfl inBX1 2 (by decide) rfl bw509 dX11_ahead_28 ?_
  refine lv_iload_n hx hb dX11_ahead_31 rfl (lv_at hl 1 rfl) ?_
  refine lv_iload_n hx hb dX11_ahead_32 rfl (lv_at hl 2 rfl) ?_
  refine cGi (cSrun (rest := [.ref (G.2.2.1 29)]) X (c_X1_rule l G (cH G w) (cA G) cA_g a1 a2 _ rfl) bw1229 bw1230 bw103 bw1231 cn_X1_rule ⟨rfl, rfl, Nat.le_of_ble_eq_true rfl, Nat.le_of_ble_eq_true rfl⟩ cA_g hH hS hl rfl (Nat.le_of_ble_eq_true rfl) dX11_ahead_33) hS (fun H locs hH hS => ?_)
  refine cGz (cVrun (rest := []) X (cl_X5_has l G w 29 (by decide) (f_X1_rule a1 a2) _ rfl) bw1152 bw1153 bw1154 bw91 bw1155 cn_X5_has ⟨rfl, rfl, Nat.le_of_ble_eq_true rfl, Nat.le_of_ble_eq_true rfl⟩ (c_recR X hH (by decide)) cA_g hH hS hl rfl (Nat.le_of_ble_eq_true rfl) dX11_ahead_36) hS (fun _ H locs hH hS => ?_)
  refine lv_if_eq (tgt := 45) hx hb dX11_ahead_39 (by decide) (fun hc => ?_) (fun hc => ?_)
  rotate_left
  · have hf := fo_f hc hf
    refine lv_bipush (v := (-3)) hx hb dX11_ahead_42 (by decide) ?_
    subst hQ
    exact cEi X (cH2 (hf) hH) hS (pf1 (hf)) dX11_ahead_44
  have hf := fo_t hc hf
  refine lv_aload_n hx hb dX11_ahead_45 rfl (lv_at hl 0 rfl) ?_
  refine co_get X hH 190 (by decide) eO190 rfl inBX11 10 (by decide) rfl bw582 dX11_ahead_46 ?_
  refine co_getN X hH 199 (by decide) eO199 rfl inBX1 2 (by decide) rfl bw509 dX11_ahead_49 ?_
  refine lv_iload_n hx hb dX11_ahead_52 rfl (lv_at hl 1 rfl) ?_
  refine lv_iload_n hx hb dX11_ahead_53 rfl (lv_at hl 2 rfl) ?_
  refine cGi (cSrun (rest := [.ref (G.2.2.1 29)]) X (c_X1_rule l G (cH G w) (cA G) cA_g a1 a2 _ rfl) bw1229 bw1230 bw103 bw1231 cn_X1_rule ⟨rfl, rfl, Nat.le_of_ble_eq_true rfl, Nat.le_of_ble_eq_true rfl⟩ cA_g hH hS hl rfl (Nat.le_of_ble_eq_true rfl) dX11_ahead_54) hS (fun H locs hH hS => ?_)
  obtain ⟨q57, hq57, hf⟩ := nm_x hf
  have hq57 := hq57.symm
  refine cGi (cVrun (rest := []) X (cl_X5_number l G w 29 (by decide) (f_X1_rule a1 a2) q57 hq57) bw1157 bw817 bw818 bw91 bw819 cn_X5_number ⟨rfl, rfl, Nat.le_of_ble_eq_true rfl, Nat.le_of_ble_eq_true rfl⟩ (c_recR X hH (by decide)) cA_g hH hS hl rfl (Nat.le_of_ble_eq_true rfl) dX11_ahead_57) hS (fun H locs hH hS => ?_)
  have hJ : ∀ (H : Heap) (locs : List Loc), cH G q57.2 H → va_S (cA G) s.heap H locs → W p l e rm_X11_ahead s m args below meth c H locs 0 0 Q (F0 m 78 ls [.int (if 0 ≤ q57.1 then (f_X5_size q57.2 29) else (-4))]) := by
    intro H locs hH hS
    subst hQ
    exact cEi X (cH2 (hf) hH) hS (pf1 (hf)) dX11_ahead_78
  refine lv_if_ge (tgt := 68) hx hb dX11_ahead_60 (by decide) (fun hc60 => ?_) (fun hc60 => ?_)
  · refine lv_aload_n hx hb dX11_ahead_68 rfl (lv_at hl 0 rfl) ?_
    refine co_get X hH 190 (by decide) eO190 rfl inBX11 10 (by decide) rfl bw582 dX11_ahead_69 ?_
    refine co_getN X hH 199 (by decide) eO199 rfl inBX1 2 (by decide) rfl bw509 dX11_ahead_72 ?_
    refine cGi (cVrun (rest := []) X (c_X5_size l G q57.2 29 (by decide) _ rfl) bw676 bw624 bw625 bw91 bw626 cn_X5_size ⟨rfl, rfl, Nat.le_of_ble_eq_true rfl, Nat.le_of_ble_eq_true rfl⟩ (c_recR X hH (by decide)) cA_g hH hS hl rfl (Nat.le_of_ble_eq_true rfl) dX11_ahead_75) hS (fun H locs hH hS => ?_)
    exact W.eq (by rw [if_pos hc60] <;> rfl) (hJ _ _ hH hS)
  · refine lv_bipush (v := (-4)) hx hb dX11_ahead_63 (by decide) ?_
    refine lv_goto (tgt := 78) hx hb dX11_ahead_65 (by decide) ?_
    exact W.eq (by rw [if_neg hc60] <;> rfl) (hJ _ _ hH hS)
def f_X11_runs (w : CW) (a1 : Int32) (a2 : Int32) : Option (Int32 × CW) := (if a2 < 0 then (some ((-1), w)) else (nmk (fun (_ : Unit) => (if a2 < 20 then (if a1 < 1 then (some ((-2), w)) else (if a1 ≤ 10 then (if (a2 - 10) < a1 then (Option.bind (f_X1_countRuns w a1) fun q52 => (if a2 = 0 then (some (q52.1, q52.2)) else (if a2 = 1 then (if q52.1 ≤ 0 then (some (0, q52.2)) else (Option.bind (f_X1_beginnings q52.2 a1) fun q76 => (some (q76, q52.2)))) else (if q52.1 ≤ 0 then (some ((-1), q52.2)) else (Option.bind (f_X1_lastOne q52.2 a1 (a2 - 10)) fun q97 => (some (q97, q52.2))))))) else (some ((-1), w))) else (some ((-2), w)))) else (some ((-1), w)))) fun j15 => (if a2 ≤ 1 then (j15 ()) else (if a2 < 10 then (some ((-1), w)) else (j15 ())))))
abbrev rm_X11_runs : Room := { frames := 5, cells := 0, slots := 0, locals := 91 }
theorem cn_X11_runs : CN yX11_runs 2 := ⟨by decide +kernel, by decide +kernel, by decide +kernel⟩
set_option maxHeartbeats 4000000 in
set_option maxRecDepth 100000 in
theorem c_X11_runs (l : Launch) (G : GX) (w : CW) (a1 : Int32) (a2 : Int32) (q : Int32 × CW) (hf : f_X11_runs w a1 a2 = some q) : MI l G yX11_runs cX11_runs 4 (some .int) rm_X11_runs [.ref (G.2.2.1 190), .int a1, .int a2] (cA G) (cH G w) (cH G q.2) q.1 := by
  refine cM_start (by decide +kernel) (Nat.le_of_ble_eq_true rfl) ?_
  intro p e s m below meth c ls X hH hl
  have hS : va_S (cA G) s.heap s.heap [] := va_S.rf
  have hx := X.1.1
  have hb := X.1.2.1
  generalize hargs : ([.ref (G.2.2.1 190), .int a1, .int a2] : List Value).toArray = args at X ⊢
  generalize hQ : MQ below (QI (cA G) (cH G q.2) q.1) args s 0 0 (cA G) = Q
  have hl : lv_has ls 4 [(0, .ref (G.2.2.1 190)), (1, .int a1), (2, .int a2)] := hl
  unfold f_X11_runs at hf
  refine lv_iload_n hx hb dX11_runs_0 rfl (lv_at hl 2 rfl) ?_
  refine lv_if_lt (tgt := 21) hx hb dX11_runs_1 (by decide) (fun hc => ?_) (fun hc => ?_)
  · have hf := fo_t hc hf
    refine lv_iconst (v := (-1)) hx hb dX11_runs_21 (by decide) ?_
    subst hQ
    exact cEi X (cH2 (so_s hf) hH) hS (pf1 (so_s hf)) dX11_runs_22
  have hf := fo_f hc hf
  refine lv_iload_n hx hb dX11_runs_4 rfl (lv_at hl 2 rfl) ?_
  refine lv_iconst (v := 1) hx hb dX11_runs_5 (by decide) ?_
  obtain ⟨j15, ej15, hf⟩ := nm_x hf
  have hj15 : ∀ (u0 : Unit) (H : Heap) (locs : List Loc) (ls : Array Slot), j15 u0 = some q → cH G w H → va_S (cA G) s.heap H locs → lv_has ls 4 [(0, .ref (G.2.2.1 190)), (1, .int a1), (2, .int a2)] → W p l e rm_X11_runs s m args below meth c H locs 0 0 Q (F0 m 15 ls []) := by
    intro u0 H locs ls hf hH hS hl
    have hf := jb1 ej15 hf
    refine lv_iload_n hx hb dX11_runs_15 rfl (lv_at hl 2 rfl) ?_
    refine lv_bipush (v := 20) hx hb dX11_runs_16 (by decide) ?_
    refine lv_icmp_lt (tgt := 23) hx hb dX11_runs_18 (by decide) (fun hc => ?_) (fun hc => ?_)
    rotate_left
    · have hf := fo_f hc hf
      refine lv_iconst (v := (-1)) hx hb dX11_runs_21 (by decide) ?_
      subst hQ
      exact cEi X (cH2 (so_s hf) hH) hS (pf1 (so_s hf)) dX11_runs_22
    have hf := fo_t hc hf
    refine lv_iload_n hx hb dX11_runs_23 rfl (lv_at hl 1 rfl) ?_
    refine lv_iconst (v := 1) hx hb dX11_runs_24 (by decide) ?_
    refine lv_icmp_lt (tgt := 34) hx hb dX11_runs_25 (by decide) (fun hc => ?_) (fun hc => ?_)
    · have hf := fo_t hc hf
      refine lv_bipush (v := (-2)) hx hb dX11_runs_34 (by decide) ?_
      subst hQ
      exact cEi X (cH2 (so_s hf) hH) hS (pf1 (so_s hf)) dX11_runs_36
    have hf := fo_f hc hf
    refine lv_iload_n hx hb dX11_runs_28 rfl (lv_at hl 1 rfl) ?_
    refine lv_bipush (v := 10) hx hb dX11_runs_29 (by decide) ?_
    refine lv_icmp_le (tgt := 37) hx hb dX11_runs_31 (by decide) (fun hc => ?_) (fun hc => ?_)
    rotate_left
    · have hf := fo_f hc hf
      refine lv_bipush (v := (-2)) hx hb dX11_runs_34 (by decide) ?_
      subst hQ
      exact cEi X (cH2 (so_s hf) hH) hS (pf1 (so_s hf)) dX11_runs_36
    have hf := fo_t hc hf
    refine lv_iload_n hx hb dX11_runs_37 rfl (lv_at hl 2 rfl) ?_
    refine lv_bipush (v := 10) hx hb dX11_runs_38 (by decide) ?_
    refine lv_isub hx hb dX11_runs_40 ?_
    refine lv_iload_n hx hb dX11_runs_41 rfl (lv_at hl 1 rfl) ?_
    refine lv_icmp_lt (tgt := 47) hx hb dX11_runs_42 (by decide) (fun hc => ?_) (fun hc => ?_)
    rotate_left
    · have hf := fo_f hc hf
      refine lv_iconst (v := (-1)) hx hb dX11_runs_45 (by decide) ?_
      subst hQ
      exact cEi X (cH2 (so_s hf) hH) hS (pf1 (so_s hf)) dX11_runs_46
    have hf := fo_t hc hf
    refine lv_aload_n hx hb dX11_runs_47 rfl (lv_at hl 0 rfl) ?_
    refine co_get X hH 190 (by decide) eO190 rfl inBX11 10 (by decide) rfl bw582 dX11_runs_48 ?_
    refine lv_iload_n hx hb dX11_runs_51 rfl (lv_at hl 1 rfl) ?_
    obtain ⟨q52, hq52, hf⟩ := bd_s hf
    refine cGi (cVrun (rest := []) X (c_X1_countRuns l G w a1 q52 hq52) bw1236 bw1237 bw1238 bw103 bw1239 cn_X1_countRuns ⟨rfl, rfl, Nat.le_of_ble_eq_true rfl, Nat.le_of_ble_eq_true rfl⟩ (c_rec X hH 199 (by decide) eO199 rfl) cA_g hH hS hl rfl (Nat.le_of_ble_eq_true rfl) dX11_runs_52) hS (fun H locs hH hS => ?_)
    refine lv_istore_n (lv' := [(3, .int q52.1), (0, .ref (G.2.2.1 190)), (1, .int a1), (2, .int a2)]) hx hb dX11_runs_55 rfl hl (by decide) rfl (fun ls hl => ?_)
    refine lv_iload_n hx hb dX11_runs_56 rfl (lv_at hl 3 rfl) ?_
    refine lv_if_ne (tgt := 62) hx hb dX11_runs_57 (by decide) (fun hc => ?_) (fun hc => ?_)
    rotate_left
    · have hf := fo_t hc hf
      refine lv_iload_n hx hb dX11_runs_60 rfl (lv_at hl 0 rfl) ?_
      subst hQ
      exact cEi X (cH2 (so_s hf) hH) hS (pf1 (so_s hf)) dX11_runs_61
    have hf := fo_f hc hf
    refine lv_iload_n hx hb dX11_runs_62 rfl (lv_at hl 3 rfl) ?_
    refine lv_iconst (v := 1) hx hb dX11_runs_63 (by decide) ?_
    refine lv_icmp_ne (tgt := 84) hx hb dX11_runs_64 (by decide) (fun hc => ?_) (fun hc => ?_)
    rotate_left
    · have hf := fo_t hc hf
      refine lv_iload_n hx hb dX11_runs_67 rfl (lv_at hl 0 rfl) ?_
      refine lv_if_le (tgt := 82) hx hb dX11_runs_68 (by decide) (fun hc => ?_) (fun hc => ?_)
      · have hf := fo_t hc hf
        refine lv_iconst (v := 0) hx hb dX11_runs_82 (by decide) ?_
        subst hQ
        exact cEi X (cH2 (so_s hf) hH) hS (pf1 (so_s hf)) dX11_runs_83
      have hf := fo_f hc hf
      refine lv_aload_n hx hb dX11_runs_71 rfl (lv_at hl 1 rfl) ?_
      refine co_get X hH 190 (by decide) eO190 rfl inBX11 10 (by decide) rfl bw582 dX11_runs_72 ?_
      refine lv_iload_n hx hb dX11_runs_75 rfl (lv_at hl 2 rfl) ?_
      obtain ⟨q76, hq76, hf⟩ := bd_s hf
      refine cGi (cVrun (rest := []) X (c_X1_beginnings l G q52.2 a1 q76 hq76) bw1250 bw1251 bw1252 bw103 bw1253 cn_X1_beginnings ⟨rfl, rfl, Nat.le_of_ble_eq_true rfl, Nat.le_of_ble_eq_true rfl⟩ (c_rec X hH 199 (by decide) eO199 rfl) cA_g hH hS hl rfl (Nat.le_of_ble_eq_true rfl) dX11_runs_76) hS (fun H locs hH hS => ?_)
      refine lv_goto (tgt := 83) hx hb dX11_runs_79 (by decide) ?_
      subst hQ
      exact cEi X (cH2 (so_s hf) hH) hS (pf1 (so_s hf)) dX11_runs_83
    have hf := fo_f hc hf
    refine lv_iload_n hx hb dX11_runs_84 rfl (lv_at hl 0 rfl) ?_
    refine lv_if_le (tgt := 103) hx hb dX11_runs_85 (by decide) (fun hc => ?_) (fun hc => ?_)
    · have hf := fo_t hc hf
      refine lv_iconst (v := (-1)) hx hb dX11_runs_103 (by decide) ?_
      subst hQ
      exact cEi X (cH2 (so_s hf) hH) hS (pf1 (so_s hf)) dX11_runs_104
    have hf := fo_f hc hf
    refine lv_aload_n hx hb dX11_runs_88 rfl (lv_at hl 1 rfl) ?_
    refine co_get X hH 190 (by decide) eO190 rfl inBX11 10 (by decide) rfl bw582 dX11_runs_89 ?_
    refine lv_iload_n hx hb dX11_runs_92 rfl (lv_at hl 2 rfl) ?_
    refine lv_iload_n hx hb dX11_runs_93 rfl (lv_at hl 3 rfl) ?_
    refine lv_bipush (v := 10) hx hb dX11_runs_94 (by decide) ?_
    refine lv_isub hx hb dX11_runs_96 ?_
    obtain ⟨q97, hq97, hf⟩ := bd_s hf
    refine cGi (cVrun (rest := []) X (c_X1_lastOne l G q52.2 a1 (a2 - 10) q97 hq97) bw1254 bw1255 bw1256 bw103 bw1257 cn_X1_lastOne ⟨rfl, rfl, Nat.le_of_ble_eq_true rfl, Nat.le_of_ble_eq_true rfl⟩ (c_rec X hH 199 (by decide) eO199 rfl) cA_g hH hS hl rfl (Nat.le_of_ble_eq_true rfl) dX11_runs_97) hS (fun H locs hH hS => ?_)
    refine lv_goto (tgt := 104) hx hb dX11_runs_100 (by decide) ?_
    subst hQ
    exact cEi X (cH2 (so_s hf) hH) hS (pf1 (so_s hf)) dX11_runs_104
  refine lv_icmp_le (tgt := 15) hx hb dX11_runs_6 (by decide) (fun hc => ?_) (fun hc => ?_)
  · have hf := fo_t hc hf
    exact hj15 () _ _ _ hf hH hS (lv_sub hl [0, 1, 2] rfl)
  have hf := fo_f hc hf
  refine lv_iload_n hx hb dX11_runs_9 rfl (lv_at hl 2 rfl) ?_
  refine lv_bipush (v := 10) hx hb dX11_runs_10 (by decide) ?_
  refine lv_icmp_lt (tgt := 21) hx hb dX11_runs_12 (by decide) (fun hc => ?_) (fun hc => ?_)
  rotate_left
  · have hf := fo_f hc hf
    exact hj15 () _ _ _ hf hH hS (lv_sub hl [0, 1, 2] rfl)
  have hf := fo_t hc hf
  refine lv_iconst (v := (-1)) hx hb dX11_runs_21 (by decide) ?_
  subst hQ
  exact cEi X (cH2 (so_s hf) hH) hS (pf1 (so_s hf)) dX11_runs_22
def f_X11_loan (w : CW) (a1 : Int32) (a2 : Int32) (a3 : Int32) : Int32 × CW := (if a1 < 1 then (((-2), w)) else (if 9999 < a1 then (((-2), w)) else (if (f_X11_isDay a2) = 0 then (((-2), w)) else (if a3 < 0 then (((-2), w)) else (if a3 ≤ 40 then (if (f_X5_isFull w 30) = 0 then (nmk (f_X3_lend w a1 a2 a3) fun q57 => ((q57.1, q57.2))) else (((-4), w))) else (((-2), w)))))))
abbrev rm_X11_loan : Room := { frames := 3, cells := 0, slots := 0, locals := 44 }
theorem cn_X11_loan : CN yX11_loan 3 := ⟨by decide +kernel, by decide +kernel, by decide +kernel⟩
set_option maxHeartbeats 4000000 in
set_option maxRecDepth 100000 in
theorem c_X11_loan (l : Launch) (G : GX) (w : CW) (a1 : Int32) (a2 : Int32) (a3 : Int32) (q : Int32 × CW) (hf : f_X11_loan w a1 a2 a3 = q) : MI l G yX11_loan cX11_loan 4 (some .int) rm_X11_loan [.ref (G.2.2.1 190), .int a1, .int a2, .int a3] (cA G) (cH G w) (cH G q.2) q.1 := by
  refine cM_start (by decide +kernel) (Nat.le_of_ble_eq_true rfl) ?_
  intro p e s m below meth c ls X hH hl
  have hS : va_S (cA G) s.heap s.heap [] := va_S.rf
  have hx := X.1.1
  have hb := X.1.2.1
  generalize hargs : ([.ref (G.2.2.1 190), .int a1, .int a2, .int a3] : List Value).toArray = args at X ⊢
  generalize hQ : MQ below (QI (cA G) (cH G q.2) q.1) args s 0 0 (cA G) = Q
  have hl : lv_has ls 4 [(0, .ref (G.2.2.1 190)), (1, .int a1), (2, .int a2), (3, .int a3)] := hl
  unfold f_X11_loan at hf
  refine lv_iload_n hx hb dX11_loan_0 rfl (lv_at hl 1 rfl) ?_
  refine lv_iconst (v := 1) hx hb dX11_loan_1 (by decide) ?_
  refine lv_icmp_lt (tgt := 29) hx hb dX11_loan_2 (by decide) (fun hc => ?_) (fun hc => ?_)
  · have hf := fo_t hc hf
    refine lv_bipush (v := (-2)) hx hb dX11_loan_29 (by decide) ?_
    subst hQ
    exact cEi X (cH2 (hf) hH) hS (pf1 (hf)) dX11_loan_31
  have hf := fo_f hc hf
  refine lv_iload_n hx hb dX11_loan_5 rfl (lv_at hl 1 rfl) ?_
  refine lv_sipush (v := 9999) hx hb dX11_loan_6 (by decide) ?_
  refine lv_icmp_gt (tgt := 29) hx hb dX11_loan_9 (by decide) (fun hc => ?_) (fun hc => ?_)
  · have hf := fo_t hc hf
    refine lv_bipush (v := (-2)) hx hb dX11_loan_29 (by decide) ?_
    subst hQ
    exact cEi X (cH2 (hf) hH) hS (pf1 (hf)) dX11_loan_31
  have hf := fo_f hc hf
  refine lv_iload_n hx hb dX11_loan_12 rfl (lv_at hl 2 rfl) ?_
  refine cGi (cSrun (rest := []) X (c_X11_isDay l G (cH G w) (cA G) cA_g a2 _ rfl) bw686 bw687 bw86 bw688 cn_X11_isDay ⟨rfl, rfl, Nat.le_of_ble_eq_true rfl, Nat.le_of_ble_eq_true rfl⟩ cA_g hH hS hl rfl (Nat.le_of_ble_eq_true rfl) dX11_loan_13) hS (fun H locs hH hS => ?_)
  refine lv_if_eq (tgt := 29) hx hb dX11_loan_16 (by decide) (fun hc => ?_) (fun hc => ?_)
  · have hf := fo_t hc hf
    refine lv_bipush (v := (-2)) hx hb dX11_loan_29 (by decide) ?_
    subst hQ
    exact cEi X (cH2 (hf) hH) hS (pf1 (hf)) dX11_loan_31
  have hf := fo_f hc hf
  refine lv_iload_n hx hb dX11_loan_19 rfl (lv_at hl 3 rfl) ?_
  refine lv_if_lt (tgt := 29) hx hb dX11_loan_20 (by decide) (fun hc => ?_) (fun hc => ?_)
  · have hf := fo_t hc hf
    refine lv_bipush (v := (-2)) hx hb dX11_loan_29 (by decide) ?_
    subst hQ
    exact cEi X (cH2 (hf) hH) hS (pf1 (hf)) dX11_loan_31
  have hf := fo_f hc hf
  refine lv_iload_n hx hb dX11_loan_23 rfl (lv_at hl 3 rfl) ?_
  refine lv_bipush (v := 40) hx hb dX11_loan_24 (by decide) ?_
  refine lv_icmp_le (tgt := 32) hx hb dX11_loan_26 (by decide) (fun hc => ?_) (fun hc => ?_)
  rotate_left
  · have hf := fo_f hc hf
    refine lv_bipush (v := (-2)) hx hb dX11_loan_29 (by decide) ?_
    subst hQ
    exact cEi X (cH2 (hf) hH) hS (pf1 (hf)) dX11_loan_31
  have hf := fo_t hc hf
  refine lv_aload_n hx hb dX11_loan_32 rfl (lv_at hl 0 rfl) ?_
  refine co_get X hH 190 (by decide) eO190 rfl inBX11 11 (by decide) rfl bw583 dX11_loan_33 ?_
  refine co_getN X hH 200 (by decide) eO200 rfl inBX3 0 (by decide) rfl bw547 dX11_loan_36 ?_
  refine cGi (cVrun (rest := []) X (c_X5_isFull l G w 30 (by decide) _ rfl) bw1073 bw694 bw695 bw91 bw696 cn_X5_isFull ⟨rfl, rfl, Nat.le_of_ble_eq_true rfl, Nat.le_of_ble_eq_true rfl⟩ (c_recR X hH (by decide)) cA_g hH hS hl rfl (Nat.le_of_ble_eq_true rfl) dX11_loan_39) hS (fun H locs hH hS => ?_)
  refine lv_if_eq (tgt := 50) hx hb dX11_loan_42 (by decide) (fun hc => ?_) (fun hc => ?_)
  rotate_left
  · have hf := fo_f hc hf
    refine lv_bipush (v := (-4)) hx hb dX11_loan_45 (by decide) ?_
    refine lv_goto (tgt := 60) hx hb dX11_loan_47 (by decide) ?_
    subst hQ
    exact cEi X (cH2 (hf) hH) hS (pf1 (hf)) dX11_loan_60
  have hf := fo_t hc hf
  refine lv_aload_n hx hb dX11_loan_50 rfl (lv_at hl 0 rfl) ?_
  refine co_get X hH 190 (by decide) eO190 rfl inBX11 11 (by decide) rfl bw583 dX11_loan_51 ?_
  refine lv_iload_n hx hb dX11_loan_54 rfl (lv_at hl 1 rfl) ?_
  refine lv_iload_n hx hb dX11_loan_55 rfl (lv_at hl 2 rfl) ?_
  refine lv_iload_n hx hb dX11_loan_56 rfl (lv_at hl 3 rfl) ?_
  obtain ⟨q57, hq57, hf⟩ := nm_x hf
  have hq57 := hq57.symm
  refine cGi (cVrun (rest := []) X (c_X3_lend l G w a1 a2 a3 q57 hq57) bw1266 bw1267 bw1268 bw104 bw1269 cn_X3_lend ⟨rfl, rfl, Nat.le_of_ble_eq_true rfl, Nat.le_of_ble_eq_true rfl⟩ (c_rec X hH 200 (by decide) eO200 rfl) cA_g hH hS hl rfl (Nat.le_of_ble_eq_true rfl) dX11_loan_57) hS (fun H locs hH hS => ?_)
  subst hQ
  exact cEi X (cH2 (hf) hH) hS (pf1 (hf)) dX11_loan_60
def f_X11_pay (w : CW) (a1 : Int32) (a2 : Int32) (a3 : Int32) : Option (Int32 × CW) := (if (f_X3_has w a1) = 0 then (some ((-1), w)) else (if (f_X11_isDay a2) = 0 then (some ((-2), w)) else (if a2 < (rAt w 31 a1) then (some ((-2), w)) else (if a3 < 1 then (some ((-2), w)) else (if a3 ≤ 9999 then (if (f_X5_isFull w 35) = 0 then (Option.bind (f_X3_payBack w a1 a2 a3) fun q75 => (some (q75.1, q75.2))) else (some ((-4), w))) else (some ((-2), w)))))))
abbrev rm_X11_pay : Room := { frames := 4, cells := 0, slots := 0, locals := 70 }
theorem cn_X11_pay : CN yX11_pay 3 := ⟨by decide +kernel, by decide +kernel, by decide +kernel⟩
set_option maxHeartbeats 4000000 in
set_option maxRecDepth 100000 in
theorem c_X11_pay (l : Launch) (G : GX) (w : CW) (a1 : Int32) (a2 : Int32) (a3 : Int32) (q : Int32 × CW) (hf : f_X11_pay w a1 a2 a3 = some q) : MI l G yX11_pay cX11_pay 4 (some .int) rm_X11_pay [.ref (G.2.2.1 190), .int a1, .int a2, .int a3] (cA G) (cH G w) (cH G q.2) q.1 := by
  refine cM_start (by decide +kernel) (Nat.le_of_ble_eq_true rfl) ?_
  intro p e s m below meth c ls X hH hl
  have hS : va_S (cA G) s.heap s.heap [] := va_S.rf
  have hx := X.1.1
  have hb := X.1.2.1
  generalize hargs : ([.ref (G.2.2.1 190), .int a1, .int a2, .int a3] : List Value).toArray = args at X ⊢
  generalize hQ : MQ below (QI (cA G) (cH G q.2) q.1) args s 0 0 (cA G) = Q
  have hl : lv_has ls 4 [(0, .ref (G.2.2.1 190)), (1, .int a1), (2, .int a2), (3, .int a3)] := hl
  unfold f_X11_pay at hf
  refine lv_aload_n hx hb dX11_pay_0 rfl (lv_at hl 0 rfl) ?_
  refine co_get X hH 190 (by decide) eO190 rfl inBX11 11 (by decide) rfl bw583 dX11_pay_1 ?_
  refine lv_iload_n hx hb dX11_pay_4 rfl (lv_at hl 1 rfl) ?_
  refine cGi (cVrun (rest := []) X (c_X3_has l G w a1 _ rfl) bw1276 bw1277 bw1278 bw104 bw1279 cn_X3_has ⟨rfl, rfl, Nat.le_of_ble_eq_true rfl, Nat.le_of_ble_eq_true rfl⟩ (c_rec X hH 200 (by decide) eO200 rfl) cA_g hH hS hl rfl (Nat.le_of_ble_eq_true rfl) dX11_pay_5) hS (fun H locs hH hS => ?_)
  refine lv_if_ne (tgt := 13) hx hb dX11_pay_8 (by decide) (fun hc => ?_) (fun hc => ?_)
  rotate_left
  · have hf := fo_t hc hf
    refine lv_iconst (v := (-1)) hx hb dX11_pay_11 (by decide) ?_
    subst hQ
    exact cEi X (cH2 (so_s hf) hH) hS (pf1 (so_s hf)) dX11_pay_12
  have hf := fo_f hc hf
  refine lv_iload_n hx hb dX11_pay_13 rfl (lv_at hl 2 rfl) ?_
  refine cGi (cSrun (rest := []) X (c_X11_isDay l G (cH G w) (cA G) cA_g a2 _ rfl) bw686 bw687 bw86 bw688 cn_X11_isDay ⟨rfl, rfl, Nat.le_of_ble_eq_true rfl, Nat.le_of_ble_eq_true rfl⟩ cA_g hH hS hl rfl (Nat.le_of_ble_eq_true rfl) dX11_pay_14) hS (fun H locs hH hS => ?_)
  refine lv_if_eq (tgt := 47) hx hb dX11_pay_17 (by decide) (fun hc => ?_) (fun hc => ?_)
  · have hf := fo_t hc hf
    refine lv_bipush (v := (-2)) hx hb dX11_pay_47 (by decide) ?_
    subst hQ
    exact cEi X (cH2 (so_s hf) hH) hS (pf1 (so_s hf)) dX11_pay_49
  have hf := fo_f hc hf
  refine lv_iload_n hx hb dX11_pay_20 rfl (lv_at hl 2 rfl) ?_
  refine lv_aload_n hx hb dX11_pay_21 rfl (lv_at hl 0 rfl) ?_
  refine co_get X hH 190 (by decide) eO190 rfl inBX11 11 (by decide) rfl bw583 dX11_pay_22 ?_
  refine co_getN X hH 200 (by decide) eO200 rfl inBX3 1 (by decide) rfl bw549 dX11_pay_25 ?_
  refine lv_iload_n hx hb dX11_pay_28 rfl (lv_at hl 1 rfl) ?_
  refine cGi (cVrun (rest := [.int a2]) X (cl_X5_at l G w 31 (by decide) a1 _ rfl) bw641 bw628 bw629 bw91 bw630 cn_X5_at ⟨rfl, rfl, Nat.le_of_ble_eq_true rfl, Nat.le_of_ble_eq_true rfl⟩ (c_recR X hH (by decide)) cA_g hH hS hl rfl (Nat.le_of_ble_eq_true rfl) dX11_pay_29) hS (fun H locs hH hS => ?_)
  refine lv_icmp_lt (tgt := 47) hx hb dX11_pay_32 (by decide) (fun hc => ?_) (fun hc => ?_)
  · have hf := fo_t hc hf
    refine lv_bipush (v := (-2)) hx hb dX11_pay_47 (by decide) ?_
    subst hQ
    exact cEi X (cH2 (so_s hf) hH) hS (pf1 (so_s hf)) dX11_pay_49
  have hf := fo_f hc hf
  refine lv_iload_n hx hb dX11_pay_35 rfl (lv_at hl 3 rfl) ?_
  refine lv_iconst (v := 1) hx hb dX11_pay_36 (by decide) ?_
  refine lv_icmp_lt (tgt := 47) hx hb dX11_pay_37 (by decide) (fun hc => ?_) (fun hc => ?_)
  · have hf := fo_t hc hf
    refine lv_bipush (v := (-2)) hx hb dX11_pay_47 (by decide) ?_
    subst hQ
    exact cEi X (cH2 (so_s hf) hH) hS (pf1 (so_s hf)) dX11_pay_49
  have hf := fo_f hc hf
  refine lv_iload_n hx hb dX11_pay_40 rfl (lv_at hl 3 rfl) ?_
  refine lv_sipush (v := 9999) hx hb dX11_pay_41 (by decide) ?_
  refine lv_icmp_le (tgt := 50) hx hb dX11_pay_44 (by decide) (fun hc => ?_) (fun hc => ?_)
  rotate_left
  · have hf := fo_f hc hf
    refine lv_bipush (v := (-2)) hx hb dX11_pay_47 (by decide) ?_
    subst hQ
    exact cEi X (cH2 (so_s hf) hH) hS (pf1 (so_s hf)) dX11_pay_49
  have hf := fo_t hc hf
  refine lv_aload_n hx hb dX11_pay_50 rfl (lv_at hl 0 rfl) ?_
  refine co_get X hH 190 (by decide) eO190 rfl inBX11 11 (by decide) rfl bw583 dX11_pay_51 ?_
  refine co_getN X hH 200 (by decide) eO200 rfl inBX3 5 (by decide) rfl bw554 dX11_pay_54 ?_
  refine cGi (cVrun (rest := []) X (c_X5_isFull l G w 35 (by decide) _ rfl) bw1073 bw694 bw695 bw91 bw696 cn_X5_isFull ⟨rfl, rfl, Nat.le_of_ble_eq_true rfl, Nat.le_of_ble_eq_true rfl⟩ (c_recR X hH (by decide)) cA_g hH hS hl rfl (Nat.le_of_ble_eq_true rfl) dX11_pay_57) hS (fun H locs hH hS => ?_)
  refine lv_if_eq (tgt := 68) hx hb dX11_pay_60 (by decide) (fun hc => ?_) (fun hc => ?_)
  rotate_left
  · have hf := fo_f hc hf
    refine lv_bipush (v := (-4)) hx hb dX11_pay_63 (by decide) ?_
    refine lv_goto (tgt := 78) hx hb dX11_pay_65 (by decide) ?_
    subst hQ
    exact cEi X (cH2 (so_s hf) hH) hS (pf1 (so_s hf)) dX11_pay_78
  have hf := fo_t hc hf
  refine lv_aload_n hx hb dX11_pay_68 rfl (lv_at hl 0 rfl) ?_
  refine co_get X hH 190 (by decide) eO190 rfl inBX11 11 (by decide) rfl bw583 dX11_pay_69 ?_
  refine lv_iload_n hx hb dX11_pay_72 rfl (lv_at hl 1 rfl) ?_
  refine lv_iload_n hx hb dX11_pay_73 rfl (lv_at hl 2 rfl) ?_
  refine lv_iload_n hx hb dX11_pay_74 rfl (lv_at hl 3 rfl) ?_
  obtain ⟨q75, hq75, hf⟩ := bd_s hf
  refine cGi (cVrun (rest := []) X (c_X3_payBack l G w a1 a2 a3 q75 hq75) bw1281 bw1282 bw1283 bw104 bw1284 cn_X3_payBack ⟨rfl, rfl, Nat.le_of_ble_eq_true rfl, Nat.le_of_ble_eq_true rfl⟩ (c_rec X hH 200 (by decide) eO200 rfl) cA_g hH hS hl rfl (Nat.le_of_ble_eq_true rfl) dX11_pay_75) hS (fun H locs hH hS => ?_)
  subst hQ
  exact cEi X (cH2 (so_s hf) hH) hS (pf1 (so_s hf)) dX11_pay_78
def f_X11_owe (w : CW) (a1 : Int32) (a2 : Int32) : Option (Int32) := (if (f_X3_has w a1) = 0 then (some (-1)) else (if (f_X11_isDay a2) = 0 then (some (-2)) else (Option.bind (f_X3_owed w a1 a2) fun q26 => (some q26))))
abbrev rm_X11_owe : Room := { frames := 4, cells := 0, slots := 0, locals := 72 }
theorem cn_X11_owe : CN yX11_owe 2 := ⟨by decide +kernel, by decide +kernel, by decide +kernel⟩
set_option maxHeartbeats 4000000 in
set_option maxRecDepth 100000 in
theorem c_X11_owe (l : Launch) (G : GX) (w : CW) (a1 : Int32) (a2 : Int32) (q : Int32) (hf : f_X11_owe w a1 a2 = some q) : MI l G yX11_owe cX11_owe 3 (some .int) rm_X11_owe [.ref (G.2.2.1 190), .int a1, .int a2] (cA G) (cH G w) (cH G w) q := by
  refine cM_start (by decide +kernel) (Nat.le_of_ble_eq_true rfl) ?_
  intro p e s m below meth c ls X hH hl
  have hS : va_S (cA G) s.heap s.heap [] := va_S.rf
  have hx := X.1.1
  have hb := X.1.2.1
  generalize hargs : ([.ref (G.2.2.1 190), .int a1, .int a2] : List Value).toArray = args at X ⊢
  generalize hQ : MQ below (QI (cA G) (cH G w) q) args s 0 0 (cA G) = Q
  have hl : lv_has ls 3 [(0, .ref (G.2.2.1 190)), (1, .int a1), (2, .int a2)] := hl
  unfold f_X11_owe at hf
  refine lv_aload_n hx hb dX11_owe_0 rfl (lv_at hl 0 rfl) ?_
  refine co_get X hH 190 (by decide) eO190 rfl inBX11 11 (by decide) rfl bw583 dX11_owe_1 ?_
  refine lv_iload_n hx hb dX11_owe_4 rfl (lv_at hl 1 rfl) ?_
  refine cGi (cVrun (rest := []) X (c_X3_has l G w a1 _ rfl) bw1276 bw1277 bw1278 bw104 bw1279 cn_X3_has ⟨rfl, rfl, Nat.le_of_ble_eq_true rfl, Nat.le_of_ble_eq_true rfl⟩ (c_rec X hH 200 (by decide) eO200 rfl) cA_g hH hS hl rfl (Nat.le_of_ble_eq_true rfl) dX11_owe_5) hS (fun H locs hH hS => ?_)
  refine lv_if_ne (tgt := 13) hx hb dX11_owe_8 (by decide) (fun hc => ?_) (fun hc => ?_)
  rotate_left
  · have hf := fo_t hc hf
    refine lv_iconst (v := (-1)) hx hb dX11_owe_11 (by decide) ?_
    subst hQ
    exact cEi X hH hS (so_s hf) dX11_owe_12
  have hf := fo_f hc hf
  refine lv_iload_n hx hb dX11_owe_13 rfl (lv_at hl 2 rfl) ?_
  refine cGi (cSrun (rest := []) X (c_X11_isDay l G (cH G w) (cA G) cA_g a2 _ rfl) bw686 bw687 bw86 bw688 cn_X11_isDay ⟨rfl, rfl, Nat.le_of_ble_eq_true rfl, Nat.le_of_ble_eq_true rfl⟩ cA_g hH hS hl rfl (Nat.le_of_ble_eq_true rfl) dX11_owe_14) hS (fun H locs hH hS => ?_)
  refine lv_if_eq (tgt := 32) hx hb dX11_owe_17 (by decide) (fun hc => ?_) (fun hc => ?_)
  · have hf := fo_t hc hf
    refine lv_bipush (v := (-2)) hx hb dX11_owe_32 (by decide) ?_
    subst hQ
    exact cEi X hH hS (so_s hf) dX11_owe_34
  have hf := fo_f hc hf
  refine lv_aload_n hx hb dX11_owe_20 rfl (lv_at hl 0 rfl) ?_
  refine co_get X hH 190 (by decide) eO190 rfl inBX11 11 (by decide) rfl bw583 dX11_owe_21 ?_
  refine lv_iload_n hx hb dX11_owe_24 rfl (lv_at hl 1 rfl) ?_
  refine lv_iload_n hx hb dX11_owe_25 rfl (lv_at hl 2 rfl) ?_
  obtain ⟨q26, hq26, hf⟩ := bd_s hf
  refine cGi (cVrun (rest := []) X (c_X3_owed l G w a1 a2 q26 hq26) bw1294 bw1295 bw1296 bw104 bw1297 cn_X3_owed ⟨rfl, rfl, Nat.le_of_ble_eq_true rfl, Nat.le_of_ble_eq_true rfl⟩ (c_rec X hH 200 (by decide) eO200 rfl) cA_g hH hS hl rfl (Nat.le_of_ble_eq_true rfl) dX11_owe_26) hS (fun H locs hH hS => ?_)
  refine lv_goto (tgt := 34) hx hb dX11_owe_29 (by decide) ?_
  subst hQ
  exact cEi X hH hS (so_s hf) dX11_owe_34
def f_X11_thing (w : CW) (a1 : Int32) (a2 : Int32) : Int32 × CW := (if a1 < 0 then (((-1), w)) else (if a1 < 8 then (if a2 < 0 then (((-2), w)) else (if a2 ≤ 9999 then (nmk (rSwap w 36 a1 a2) fun q37 => ((q37.1, q37.2))) else (((-2), w)))) else (((-1), w))))
abbrev rm_X11_thing : Room := { frames := 3, cells := 0, slots := 0, locals := 45 }
theorem cn_X11_thing : CN yX11_thing 2 := ⟨by decide +kernel, by decide +kernel, by decide +kernel⟩
set_option maxHeartbeats 4000000 in
set_option maxRecDepth 100000 in
theorem c_X11_thing (l : Launch) (G : GX) (w : CW) (a1 : Int32) (a2 : Int32) (q : Int32 × CW) (hf : f_X11_thing w a1 a2 = q) : MI l G yX11_thing cX11_thing 3 (some .int) rm_X11_thing [.ref (G.2.2.1 190), .int a1, .int a2] (cA G) (cH G w) (cH G q.2) q.1 := by
  refine cM_start (by decide +kernel) (Nat.le_of_ble_eq_true rfl) ?_
  intro p e s m below meth c ls X hH hl
  have hS : va_S (cA G) s.heap s.heap [] := va_S.rf
  have hx := X.1.1
  have hb := X.1.2.1
  generalize hargs : ([.ref (G.2.2.1 190), .int a1, .int a2] : List Value).toArray = args at X ⊢
  generalize hQ : MQ below (QI (cA G) (cH G q.2) q.1) args s 0 0 (cA G) = Q
  have hl : lv_has ls 3 [(0, .ref (G.2.2.1 190)), (1, .int a1), (2, .int a2)] := hl
  unfold f_X11_thing at hf
  refine lv_iload_n hx hb dX11_thing_0 rfl (lv_at hl 1 rfl) ?_
  refine lv_if_lt (tgt := 10) hx hb dX11_thing_1 (by decide) (fun hc => ?_) (fun hc => ?_)
  · have hf := fo_t hc hf
    refine lv_iconst (v := (-1)) hx hb dX11_thing_10 (by decide) ?_
    subst hQ
    exact cEi X (cH2 (hf) hH) hS (pf1 (hf)) dX11_thing_11
  have hf := fo_f hc hf
  refine lv_iload_n hx hb dX11_thing_4 rfl (lv_at hl 1 rfl) ?_
  refine lv_bipush (v := 8) hx hb dX11_thing_5 (by decide) ?_
  refine lv_icmp_lt (tgt := 12) hx hb dX11_thing_7 (by decide) (fun hc => ?_) (fun hc => ?_)
  rotate_left
  · have hf := fo_f hc hf
    refine lv_iconst (v := (-1)) hx hb dX11_thing_10 (by decide) ?_
    subst hQ
    exact cEi X (cH2 (hf) hH) hS (pf1 (hf)) dX11_thing_11
  have hf := fo_t hc hf
  refine lv_iload_n hx hb dX11_thing_12 rfl (lv_at hl 2 rfl) ?_
  refine lv_if_lt (tgt := 23) hx hb dX11_thing_13 (by decide) (fun hc => ?_) (fun hc => ?_)
  · have hf := fo_t hc hf
    refine lv_bipush (v := (-2)) hx hb dX11_thing_23 (by decide) ?_
    refine lv_goto (tgt := 40) hx hb dX11_thing_25 (by decide) ?_
    subst hQ
    exact cEi X (cH2 (hf) hH) hS (pf1 (hf)) dX11_thing_40
  have hf := fo_f hc hf
  refine lv_iload_n hx hb dX11_thing_16 rfl (lv_at hl 2 rfl) ?_
  refine lv_sipush (v := 9999) hx hb dX11_thing_17 (by decide) ?_
  refine lv_icmp_le (tgt := 28) hx hb dX11_thing_20 (by decide) (fun hc => ?_) (fun hc => ?_)
  rotate_left
  · have hf := fo_f hc hf
    refine lv_bipush (v := (-2)) hx hb dX11_thing_23 (by decide) ?_
    refine lv_goto (tgt := 40) hx hb dX11_thing_25 (by decide) ?_
    subst hQ
    exact cEi X (cH2 (hf) hH) hS (pf1 (hf)) dX11_thing_40
  have hf := fo_t hc hf
  refine lv_aload_n hx hb dX11_thing_28 rfl (lv_at hl 0 rfl) ?_
  refine co_get X hH 190 (by decide) eO190 rfl inBX11 11 (by decide) rfl bw583 dX11_thing_29 ?_
  refine co_getN X hH 200 (by decide) eO200 rfl inBX3 6 (by decide) rfl bw556 dX11_thing_32 ?_
  refine lv_iload_n hx hb dX11_thing_35 rfl (lv_at hl 1 rfl) ?_
  refine lv_iload_n hx hb dX11_thing_36 rfl (lv_at hl 2 rfl) ?_
  obtain ⟨q37, hq37, hf⟩ := nm_x hf
  have hq37 := hq37.symm
  refine cGi (cVrun (rest := []) X (cl_X5_swap l G w 36 (by decide) a1 a2 q37 hq37) bw631 bw632 bw633 bw91 bw634 cn_X5_swap ⟨rfl, rfl, Nat.le_of_ble_eq_true rfl, Nat.le_of_ble_eq_true rfl⟩ (c_recR X hH (by decide)) cA_g hH hS hl rfl (Nat.le_of_ble_eq_true rfl) dX11_thing_37) hS (fun H locs hH hS => ?_)
  subst hQ
  exact cEi X (cH2 (hf) hH) hS (pf1 (hf)) dX11_thing_40
def f_X11_suit (w : CW) (a1 : Int32) : Option (Int32) := (if a1 < 0 then (some (-2)) else (if a1 ≤ 99999 then (Option.bind (f_X3_leastSet w a1) fun q21 => (some q21)) else (some (-2))))
abbrev rm_X11_suit : Room := { frames := 5, cells := 0, slots := 0, locals := 90 }
theorem cn_X11_suit : CN yX11_suit 1 := ⟨by decide +kernel, by decide +kernel, by decide +kernel⟩
set_option maxHeartbeats 4000000 in
set_option maxRecDepth 100000 in
theorem c_X11_suit (l : Launch) (G : GX) (w : CW) (a1 : Int32) (q : Int32) (hf : f_X11_suit w a1 = some q) : MI l G yX11_suit cX11_suit 2 (some .int) rm_X11_suit [.ref (G.2.2.1 190), .int a1] (cA G) (cH G w) (cH G w) q := by
  refine cM_start (by decide +kernel) (Nat.le_of_ble_eq_true rfl) ?_
  intro p e s m below meth c ls X hH hl
  have hS : va_S (cA G) s.heap s.heap [] := va_S.rf
  have hx := X.1.1
  have hb := X.1.2.1
  generalize hargs : ([.ref (G.2.2.1 190), .int a1] : List Value).toArray = args at X ⊢
  generalize hQ : MQ below (QI (cA G) (cH G w) q) args s 0 0 (cA G) = Q
  have hl : lv_has ls 2 [(0, .ref (G.2.2.1 190)), (1, .int a1)] := hl
  unfold f_X11_suit at hf
  refine lv_iload_n hx hb dX11_suit_0 rfl (lv_at hl 1 rfl) ?_
  refine lv_if_lt (tgt := 11) hx hb dX11_suit_1 (by decide) (fun hc => ?_) (fun hc => ?_)
  · have hf := fo_t hc hf
    refine lv_bipush (v := (-2)) hx hb dX11_suit_11 (by decide) ?_
    refine lv_goto (tgt := 24) hx hb dX11_suit_13 (by decide) ?_
    subst hQ
    exact cEi X hH hS (so_s hf) dX11_suit_24
  have hf := fo_f hc hf
  refine lv_iload_n hx hb dX11_suit_4 rfl (lv_at hl 1 rfl) ?_
  refine lv_ldcw (v := 99999) hx hb X.1.2.2.2.1 (X.w bw1307) dX11_suit_5 ?_
  refine lv_icmp_le (tgt := 16) hx hb dX11_suit_8 (by decide) (fun hc => ?_) (fun hc => ?_)
  rotate_left
  · have hf := fo_f hc hf
    refine lv_bipush (v := (-2)) hx hb dX11_suit_11 (by decide) ?_
    refine lv_goto (tgt := 24) hx hb dX11_suit_13 (by decide) ?_
    subst hQ
    exact cEi X hH hS (so_s hf) dX11_suit_24
  have hf := fo_t hc hf
  refine lv_aload_n hx hb dX11_suit_16 rfl (lv_at hl 0 rfl) ?_
  refine co_get X hH 190 (by decide) eO190 rfl inBX11 11 (by decide) rfl bw583 dX11_suit_17 ?_
  refine lv_iload_n hx hb dX11_suit_20 rfl (lv_at hl 1 rfl) ?_
  obtain ⟨q21, hq21, hf⟩ := bd_s hf
  refine cGi (cVrun (rest := []) X (c_X3_leastSet l G w a1 q21 hq21) bw1308 bw1309 bw1310 bw104 bw1311 cn_X3_leastSet ⟨rfl, rfl, Nat.le_of_ble_eq_true rfl, Nat.le_of_ble_eq_true rfl⟩ (c_rec X hH 200 (by decide) eO200 rfl) cA_g hH hS hl rfl (Nat.le_of_ble_eq_true rfl) dX11_suit_21) hS (fun H locs hH hS => ?_)
  subst hQ
  exact cEi X hH hS (so_s hf) dX11_suit_24
def f_X11_tried (w : CW) (a1 : Int32) (a2 : Int32) : Option (Int32 × CW) := (if (f_X9_has w a1) = 0 then (some ((-1), w)) else (if a2 < 0 then (some ((-1), w)) else (if a2 ≤ 1 then (Option.bind (f_X10_read w) fun q26 => (nmk (f_X5_clear q26.2 1) fun q34 => (if q26.1 < 0 then (Option.bind (f_X11_isSet q34 a1 (f_X11_now q34) 1) fun q53 => (if q53.1 = 0 then (some ((-9), q53.2)) else (some ((if a2 = 0 then (q53.2.2.2 7) else (q53.2.2.2 8)), q53.2)))) else (some (((-10) - q26.1), q34))))) else (some ((-1), w)))))
abbrev rm_X11_tried : Room := { frames := 9, cells := 0, slots := 0, locals := 176 }
theorem cn_X11_tried : CN yX11_tried 2 := ⟨by decide +kernel, by decide +kernel, by decide +kernel⟩
set_option maxHeartbeats 4000000 in
set_option maxRecDepth 100000 in
theorem c_X11_tried (l : Launch) (G : GX) (w : CW) (a1 : Int32) (a2 : Int32) (q : Int32 × CW) (hf : f_X11_tried w a1 a2 = some q) : MI l G yX11_tried cX11_tried 4 (some .int) rm_X11_tried [.ref (G.2.2.1 190), .int a1, .int a2] (cA G) (cH G w) (cH G q.2) q.1 := by
  refine cM_start (by decide +kernel) (Nat.le_of_ble_eq_true rfl) ?_
  intro p e s m below meth c ls X hH hl
  have hS : va_S (cA G) s.heap s.heap [] := va_S.rf
  have hx := X.1.1
  have hb := X.1.2.1
  generalize hargs : ([.ref (G.2.2.1 190), .int a1, .int a2] : List Value).toArray = args at X ⊢
  generalize hQ : MQ below (QI (cA G) (cH G q.2) q.1) args s 0 0 (cA G) = Q
  have hl : lv_has ls 4 [(0, .ref (G.2.2.1 190)), (1, .int a1), (2, .int a2)] := hl
  unfold f_X11_tried at hf
  refine lv_aload_n hx hb dX11_tried_0 rfl (lv_at hl 0 rfl) ?_
  refine co_get X hH 190 (by decide) eO190 rfl inBX11 5 (by decide) rfl bw577 dX11_tried_1 ?_
  refine lv_iload_n hx hb dX11_tried_4 rfl (lv_at hl 1 rfl) ?_
  refine cGi (cVrun (rest := []) X (c_X9_has l G w a1 _ rfl) bw906 bw907 bw908 bw98 bw909 cn_X9_has ⟨rfl, rfl, Nat.le_of_ble_eq_true rfl, Nat.le_of_ble_eq_true rfl⟩ (c_rec X hH 194 (by decide) eO194 rfl) cA_g hH hS hl rfl (Nat.le_of_ble_eq_true rfl) dX11_tried_5) hS (fun H locs hH hS => ?_)
  refine lv_if_eq (tgt := 20) hx hb dX11_tried_8 (by decide) (fun hc => ?_) (fun hc => ?_)
  · have hf := fo_t hc hf
    refine lv_iconst (v := (-1)) hx hb dX11_tried_20 (by decide) ?_
    subst hQ
    exact cEi X (cH2 (so_s hf) hH) hS (pf1 (so_s hf)) dX11_tried_21
  have hf := fo_f hc hf
  refine lv_iload_n hx hb dX11_tried_11 rfl (lv_at hl 2 rfl) ?_
  refine lv_if_lt (tgt := 20) hx hb dX11_tried_12 (by decide) (fun hc => ?_) (fun hc => ?_)
  · have hf := fo_t hc hf
    refine lv_iconst (v := (-1)) hx hb dX11_tried_20 (by decide) ?_
    subst hQ
    exact cEi X (cH2 (so_s hf) hH) hS (pf1 (so_s hf)) dX11_tried_21
  have hf := fo_f hc hf
  refine lv_iload_n hx hb dX11_tried_15 rfl (lv_at hl 2 rfl) ?_
  refine lv_iconst (v := 1) hx hb dX11_tried_16 (by decide) ?_
  refine lv_icmp_le (tgt := 22) hx hb dX11_tried_17 (by decide) (fun hc => ?_) (fun hc => ?_)
  rotate_left
  · have hf := fo_f hc hf
    refine lv_iconst (v := (-1)) hx hb dX11_tried_20 (by decide) ?_
    subst hQ
    exact cEi X (cH2 (so_s hf) hH) hS (pf1 (so_s hf)) dX11_tried_21
  have hf := fo_t hc hf
  refine lv_aload_n hx hb dX11_tried_22 rfl (lv_at hl 0 rfl) ?_
  refine co_get X hH 190 (by decide) eO190 rfl inBX11 3 (by decide) rfl bw575 dX11_tried_23 ?_
  obtain ⟨q26, hq26, hf⟩ := bd_s hf
  refine cGi (cVrun (rest := []) X (c_X10_read l G w q26 hq26) bw697 bw698 bw699 bw96 bw700 cn_X10_read ⟨rfl, rfl, Nat.le_of_ble_eq_true rfl, Nat.le_of_ble_eq_true rfl⟩ (c_rec X hH 192 (by decide) eO192 rfl) cA_g hH hS hl rfl (Nat.le_of_ble_eq_true rfl) dX11_tried_26) hS (fun H locs hH hS => ?_)
  refine lv_istore_n (lv' := [(3, .int q26.1), (0, .ref (G.2.2.1 190)), (1, .int a1), (2, .int a2)]) hx hb dX11_tried_29 rfl hl (by decide) rfl (fun ls hl => ?_)
  refine lv_aload_n hx hb dX11_tried_30 rfl (lv_at hl 1 rfl) ?_
  refine co_get X hH 190 (by decide) eO190 rfl inBX11 2 (by decide) rfl bw574 dX11_tried_31 ?_
  obtain ⟨q34, hq34, hf⟩ := nm_x hf
  have hq34 := hq34.symm
  refine cGv (cVrun (rest := []) X (c_X5_clear l G q26.2 1 (by decide) q34 hq34) bw808 bw809 bw810 bw91 bw811 cn_X5_clear ⟨rfl, rfl, Nat.le_of_ble_eq_true rfl, Nat.le_of_ble_eq_true rfl⟩ (c_recR X hH (by decide)) cA_g hH hS hl rfl (Nat.le_of_ble_eq_true rfl) dX11_tried_34) hS (fun H locs hH hS => ?_)
  refine lv_iload_n hx hb dX11_tried_37 rfl (lv_at hl 0 rfl) ?_
  refine lv_if_lt (tgt := 46) hx hb dX11_tried_38 (by decide) (fun hc => ?_) (fun hc => ?_)
  rotate_left
  · have hf := fo_f hc hf
    refine lv_bipush (v := (-10)) hx hb dX11_tried_41 (by decide) ?_
    refine lv_iload_n hx hb dX11_tried_43 rfl (lv_at hl 0 rfl) ?_
    refine lv_isub hx hb dX11_tried_44 ?_
    subst hQ
    exact cEi X (cH2 (so_s hf) hH) hS (pf1 (so_s hf)) dX11_tried_45
  have hf := fo_t hc hf
  refine lv_aload_n hx hb dX11_tried_46 rfl (lv_at hl 1 rfl) ?_
  refine lv_iload_n hx hb dX11_tried_47 rfl (lv_at hl 2 rfl) ?_
  refine lv_aload_n hx hb dX11_tried_48 rfl (lv_at hl 1 rfl) ?_
  refine cGi (cVrun (rest := [.int a1, .ref (G.2.2.1 190)]) X (c_X11_now l G q34 _ rfl) bw667 bw669 bw3 bw86 bw670 cn_X11_now ⟨rfl, rfl, Nat.le_of_ble_eq_true rfl, Nat.le_of_ble_eq_true rfl⟩ (c_rec X hH 190 (by decide) eO190 rfl) cA_g hH hS hl rfl (Nat.le_of_ble_eq_true rfl) dX11_tried_49) hS (fun H locs hH hS => ?_)
  refine lv_iconst (v := 1) hx hb dX11_tried_52 (by decide) ?_
  obtain ⟨q53, hq53, hf⟩ := bd_s hf
  refine cGz (cVrun (rest := []) X (c_X11_isSet l G q34 a1 (f_X11_now q34) 1 q53 hq53) bw910 bw912 bw17 bw86 bw913 cn_X11_isSet ⟨rfl, rfl, Nat.le_of_ble_eq_true rfl, Nat.le_of_ble_eq_true rfl⟩ (c_rec X hH 190 (by decide) eO190 rfl) cA_g hH hS hl rfl (Nat.le_of_ble_eq_true rfl) dX11_tried_53) hS (fun hz53 H locs hH hS => ?_)
  refine lv_if_ne (tgt := 62) hx hb dX11_tried_56 (by decide) (fun hc => ?_) (fun hc => ?_)
  rotate_left
  · have hf := fo_t hc hf
    refine lv_bipush (v := (-9)) hx hb dX11_tried_59 (by decide) ?_
    subst hQ
    exact cEi X (cH2 (so_s hf) hH) hS (pf1 (so_s hf)) dX11_tried_61
  have hf := fo_f hc hf
  refine lv_iload_n hx hb dX11_tried_62 rfl (lv_at hl 3 rfl) ?_
  have hJ : ∀ (H : Heap) (locs : List Loc), cH G q53.2 H → va_S (cA G) s.heap H locs → W p l e rm_X11_tried s m args below meth c H locs 0 0 Q (F0 m 83 ls [.int (if a2 = 0 then (q53.2.2.2 7) else (q53.2.2.2 8))]) := by
    intro H locs hH hS
    subst hQ
    exact cEi X (cH2 (so_s hf) hH) hS (pf1 (so_s hf)) dX11_tried_83
  refine lv_if_ne (tgt := 76) hx hb dX11_tried_63 (by decide) (fun hc63 => ?_) (fun hc63 => ?_)
  · refine lv_aload_n hx hb dX11_tried_76 rfl (lv_at hl 1 rfl) ?_
    refine co_get X hH 190 (by decide) eO190 rfl inBX11 7 (by decide) rfl bw579 dX11_tried_77 ?_
    refine co_getN X hH 196 (by decide) eO196 rfl inBX6 14 (by decide) rfl bw404 dX11_tried_80 ?_
    exact W.eq (by rw [if_neg hc63] <;> rfl) (hJ _ _ hH hS)
  · refine lv_aload_n hx hb dX11_tried_66 rfl (lv_at hl 1 rfl) ?_
    refine co_get X hH 190 (by decide) eO190 rfl inBX11 7 (by decide) rfl bw579 dX11_tried_67 ?_
    refine co_getN X hH 196 (by decide) eO196 rfl inBX6 13 (by decide) rfl bw403 dX11_tried_70 ?_
    refine lv_goto (tgt := 83) hx hb dX11_tried_73 (by decide) ?_
    exact W.eq (by rw [if_pos hc63] <;> rfl) (hJ _ _ hH hS)
def f_X11_image (w : CW) : Int32 × CW := (nmk (f_X7_keep w) fun q4 => (nmk (sS q4 10 1) fun w9 => (((f_X11_now w9), w9))))
abbrev rm_X11_image : Room := { frames := 5, cells := 0, slots := 0, locals := 145 }
theorem cn_X11_image : CN yX11_image 0 := ⟨by decide +kernel, by decide +kernel, by decide +kernel⟩
set_option maxHeartbeats 4000000 in
set_option maxRecDepth 100000 in
theorem c_X11_image (l : Launch) (G : GX) (w : CW) (q : Int32 × CW) (hf : f_X11_image w = q) : MI l G yX11_image cX11_image 1 (some .int) rm_X11_image [.ref (G.2.2.1 190)] (cA G) (cH G w) (cH G q.2) q.1 := by
  refine cM_start (by decide +kernel) (Nat.le_of_ble_eq_true rfl) ?_
  intro p e s m below meth c ls X hH hl
  have hS : va_S (cA G) s.heap s.heap [] := va_S.rf
  have hx := X.1.1
  have hb := X.1.2.1
  generalize hargs : ([.ref (G.2.2.1 190)] : List Value).toArray = args at X ⊢
  generalize hQ : MQ below (QI (cA G) (cH G q.2) q.1) args s 0 0 (cA G) = Q
  have hl : lv_has ls 1 [(0, .ref (G.2.2.1 190))] := hl
  unfold f_X11_image at hf
  refine lv_aload_n hx hb dX11_image_0 rfl (lv_at hl 0 rfl) ?_
  refine co_get X hH 190 (by decide) eO190 rfl inBX11 0 (by decide) rfl bw572 dX11_image_1 ?_
  obtain ⟨q4, hq4, hf⟩ := nm_x hf
  have hq4 := hq4.symm
  refine cGv (cVrun (rest := []) X (cq_X7_keep l G w q4 hq4) bw1337 bw1338 bw1339 bw87 bw1340 cn_X7_keep ⟨rfl, rfl, Nat.le_of_ble_eq_true rfl, Nat.le_of_ble_eq_true rfl⟩ (c_rec X hH 191 (by decide) eO191 rfl) cA_g hH hS hl rfl (Nat.le_of_ble_eq_true rfl) dX11_image_4) hS (fun H locs hH hS => ?_)
  refine lv_aload_n hx hb dX11_image_7 rfl (lv_at hl 0 rfl) ?_
  refine lv_iconst (v := 1) hx hb dX11_image_8 (by decide) ?_
  refine co_put (C := RX11) (N := 13) X hH hS 190 (by decide) eO190 rfl inBX11 tyX11 tyX11_ok nmX11 12 (by decide) bw584 rfl (nz zb1) (fz zb1) (by simp) (sS q4 10 1) rfl cE_s10 dX11_image_9 (fun H locs hH hS => ?_)
  obtain ⟨w9, ew9⟩ : ∃ z : CW, z = (sS q4 10 1) := ⟨_, rfl⟩
  have hf := nm_s hf w9 ew9
  have hH : cH G w9 H := ew9 ▸ hH
  refine lv_aload_n hx hb dX11_image_12 rfl (lv_at hl 0 rfl) ?_
  refine cGi (cVrun (rest := []) X (c_X11_now l G w9 _ rfl) bw667 bw669 bw3 bw86 bw670 cn_X11_now ⟨rfl, rfl, Nat.le_of_ble_eq_true rfl, Nat.le_of_ble_eq_true rfl⟩ (c_rec X hH 190 (by decide) eO190 rfl) cA_g hH hS hl rfl (Nat.le_of_ble_eq_true rfl) dX11_image_13) hS (fun H locs hH hS => ?_)
  subst hQ
  exact cEi X (cH2 (hf) hH) hS (pf1 (hf)) dX11_image_16
def f_X11_undo (w : CW) : Int32 × CW := (if (w.2.2 10) = 0 then (((-3), w)) else (nmk (f_X7_bringBack w) fun q14 => (((f_X11_now q14), q14))))
abbrev rm_X11_undo : Room := { frames := 5, cells := 0, slots := 0, locals := 145 }
theorem cn_X11_undo : CN yX11_undo 0 := ⟨by decide +kernel, by decide +kernel, by decide +kernel⟩
set_option maxHeartbeats 4000000 in
set_option maxRecDepth 100000 in
theorem c_X11_undo (l : Launch) (G : GX) (w : CW) (q : Int32 × CW) (hf : f_X11_undo w = q) : MI l G yX11_undo cX11_undo 1 (some .int) rm_X11_undo [.ref (G.2.2.1 190)] (cA G) (cH G w) (cH G q.2) q.1 := by
  refine cM_start (by decide +kernel) (Nat.le_of_ble_eq_true rfl) ?_
  intro p e s m below meth c ls X hH hl
  have hS : va_S (cA G) s.heap s.heap [] := va_S.rf
  have hx := X.1.1
  have hb := X.1.2.1
  generalize hargs : ([.ref (G.2.2.1 190)] : List Value).toArray = args at X ⊢
  generalize hQ : MQ below (QI (cA G) (cH G q.2) q.1) args s 0 0 (cA G) = Q
  have hl : lv_has ls 1 [(0, .ref (G.2.2.1 190))] := hl
  unfold f_X11_undo at hf
  refine lv_aload_n hx hb dX11_undo_0 rfl (lv_at hl 0 rfl) ?_
  refine co_get X hH 190 (by decide) eO190 rfl inBX11 12 (by decide) rfl bw584 dX11_undo_1 ?_
  refine lv_if_ne (tgt := 10) hx hb dX11_undo_4 (by decide) (fun hc => ?_) (fun hc => ?_)
  rotate_left
  · have hf := fo_t hc hf
    refine lv_bipush (v := (-3)) hx hb dX11_undo_7 (by decide) ?_
    subst hQ
    exact cEi X (cH2 (hf) hH) hS (pf1 (hf)) dX11_undo_9
  have hf := fo_f hc hf
  refine lv_aload_n hx hb dX11_undo_10 rfl (lv_at hl 0 rfl) ?_
  refine co_get X hH 190 (by decide) eO190 rfl inBX11 0 (by decide) rfl bw572 dX11_undo_11 ?_
  obtain ⟨q14, hq14, hf⟩ := nm_x hf
  have hq14 := hq14.symm
  refine cGv (cVrun (rest := []) X (cq_X7_bringBack l G w q14 hq14) bw1365 bw1366 bw1367 bw87 bw1368 cn_X7_bringBack ⟨rfl, rfl, Nat.le_of_ble_eq_true rfl, Nat.le_of_ble_eq_true rfl⟩ (c_rec X hH 191 (by decide) eO191 rfl) cA_g hH hS hl rfl (Nat.le_of_ble_eq_true rfl) dX11_undo_14) hS (fun H locs hH hS => ?_)
  refine lv_aload_n hx hb dX11_undo_17 rfl (lv_at hl 0 rfl) ?_
  refine cGi (cVrun (rest := []) X (c_X11_now l G q14 _ rfl) bw667 bw669 bw3 bw86 bw670 cn_X11_now ⟨rfl, rfl, Nat.le_of_ble_eq_true rfl, Nat.le_of_ble_eq_true rfl⟩ (c_rec X hH 190 (by decide) eO190 rfl) cA_g hH hS hl rfl (Nat.le_of_ble_eq_true rfl) dX11_undo_18) hS (fun H locs hH hS => ?_)
  subst hQ
  exact cEi X (cH2 (hf) hH) hS (pf1 (hf)) dX11_undo_21
def f_X11_count (w : CW) (a1 : Int32) : Option (Int32) := (if a1 = 0 then (some (f_X5_size w 2)) else (if a1 = 1 then (some (f_X5_size w 10)) else (if a1 = 2 then (some (f_X5_size w 15)) else (if a1 = 3 then (Option.bind (f_X8_standing w) fun q97 => (some q97)) else (if a1 = 4 then (some (f_X5_size w 20)) else (if a1 = 5 then (some (f_X5_size w 23)) else (if a1 = 6 then (some (f_X5_size w 27)) else (if a1 = 7 then (some (f_X5_size w 28)) else (if a1 = 8 then (some (f_X5_size w 30)) else (if a1 = 9 then (some (f_X11_now w)) else (if a1 = 10 then (some (f_X5_size w 1)) else (some (-1)))))))))))))
abbrev rm_X11_count : Room := { frames := 3, cells := 0, slots := 0, locals := 43 }
theorem cn_X11_count : CN yX11_count 1 := ⟨by decide +kernel, by decide +kernel, by decide +kernel⟩
set_option maxHeartbeats 4000000 in
set_option maxRecDepth 100000 in
theorem c_X11_count (l : Launch) (G : GX) (w : CW) (a1 : Int32) (q : Int32) (hf : f_X11_count w a1 = some q) : MI l G yX11_count cX11_count 2 (some .int) rm_X11_count [.ref (G.2.2.1 190), .int a1] (cA G) (cH G w) (cH G w) q := by
  refine cM_start (by decide +kernel) (Nat.le_of_ble_eq_true rfl) ?_
  intro p e s m below meth c ls X hH hl
  have hS : va_S (cA G) s.heap s.heap [] := va_S.rf
  have hx := X.1.1
  have hb := X.1.2.1
  generalize hargs : ([.ref (G.2.2.1 190), .int a1] : List Value).toArray = args at X ⊢
  generalize hQ : MQ below (QI (cA G) (cH G w) q) args s 0 0 (cA G) = Q
  have hl : lv_has ls 2 [(0, .ref (G.2.2.1 190)), (1, .int a1)] := hl
  unfold f_X11_count at hf
  refine lv_iload_n hx hb dX11_count_0 rfl (lv_at hl 1 rfl) ?_
  by_cases hc0 : a1 = 0
  · have hf := fo_t hc0 hf
    refine lv_tableIn (tgt := 60) hx hb dX11_count_1 (by rw [hc0]; decide) (by rw [hc0]; decide) (by rw [hc0]; rfl) (by decide) ?_
    refine lv_aload_n hx hb dX11_count_60 rfl (lv_at hl 0 rfl) ?_
    refine co_get X hH 190 (by decide) eO190 rfl inBX11 3 (by decide) rfl bw575 dX11_count_61 ?_
    refine co_getN X hH 192 (by decide) eO192 rfl inBX10 1 (by decide) rfl bw248 dX11_count_64 ?_
    refine cGi (cVrun (rest := []) X (c_X5_size l G w 2 (by decide) _ rfl) bw676 bw624 bw625 bw91 bw626 cn_X5_size ⟨rfl, rfl, Nat.le_of_ble_eq_true rfl, Nat.le_of_ble_eq_true rfl⟩ (c_recR X hH (by decide)) cA_g hH hS hl rfl (Nat.le_of_ble_eq_true rfl) dX11_count_67) hS (fun H locs hH hS => ?_)
    subst hQ
    exact cEi X hH hS (so_s hf) dX11_count_70
  have hf := fo_f hc0 hf
  by_cases hc1 : a1 = 1
  · have hf := fo_t hc1 hf
    refine lv_tableIn (tgt := 71) hx hb dX11_count_1 (by rw [hc1]; decide) (by rw [hc1]; decide) (by rw [hc1]; rfl) (by decide) ?_
    refine lv_aload_n hx hb dX11_count_71 rfl (lv_at hl 0 rfl) ?_
    refine co_get X hH 190 (by decide) eO190 rfl inBX11 5 (by decide) rfl bw577 dX11_count_72 ?_
    refine co_getN X hH 194 (by decide) eO194 rfl inBX9 0 (by decide) rfl bw333 dX11_count_75 ?_
    refine cGi (cVrun (rest := []) X (c_X5_size l G w 10 (by decide) _ rfl) bw676 bw624 bw625 bw91 bw626 cn_X5_size ⟨rfl, rfl, Nat.le_of_ble_eq_true rfl, Nat.le_of_ble_eq_true rfl⟩ (c_recR X hH (by decide)) cA_g hH hS hl rfl (Nat.le_of_ble_eq_true rfl) dX11_count_78) hS (fun H locs hH hS => ?_)
    subst hQ
    exact cEi X hH hS (so_s hf) dX11_count_81
  have hf := fo_f hc1 hf
  by_cases hc2 : a1 = 2
  · have hf := fo_t hc2 hf
    refine lv_tableIn (tgt := 82) hx hb dX11_count_1 (by rw [hc2]; decide) (by rw [hc2]; decide) (by rw [hc2]; rfl) (by decide) ?_
    refine lv_aload_n hx hb dX11_count_82 rfl (lv_at hl 0 rfl) ?_
    refine co_get X hH 190 (by decide) eO190 rfl inBX11 6 (by decide) rfl bw578 dX11_count_83 ?_
    refine co_getN X hH 195 (by decide) eO195 rfl inBX8 3 (by decide) rfl bw362 dX11_count_86 ?_
    refine cGi (cVrun (rest := []) X (c_X5_size l G w 15 (by decide) _ rfl) bw676 bw624 bw625 bw91 bw626 cn_X5_size ⟨rfl, rfl, Nat.le_of_ble_eq_true rfl, Nat.le_of_ble_eq_true rfl⟩ (c_recR X hH (by decide)) cA_g hH hS hl rfl (Nat.le_of_ble_eq_true rfl) dX11_count_89) hS (fun H locs hH hS => ?_)
    subst hQ
    exact cEi X hH hS (so_s hf) dX11_count_92
  have hf := fo_f hc2 hf
  by_cases hc3 : a1 = 3
  · have hf := fo_t hc3 hf
    refine lv_tableIn (tgt := 93) hx hb dX11_count_1 (by rw [hc3]; decide) (by rw [hc3]; decide) (by rw [hc3]; rfl) (by decide) ?_
    refine lv_aload_n hx hb dX11_count_93 rfl (lv_at hl 0 rfl) ?_
    refine co_get X hH 190 (by decide) eO190 rfl inBX11 6 (by decide) rfl bw578 dX11_count_94 ?_
    obtain ⟨q97, hq97, hf⟩ := bd_s hf
    refine cGi (cVrun (rest := []) X (c_X8_standing l G w q97 hq97) bw619 bw620 bw621 bw99 bw622 cn_X8_standing ⟨rfl, rfl, Nat.le_of_ble_eq_true rfl, Nat.le_of_ble_eq_true rfl⟩ (c_rec X hH 195 (by decide) eO195 rfl) cA_g hH hS hl rfl (Nat.le_of_ble_eq_true rfl) dX11_count_97) hS (fun H locs hH hS => ?_)
    subst hQ
    exact cEi X hH hS (so_s hf) dX11_count_100
  have hf := fo_f hc3 hf
  by_cases hc4 : a1 = 4
  · have hf := fo_t hc4 hf
    refine lv_tableIn (tgt := 101) hx hb dX11_count_1 (by rw [hc4]; decide) (by rw [hc4]; decide) (by rw [hc4]; rfl) (by decide) ?_
    refine lv_aload_n hx hb dX11_count_101 rfl (lv_at hl 0 rfl) ?_
    refine co_get X hH 190 (by decide) eO190 rfl inBX11 8 (by decide) rfl bw580 dX11_count_102 ?_
    refine co_getN X hH 197 (by decide) eO197 rfl inBX4 2 (by decide) rfl bw452 dX11_count_105 ?_
    refine cGi (cVrun (rest := []) X (c_X5_size l G w 20 (by decide) _ rfl) bw676 bw624 bw625 bw91 bw626 cn_X5_size ⟨rfl, rfl, Nat.le_of_ble_eq_true rfl, Nat.le_of_ble_eq_true rfl⟩ (c_recR X hH (by decide)) cA_g hH hS hl rfl (Nat.le_of_ble_eq_true rfl) dX11_count_108) hS (fun H locs hH hS => ?_)
    subst hQ
    exact cEi X hH hS (so_s hf) dX11_count_111
  have hf := fo_f hc4 hf
  by_cases hc5 : a1 = 5
  · have hf := fo_t hc5 hf
    refine lv_tableIn (tgt := 112) hx hb dX11_count_1 (by rw [hc5]; decide) (by rw [hc5]; decide) (by rw [hc5]; rfl) (by decide) ?_
    refine lv_aload_n hx hb dX11_count_112 rfl (lv_at hl 0 rfl) ?_
    refine co_get X hH 190 (by decide) eO190 rfl inBX11 9 (by decide) rfl bw581 dX11_count_113 ?_
    refine co_getN X hH 198 (by decide) eO198 rfl inBX2 0 (by decide) rfl bw478 dX11_count_116 ?_
    refine cGi (cVrun (rest := []) X (c_X5_size l G w 23 (by decide) _ rfl) bw676 bw624 bw625 bw91 bw626 cn_X5_size ⟨rfl, rfl, Nat.le_of_ble_eq_true rfl, Nat.le_of_ble_eq_true rfl⟩ (c_recR X hH (by decide)) cA_g hH hS hl rfl (Nat.le_of_ble_eq_true rfl) dX11_count_119) hS (fun H locs hH hS => ?_)
    subst hQ
    exact cEi X hH hS (so_s hf) dX11_count_122
  have hf := fo_f hc5 hf
  by_cases hc6 : a1 = 6
  · have hf := fo_t hc6 hf
    refine lv_tableIn (tgt := 123) hx hb dX11_count_1 (by rw [hc6]; decide) (by rw [hc6]; decide) (by rw [hc6]; rfl) (by decide) ?_
    refine lv_aload_n hx hb dX11_count_123 rfl (lv_at hl 0 rfl) ?_
    refine co_get X hH 190 (by decide) eO190 rfl inBX11 10 (by decide) rfl bw582 dX11_count_124 ?_
    refine co_getN X hH 199 (by decide) eO199 rfl inBX1 0 (by decide) rfl bw505 dX11_count_127 ?_
    refine cGi (cVrun (rest := []) X (c_X5_size l G w 27 (by decide) _ rfl) bw676 bw624 bw625 bw91 bw626 cn_X5_size ⟨rfl, rfl, Nat.le_of_ble_eq_true rfl, Nat.le_of_ble_eq_true rfl⟩ (c_recR X hH (by decide)) cA_g hH hS hl rfl (Nat.le_of_ble_eq_true rfl) dX11_count_130) hS (fun H locs hH hS => ?_)
    subst hQ
    exact cEi X hH hS (so_s hf) dX11_count_133
  have hf := fo_f hc6 hf
  by_cases hc7 : a1 = 7
  · have hf := fo_t hc7 hf
    refine lv_tableIn (tgt := 134) hx hb dX11_count_1 (by rw [hc7]; decide) (by rw [hc7]; decide) (by rw [hc7]; rfl) (by decide) ?_
    refine lv_aload_n hx hb dX11_count_134 rfl (lv_at hl 0 rfl) ?_
    refine co_get X hH 190 (by decide) eO190 rfl inBX11 10 (by decide) rfl bw582 dX11_count_135 ?_
    refine co_getN X hH 199 (by decide) eO199 rfl inBX1 1 (by decide) rfl bw507 dX11_count_138 ?_
    refine cGi (cVrun (rest := []) X (c_X5_size l G w 28 (by decide) _ rfl) bw676 bw624 bw625 bw91 bw626 cn_X5_size ⟨rfl, rfl, Nat.le_of_ble_eq_true rfl, Nat.le_of_ble_eq_true rfl⟩ (c_recR X hH (by decide)) cA_g hH hS hl rfl (Nat.le_of_ble_eq_true rfl) dX11_count_141) hS (fun H locs hH hS => ?_)
    subst hQ
    exact cEi X hH hS (so_s hf) dX11_count_144
  have hf := fo_f hc7 hf
  by_cases hc8 : a1 = 8
  · have hf := fo_t hc8 hf
    refine lv_tableIn (tgt := 145) hx hb dX11_count_1 (by rw [hc8]; decide) (by rw [hc8]; decide) (by rw [hc8]; rfl) (by decide) ?_
    refine lv_aload_n hx hb dX11_count_145 rfl (lv_at hl 0 rfl) ?_
    refine co_get X hH 190 (by decide) eO190 rfl inBX11 11 (by decide) rfl bw583 dX11_count_146 ?_
    refine co_getN X hH 200 (by decide) eO200 rfl inBX3 0 (by decide) rfl bw547 dX11_count_149 ?_
    refine cGi (cVrun (rest := []) X (c_X5_size l G w 30 (by decide) _ rfl) bw676 bw624 bw625 bw91 bw626 cn_X5_size ⟨rfl, rfl, Nat.le_of_ble_eq_true rfl, Nat.le_of_ble_eq_true rfl⟩ (c_recR X hH (by decide)) cA_g hH hS hl rfl (Nat.le_of_ble_eq_true rfl) dX11_count_152) hS (fun H locs hH hS => ?_)
    subst hQ
    exact cEi X hH hS (so_s hf) dX11_count_155
  have hf := fo_f hc8 hf
  by_cases hc9 : a1 = 9
  · have hf := fo_t hc9 hf
    refine lv_tableIn (tgt := 156) hx hb dX11_count_1 (by rw [hc9]; decide) (by rw [hc9]; decide) (by rw [hc9]; rfl) (by decide) ?_
    refine lv_aload_n hx hb dX11_count_156 rfl (lv_at hl 0 rfl) ?_
    refine cGi (cVrun (rest := []) X (c_X11_now l G w _ rfl) bw667 bw669 bw3 bw86 bw670 cn_X11_now ⟨rfl, rfl, Nat.le_of_ble_eq_true rfl, Nat.le_of_ble_eq_true rfl⟩ (c_rec X hH 190 (by decide) eO190 rfl) cA_g hH hS hl rfl (Nat.le_of_ble_eq_true rfl) dX11_count_157) hS (fun H locs hH hS => ?_)
    subst hQ
    exact cEi X hH hS (so_s hf) dX11_count_160
  have hf := fo_f hc9 hf
  by_cases hc10 : a1 = 10
  · have hf := fo_t hc10 hf
    refine lv_tableIn (tgt := 161) hx hb dX11_count_1 (by rw [hc10]; decide) (by rw [hc10]; decide) (by rw [hc10]; rfl) (by decide) ?_
    refine lv_aload_n hx hb dX11_count_161 rfl (lv_at hl 0 rfl) ?_
    refine co_get X hH 190 (by decide) eO190 rfl inBX11 2 (by decide) rfl bw574 dX11_count_162 ?_
    refine cGi (cVrun (rest := []) X (c_X5_size l G w 1 (by decide) _ rfl) bw676 bw624 bw625 bw91 bw626 cn_X5_size ⟨rfl, rfl, Nat.le_of_ble_eq_true rfl, Nat.le_of_ble_eq_true rfl⟩ (c_recR X hH (by decide)) cA_g hH hS hl rfl (Nat.le_of_ble_eq_true rfl) dX11_count_165) hS (fun H locs hH hS => ?_)
    subst hQ
    exact cEi X hH hS (so_s hf) dX11_count_168
  have hf := fo_f hc10 hf
  refine lv_tableOut (tgt := 169) hx hb dX11_count_1 (sw_out (ks := [0, 1, 2, 3, 4, 5, 6, 7, 8, 9, 10]) (by intro k hk; simp only [List.mem_cons, List.not_mem_nil, or_false] at hk; rcases hk with rfl | rfl | rfl | rfl | rfl | rfl | rfl | rfl | rfl | rfl | rfl <;> assumption) (sw_all 0 [0, 1, 2, 3, 4, 5, 6, 7, 8, 9, 10] (by decide))) (by decide) ?_
  refine lv_iconst (v := (-1)) hx hb dX11_count_169 (by decide) ?_
  subst hQ
  exact cEi X hH hS (so_s hf) dX11_count_170
