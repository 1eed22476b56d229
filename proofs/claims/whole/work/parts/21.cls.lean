def f_X3_paid_L6 (w : CW) (a1 : Int32) (a2 : Int32) (a3 : Int32) : Nat → Int32 → Int32 → Option (Int32)
  | 0, _, _ => none
  | n6 + 1, v6_4, v6_5 => (if (f_X5_size w 35) ≤ v6_5 then (some v6_4) else (nmk (if (rAt w 33 v6_5) = a1 then (if (rAt w 34 v6_5) < a2 then 0 else (if a3 < (rAt w 34 v6_5) then 0 else 1)) else 0) fun (x62 : Int32) => (nmk (v6_4 + (if x62 = 0 then 0 else (rAt w 35 v6_5))) fun (x85 : Int32) => (nmk (v6_5 + 1) fun (x87 : Int32) => (f_X3_paid_L6 w a1 a2 a3 n6 x85 x87)))))
def f_X3_paid (w : CW) (a1 : Int32) (a2 : Int32) (a3 : Int32) : Option (Int32) := (f_X3_paid_L6 w a1 a2 a3 FU 0 0)
abbrev rm_X3_paid : Room := { frames := 2, cells := 0, slots := 0, locals := 21 }
theorem cn_X3_paid : CN yX3_paid 3 := ⟨by decide +kernel, by decide +kernel, by decide +kernel⟩
set_option maxHeartbeats 4000000 in
set_option maxRecDepth 100000 in
theorem c_X3_paid (l : Launch) (G : GX) (w : CW) (a1 : Int32) (a2 : Int32) (a3 : Int32) (q : Int32) (hf : f_X3_paid w a1 a2 a3 = some q) : MI l G yX3_paid cX3_paid 7 (some .int) rm_X3_paid [.ref (G.2.2.1 200), .int a1, .int a2, .int a3] (cA G) (cH G w) (cH G w) q := by
  refine cM_start (by decide +kernel) (Nat.le_of_ble_eq_true rfl) ?_
  intro p e s m below meth c ls X hH hl
  have hS : va_S (cA G) s.heap s.heap [] := va_S.rf
  have hx := X.1.1
  have hb := X.1.2.1
  generalize hargs : ([.ref (G.2.2.1 200), .int a1, .int a2, .int a3] : List Value).toArray = args at X ⊢
  generalize hQ : MQ below (QI (cA G) (cH G w) q) args s 0 0 (cA G) = Q
  have hl : lv_has ls 7 [(0, .ref (G.2.2.1 200)), (1, .int a1), (2, .int a2), (3, .int a3)] := hl
  unfold f_X3_paid at hf
  refine lv_iconst (v := 0) hx hb dX3_paid_0 (by decide) ?_
  refine lv_istore (lv' := [(4, .int 0), (0, .ref (G.2.2.1 200)), (1, .int a1), (2, .int a2), (3, .int a3)]) hx hb dX3_paid_1 hl (by decide) rfl (fun ls hl => ?_)
  refine lv_iconst (v := 0) hx hb dX3_paid_3 (by decide) ?_
  refine lv_istore (lv' := [(5, .int 0), (4, .int 0), (0, .ref (G.2.2.1 200)), (1, .int a1), (2, .int a2), (3, .int a3)]) hx hb dX3_paid_4 hl (by decide) rfl (fun ls hl => ?_)
  have hL6 : ∀ (n6 : Nat) (v6_4 : Int32) (v6_5 : Int32) (H : Heap) (locs : List Loc) (ls : Array Slot), f_X3_paid_L6 w a1 a2 a3 n6 v6_4 v6_5 = some q → cH G w H → va_S (cA G) s.heap H locs → lv_has ls 7 [(5, .int v6_5), (4, .int v6_4), (0, .ref (G.2.2.1 200)), (1, .int a1), (2, .int a2), (3, .int a3)] → W p l e rm_X3_paid s m args below meth c H locs 0 0 Q (F0 m 6 ls []) := by
    intro n6
    induction n6 with
    | zero => intro v6_4 v6_5 H locs ls hf; rw [f_X3_paid_L6] at hf; cases hf
    | succ n6 ih6 =>
      intro v6_4 v6_5 H locs ls hf hH hS hl
      rw [f_X3_paid_L6] at hf
      refine lv_iload hx hb dX3_paid_6 (lv_at hl 0 rfl) ?_
      refine lv_aload_n hx hb dX3_paid_8 rfl (lv_at hl 2 rfl) ?_
      refine co_get X hH 200 (by decide) eO200 rfl inBX3 5 (by decide) rfl bw553 dX3_paid_9 ?_
      refine cGi (cVrun (rest := [.int v6_5]) X (c_X5_size l G w 35 (by decide) _ rfl) bw1280 bw624 bw625 bw91 bw626 cn_X5_size ⟨rfl, rfl, Nat.le_of_ble_eq_true rfl, Nat.le_of_ble_eq_true rfl⟩ (c_recR X hH (by decide)) cA_g hH hS hl rfl (Nat.le_of_ble_eq_true rfl) dX3_paid_12) hS (fun H locs hH hS => ?_)
      refine lv_icmp_ge (tgt := 93) hx hb dX3_paid_15 (by decide) (fun hc => ?_) (fun hc => ?_)
      · have hf := fo_t hc hf
        refine lv_iload hx hb dX3_paid_93 (lv_at hl 1 rfl) ?_
        subst hQ
        exact cEi X hH hS (so_s hf) dX3_paid_95
      have hf := fo_f hc hf
      refine lv_aload_n hx hb dX3_paid_18 rfl (lv_at hl 2 rfl) ?_
      refine co_get X hH 200 (by decide) eO200 rfl inBX3 3 (by decide) rfl bw551 dX3_paid_19 ?_
      refine lv_iload hx hb dX3_paid_22 (lv_at hl 0 rfl) ?_
      refine cGi (cVrun (rest := []) X (cl_X5_at l G w 33 (by decide) v6_5 _ rfl) bw1289 bw628 bw629 bw91 bw630 cn_X5_at ⟨rfl, rfl, Nat.le_of_ble_eq_true rfl, Nat.le_of_ble_eq_true rfl⟩ (c_recR X hH (by decide)) cA_g hH hS hl rfl (Nat.le_of_ble_eq_true rfl) dX3_paid_24) hS (fun H locs hH hS => ?_)
      refine lv_iload_n hx hb dX3_paid_27 rfl (lv_at hl 3 rfl) ?_
      have hJ : ∀ (H : Heap) (locs : List Loc), cH G w H → va_S (cA G) s.heap H locs → W p l e rm_X3_paid s m args below meth c H locs 0 0 Q (F0 m 62 ls [.int (if (rAt w 33 v6_5) = a1 then (if (rAt w 34 v6_5) < a2 then 0 else (if a3 < (rAt w 34 v6_5) then 0 else 1)) else 0)]) := by
        intro H locs hH hS
        refine lv_topi (fun x62 ex62 => ?_)
        have hf := nm_s hf x62 ex62
        refine lv_istore (lv' := [(6, .int x62), (5, .int v6_5), (4, .int v6_4), (0, .ref (G.2.2.1 200)), (1, .int a1), (2, .int a2), (3, .int a3)]) hx hb dX3_paid_62 hl (by decide) rfl (fun ls hl => ?_)
        refine lv_iload hx hb dX3_paid_64 (lv_at hl 2 rfl) ?_
        refine lv_iload hx hb dX3_paid_66 (lv_at hl 0 rfl) ?_
        have hJ : ∀ (H : Heap) (locs : List Loc), cH G w H → va_S (cA G) s.heap H locs → W p l e rm_X3_paid s m args below meth c H locs 0 0 Q (F0 m 84 ls [.int (if x62 = 0 then 0 else (rAt w 35 v6_5)), .int v6_4]) := by
          intro H locs hH hS
          refine lv_iadd hx hb dX3_paid_84 ?_
          refine lv_topi (fun x85 ex85 => ?_)
          have hf := nm_s hf x85 ex85
          refine lv_istore (lv' := [(4, .int x85), (6, .int x62), (5, .int v6_5), (0, .ref (G.2.2.1 200)), (1, .int a1), (2, .int a2), (3, .int a3)]) hx hb dX3_paid_85 hl (by decide) rfl (fun ls hl => ?_)
          obtain ⟨x87, ex87⟩ : ∃ z : Int32, z = (v6_5 + 1) := ⟨_, rfl⟩
          have hf := nm_s hf x87 ex87
          refine lv_iinc (v := x87) (lv' := [(5, .int x87), (4, .int x85), (6, .int x62), (0, .ref (G.2.2.1 200)), (1, .int a1), (2, .int a2), (3, .int a3)]) hx hb dX3_paid_87 hl (k := 2) rfl (by rw [ex87]; rfl) (by decide) rfl (fun ls hl => ?_)
          refine lv_goto (tgt := 6) hx hb dX3_paid_90 (by decide) ?_
          exact ih6 _ _ _ _ _ hf hH hS (lv_sub hl [0, 1, 3, 4, 5, 6] rfl)
        refine lv_if_eq (tgt := 83) hx hb dX3_paid_68 (by decide) (fun hc68 => ?_) (fun hc68 => ?_)
        · refine lv_iconst (v := 0) hx hb dX3_paid_83 (by decide) ?_
          exact W.eq (by rw [if_pos hc68] <;> rfl) (hJ _ _ hH hS)
        · refine lv_aload_n hx hb dX3_paid_71 rfl (lv_at hl 3 rfl) ?_
          refine co_get X hH 200 (by decide) eO200 rfl inBX3 5 (by decide) rfl bw553 dX3_paid_72 ?_
          refine lv_iload hx hb dX3_paid_75 (lv_at hl 1 rfl) ?_
          refine cGi (cVrun (rest := [.int v6_4]) X (cl_X5_at l G w 35 (by decide) v6_5 _ rfl) bw1289 bw628 bw629 bw91 bw630 cn_X5_at ⟨rfl, rfl, Nat.le_of_ble_eq_true rfl, Nat.le_of_ble_eq_true rfl⟩ (c_recR X hH (by decide)) cA_g hH hS hl rfl (Nat.le_of_ble_eq_true rfl) dX3_paid_77) hS (fun H locs hH hS => ?_)
          refine lv_goto (tgt := 84) hx hb dX3_paid_80 (by decide) ?_
          exact W.eq (by rw [if_neg hc68] <;> rfl) (hJ _ _ hH hS)
      refine lv_icmp_ne (tgt := 61) hx hb dX3_paid_28 (by decide) (fun hc28 => ?_) (fun hc28 => ?_)
      · refine lv_iconst (v := 0) hx hb dX3_paid_61 (by decide) ?_
        exact W.eq (by rw [if_neg hc28] <;> rfl) (hJ _ _ hH hS)
      · refine lv_aload_n hx hb dX3_paid_31 rfl (lv_at hl 2 rfl) ?_
        refine co_get X hH 200 (by decide) eO200 rfl inBX3 4 (by decide) rfl bw552 dX3_paid_32 ?_
        refine lv_iload hx hb dX3_paid_35 (lv_at hl 0 rfl) ?_
        refine cGi (cVrun (rest := []) X (cl_X5_at l G w 34 (by decide) v6_5 _ rfl) bw1289 bw628 bw629 bw91 bw630 cn_X5_at ⟨rfl, rfl, Nat.le_of_ble_eq_true rfl, Nat.le_of_ble_eq_true rfl⟩ (c_recR X hH (by decide)) cA_g hH hS hl rfl (Nat.le_of_ble_eq_true rfl) dX3_paid_37) hS (fun H locs hH hS => ?_)
        refine lv_iload_n hx hb dX3_paid_40 rfl (lv_at hl 4 rfl) ?_
        refine lv_icmp_lt (tgt := 61) hx hb dX3_paid_41 (by decide) (fun hc41 => ?_) (fun hc41 => ?_)
        · refine lv_iconst (v := 0) hx hb dX3_paid_61 (by decide) ?_
          exact W.eq (by rw [if_pos hc28, if_pos hc41] <;> rfl) (hJ _ _ hH hS)
        · refine lv_aload_n hx hb dX3_paid_44 rfl (lv_at hl 2 rfl) ?_
          refine co_get X hH 200 (by decide) eO200 rfl inBX3 4 (by decide) rfl bw552 dX3_paid_45 ?_
          refine lv_iload hx hb dX3_paid_48 (lv_at hl 0 rfl) ?_
          refine cGi (cVrun (rest := []) X (cl_X5_at l G w 34 (by decide) v6_5 _ rfl) bw1289 bw628 bw629 bw91 bw630 cn_X5_at ⟨rfl, rfl, Nat.le_of_ble_eq_true rfl, Nat.le_of_ble_eq_true rfl⟩ (c_recR X hH (by decide)) cA_g hH hS hl rfl (Nat.le_of_ble_eq_true rfl) dX3_paid_50) hS (fun H locs hH hS => ?_)
          refine lv_iload_n hx hb dX3_paid_53 rfl (lv_at hl 5 rfl) ?_
          refine lv_icmp_gt (tgt := 61) hx hb dX3_paid_54 (by decide) (fun hc54 => ?_) (fun hc54 => ?_)
          · refine lv_iconst (v := 0) hx hb dX3_paid_61 (by decide) ?_
            exact W.eq (by rw [if_pos hc28, if_neg hc41, if_pos hc54] <;> rfl) (hJ _ _ hH hS)
          · refine lv_iconst (v := 1) hx hb dX3_paid_57 (by decide) ?_
            refine lv_goto (tgt := 62) hx hb dX3_paid_58 (by decide) ?_
            exact W.eq (by rw [if_pos hc28, if_neg hc41, if_neg hc54] <;> rfl) (hJ _ _ hH hS)
  exact hL6 _ _ _ _ _ _ hf hH hS (lv_sub hl [0, 1, 2, 3, 4, 5] rfl)
def f_X3_payBack (w : CW) (a1 : Int32) (a2 : Int32) (a3 : Int32) : Option (Int32 × CW) := (nmk (rPush w 33 a1) fun q5 => (nmk (rPush q5 34 a2) fun q13 => (nmk (rPush q13 35 a3) fun q21 => (Option.bind (f_X3_paid q21 a1 a2 a2) fun q28 => (some (q28, q21))))))
abbrev rm_X3_payBack : Room := { frames := 3, cells := 0, slots := 0, locals := 47 }
theorem cn_X3_payBack : CN yX3_payBack 3 := ⟨by decide +kernel, by decide +kernel, by decide +kernel⟩
set_option maxHeartbeats 4000000 in
set_option maxRecDepth 100000 in
theorem c_X3_payBack (l : Launch) (G : GX) (w : CW) (a1 : Int32) (a2 : Int32) (a3 : Int32) (q : Int32 × CW) (hf : f_X3_payBack w a1 a2 a3 = some q) : MI l G yX3_payBack cX3_payBack 4 (some .int) rm_X3_payBack [.ref (G.2.2.1 200), .int a1, .int a2, .int a3] (cA G) (cH G w) (cH G q.2) q.1 := by
  refine cM_start (by decide +kernel) (Nat.le_of_ble_eq_true rfl) ?_
  intro p e s m below meth c ls X hH hl
  have hS : va_S (cA G) s.heap s.heap [] := va_S.rf
  have hx := X.1.1
  have hb := X.1.2.1
  generalize hargs : ([.ref (G.2.2.1 200), .int a1, .int a2, .int a3] : List Value).toArray = args at X ⊢
  generalize hQ : MQ below (QI (cA G) (cH G q.2) q.1) args s 0 0 (cA G) = Q
  have hl : lv_has ls 4 [(0, .ref (G.2.2.1 200)), (1, .int a1), (2, .int a2), (3, .int a3)] := hl
  unfold f_X3_payBack at hf
  refine lv_aload_n hx hb dX3_payBack_0 rfl (lv_at hl 0 rfl) ?_
  refine co_get X hH 200 (by decide) eO200 rfl inBX3 3 (by decide) rfl bw551 dX3_payBack_1 ?_
  refine lv_iload_n hx hb dX3_payBack_4 rfl (lv_at hl 1 rfl) ?_
  obtain ⟨q5, hq5, hf⟩ := nm_x hf
  have hq5 := hq5.symm
  refine cGv (cVrun (rest := []) X (cl_X5_push l G w 33 (by decide) a1 q5 hq5) bw1270 bw679 bw680 bw91 bw681 cn_X5_push ⟨rfl, rfl, Nat.le_of_ble_eq_true rfl, Nat.le_of_ble_eq_true rfl⟩ (c_recR X hH (by decide)) cA_g hH hS hl rfl (Nat.le_of_ble_eq_true rfl) dX3_payBack_5) hS (fun H locs hH hS => ?_)
  refine lv_aload_n hx hb dX3_payBack_8 rfl (lv_at hl 0 rfl) ?_
  refine co_get X hH 200 (by decide) eO200 rfl inBX3 4 (by decide) rfl bw552 dX3_payBack_9 ?_
  refine lv_iload_n hx hb dX3_payBack_12 rfl (lv_at hl 2 rfl) ?_
  obtain ⟨q13, hq13, hf⟩ := nm_x hf
  have hq13 := hq13.symm
  refine cGv (cVrun (rest := []) X (cl_X5_push l G q5 34 (by decide) a2 q13 hq13) bw1270 bw679 bw680 bw91 bw681 cn_X5_push ⟨rfl, rfl, Nat.le_of_ble_eq_true rfl, Nat.le_of_ble_eq_true rfl⟩ (c_recR X hH (by decide)) cA_g hH hS hl rfl (Nat.le_of_ble_eq_true rfl) dX3_payBack_13) hS (fun H locs hH hS => ?_)
  refine lv_aload_n hx hb dX3_payBack_16 rfl (lv_at hl 0 rfl) ?_
  refine co_get X hH 200 (by decide) eO200 rfl inBX3 5 (by decide) rfl bw553 dX3_payBack_17 ?_
  refine lv_iload_n hx hb dX3_payBack_20 rfl (lv_at hl 3 rfl) ?_
  obtain ⟨q21, hq21, hf⟩ := nm_x hf
  have hq21 := hq21.symm
  refine cGv (cVrun (rest := []) X (cl_X5_push l G q13 35 (by decide) a3 q21 hq21) bw1270 bw679 bw680 bw91 bw681 cn_X5_push ⟨rfl, rfl, Nat.le_of_ble_eq_true rfl, Nat.le_of_ble_eq_true rfl⟩ (c_recR X hH (by decide)) cA_g hH hS hl rfl (Nat.le_of_ble_eq_true rfl) dX3_payBack_21) hS (fun H locs hH hS => ?_)
  refine lv_aload_n hx hb dX3_payBack_24 rfl (lv_at hl 0 rfl) ?_
  refine lv_iload_n hx hb dX3_payBack_25 rfl (lv_at hl 1 rfl) ?_
  refine lv_iload_n hx hb dX3_payBack_26 rfl (lv_at hl 2 rfl) ?_
  refine lv_iload_n hx hb dX3_payBack_27 rfl (lv_at hl 2 rfl) ?_
  obtain ⟨q28, hq28, hf⟩ := bd_s hf
  refine cGi (cVrun (rest := []) X (c_X3_paid l G q21 a1 a2 a2 q28 hq28) bw1285 bw1287 bw46 bw104 bw1288 cn_X3_paid ⟨rfl, rfl, Nat.le_of_ble_eq_true rfl, Nat.le_of_ble_eq_true rfl⟩ (c_rec X hH 200 (by decide) eO200 rfl) cA_g hH hS hl rfl (Nat.le_of_ble_eq_true rfl) dX3_payBack_28) hS (fun H locs hH hS => ?_)
  subst hQ
  exact cEi X (cH2 (so_s hf) hH) hS (pf1 (so_s hf)) dX3_payBack_31
def f_X3_owed_L33 (w : CW) (a1 : Int32) (a2 : Int32) (j97 : Int32 → Int32 → Option (Int32)) : Nat → Int32 → Int32 → Int32 → Option (Int32)
  | 0, _, _, _ => none
  | n33 + 1, v33_3, v33_4, v33_5 => (if a2 < v33_5 then (j97 v33_3 v33_4) else (if 999 < v33_5 then (j97 v33_3 v33_4) else (Option.bind (f_X3_paid w a1 v33_3 v33_5) fun q55 => (nmk (if 0 < (v33_4 - q55) then (v33_4 - q55) else 0) fun (x62 : Int32) => (nmk (x62 + ((x62 * (rAt w 32 a1)) / 100)) fun (x81 : Int32) => (nmk (v33_5 + 1) fun (x87 : Int32) => (nmk (v33_5 + 360) fun (x88 : Int32) => (f_X3_owed_L33 w a1 a2 j97 n33 x87 x81 x88))))))))
def f_X3_owed (w : CW) (a1 : Int32) (a2 : Int32) : Option (Int32) := (nmk (rAt w 31 a1) fun (x8 : Int32) => (if x8 ≤ a2 then (nmk (rAt w 30 a1) fun (x24 : Int32) => (nmk (x8 + 360) fun (x31 : Int32) => (nmk (fun (y97_3 : Int32) (y97_4 : Int32) => (Option.bind (f_X3_paid w a1 y97_3 a2) fun q104 => (some (if 0 < (y97_4 - q104) then (y97_4 - q104) else 0)))) fun j97 => (f_X3_owed_L33 w a1 a2 j97 FU x8 x24 x31)))) else (some 0)))
abbrev rm_X3_owed : Room := { frames := 3, cells := 0, slots := 0, locals := 47 }
theorem cn_X3_owed : CN yX3_owed 2 := ⟨by decide +kernel, by decide +kernel, by decide +kernel⟩
set_option maxHeartbeats 4000000 in
set_option maxRecDepth 100000 in
theorem c_X3_owed (l : Launch) (G : GX) (w : CW) (a1 : Int32) (a2 : Int32) (q : Int32) (hf : f_X3_owed w a1 a2 = some q) : MI l G yX3_owed cX3_owed 6 (some .int) rm_X3_owed [.ref (G.2.2.1 200), .int a1, .int a2] (cA G) (cH G w) (cH G w) q := by
  refine cM_start (by decide +kernel) (Nat.le_of_ble_eq_true rfl) ?_
  intro p e s m below meth c ls X hH hl
  have hS : va_S (cA G) s.heap s.heap [] := va_S.rf
  have hx := X.1.1
  have hb := X.1.2.1
  generalize hargs : ([.ref (G.2.2.1 200), .int a1, .int a2] : List Value).toArray = args at X ⊢
  generalize hQ : MQ below (QI (cA G) (cH G w) q) args s 0 0 (cA G) = Q
  have hl : lv_has ls 6 [(0, .ref (G.2.2.1 200)), (1, .int a1), (2, .int a2)] := hl
  unfold f_X3_owed at hf
  refine lv_aload_n hx hb dX3_owed_0 rfl (lv_at hl 0 rfl) ?_
  refine co_get X hH 200 (by decide) eO200 rfl inBX3 1 (by decide) rfl bw548 dX3_owed_1 ?_
  refine lv_iload_n hx hb dX3_owed_4 rfl (lv_at hl 1 rfl) ?_
  refine cGi (cVrun (rest := []) X (cl_X5_at l G w 31 (by decide) a1 _ rfl) bw1289 bw628 bw629 bw91 bw630 cn_X5_at ⟨rfl, rfl, Nat.le_of_ble_eq_true rfl, Nat.le_of_ble_eq_true rfl⟩ (c_recR X hH (by decide)) cA_g hH hS hl rfl (Nat.le_of_ble_eq_true rfl) dX3_owed_5) hS (fun H locs hH hS => ?_)
  refine lv_topi (fun x8 ex8 => ?_)
  have hf := nm_s hf x8 ex8
  refine lv_istore_n (lv' := [(3, .int x8), (0, .ref (G.2.2.1 200)), (1, .int a1), (2, .int a2)]) hx hb dX3_owed_8 rfl hl (by decide) rfl (fun ls hl => ?_)
  refine lv_iload_n hx hb dX3_owed_9 rfl (lv_at hl 3 rfl) ?_
  refine lv_iload_n hx hb dX3_owed_10 rfl (lv_at hl 0 rfl) ?_
  refine lv_icmp_ge (tgt := 16) hx hb dX3_owed_11 (by decide) (fun hc => ?_) (fun hc => ?_)
  rotate_left
  · have hf := fo_f hc hf
    refine lv_iconst (v := 0) hx hb dX3_owed_14 (by decide) ?_
    subst hQ
    exact cEi X hH hS (so_s hf) dX3_owed_15
  have hf := fo_t hc hf
  refine lv_aload_n hx hb dX3_owed_16 rfl (lv_at hl 1 rfl) ?_
  refine co_get X hH 200 (by decide) eO200 rfl inBX3 0 (by decide) rfl bw546 dX3_owed_17 ?_
  refine lv_iload_n hx hb dX3_owed_20 rfl (lv_at hl 2 rfl) ?_
  refine cGi (cVrun (rest := []) X (cl_X5_at l G w 30 (by decide) a1 _ rfl) bw1289 bw628 bw629 bw91 bw630 cn_X5_at ⟨rfl, rfl, Nat.le_of_ble_eq_true rfl, Nat.le_of_ble_eq_true rfl⟩ (c_recR X hH (by decide)) cA_g hH hS hl rfl (Nat.le_of_ble_eq_true rfl) dX3_owed_21) hS (fun H locs hH hS => ?_)
  refine lv_topi (fun x24 ex24 => ?_)
  have hf := nm_s hf x24 ex24
  refine lv_istore (lv' := [(4, .int x24), (3, .int x8), (0, .ref (G.2.2.1 200)), (1, .int a1), (2, .int a2)]) hx hb dX3_owed_24 hl (by decide) rfl (fun ls hl => ?_)
  refine lv_iload_n hx hb dX3_owed_26 rfl (lv_at hl 1 rfl) ?_
  refine lv_sipush (v := 360) hx hb dX3_owed_27 (by decide) ?_
  refine lv_iadd hx hb dX3_owed_30 ?_
  refine lv_topi (fun x31 ex31 => ?_)
  have hf := nm_s hf x31 ex31
  refine lv_istore (lv' := [(5, .int x31), (4, .int x24), (3, .int x8), (0, .ref (G.2.2.1 200)), (1, .int a1), (2, .int a2)]) hx hb dX3_owed_31 hl (by decide) rfl (fun ls hl => ?_)
  obtain ⟨j97, ej97, hf⟩ := nm_x hf
  have hj97 : ∀ (y97_3 : Int32) (y97_4 : Int32) (H : Heap) (locs : List Loc) (ls : Array Slot), j97 y97_3 y97_4 = some q → cH G w H → va_S (cA G) s.heap H locs → lv_has ls 6 [(4, .int y97_4), (3, .int y97_3), (0, .ref (G.2.2.1 200)), (1, .int a1), (2, .int a2)] → W p l e rm_X3_owed s m args below meth c H locs 0 0 Q (F0 m 97 ls []) := by
    intro y97_3 y97_4 H locs ls hf hH hS hl
    have hf := jb2 ej97 hf
    refine lv_iconst (v := 0) hx hb dX3_owed_97 (by decide) ?_
    refine lv_iload hx hb dX3_owed_98 (lv_at hl 0 rfl) ?_
    refine lv_aload_n hx hb dX3_owed_100 rfl (lv_at hl 2 rfl) ?_
    refine lv_iload_n hx hb dX3_owed_101 rfl (lv_at hl 3 rfl) ?_
    refine lv_iload_n hx hb dX3_owed_102 rfl (lv_at hl 1 rfl) ?_
    refine lv_iload_n hx hb dX3_owed_103 rfl (lv_at hl 4 rfl) ?_
    obtain ⟨q104, hq104, hf⟩ := bd_s hf
    refine cGi (cVrun (rest := [.int y97_4, .int 0]) X (c_X3_paid l G w a1 y97_3 a2 q104 hq104) bw1285 bw1287 bw46 bw104 bw1288 cn_X3_paid ⟨rfl, rfl, Nat.le_of_ble_eq_true rfl, Nat.le_of_ble_eq_true rfl⟩ (c_rec X hH 200 (by decide) eO200 rfl) cA_g hH hS hl rfl (Nat.le_of_ble_eq_true rfl) dX3_owed_104) hS (fun H locs hH hS => ?_)
    refine lv_isub hx hb dX3_owed_107 ?_
    refine va_mmax hx hb (X.1.2.2.1.trans hl.1.symm) X.1.2.2.2.1 (X.w bw1298) (X.w bw197) (X.w bw93) (X.w bw198) (Nat.le_of_ble_eq_true rfl) (Nat.le_of_ble_eq_true rfl) (Nat.zero_le _) (Nat.zero_le _) dX3_owed_108 ?_
    subst hQ
    exact cEi X hH hS (so_s hf) dX3_owed_111
  have hL33 : ∀ (n33 : Nat) (v33_3 : Int32) (v33_4 : Int32) (v33_5 : Int32) (H : Heap) (locs : List Loc) (ls : Array Slot), f_X3_owed_L33 w a1 a2 j97 n33 v33_3 v33_4 v33_5 = some q → cH G w H → va_S (cA G) s.heap H locs → lv_has ls 6 [(5, .int v33_5), (4, .int v33_4), (3, .int v33_3), (0, .ref (G.2.2.1 200)), (1, .int a1), (2, .int a2)] → W p l e rm_X3_owed s m args below meth c H locs 0 0 Q (F0 m 33 ls []) := by
    intro n33
    induction n33 with
    | zero => intro v33_3 v33_4 v33_5 H locs ls hf; rw [f_X3_owed_L33] at hf; cases hf
    | succ n33 ih33 =>
      intro v33_3 v33_4 v33_5 H locs ls hf hH hS hl
      rw [f_X3_owed_L33] at hf
      refine lv_iload hx hb dX3_owed_33 (lv_at hl 0 rfl) ?_
      refine lv_iload_n hx hb dX3_owed_35 rfl (lv_at hl 5 rfl) ?_
      refine lv_icmp_gt (tgt := 97) hx hb dX3_owed_36 (by decide) (fun hc => ?_) (fun hc => ?_)
      · have hf := fo_t hc hf
        exact hj97 _ _ _ _ _ hf hH hS (lv_sub hl [1, 2, 3, 4, 5] rfl)
      have hf := fo_f hc hf
      refine lv_iload hx hb dX3_owed_39 (lv_at hl 0 rfl) ?_
      refine lv_sipush (v := 999) hx hb dX3_owed_41 (by decide) ?_
      refine lv_icmp_gt (tgt := 97) hx hb dX3_owed_44 (by decide) (fun hc => ?_) (fun hc => ?_)
      · have hf := fo_t hc hf
        exact hj97 _ _ _ _ _ hf hH hS (lv_sub hl [1, 2, 3, 4, 5] rfl)
      have hf := fo_f hc hf
      refine lv_iconst (v := 0) hx hb dX3_owed_47 (by decide) ?_
      refine lv_iload hx hb dX3_owed_48 (lv_at hl 1 rfl) ?_
      refine lv_aload_n hx hb dX3_owed_50 rfl (lv_at hl 3 rfl) ?_
      refine lv_iload_n hx hb dX3_owed_51 rfl (lv_at hl 4 rfl) ?_
      refine lv_iload_n hx hb dX3_owed_52 rfl (lv_at hl 2 rfl) ?_
      refine lv_iload hx hb dX3_owed_53 (lv_at hl 0 rfl) ?_
      obtain ⟨q55, hq55, hf⟩ := bd_s hf
      refine cGi (cVrun (rest := [.int v33_4, .int 0]) X (c_X3_paid l G w a1 v33_3 v33_5 q55 hq55) bw1285 bw1287 bw46 bw104 bw1288 cn_X3_paid ⟨rfl, rfl, Nat.le_of_ble_eq_true rfl, Nat.le_of_ble_eq_true rfl⟩ (c_rec X hH 200 (by decide) eO200 rfl) cA_g hH hS hl rfl (Nat.le_of_ble_eq_true rfl) dX3_owed_55) hS (fun H locs hH hS => ?_)
      refine lv_isub hx hb dX3_owed_58 ?_
      refine va_mmax hx hb (X.1.2.2.1.trans hl.1.symm) X.1.2.2.2.1 (X.w bw1298) (X.w bw197) (X.w bw93) (X.w bw198) (Nat.le_of_ble_eq_true rfl) (Nat.le_of_ble_eq_true rfl) (Nat.zero_le _) (Nat.zero_le _) dX3_owed_59 ?_
      refine lv_topi (fun x62 ex62 => ?_)
      have hf := nm_s hf x62 ex62
      refine lv_istore (lv' := [(4, .int x62), (5, .int v33_5), (3, .int v33_3), (0, .ref (G.2.2.1 200)), (1, .int a1), (2, .int a2)]) hx hb dX3_owed_62 hl (by decide) rfl (fun ls hl => ?_)
      refine lv_iload hx hb dX3_owed_64 (lv_at hl 0 rfl) ?_
      refine lv_iload hx hb dX3_owed_66 (lv_at hl 0 rfl) ?_
      refine lv_aload_n hx hb dX3_owed_68 rfl (lv_at hl 3 rfl) ?_
      refine co_get X hH 200 (by decide) eO200 rfl inBX3 2 (by decide) rfl bw550 dX3_owed_69 ?_
      refine lv_iload_n hx hb dX3_owed_72 rfl (lv_at hl 4 rfl) ?_
      refine cGi (cVrun (rest := [.int x62, .int x62]) X (cl_X5_at l G w 32 (by decide) a1 _ rfl) bw1289 bw628 bw629 bw91 bw630 cn_X5_at ⟨rfl, rfl, Nat.le_of_ble_eq_true rfl, Nat.le_of_ble_eq_true rfl⟩ (c_recR X hH (by decide)) cA_g hH hS hl rfl (Nat.le_of_ble_eq_true rfl) dX3_owed_73) hS (fun H locs hH hS => ?_)
      refine lv_imul hx hb dX3_owed_76 ?_
      refine lv_bipush (v := 100) hx hb dX3_owed_77 (by decide) ?_
      refine lv_idiv hx hb dX3_owed_79 (by decide) ?_
      refine lv_iadd hx hb dX3_owed_80 ?_
      refine lv_topi (fun x81 ex81 => ?_)
      have hf := nm_s hf x81 ex81
      refine lv_istore (lv' := [(4, .int x81), (5, .int v33_5), (3, .int v33_3), (0, .ref (G.2.2.1 200)), (1, .int a1), (2, .int a2)]) hx hb dX3_owed_81 hl (by decide) rfl (fun ls hl => ?_)
      refine lv_iload hx hb dX3_owed_83 (lv_at hl 1 rfl) ?_
      refine lv_iconst (v := 1) hx hb dX3_owed_85 (by decide) ?_
      refine lv_iadd hx hb dX3_owed_86 ?_
      refine lv_topi (fun x87 ex87 => ?_)
      have hf := nm_s hf x87 ex87
      refine lv_istore_n (lv' := [(3, .int x87), (4, .int x81), (5, .int v33_5), (0, .ref (G.2.2.1 200)), (1, .int a1), (2, .int a2)]) hx hb dX3_owed_87 rfl hl (by decide) rfl (fun ls hl => ?_)
      obtain ⟨x88, ex88⟩ : ∃ z : Int32, z = (v33_5 + 360) := ⟨_, rfl⟩
      have hf := nm_s hf x88 ex88
      refine lv_iincW (v := x88) (lv' := [(5, .int x88), (3, .int x87), (4, .int x81), (0, .ref (G.2.2.1 200)), (1, .int a1), (2, .int a2)]) hx hb dX3_owed_88 hl (k := 2) rfl (by rw [ex88]; rfl) (by decide) rfl (fun ls hl => ?_)
      refine lv_goto (tgt := 33) hx hb dX3_owed_94 (by decide) ?_
      exact ih33 _ _ _ _ _ _ hf hH hS (lv_sub hl [0, 2, 1, 3, 4, 5] rfl)
  exact hL33 _ _ _ _ _ _ _ hf hH hS (lv_sub hl [0, 1, 2, 3, 4, 5] rfl)
def f_X3_worthOf_L4 (w : CW) (a1 : Int32) : Nat → Int32 → Int32 → Option (Int32)
  | 0, _, _ => none
  | n4 + 1, v4_2, v4_3 => (if 8 ≤ v4_3 then (some v4_2) else (nmk (v4_2 + (if ((a1 >>> (v4_3 &&& 31)) &&& 1) = 0 then 0 else (rAt w 36 v4_3))) fun (x32 : Int32) => (nmk (v4_3 + 1) fun (x33 : Int32) => (f_X3_worthOf_L4 w a1 n4 x32 x33))))
def f_X3_worthOf (w : CW) (a1 : Int32) : Option (Int32) := (f_X3_worthOf_L4 w a1 FU 0 0)
abbrev rm_X3_worthOf : Room := { frames := 2, cells := 0, slots := 0, locals := 21 }
theorem cn_X3_worthOf : CN yX3_worthOf 1 := ⟨by decide +kernel, by decide +kernel, by decide +kernel⟩
set_option maxHeartbeats 4000000 in
set_option maxRecDepth 100000 in
theorem c_X3_worthOf (l : Launch) (G : GX) (w : CW) (a1 : Int32) (q : Int32) (hf : f_X3_worthOf w a1 = some q) : MI l G yX3_worthOf cX3_worthOf 4 (some .int) rm_X3_worthOf [.ref (G.2.2.1 200), .int a1] (cA G) (cH G w) (cH G w) q := by
  refine cM_start (by decide +kernel) (Nat.le_of_ble_eq_true rfl) ?_
  intro p e s m below meth c ls X hH hl
  have hS : va_S (cA G) s.heap s.heap [] := va_S.rf
  have hx := X.1.1
  have hb := X.1.2.1
  generalize hargs : ([.ref (G.2.2.1 200), .int a1] : List Value).toArray = args at X ⊢
  generalize hQ : MQ below (QI (cA G) (cH G w) q) args s 0 0 (cA G) = Q
  have hl : lv_has ls 4 [(0, .ref (G.2.2.1 200)), (1, .int a1)] := hl
  unfold f_X3_worthOf at hf
  refine lv_iconst (v := 0) hx hb dX3_worthOf_0 (by decide) ?_
  refine lv_istore_n (lv' := [(2, .int 0), (0, .ref (G.2.2.1 200)), (1, .int a1)]) hx hb dX3_worthOf_1 rfl hl (by decide) rfl (fun ls hl => ?_)
  refine lv_iconst (v := 0) hx hb dX3_worthOf_2 (by decide) ?_
  refine lv_istore_n (lv' := [(3, .int 0), (2, .int 0), (0, .ref (G.2.2.1 200)), (1, .int a1)]) hx hb dX3_worthOf_3 rfl hl (by decide) rfl (fun ls hl => ?_)
  have hL4 : ∀ (n4 : Nat) (v4_2 : Int32) (v4_3 : Int32) (H : Heap) (locs : List Loc) (ls : Array Slot), f_X3_worthOf_L4 w a1 n4 v4_2 v4_3 = some q → cH G w H → va_S (cA G) s.heap H locs → lv_has ls 4 [(3, .int v4_3), (2, .int v4_2), (0, .ref (G.2.2.1 200)), (1, .int a1)] → W p l e rm_X3_worthOf s m args below meth c H locs 0 0 Q (F0 m 4 ls []) := by
    intro n4
    induction n4 with
    | zero => intro v4_2 v4_3 H locs ls hf; rw [f_X3_worthOf_L4] at hf; cases hf
    | succ n4 ih4 =>
      intro v4_2 v4_3 H locs ls hf hH hS hl
      rw [f_X3_worthOf_L4] at hf
      refine lv_iload_n hx hb dX3_worthOf_4 rfl (lv_at hl 0 rfl) ?_
      refine lv_bipush (v := 8) hx hb dX3_worthOf_5 (by decide) ?_
      refine lv_icmp_ge (tgt := 39) hx hb dX3_worthOf_7 (by decide) (fun hc => ?_) (fun hc => ?_)
      · have hf := fo_t hc hf
        refine lv_iload_n hx hb dX3_worthOf_39 rfl (lv_at hl 1 rfl) ?_
        subst hQ
        exact cEi X hH hS (so_s hf) dX3_worthOf_40
      have hf := fo_f hc hf
      refine lv_iload_n hx hb dX3_worthOf_10 rfl (lv_at hl 1 rfl) ?_
      refine lv_iload_n hx hb dX3_worthOf_11 rfl (lv_at hl 3 rfl) ?_
      refine lv_iload_n hx hb dX3_worthOf_12 rfl (lv_at hl 0 rfl) ?_
      refine lv_ishr hx hb dX3_worthOf_13 ?_
      refine lv_iconst (v := 1) hx hb dX3_worthOf_14 (by decide) ?_
      refine lv_iand hx hb dX3_worthOf_15 ?_
      have hJ : ∀ (H : Heap) (locs : List Loc), cH G w H → va_S (cA G) s.heap H locs → W p l e rm_X3_worthOf s m args below meth c H locs 0 0 Q (F0 m 31 ls [.int (if ((a1 >>> (v4_3 &&& 31)) &&& 1) = 0 then 0 else (rAt w 36 v4_3)), .int v4_2]) := by
        intro H locs hH hS
        refine lv_iadd hx hb dX3_worthOf_31 ?_
        refine lv_topi (fun x32 ex32 => ?_)
        have hf := nm_s hf x32 ex32
        refine lv_istore_n (lv' := [(2, .int x32), (3, .int v4_3), (0, .ref (G.2.2.1 200)), (1, .int a1)]) hx hb dX3_worthOf_32 rfl hl (by decide) rfl (fun ls hl => ?_)
        obtain ⟨x33, ex33⟩ : ∃ z : Int32, z = (v4_3 + 1) := ⟨_, rfl⟩
        have hf := nm_s hf x33 ex33
        refine lv_iinc (v := x33) (lv' := [(3, .int x33), (2, .int x32), (0, .ref (G.2.2.1 200)), (1, .int a1)]) hx hb dX3_worthOf_33 hl (k := 1) rfl (by rw [ex33]; rfl) (by decide) rfl (fun ls hl => ?_)
        refine lv_goto (tgt := 4) hx hb dX3_worthOf_36 (by decide) ?_
        exact ih4 _ _ _ _ _ hf hH hS (lv_sub hl [0, 1, 2, 3] rfl)
      refine lv_if_eq (tgt := 30) hx hb dX3_worthOf_16 (by decide) (fun hc16 => ?_) (fun hc16 => ?_)
      · refine lv_iconst (v := 0) hx hb dX3_worthOf_30 (by decide) ?_
        exact W.eq (by rw [if_pos hc16] <;> rfl) (hJ _ _ hH hS)
      · refine lv_aload_n hx hb dX3_worthOf_19 rfl (lv_at hl 2 rfl) ?_
        refine co_get X hH 200 (by decide) eO200 rfl inBX3 6 (by decide) rfl bw555 dX3_worthOf_20 ?_
        refine lv_iload_n hx hb dX3_worthOf_23 rfl (lv_at hl 0 rfl) ?_
        refine cGi (cVrun (rest := [.int v4_2]) X (cl_X5_at l G w 36 (by decide) v4_3 _ rfl) bw1289 bw628 bw629 bw91 bw630 cn_X5_at ⟨rfl, rfl, Nat.le_of_ble_eq_true rfl, Nat.le_of_ble_eq_true rfl⟩ (c_recR X hH (by decide)) cA_g hH hS hl rfl (Nat.le_of_ble_eq_true rfl) dX3_worthOf_24) hS (fun H locs hH hS => ?_)
        refine lv_goto (tgt := 31) hx hb dX3_worthOf_27 (by decide) ?_
        exact W.eq (by rw [if_neg hc16] <;> rfl) (hJ _ _ hH hS)
  exact hL4 _ _ _ _ _ _ hf hH hS (lv_sub hl [0, 1, 2, 3] rfl)
def f_X3_isBetter (w : CW) (a1 : Int32) (a2 : Int32) : Option (Int32) := (Option.bind (f_X3_worthOf w a1) fun q2 => (Option.bind (f_X3_worthOf w a2) fun q7 => (nmk (f_J6_compare_7cf53 q2 q7) fun (x13 : Int32) => (some (if x13 < 0 then 1 else (if x13 = 0 then (if (f_J6_bitCount_0f7a4 a2) ≤ (f_J6_bitCount_0f7a4 a1) then 0 else 1) else 0))))))
abbrev rm_X3_isBetter : Room := { frames := 3, cells := 0, slots := 0, locals := 44 }
theorem cn_X3_isBetter : CN yX3_isBetter 2 := ⟨by decide +kernel, by decide +kernel, by decide +kernel⟩
set_option maxHeartbeats 4000000 in
set_option maxRecDepth 100000 in
theorem c_X3_isBetter (l : Launch) (G : GX) (w : CW) (a1 : Int32) (a2 : Int32) (q : Int32) (hf : f_X3_isBetter w a1 a2 = some q) : MZ l G yX3_isBetter cX3_isBetter 4 (some .boolean) rm_X3_isBetter [.ref (G.2.2.1 200), .int a1, .int a2] (cA G) (cH G w) (cH G w) q := by
  refine cM_start (by decide +kernel) (Nat.le_of_ble_eq_true rfl) ?_
  intro p e s m below meth c ls X hH hl
  have hS : va_S (cA G) s.heap s.heap [] := va_S.rf
  have hx := X.1.1
  have hb := X.1.2.1
  generalize hargs : ([.ref (G.2.2.1 200), .int a1, .int a2] : List Value).toArray = args at X ⊢
  generalize hQ : MQ below (QZ (cA G) (cH G w) q) args s 0 0 (cA G) = Q
  have hl : lv_has ls 4 [(0, .ref (G.2.2.1 200)), (1, .int a1), (2, .int a2)] := hl
  unfold f_X3_isBetter at hf
  refine lv_aload_n hx hb dX3_isBetter_0 rfl (lv_at hl 0 rfl) ?_
  refine lv_iload_n hx hb dX3_isBetter_1 rfl (lv_at hl 1 rfl) ?_
  obtain ⟨q2, hq2, hf⟩ := bd_s hf
  refine cGi (cVrun (rest := []) X (c_X3_worthOf l G w a1 q2 hq2) bw1312 bw1314 bw47 bw104 bw1315 cn_X3_worthOf ⟨rfl, rfl, Nat.le_of_ble_eq_true rfl, Nat.le_of_ble_eq_true rfl⟩ (c_rec X hH 200 (by decide) eO200 rfl) cA_g hH hS hl rfl (Nat.le_of_ble_eq_true rfl) dX3_isBetter_2) hS (fun H locs hH hS => ?_)
  refine lv_aload_n hx hb dX3_isBetter_5 rfl (lv_at hl 0 rfl) ?_
  refine lv_iload_n hx hb dX3_isBetter_6 rfl (lv_at hl 2 rfl) ?_
  obtain ⟨q7, hq7, hf⟩ := bd_s hf
  refine cGi (cVrun (rest := [.int q2]) X (c_X3_worthOf l G w a2 q7 hq7) bw1312 bw1314 bw47 bw104 bw1315 cn_X3_worthOf ⟨rfl, rfl, Nat.le_of_ble_eq_true rfl, Nat.le_of_ble_eq_true rfl⟩ (c_rec X hH 200 (by decide) eO200 rfl) cA_g hH hS hl rfl (Nat.le_of_ble_eq_true rfl) dX3_isBetter_7) hS (fun H locs hH hS => ?_)
  refine cGi (cSrun (rest := []) X (c_J6_compare_7cf53 l G (cH G w) (cA G) cA_g q2 q7 _ rfl) bw1320 bw1321 bw110 bw1322 cn_J6_compare_7cf53 ⟨rfl, rfl, Nat.le_of_ble_eq_true rfl, Nat.le_of_ble_eq_true rfl⟩ cA_g hH hS hl rfl (Nat.le_of_ble_eq_true rfl) dX3_isBetter_10) hS (fun H locs hH hS => ?_)
  refine lv_topi (fun x13 ex13 => ?_)
  have hf := nm_s hf x13 ex13
  refine lv_istore_n (lv' := [(3, .int x13), (0, .ref (G.2.2.1 200)), (1, .int a1), (2, .int a2)]) hx hb dX3_isBetter_13 rfl hl (by decide) rfl (fun ls hl => ?_)
  refine lv_iload_n hx hb dX3_isBetter_14 rfl (lv_at hl 0 rfl) ?_
  have hJ : ∀ (H : Heap) (locs : List Loc), cH G w H → va_S (cA G) s.heap H locs → W p l e rm_X3_isBetter s m args below meth c H locs 0 0 Q (F0 m 38 ls [.int (if x13 < 0 then 1 else (if x13 = 0 then (if (f_J6_bitCount_0f7a4 a2) ≤ (f_J6_bitCount_0f7a4 a1) then 0 else 1) else 0))]) := by
    intro H locs hH hS
    subst hQ
    exact cEzz X hH hS (so_s hf) (zb_ite zb1 (zb_ite (zb_ite zb0 zb1) zb0)) dX3_isBetter_38
  refine lv_if_lt (tgt := 33) hx hb dX3_isBetter_15 (by decide) (fun hc15 => ?_) (fun hc15 => ?_)
  · refine lv_iconst (v := 1) hx hb dX3_isBetter_33 (by decide) ?_
    refine lv_goto (tgt := 38) hx hb dX3_isBetter_34 (by decide) ?_
    exact W.eq (by rw [if_pos hc15] <;> rfl) (hJ _ _ hH hS)
  · refine lv_iload_n hx hb dX3_isBetter_18 rfl (lv_at hl 0 rfl) ?_
    refine lv_if_ne (tgt := 37) hx hb dX3_isBetter_19 (by decide) (fun hc19 => ?_) (fun hc19 => ?_)
    · refine lv_iconst (v := 0) hx hb dX3_isBetter_37 (by decide) ?_
      exact W.eq (by rw [if_neg hc15, if_neg hc19] <;> rfl) (hJ _ _ hH hS)
    · refine lv_iload_n hx hb dX3_isBetter_22 rfl (lv_at hl 2 rfl) ?_
      refine cGi (cSrun (rest := []) X (c_J6_bitCount_0f7a4 l G (cH G w) (cA G) cA_g a1 _ rfl) bw1323 bw1324 bw110 bw1325 cn_J6_bitCount_0f7a4 ⟨rfl, rfl, Nat.le_of_ble_eq_true rfl, Nat.le_of_ble_eq_true rfl⟩ cA_g hH hS hl rfl (Nat.le_of_ble_eq_true rfl) dX3_isBetter_23) hS (fun H locs hH hS => ?_)
      refine lv_iload_n hx hb dX3_isBetter_26 rfl (lv_at hl 3 rfl) ?_
      refine cGi (cSrun (rest := [.int (f_J6_bitCount_0f7a4 a1)]) X (c_J6_bitCount_0f7a4 l G (cH G w) (cA G) cA_g a2 _ rfl) bw1323 bw1324 bw110 bw1325 cn_J6_bitCount_0f7a4 ⟨rfl, rfl, Nat.le_of_ble_eq_true rfl, Nat.le_of_ble_eq_true rfl⟩ cA_g hH hS hl rfl (Nat.le_of_ble_eq_true rfl) dX3_isBetter_27) hS (fun H locs hH hS => ?_)
      refine lv_icmp_ge (tgt := 37) hx hb dX3_isBetter_30 (by decide) (fun hc30 => ?_) (fun hc30 => ?_)
      · refine lv_iconst (v := 0) hx hb dX3_isBetter_37 (by decide) ?_
        exact W.eq (by rw [if_neg hc15, if_pos hc19, if_pos hc30] <;> rfl) (hJ _ _ hH hS)
      · refine lv_iconst (v := 1) hx hb dX3_isBetter_33 (by decide) ?_
        refine lv_goto (tgt := 38) hx hb dX3_isBetter_34 (by decide) ?_
        exact W.eq (by rw [if_neg hc15, if_pos hc19, if_neg hc30] <;> rfl) (hJ _ _ hH hS)
def f_X3_leastSet_L5 (w : CW) (a1 : Int32) : Nat → Int32 → Int32 → Option (Int32)
  | 0, _, _ => none
  | n5 + 1, v5_2, v5_3 => (if 256 ≤ v5_3 then (some v5_2) else (Option.bind (f_X3_worthOf w v5_3) fun q14 => (nmk (fun (y38_2 : Int32) => (nmk (v5_3 + 1) fun (x38 : Int32) => (f_X3_leastSet_L5 w a1 n5 y38_2 x38))) fun j38 => (if q14 < a1 then (j38 v5_2) else (nmk (fun (_ : Unit) => (j38 v5_3)) fun j36 => (if v5_2 = (-5) then (j36 ()) else (Option.bind (f_X3_isBetter w v5_3 v5_2) fun q30 => (if q30 = 0 then (j38 v5_2) else (j36 ())))))))))
def f_X3_leastSet (w : CW) (a1 : Int32) : Option (Int32) := (f_X3_leastSet_L5 w a1 FU (-5) 0)
abbrev rm_X3_leastSet : Room := { frames := 4, cells := 0, slots := 0, locals := 67 }
theorem cn_X3_leastSet : CN yX3_leastSet 1 := ⟨by decide +kernel, by decide +kernel, by decide +kernel⟩
set_option maxHeartbeats 4000000 in
set_option maxRecDepth 100000 in
theorem c_X3_leastSet (l : Launch) (G : GX) (w : CW) (a1 : Int32) (q : Int32) (hf : f_X3_leastSet w a1 = some q) : MI l G yX3_leastSet cX3_leastSet 4 (some .int) rm_X3_leastSet [.ref (G.2.2.1 200), .int a1] (cA G) (cH G w) (cH G w) q := by
  refine cM_start (by decide +kernel) (Nat.le_of_ble_eq_true rfl) ?_
  intro p e s m below meth c ls X hH hl
  have hS : va_S (cA G) s.heap s.heap [] := va_S.rf
  have hx := X.1.1
  have hb := X.1.2.1
  generalize hargs : ([.ref (G.2.2.1 200), .int a1] : List Value).toArray = args at X ⊢
  generalize hQ : MQ below (QI (cA G) (cH G w) q) args s 0 0 (cA G) = Q
  have hl : lv_has ls 4 [(0, .ref (G.2.2.1 200)), (1, .int a1)] := hl
  unfold f_X3_leastSet at hf
  refine lv_bipush (v := (-5)) hx hb dX3_leastSet_0 (by decide) ?_
  refine lv_istore_n (lv' := [(2, .int (-5)), (0, .ref (G.2.2.1 200)), (1, .int a1)]) hx hb dX3_leastSet_2 rfl hl (by decide) rfl (fun ls hl => ?_)
  refine lv_iconst (v := 0) hx hb dX3_leastSet_3 (by decide) ?_
  refine lv_istore_n (lv' := [(3, .int 0), (2, .int (-5)), (0, .ref (G.2.2.1 200)), (1, .int a1)]) hx hb dX3_leastSet_4 rfl hl (by decide) rfl (fun ls hl => ?_)
  have hL5 : ∀ (n5 : Nat) (v5_2 : Int32) (v5_3 : Int32) (H : Heap) (locs : List Loc) (ls : Array Slot), f_X3_leastSet_L5 w a1 n5 v5_2 v5_3 = some q → cH G w H → va_S (cA G) s.heap H locs → lv_has ls 4 [(3, .int v5_3), (2, .int v5_2), (0, .ref (G.2.2.1 200)), (1, .int a1)] → W p l e rm_X3_leastSet s m args below meth c H locs 0 0 Q (F0 m 5 ls []) := by
    intro n5
    induction n5 with
    | zero => intro v5_2 v5_3 H locs ls hf; rw [f_X3_leastSet_L5] at hf; cases hf
    | succ n5 ih5 =>
      intro v5_2 v5_3 H locs ls hf hH hS hl
      rw [f_X3_leastSet_L5] at hf
      refine lv_iload_n hx hb dX3_leastSet_5 rfl (lv_at hl 0 rfl) ?_
      refine lv_sipush (v := 256) hx hb dX3_leastSet_6 (by decide) ?_
      refine lv_icmp_ge (tgt := 44) hx hb dX3_leastSet_9 (by decide) (fun hc => ?_) (fun hc => ?_)
      · have hf := fo_t hc hf
        refine lv_iload_n hx hb dX3_leastSet_44 rfl (lv_at hl 1 rfl) ?_
        subst hQ
        exact cEi X hH hS (so_s hf) dX3_leastSet_45
      have hf := fo_f hc hf
      refine lv_aload_n hx hb dX3_leastSet_12 rfl (lv_at hl 2 rfl) ?_
      refine lv_iload_n hx hb dX3_leastSet_13 rfl (lv_at hl 0 rfl) ?_
      obtain ⟨q14, hq14, hf⟩ := bd_s hf
      refine cGi (cVrun (rest := []) X (c_X3_worthOf l G w v5_3 q14 hq14) bw1312 bw1314 bw47 bw104 bw1315 cn_X3_worthOf ⟨rfl, rfl, Nat.le_of_ble_eq_true rfl, Nat.le_of_ble_eq_true rfl⟩ (c_rec X hH 200 (by decide) eO200 rfl) cA_g hH hS hl rfl (Nat.le_of_ble_eq_true rfl) dX3_leastSet_14) hS (fun H locs hH hS => ?_)
      refine lv_iload_n hx hb dX3_leastSet_17 rfl (lv_at hl 3 rfl) ?_
      obtain ⟨j38, ej38, hf⟩ := nm_x hf
      have hj38 : ∀ (y38_2 : Int32) (H : Heap) (locs : List Loc) (ls : Array Slot), j38 y38_2 = some q → cH G w H → va_S (cA G) s.heap H locs → lv_has ls 4 [(3, .int v5_3), (2, .int y38_2), (0, .ref (G.2.2.1 200)), (1, .int a1)] → W p l e rm_X3_leastSet s m args below meth c H locs 0 0 Q (F0 m 38 ls []) := by
        intro y38_2 H locs ls hf hH hS hl
        have hf := jb1 ej38 hf
        obtain ⟨x38, ex38⟩ : ∃ z : Int32, z = (v5_3 + 1) := ⟨_, rfl⟩
        have hf := nm_s hf x38 ex38
        refine lv_iinc (v := x38) (lv' := [(3, .int x38), (2, .int y38_2), (0, .ref (G.2.2.1 200)), (1, .int a1)]) hx hb dX3_leastSet_38 hl (k := 0) rfl (by rw [ex38]; rfl) (by decide) rfl (fun ls hl => ?_)
        refine lv_goto (tgt := 5) hx hb dX3_leastSet_41 (by decide) ?_
        exact ih5 _ _ _ _ _ hf hH hS (lv_sub hl [0, 1, 2, 3] rfl)
      refine lv_icmp_lt (tgt := 38) hx hb dX3_leastSet_18 (by decide) (fun hc => ?_) (fun hc => ?_)
      · have hf := fo_t hc hf
        exact hj38 _ _ _ _ hf hH hS (lv_sub hl [0, 1, 2, 3] rfl)
      have hf := fo_f hc hf
      refine lv_iload_n hx hb dX3_leastSet_21 rfl (lv_at hl 1 rfl) ?_
      refine lv_bipush (v := (-5)) hx hb dX3_leastSet_22 (by decide) ?_
      obtain ⟨j36, ej36, hf⟩ := nm_x hf
      have hj36 : ∀ (u0 : Unit) (H : Heap) (locs : List Loc) (ls : Array Slot), j36 u0 = some q → cH G w H → va_S (cA G) s.heap H locs → lv_has ls 4 [(3, .int v5_3), (0, .ref (G.2.2.1 200)), (1, .int a1)] → W p l e rm_X3_leastSet s m args below meth c H locs 0 0 Q (F0 m 36 ls []) := by
        intro u0 H locs ls hf hH hS hl
        have hf := jb1 ej36 hf
        refine lv_iload_n hx hb dX3_leastSet_36 rfl (lv_at hl 0 rfl) ?_
        refine lv_istore_n (lv' := [(2, .int v5_3), (3, .int v5_3), (0, .ref (G.2.2.1 200)), (1, .int a1)]) hx hb dX3_leastSet_37 rfl hl (by decide) rfl (fun ls hl => ?_)
        exact hj38 _ _ _ _ hf hH hS (lv_sub hl [1, 0, 2, 3] rfl)
      refine lv_icmp_eq (tgt := 36) hx hb dX3_leastSet_24 (by decide) (fun hc => ?_) (fun hc => ?_)
      · have hf := fo_t hc hf
        exact hj36 () _ _ _ hf hH hS (lv_sub hl [0, 2, 3] rfl)
      have hf := fo_f hc hf
      refine lv_aload_n hx hb dX3_leastSet_27 rfl (lv_at hl 2 rfl) ?_
      refine lv_iload_n hx hb dX3_leastSet_28 rfl (lv_at hl 0 rfl) ?_
      refine lv_iload_n hx hb dX3_leastSet_29 rfl (lv_at hl 1 rfl) ?_
      obtain ⟨q30, hq30, hf⟩ := bd_s hf
      refine cGz (cVrun (rest := []) X (c_X3_isBetter l G w v5_3 v5_2 q30 hq30) bw1316 bw1318 bw48 bw104 bw1319 cn_X3_isBetter ⟨rfl, rfl, Nat.le_of_ble_eq_true rfl, Nat.le_of_ble_eq_true rfl⟩ (c_rec X hH 200 (by decide) eO200 rfl) cA_g hH hS hl rfl (Nat.le_of_ble_eq_true rfl) dX3_leastSet_30) hS (fun hz30 H locs hH hS => ?_)
      refine lv_if_eq (tgt := 38) hx hb dX3_leastSet_33 (by decide) (fun hc => ?_) (fun hc => ?_)
      · have hf := fo_t hc hf
        exact hj38 _ _ _ _ hf hH hS (lv_sub hl [0, 1, 2, 3] rfl)
      have hf := fo_f hc hf
      exact hj36 () _ _ _ hf hH hS (lv_sub hl [0, 2, 3] rfl)
  exact hL5 _ _ _ _ _ _ hf hH hS (lv_sub hl [0, 1, 2, 3] rfl)
def f_X4_freeFrom (w : CW) (a1 : Int32) (a2 : Int32) : Int32 := ((if (rAt w 19 a1) < a2 then a2 else (rAt w 19 a1)))
abbrev rm_X4_freeFrom : Room := { frames := 2, cells := 0, slots := 0, locals := 24 }
theorem cn_X4_freeFrom : CN yX4_freeFrom 2 := ⟨by decide +kernel, by decide +kernel, by decide +kernel⟩
set_option maxHeartbeats 4000000 in
set_option maxRecDepth 100000 in
theorem c_X4_freeFrom (l : Launch) (G : GX) (w : CW) (a1 : Int32) (a2 : Int32) (q : Int32) (hf : f_X4_freeFrom w a1 a2 = q) : MI l G yX4_freeFrom cX4_freeFrom 3 (some .int) rm_X4_freeFrom [.ref (G.2.2.1 197), .int a1, .int a2] (cA G) (cH G w) (cH G w) q := by
  refine cM_start (by decide +kernel) (Nat.le_of_ble_eq_true rfl) ?_
  intro p e s m below meth c ls X hH hl
  have hS : va_S (cA G) s.heap s.heap [] := va_S.rf
  have hx := X.1.1
  have hb := X.1.2.1
  generalize hargs : ([.ref (G.2.2.1 197), .int a1, .int a2] : List Value).toArray = args at X ⊢
  generalize hQ : MQ below (QI (cA G) (cH G w) q) args s 0 0 (cA G) = Q
  have hl : lv_has ls 3 [(0, .ref (G.2.2.1 197)), (1, .int a1), (2, .int a2)] := hl
  unfold f_X4_freeFrom at hf
  refine lv_aload_n hx hb dX4_freeFrom_0 rfl (lv_at hl 0 rfl) ?_
  refine co_get X hH 197 (by decide) eO197 rfl inBX4 1 (by decide) rfl bw450 dX4_freeFrom_1 ?_
  refine lv_iload_n hx hb dX4_freeFrom_4 rfl (lv_at hl 1 rfl) ?_
  refine cGi (cVrun (rest := []) X (cl_X5_at l G w 19 (by decide) a1 _ rfl) bw1067 bw628 bw629 bw91 bw630 cn_X5_at ⟨rfl, rfl, Nat.le_of_ble_eq_true rfl, Nat.le_of_ble_eq_true rfl⟩ (c_recR X hH (by decide)) cA_g hH hS hl rfl (Nat.le_of_ble_eq_true rfl) dX4_freeFrom_5) hS (fun H locs hH hS => ?_)
  refine lv_iload_n hx hb dX4_freeFrom_8 rfl (lv_at hl 2 rfl) ?_
  refine va_mmax hx hb (X.1.2.2.1.trans hl.1.symm) X.1.2.2.2.1 (X.w bw1072) (X.w bw197) (X.w bw93) (X.w bw198) (Nat.le_of_ble_eq_true rfl) (Nat.le_of_ble_eq_true rfl) (Nat.zero_le _) (Nat.zero_le _) dX4_freeFrom_9 ?_
  subst hQ
  exact cEi X hH hS (hf) dX4_freeFrom_12
def f_X4_firstFree_L4 (w : CW) (a1 : Int32) : Nat → Int32 → Int32 → Option (Int32)
  | 0, _, _ => none
  | n4 + 1, v4_2, v4_3 => (if 4 ≤ v4_3 then (some v4_2) else (nmk (fun (y41_2 : Int32) => (nmk (v4_3 + 1) fun (x41 : Int32) => (f_X4_firstFree_L4 w a1 n4 y41_2 x41))) fun j41 => (if (rAt w 18 v4_3) ≤ 0 then (j41 v4_2) else (nmk (fun (_ : Unit) => (j41 v4_3)) fun j39 => (if v4_2 < 0 then (j39 ()) else (if (f_X4_freeFrom w v4_2 a1) ≤ (f_X4_freeFrom w v4_3 a1) then (j41 v4_2) else (j39 ())))))))
def f_X4_firstFree (w : CW) (a1 : Int32) : Option (Int32) := (f_X4_firstFree_L4 w a1 FU (-1) 0)
abbrev rm_X4_firstFree : Room := { frames := 3, cells := 0, slots := 0, locals := 46 }
theorem cn_X4_firstFree : CN yX4_firstFree 1 := ⟨by decide +kernel, by decide +kernel, by decide +kernel⟩
set_option maxHeartbeats 4000000 in
set_option maxRecDepth 100000 in
theorem c_X4_firstFree (l : Launch) (G : GX) (w : CW) (a1 : Int32) (q : Int32) (hf : f_X4_firstFree w a1 = some q) : MI l G yX4_firstFree cX4_firstFree 4 (some .int) rm_X4_firstFree [.ref (G.2.2.1 197), .int a1] (cA G) (cH G w) (cH G w) q := by
  refine cM_start (by decide +kernel) (Nat.le_of_ble_eq_true rfl) ?_
  intro p e s m below meth c ls X hH hl
  have hS : va_S (cA G) s.heap s.heap [] := va_S.rf
  have hx := X.1.1
  have hb := X.1.2.1
  generalize hargs : ([.ref (G.2.2.1 197), .int a1] : List Value).toArray = args at X ⊢
  generalize hQ : MQ below (QI (cA G) (cH G w) q) args s 0 0 (cA G) = Q
  have hl : lv_has ls 4 [(0, .ref (G.2.2.1 197)), (1, .int a1)] := hl
  unfold f_X4_firstFree at hf
  refine lv_iconst (v := (-1)) hx hb dX4_firstFree_0 (by decide) ?_
  refine lv_istore_n (lv' := [(2, .int (-1)), (0, .ref (G.2.2.1 197)), (1, .int a1)]) hx hb dX4_firstFree_1 rfl hl (by decide) rfl (fun ls hl => ?_)
  refine lv_iconst (v := 0) hx hb dX4_firstFree_2 (by decide) ?_
  refine lv_istore_n (lv' := [(3, .int 0), (2, .int (-1)), (0, .ref (G.2.2.1 197)), (1, .int a1)]) hx hb dX4_firstFree_3 rfl hl (by decide) rfl (fun ls hl => ?_)
  have hL4 : ∀ (n4 : Nat) (v4_2 : Int32) (v4_3 : Int32) (H : Heap) (locs : List Loc) (ls : Array Slot), f_X4_firstFree_L4 w a1 n4 v4_2 v4_3 = some q → cH G w H → va_S (cA G) s.heap H locs → lv_has ls 4 [(3, .int v4_3), (2, .int v4_2), (0, .ref (G.2.2.1 197)), (1, .int a1)] → W p l e rm_X4_firstFree s m args below meth c H locs 0 0 Q (F0 m 4 ls []) := by
    intro n4
    induction n4 with
    | zero => intro v4_2 v4_3 H locs ls hf; rw [f_X4_firstFree_L4] at hf; cases hf
    | succ n4 ih4 =>
      intro v4_2 v4_3 H locs ls hf hH hS hl
      rw [f_X4_firstFree_L4] at hf
      refine lv_iload_n hx hb dX4_firstFree_4 rfl (lv_at hl 0 rfl) ?_
      refine lv_iconst (v := 4) hx hb dX4_firstFree_5 (by decide) ?_
      refine lv_icmp_ge (tgt := 47) hx hb dX4_firstFree_6 (by decide) (fun hc => ?_) (fun hc => ?_)
      · have hf := fo_t hc hf
        refine lv_iload_n hx hb dX4_firstFree_47 rfl (lv_at hl 1 rfl) ?_
        subst hQ
        exact cEi X hH hS (so_s hf) dX4_firstFree_48
      have hf := fo_f hc hf
      refine lv_aload_n hx hb dX4_firstFree_9 rfl (lv_at hl 2 rfl) ?_
      refine co_get X hH 197 (by decide) eO197 rfl inBX4 0 (by decide) rfl bw448 dX4_firstFree_10 ?_
      refine lv_iload_n hx hb dX4_firstFree_13 rfl (lv_at hl 0 rfl) ?_
      refine cGi (cVrun (rest := []) X (cl_X5_at l G w 18 (by decide) v4_3 _ rfl) bw1067 bw628 bw629 bw91 bw630 cn_X5_at ⟨rfl, rfl, Nat.le_of_ble_eq_true rfl, Nat.le_of_ble_eq_true rfl⟩ (c_recR X hH (by decide)) cA_g hH hS hl rfl (Nat.le_of_ble_eq_true rfl) dX4_firstFree_14) hS (fun H locs hH hS => ?_)
      obtain ⟨j41, ej41, hf⟩ := nm_x hf
      have hj41 : ∀ (y41_2 : Int32) (H : Heap) (locs : List Loc) (ls : Array Slot), j41 y41_2 = some q → cH G w H → va_S (cA G) s.heap H locs → lv_has ls 4 [(3, .int v4_3), (2, .int y41_2), (0, .ref (G.2.2.1 197)), (1, .int a1)] → W p l e rm_X4_firstFree s m args below meth c H locs 0 0 Q (F0 m 41 ls []) := by
        intro y41_2 H locs ls hf hH hS hl
        have hf := jb1 ej41 hf
        obtain ⟨x41, ex41⟩ : ∃ z : Int32, z = (v4_3 + 1) := ⟨_, rfl⟩
        have hf := nm_s hf x41 ex41
        refine lv_iinc (v := x41) (lv' := [(3, .int x41), (2, .int y41_2), (0, .ref (G.2.2.1 197)), (1, .int a1)]) hx hb dX4_firstFree_41 hl (k := 0) rfl (by rw [ex41]; rfl) (by decide) rfl (fun ls hl => ?_)
        refine lv_goto (tgt := 4) hx hb dX4_firstFree_44 (by decide) ?_
        exact ih4 _ _ _ _ _ hf hH hS (lv_sub hl [0, 1, 2, 3] rfl)
      refine lv_if_le (tgt := 41) hx hb dX4_firstFree_17 (by decide) (fun hc => ?_) (fun hc => ?_)
      · have hf := fo_t hc hf
        exact hj41 _ _ _ _ hf hH hS (lv_sub hl [0, 1, 2, 3] rfl)
      have hf := fo_f hc hf
      refine lv_iload_n hx hb dX4_firstFree_20 rfl (lv_at hl 1 rfl) ?_
      obtain ⟨j39, ej39, hf⟩ := nm_x hf
      have hj39 : ∀ (u0 : Unit) (H : Heap) (locs : List Loc) (ls : Array Slot), j39 u0 = some q → cH G w H → va_S (cA G) s.heap H locs → lv_has ls 4 [(3, .int v4_3), (0, .ref (G.2.2.1 197)), (1, .int a1)] → W p l e rm_X4_firstFree s m args below meth c H locs 0 0 Q (F0 m 39 ls []) := by
        intro u0 H locs ls hf hH hS hl
        have hf := jb1 ej39 hf
        refine lv_iload_n hx hb dX4_firstFree_39 rfl (lv_at hl 0 rfl) ?_
        refine lv_istore_n (lv' := [(2, .int v4_3), (3, .int v4_3), (0, .ref (G.2.2.1 197)), (1, .int a1)]) hx hb dX4_firstFree_40 rfl hl (by decide) rfl (fun ls hl => ?_)
        exact hj41 _ _ _ _ hf hH hS (lv_sub hl [1, 0, 2, 3] rfl)
      refine lv_if_lt (tgt := 39) hx hb dX4_firstFree_21 (by decide) (fun hc => ?_) (fun hc => ?_)
      · have hf := fo_t hc hf
        exact hj39 () _ _ _ hf hH hS (lv_sub hl [0, 2, 3] rfl)
      have hf := fo_f hc hf
      refine lv_aload_n hx hb dX4_firstFree_24 rfl (lv_at hl 2 rfl) ?_
      refine lv_iload_n hx hb dX4_firstFree_25 rfl (lv_at hl 0 rfl) ?_
      refine lv_iload_n hx hb dX4_firstFree_26 rfl (lv_at hl 3 rfl) ?_
      refine cGi (cVrun (rest := []) X (c_X4_freeFrom l G w v4_3 a1 _ rfl) bw1068 bw1070 bw35 bw101 bw1071 cn_X4_freeFrom ⟨rfl, rfl, Nat.le_of_ble_eq_true rfl, Nat.le_of_ble_eq_true rfl⟩ (c_rec X hH 197 (by decide) eO197 rfl) cA_g hH hS hl rfl (Nat.le_of_ble_eq_true rfl) dX4_firstFree_27) hS (fun H locs hH hS => ?_)
      refine lv_aload_n hx hb dX4_firstFree_30 rfl (lv_at hl 2 rfl) ?_
      refine lv_iload_n hx hb dX4_firstFree_31 rfl (lv_at hl 1 rfl) ?_
      refine lv_iload_n hx hb dX4_firstFree_32 rfl (lv_at hl 3 rfl) ?_
      refine cGi (cVrun (rest := [.int (f_X4_freeFrom w v4_3 a1)]) X (c_X4_freeFrom l G w v4_2 a1 _ rfl) bw1068 bw1070 bw35 bw101 bw1071 cn_X4_freeFrom ⟨rfl, rfl, Nat.le_of_ble_eq_true rfl, Nat.le_of_ble_eq_true rfl⟩ (c_rec X hH 197 (by decide) eO197 rfl) cA_g hH hS hl rfl (Nat.le_of_ble_eq_true rfl) dX4_firstFree_33) hS (fun H locs hH hS => ?_)
      refine lv_icmp_ge (tgt := 41) hx hb dX4_firstFree_36 (by decide) (fun hc => ?_) (fun hc => ?_)
      · have hf := fo_t hc hf
        exact hj41 _ _ _ _ hf hH hS (lv_sub hl [0, 1, 2, 3] rfl)
      have hf := fo_f hc hf
      exact hj39 () _ _ _ hf hH hS (lv_sub hl [0, 2, 3] rfl)
  exact hL4 _ _ _ _ _ _ hf hH hS (lv_sub hl [0, 1, 2, 3] rfl)
def f_X10_isFeast_L2 (w : CW) (a1 : Int32) : Nat → Int32 → Option (Int32)
  | 0, _ => none
  | n2 + 1, v2_2 => (if (f_X5_size w 2) ≤ v2_2 then (some 0) else (nmk (fun (_ : Unit) => (nmk (v2_2 + 1) fun (x47 : Int32) => (f_X10_isFeast_L2 w a1 n2 x47))) fun j47 => (if a1 < (rAt w 2 v2_2) then (j47 ()) else (Option.bind (f_J9_floorMod_7cf53 a1 30) fun q36 => (if (((rAt w 4 v2_2) >>> (q36 &&& 31)) &&& 1) = 0 then (j47 ()) else (some 1))))))
def f_X10_isFeast (w : CW) (a1 : Int32) : Option (Int32) := (f_X10_isFeast_L2 w a1 FU 0)
abbrev rm_X10_isFeast : Room := { frames := 2, cells := 0, slots := 0, locals := 22 }
theorem cn_X10_isFeast : CN yX10_isFeast 1 := ⟨by decide +kernel, by decide +kernel, by decide +kernel⟩
set_option maxHeartbeats 4000000 in
set_option maxRecDepth 100000 in
theorem c_X10_isFeast (l : Launch) (G : GX) (w : CW) (a1 : Int32) (q : Int32) (hf : f_X10_isFeast w a1 = some q) : MZ l G yX10_isFeast cX10_isFeast 3 (some .boolean) rm_X10_isFeast [.ref (G.2.2.1 192), .int a1] (cA G) (cH G w) (cH G w) q := by
  refine cM_start (by decide +kernel) (Nat.le_of_ble_eq_true rfl) ?_
  intro p e s m below meth c ls X hH hl
  have hS : va_S (cA G) s.heap s.heap [] := va_S.rf
  have hx := X.1.1
  have hb := X.1.2.1
  generalize hargs : ([.ref (G.2.2.1 192), .int a1] : List Value).toArray = args at X ⊢
  generalize hQ : MQ below (QZ (cA G) (cH G w) q) args s 0 0 (cA G) = Q
  have hl : lv_has ls 3 [(0, .ref (G.2.2.1 192)), (1, .int a1)] := hl
  unfold f_X10_isFeast at hf
  refine lv_iconst (v := 0) hx hb dX10_isFeast_0 (by decide) ?_
  refine lv_istore_n (lv' := [(2, .int 0), (0, .ref (G.2.2.1 192)), (1, .int a1)]) hx hb dX10_isFeast_1 rfl hl (by decide) rfl (fun ls hl => ?_)
  have hL2 : ∀ (n2 : Nat) (v2_2 : Int32) (H : Heap) (locs : List Loc) (ls : Array Slot), f_X10_isFeast_L2 w a1 n2 v2_2 = some q → cH G w H → va_S (cA G) s.heap H locs → lv_has ls 3 [(2, .int v2_2), (0, .ref (G.2.2.1 192)), (1, .int a1)] → W p l e rm_X10_isFeast s m args below meth c H locs 0 0 Q (F0 m 2 ls []) := by
    intro n2
    induction n2 with
    | zero => intro v2_2 H locs ls hf; rw [f_X10_isFeast_L2] at hf; cases hf
    | succ n2 ih2 =>
      intro v2_2 H locs ls hf hH hS hl
      rw [f_X10_isFeast_L2] at hf
      refine lv_iload_n hx hb dX10_isFeast_2 rfl (lv_at hl 0 rfl) ?_
      refine lv_aload_n hx hb dX10_isFeast_3 rfl (lv_at hl 1 rfl) ?_
      refine co_get X hH 192 (by decide) eO192 rfl inBX10 1 (by decide) rfl bw246 dX10_isFeast_4 ?_
      refine cGi (cVrun (rest := [.int v2_2]) X (c_X5_size l G w 2 (by decide) _ rfl) bw705 bw624 bw625 bw91 bw626 cn_X5_size ⟨rfl, rfl, Nat.le_of_ble_eq_true rfl, Nat.le_of_ble_eq_true rfl⟩ (c_recR X hH (by decide)) cA_g hH hS hl rfl (Nat.le_of_ble_eq_true rfl) dX10_isFeast_7) hS (fun H locs hH hS => ?_)
      refine lv_icmp_ge (tgt := 53) hx hb dX10_isFeast_10 (by decide) (fun hc => ?_) (fun hc => ?_)
      · have hf := fo_t hc hf
        refine lv_iconst (v := 0) hx hb dX10_isFeast_53 (by decide) ?_
        subst hQ
        exact cEzz X hH hS (so_s hf) zb0 dX10_isFeast_54
      have hf := fo_f hc hf
      refine lv_aload_n hx hb dX10_isFeast_13 rfl (lv_at hl 1 rfl) ?_
      refine co_get X hH 192 (by decide) eO192 rfl inBX10 1 (by decide) rfl bw246 dX10_isFeast_14 ?_
      refine lv_iload_n hx hb dX10_isFeast_17 rfl (lv_at hl 0 rfl) ?_
      refine cGi (cVrun (rest := []) X (cl_X5_at l G w 2 (by decide) v2_2 _ rfl) bw740 bw628 bw629 bw91 bw630 cn_X5_at ⟨rfl, rfl, Nat.le_of_ble_eq_true rfl, Nat.le_of_ble_eq_true rfl⟩ (c_recR X hH (by decide)) cA_g hH hS hl rfl (Nat.le_of_ble_eq_true rfl) dX10_isFeast_18) hS (fun H locs hH hS => ?_)
      refine lv_iload_n hx hb dX10_isFeast_21 rfl (lv_at hl 2 rfl) ?_
      obtain ⟨j47, ej47, hf⟩ := nm_x hf
      have hj47 : ∀ (u0 : Unit) (H : Heap) (locs : List Loc) (ls : Array Slot), j47 u0 = some q → cH G w H → va_S (cA G) s.heap H locs → lv_has ls 3 [(2, .int v2_2), (0, .ref (G.2.2.1 192)), (1, .int a1)] → W p l e rm_X10_isFeast s m args below meth c H locs 0 0 Q (F0 m 47 ls []) := by
        intro u0 H locs ls hf hH hS hl
        have hf := jb1 ej47 hf
        obtain ⟨x47, ex47⟩ : ∃ z : Int32, z = (v2_2 + 1) := ⟨_, rfl⟩
        have hf := nm_s hf x47 ex47
        refine lv_iinc (v := x47) (lv' := [(2, .int x47), (0, .ref (G.2.2.1 192)), (1, .int a1)]) hx hb dX10_isFeast_47 hl (k := 0) rfl (by rw [ex47]; rfl) (by decide) rfl (fun ls hl => ?_)
        refine lv_goto (tgt := 2) hx hb dX10_isFeast_50 (by decide) ?_
        exact ih2 _ _ _ _ hf hH hS (lv_sub hl [0, 1, 2] rfl)
      refine lv_icmp_gt (tgt := 47) hx hb dX10_isFeast_22 (by decide) (fun hc => ?_) (fun hc => ?_)
      · have hf := fo_t hc hf
        exact hj47 () _ _ _ hf hH hS (lv_sub hl [0, 1, 2] rfl)
      have hf := fo_f hc hf
      refine lv_aload_n hx hb dX10_isFeast_25 rfl (lv_at hl 1 rfl) ?_
      refine co_get X hH 192 (by decide) eO192 rfl inBX10 3 (by decide) rfl bw251 dX10_isFeast_26 ?_
      refine lv_iload_n hx hb dX10_isFeast_29 rfl (lv_at hl 0 rfl) ?_
      refine cGi (cVrun (rest := []) X (cl_X5_at l G w 4 (by decide) v2_2 _ rfl) bw740 bw628 bw629 bw91 bw630 cn_X5_at ⟨rfl, rfl, Nat.le_of_ble_eq_true rfl, Nat.le_of_ble_eq_true rfl⟩ (c_recR X hH (by decide)) cA_g hH hS hl rfl (Nat.le_of_ble_eq_true rfl) dX10_isFeast_30) hS (fun H locs hH hS => ?_)
      refine lv_iload_n hx hb dX10_isFeast_33 rfl (lv_at hl 2 rfl) ?_
      refine lv_bipush (v := 30) hx hb dX10_isFeast_34 (by decide) ?_
      obtain ⟨q36, hq36, hf⟩ := bd_s hf
      refine cGi (cSrun (rest := [.int (rAt w 4 v2_2)]) X (c_J9_floorMod_7cf53 l G (cH G w) (cA G) cA_g a1 30 q36 hq36) bw831 bw832 bw93 bw833 cn_J9_floorMod_7cf53 ⟨rfl, rfl, Nat.le_of_ble_eq_true rfl, Nat.le_of_ble_eq_true rfl⟩ cA_g hH hS hl rfl (Nat.le_of_ble_eq_true rfl) dX10_isFeast_36) hS (fun H locs hH hS => ?_)
      refine lv_ishr hx hb dX10_isFeast_39 ?_
      refine lv_iconst (v := 1) hx hb dX10_isFeast_40 (by decide) ?_
      refine lv_iand hx hb dX10_isFeast_41 ?_
      refine lv_if_eq (tgt := 47) hx hb dX10_isFeast_42 (by decide) (fun hc => ?_) (fun hc => ?_)
      · have hf := fo_t hc hf
        exact hj47 () _ _ _ hf hH hS (lv_sub hl [0, 1, 2] rfl)
      have hf := fo_f hc hf
      refine lv_iconst (v := 1) hx hb dX10_isFeast_45 (by decide) ?_
      subst hQ
      exact cEzz X hH hS (so_s hf) zb1 dX10_isFeast_46
  exact hL2 _ _ _ _ _ hf hH hS (lv_sub hl [0, 1, 2] rfl)
def f_X4_give_L19 (w : CW) (a1 : Int32) (j96 : Int32 → Int32 → Option (Int32 × CW)) : Nat → Int32 → Int32 → Int32 → Int32 → Option (Int32 × CW)
  | 0, _, _, _, _ => none
  | n19 + 1, v19_5, v19_6, v19_7, v19_8 => (if 999 < v19_8 then (j96 v19_5 v19_6) else (if v19_7 ≤ 0 then (j96 v19_5 v19_6) else (Option.bind (f_X10_isFeast w v19_8) fun q36 => (nmk (fun (y90_5 : Int32) (y90_6 : Int32) (y90_7 : Int32) => (nmk (v19_8 + 1) fun (x90 : Int32) => (f_X4_give_L19 w a1 j96 n19 y90_5 y90_6 y90_7 x90))) fun j90 => (if q36 = 0 then (nmk (if v19_5 = (-5) then v19_8 else v19_5) fun (x59 : Int32) => (nmk (v19_7 - (rAt w 18 a1)) fun (x72 : Int32) => (nmk (if x72 ≤ 0 then (v19_8 + 1) else (-5)) fun (x88 : Int32) => (j90 x59 x88 x72)))) else (j90 v19_5 v19_6 v19_7))))))
def f_X4_give (w : CW) (a1 : Int32) (a2 : Int32) (a3 : Int32) : Option (Int32 × CW) := (nmk (f_X4_freeFrom w a1 a3) fun (x17 : Int32) => (nmk (fun (y96_5 : Int32) (y96_6 : Int32) => (nmk (rPut w 19 a1 (if y96_6 = (-5) then 9999 else y96_6)) fun q116 => (nmk (rPush q116 21 y96_5) fun q125 => (nmk (rPush q125 22 y96_6) fun q134 => (nmk (rNumber q134 20 a1) fun q142 => (some (q142.1, q142.2))))))) fun j96 => (f_X4_give_L19 w a1 j96 FU (-5) (-5) a2 x17)))
abbrev rm_X4_give : Room := { frames := 3, cells := 0, slots := 0, locals := 46 }
theorem cn_X4_give : CN yX4_give 4 := ⟨by decide +kernel, by decide +kernel, by decide +kernel⟩
set_option maxHeartbeats 4000000 in
set_option maxRecDepth 100000 in
theorem c_X4_give (l : Launch) (G : GX) (w : CW) (a1 : Int32) (a2 : Int32) (a3 : Int32) (q : Int32 × CW) (hf : f_X4_give w a1 a2 a3 = some q) : MI l G yX4_give cX4_give 9 (some .int) rm_X4_give [.ref (G.2.2.1 197), .int a1, .int a2, .int a3, .ref (G.2.2.1 192)] (cA G) (cH G w) (cH G q.2) q.1 := by
  refine cM_start (by decide +kernel) (Nat.le_of_ble_eq_true rfl) ?_
  intro p e s m below meth c ls X hH hl
  have hS : va_S (cA G) s.heap s.heap [] := va_S.rf
  have hx := X.1.1
  have hb := X.1.2.1
  generalize hargs : ([.ref (G.2.2.1 197), .int a1, .int a2, .int a3, .ref (G.2.2.1 192)] : List Value).toArray = args at X ⊢
  generalize hQ : MQ below (QI (cA G) (cH G q.2) q.1) args s 0 0 (cA G) = Q
  have hl : lv_has ls 9 [(0, .ref (G.2.2.1 197)), (1, .int a1), (2, .int a2), (3, .int a3), (4, .ref (G.2.2.1 192))] := hl
  unfold f_X4_give at hf
  refine lv_bipush (v := (-5)) hx hb dX4_give_0 (by decide) ?_
  refine lv_istore (lv' := [(5, .int (-5)), (0, .ref (G.2.2.1 197)), (1, .int a1), (2, .int a2), (3, .int a3), (4, .ref (G.2.2.1 192))]) hx hb dX4_give_2 hl (by decide) rfl (fun ls hl => ?_)
  refine lv_bipush (v := (-5)) hx hb dX4_give_4 (by decide) ?_
  refine lv_istore (lv' := [(6, .int (-5)), (5, .int (-5)), (0, .ref (G.2.2.1 197)), (1, .int a1), (2, .int a2), (3, .int a3), (4, .ref (G.2.2.1 192))]) hx hb dX4_give_6 hl (by decide) rfl (fun ls hl => ?_)
  refine lv_iload_n hx hb dX4_give_8 rfl (lv_at hl 4 rfl) ?_
  refine lv_istore (lv' := [(7, .int a2), (6, .int (-5)), (5, .int (-5)), (0, .ref (G.2.2.1 197)), (1, .int a1), (2, .int a2), (3, .int a3), (4, .ref (G.2.2.1 192))]) hx hb dX4_give_9 hl (by decide) rfl (fun ls hl => ?_)
  refine lv_aload_n hx hb dX4_give_11 rfl (lv_at hl 3 rfl) ?_
  refine lv_iload_n hx hb dX4_give_12 rfl (lv_at hl 4 rfl) ?_
  refine lv_iload_n hx hb dX4_give_13 rfl (lv_at hl 6 rfl) ?_
  refine cGi (cVrun (rest := []) X (c_X4_freeFrom l G w a1 a3 _ rfl) bw1068 bw1070 bw35 bw101 bw1071 cn_X4_freeFrom ⟨rfl, rfl, Nat.le_of_ble_eq_true rfl, Nat.le_of_ble_eq_true rfl⟩ (c_rec X hH 197 (by decide) eO197 rfl) cA_g hH hS hl rfl (Nat.le_of_ble_eq_true rfl) dX4_give_14) hS (fun H locs hH hS => ?_)
  refine lv_topi (fun x17 ex17 => ?_)
  have hf := nm_s hf x17 ex17
  refine lv_istore (lv' := [(8, .int x17), (7, .int a2), (6, .int (-5)), (5, .int (-5)), (0, .ref (G.2.2.1 197)), (1, .int a1), (2, .int a2), (3, .int a3), (4, .ref (G.2.2.1 192))]) hx hb dX4_give_17 hl (by decide) rfl (fun ls hl => ?_)
  obtain ⟨j96, ej96, hf⟩ := nm_x hf
  have hj96 : ∀ (y96_5 : Int32) (y96_6 : Int32) (H : Heap) (locs : List Loc) (ls : Array Slot), j96 y96_5 y96_6 = some q → cH G w H → va_S (cA G) s.heap H locs → lv_has ls 9 [(6, .int y96_6), (5, .int y96_5), (0, .ref (G.2.2.1 197)), (1, .int a1)] → W p l e rm_X4_give s m args below meth c H locs 0 0 Q (F0 m 96 ls []) := by
    intro y96_5 y96_6 H locs ls hf hH hS hl
    have hf := jb2 ej96 hf
    refine lv_aload_n hx hb dX4_give_96 rfl (lv_at hl 2 rfl) ?_
    refine co_get X hH 197 (by decide) eO197 rfl inBX4 1 (by decide) rfl bw450 dX4_give_97 ?_
    refine lv_iload_n hx hb dX4_give_100 rfl (lv_at hl 3 rfl) ?_
    refine lv_iload hx hb dX4_give_101 (lv_at hl 0 rfl) ?_
    refine lv_bipush (v := (-5)) hx hb dX4_give_103 (by decide) ?_
    have hJ : ∀ (H : Heap) (locs : List Loc), cH G w H → va_S (cA G) s.heap H locs → W p l e rm_X4_give s m args below meth c H locs 0 0 Q (F0 m 116 ls [.int (if y96_6 = (-5) then 9999 else y96_6), .int a1, .ref (G.2.2.1 19)]) := by
      intro H locs hH hS
      obtain ⟨q116, hq116, hf⟩ := nm_x hf
      have hq116 := hq116.symm
      refine cGv (cVrun (rest := []) X (cl_X5_put l G w 19 (by decide) a1 (if y96_6 = (-5) then 9999 else y96_6) q116 hq116) bw1079 bw352 bw353 bw91 bw354 cn_X5_put ⟨rfl, rfl, Nat.le_of_ble_eq_true rfl, Nat.le_of_ble_eq_true rfl⟩ (c_recR X hH (by decide)) cA_g hH hS hl rfl (Nat.le_of_ble_eq_true rfl) dX4_give_116) hS (fun H locs hH hS => ?_)
      refine lv_aload_n hx hb dX4_give_119 rfl (lv_at hl 2 rfl) ?_
      refine co_get X hH 197 (by decide) eO197 rfl inBX4 3 (by decide) rfl bw453 dX4_give_120 ?_
      refine lv_iload hx hb dX4_give_123 (lv_at hl 1 rfl) ?_
      obtain ⟨q125, hq125, hf⟩ := nm_x hf
      have hq125 := hq125.symm
      refine cGv (cVrun (rest := []) X (cl_X5_push l G q116 21 (by decide) y96_5 q125 hq125) bw1080 bw679 bw680 bw91 bw681 cn_X5_push ⟨rfl, rfl, Nat.le_of_ble_eq_true rfl, Nat.le_of_ble_eq_true rfl⟩ (c_recR X hH (by decide)) cA_g hH hS hl rfl (Nat.le_of_ble_eq_true rfl) dX4_give_125) hS (fun H locs hH hS => ?_)
      refine lv_aload_n hx hb dX4_give_128 rfl (lv_at hl 2 rfl) ?_
      refine co_get X hH 197 (by decide) eO197 rfl inBX4 4 (by decide) rfl bw455 dX4_give_129 ?_
      refine lv_iload hx hb dX4_give_132 (lv_at hl 0 rfl) ?_
      obtain ⟨q134, hq134, hf⟩ := nm_x hf
      have hq134 := hq134.symm
      refine cGv (cVrun (rest := []) X (cl_X5_push l G q125 22 (by decide) y96_6 q134 hq134) bw1080 bw679 bw680 bw91 bw681 cn_X5_push ⟨rfl, rfl, Nat.le_of_ble_eq_true rfl, Nat.le_of_ble_eq_true rfl⟩ (c_recR X hH (by decide)) cA_g hH hS hl rfl (Nat.le_of_ble_eq_true rfl) dX4_give_134) hS (fun H locs hH hS => ?_)
      refine lv_aload_n hx hb dX4_give_137 rfl (lv_at hl 2 rfl) ?_
      refine co_get X hH 197 (by decide) eO197 rfl inBX4 2 (by decide) rfl bw451 dX4_give_138 ?_
      refine lv_iload_n hx hb dX4_give_141 rfl (lv_at hl 3 rfl) ?_
      obtain ⟨q142, hq142, hf⟩ := nm_x hf
      have hq142 := hq142.symm
      refine cGi (cVrun (rest := []) X (cl_X5_number l G q134 20 (by decide) a1 q142 hq142) bw1081 bw817 bw818 bw91 bw819 cn_X5_number ⟨rfl, rfl, Nat.le_of_ble_eq_true rfl, Nat.le_of_ble_eq_true rfl⟩ (c_recR X hH (by decide)) cA_g hH hS hl rfl (Nat.le_of_ble_eq_true rfl) dX4_give_142) hS (fun H locs hH hS => ?_)
      subst hQ
      exact cEi X (cH2 (so_s hf) hH) hS (pf1 (so_s hf)) dX4_give_145
    refine lv_icmp_ne (tgt := 114) hx hb dX4_give_105 (by decide) (fun hc105 => ?_) (fun hc105 => ?_)
    · refine lv_iload hx hb dX4_give_114 (lv_at hl 0 rfl) ?_
      exact W.eq (by rw [if_neg hc105] <;> rfl) (hJ _ _ hH hS)
    · refine lv_sipush (v := 9999) hx hb dX4_give_108 (by decide) ?_
      refine lv_goto (tgt := 116) hx hb dX4_give_111 (by decide) ?_
      exact W.eq (by rw [if_pos hc105] <;> rfl) (hJ _ _ hH hS)
  have hL19 : ∀ (n19 : Nat) (v19_5 : Int32) (v19_6 : Int32) (v19_7 : Int32) (v19_8 : Int32) (H : Heap) (locs : List Loc) (ls : Array Slot), f_X4_give_L19 w a1 j96 n19 v19_5 v19_6 v19_7 v19_8 = some q → cH G w H → va_S (cA G) s.heap H locs → lv_has ls 9 [(8, .int v19_8), (7, .int v19_7), (6, .int v19_6), (5, .int v19_5), (0, .ref (G.2.2.1 197)), (1, .int a1), (4, .ref (G.2.2.1 192))] → W p l e rm_X4_give s m args below meth c H locs 0 0 Q (F0 m 19 ls []) := by
    intro n19
    induction n19 with
    | zero => intro v19_5 v19_6 v19_7 v19_8 H locs ls hf; rw [f_X4_give_L19] at hf; cases hf
    | succ n19 ih19 =>
      intro v19_5 v19_6 v19_7 v19_8 H locs ls hf hH hS hl
      rw [f_X4_give_L19] at hf
      refine lv_iload hx hb dX4_give_19 (lv_at hl 0 rfl) ?_
      refine lv_sipush (v := 999) hx hb dX4_give_21 (by decide) ?_
      refine lv_icmp_gt (tgt := 96) hx hb dX4_give_24 (by decide) (fun hc => ?_) (fun hc => ?_)
      · have hf := fo_t hc hf
        exact hj96 _ _ _ _ _ hf hH hS (lv_sub hl [2, 3, 4, 5] rfl)
      have hf := fo_f hc hf
      refine lv_iload hx hb dX4_give_27 (lv_at hl 1 rfl) ?_
      refine lv_if_le (tgt := 96) hx hb dX4_give_29 (by decide) (fun hc => ?_) (fun hc => ?_)
      · have hf := fo_t hc hf
        exact hj96 _ _ _ _ _ hf hH hS (lv_sub hl [2, 3, 4, 5] rfl)
      have hf := fo_f hc hf
      refine lv_aload hx hb dX4_give_32 (lv_at hl 6 rfl) ?_
      refine lv_iload hx hb dX4_give_34 (lv_at hl 0 rfl) ?_
      obtain ⟨q36, hq36, hf⟩ := bd_s hf
      refine cGz (cVrun (rest := []) X (c_X10_isFeast l G w v19_8 q36 hq36) bw1078 bw828 bw829 bw96 bw830 cn_X10_isFeast ⟨rfl, rfl, Nat.le_of_ble_eq_true rfl, Nat.le_of_ble_eq_true rfl⟩ (c_rec X hH 192 (by decide) eO192 rfl) cA_g hH hS hl rfl (Nat.le_of_ble_eq_true rfl) dX4_give_36) hS (fun hz36 H locs hH hS => ?_)
      obtain ⟨j90, ej90, hf⟩ := nm_x hf
      have hj90 : ∀ (y90_5 : Int32) (y90_6 : Int32) (y90_7 : Int32) (H : Heap) (locs : List Loc) (ls : Array Slot), j90 y90_5 y90_6 y90_7 = some q → cH G w H → va_S (cA G) s.heap H locs → lv_has ls 9 [(8, .int v19_8), (7, .int y90_7), (6, .int y90_6), (5, .int y90_5), (0, .ref (G.2.2.1 197)), (1, .int a1), (4, .ref (G.2.2.1 192))] → W p l e rm_X4_give s m args below meth c H locs 0 0 Q (F0 m 90 ls []) := by
        intro y90_5 y90_6 y90_7 H locs ls hf hH hS hl
        have hf := jb3 ej90 hf
        obtain ⟨x90, ex90⟩ : ∃ z : Int32, z = (v19_8 + 1) := ⟨_, rfl⟩
        have hf := nm_s hf x90 ex90
        refine lv_iinc (v := x90) (lv' := [(8, .int x90), (7, .int y90_7), (6, .int y90_6), (5, .int y90_5), (0, .ref (G.2.2.1 197)), (1, .int a1), (4, .ref (G.2.2.1 192))]) hx hb dX4_give_90 hl (k := 0) rfl (by rw [ex90]; rfl) (by decide) rfl (fun ls hl => ?_)
        refine lv_goto (tgt := 19) hx hb dX4_give_93 (by decide) ?_
        exact ih19 _ _ _ _ _ _ _ hf hH hS (lv_sub hl [0, 1, 2, 3, 4, 5, 6] rfl)
      refine lv_if_eq (tgt := 45) hx hb dX4_give_39 (by decide) (fun hc => ?_) (fun hc => ?_)
      rotate_left
      · have hf := fo_f hc hf
        refine lv_goto (tgt := 90) hx hb dX4_give_42 (by decide) ?_
        exact hj90 _ _ _ _ _ _ hf hH hS (lv_sub hl [0, 1, 2, 3, 4, 5, 6] rfl)
      have hf := fo_t hc hf
      refine lv_iload hx hb dX4_give_45 (lv_at hl 3 rfl) ?_
      refine lv_bipush (v := (-5)) hx hb dX4_give_47 (by decide) ?_
      have hJ : ∀ (H : Heap) (locs : List Loc), cH G w H → va_S (cA G) s.heap H locs → W p l e rm_X4_give s m args below meth c H locs 0 0 Q (F0 m 59 ls [.int (if v19_5 = (-5) then v19_8 else v19_5)]) := by
        intro H locs hH hS
        refine lv_topi (fun x59 ex59 => ?_)
        have hf := nm_s hf x59 ex59
        refine lv_istore (lv' := [(5, .int x59), (8, .int v19_8), (7, .int v19_7), (6, .int v19_6), (0, .ref (G.2.2.1 197)), (1, .int a1), (4, .ref (G.2.2.1 192))]) hx hb dX4_give_59 hl (by decide) rfl (fun ls hl => ?_)
        refine lv_iload hx hb dX4_give_61 (lv_at hl 2 rfl) ?_
        refine lv_aload_n hx hb dX4_give_63 rfl (lv_at hl 4 rfl) ?_
        refine co_get X hH 197 (by decide) eO197 rfl inBX4 0 (by decide) rfl bw448 dX4_give_64 ?_
        refine lv_iload_n hx hb dX4_give_67 rfl (lv_at hl 5 rfl) ?_
        refine cGi (cVrun (rest := [.int v19_7]) X (cl_X5_at l G w 18 (by decide) a1 _ rfl) bw1067 bw628 bw629 bw91 bw630 cn_X5_at ⟨rfl, rfl, Nat.le_of_ble_eq_true rfl, Nat.le_of_ble_eq_true rfl⟩ (c_recR X hH (by decide)) cA_g hH hS hl rfl (Nat.le_of_ble_eq_true rfl) dX4_give_68) hS (fun H locs hH hS => ?_)
        refine lv_isub hx hb dX4_give_71 ?_
        refine lv_topi (fun x72 ex72 => ?_)
        have hf := nm_s hf x72 ex72
        refine lv_istore (lv' := [(7, .int x72), (5, .int x59), (8, .int v19_8), (6, .int v19_6), (0, .ref (G.2.2.1 197)), (1, .int a1), (4, .ref (G.2.2.1 192))]) hx hb dX4_give_72 hl (by decide) rfl (fun ls hl => ?_)
        refine lv_iload hx hb dX4_give_74 (lv_at hl 0 rfl) ?_
        have hJ : ∀ (H : Heap) (locs : List Loc), cH G w H → va_S (cA G) s.heap H locs → W p l e rm_X4_give s m args below meth c H locs 0 0 Q (F0 m 88 ls [.int (if x72 ≤ 0 then (v19_8 + 1) else (-5))]) := by
          intro H locs hH hS
          refine lv_topi (fun x88 ex88 => ?_)
          have hf := nm_s hf x88 ex88
          refine lv_istore (lv' := [(6, .int x88), (7, .int x72), (5, .int x59), (8, .int v19_8), (0, .ref (G.2.2.1 197)), (1, .int a1), (4, .ref (G.2.2.1 192))]) hx hb dX4_give_88 hl (by decide) rfl (fun ls hl => ?_)
          exact hj90 _ _ _ _ _ _ hf hH hS (lv_sub hl [3, 1, 0, 2, 4, 5, 6] rfl)
        refine lv_if_le (tgt := 84) hx hb dX4_give_76 (by decide) (fun hc76 => ?_) (fun hc76 => ?_)
        · refine lv_iload hx hb dX4_give_84 (lv_at hl 2 rfl) ?_
          refine lv_iconst (v := 1) hx hb dX4_give_86 (by decide) ?_
          refine lv_iadd hx hb dX4_give_87 ?_
          exact W.eq (by rw [if_pos hc76] <;> rfl) (hJ _ _ hH hS)
        · refine lv_bipush (v := (-5)) hx hb dX4_give_79 (by decide) ?_
          refine lv_goto (tgt := 88) hx hb dX4_give_81 (by decide) ?_
          exact W.eq (by rw [if_neg hc76] <;> rfl) (hJ _ _ hH hS)
      refine lv_icmp_ne (tgt := 57) hx hb dX4_give_49 (by decide) (fun hc49 => ?_) (fun hc49 => ?_)
      · refine lv_iload hx hb dX4_give_57 (lv_at hl 3 rfl) ?_
        exact W.eq (by rw [if_neg hc49] <;> rfl) (hJ _ _ hH hS)
      · refine lv_iload hx hb dX4_give_52 (lv_at hl 0 rfl) ?_
        refine lv_goto (tgt := 59) hx hb dX4_give_54 (by decide) ?_
        exact W.eq (by rw [if_pos hc49] <;> rfl) (hJ _ _ hH hS)
  exact hL19 _ _ _ _ _ _ _ _ hf hH hS (lv_sub hl [0, 1, 2, 3, 4, 5, 8] rfl)
def f_X9_isFull (w : CW) : Int32 := ((f_X5_isFull w 10))
abbrev rm_X9_isFull : Room := { frames := 2, cells := 0, slots := 0, locals := 20 }
theorem cn_X9_isFull : CN yX9_isFull 0 := ⟨by decide +kernel, by decide +kernel, by decide +kernel⟩
set_option maxHeartbeats 4000000 in
set_option maxRecDepth 100000 in
theorem c_X9_isFull (l : Launch) (G : GX) (w : CW) (q : Int32) (hf : f_X9_isFull w = q) : MI l G yX9_isFull cX9_isFull 1 (some .boolean) rm_X9_isFull [.ref (G.2.2.1 194)] (cA G) (cH G w) (cH G w) q := by
  refine cM_start (by decide +kernel) (Nat.le_of_ble_eq_true rfl) ?_
  intro p e s m below meth c ls X hH hl
  have hS : va_S (cA G) s.heap s.heap [] := va_S.rf
  have hx := X.1.1
  have hb := X.1.2.1
  generalize hargs : ([.ref (G.2.2.1 194)] : List Value).toArray = args at X ⊢
  generalize hQ : MQ below (QI (cA G) (cH G w) q) args s 0 0 (cA G) = Q
  have hl : lv_has ls 1 [(0, .ref (G.2.2.1 194))] := hl
  unfold f_X9_isFull at hf
  refine lv_aload_n hx hb dX9_isFull_0 rfl (lv_at hl 0 rfl) ?_
  refine co_get X hH 194 (by decide) eO194 rfl inBX9 0 (by decide) rfl bw332 dX9_isFull_1 ?_
  refine cGi (cVrun (rest := []) X (c_X5_isFull l G w 10 (by decide) _ rfl) bw885 bw694 bw695 bw91 bw696 cn_X5_isFull ⟨rfl, rfl, Nat.le_of_ble_eq_true rfl, Nat.le_of_ble_eq_true rfl⟩ (c_recR X hH (by decide)) cA_g hH hS hl rfl (Nat.le_of_ble_eq_true rfl) dX9_isFull_4) hS (fun H locs hH hS => ?_)
  subst hQ
  exact cEz X hH hS (hf) (nz (zb_X5_isFull w 10)) dX9_isFull_7
theorem zb_X9_isFull (w : CW) : f_X9_isFull w = 0 ∨ f_X9_isFull w = 1 := by
  unfold f_X9_isFull
  try simp only [nmk]
  repeat' (first | exact zb0 | exact zb1 | apply zb_X5_isFull | refine zb_ite ?_ ?_)
def f_X9_has (w : CW) (a1 : Int32) : Int32 := ((if a1 < 0 then 0 else (if (f_X5_size w 10) ≤ a1 then 0 else 1)))
abbrev rm_X9_has : Room := { frames := 2, cells := 0, slots := 0, locals := 20 }
theorem cn_X9_has : CN yX9_has 1 := ⟨by decide +kernel, by decide +kernel, by decide +kernel⟩
set_option maxHeartbeats 4000000 in
set_option maxRecDepth 100000 in
theorem c_X9_has (l : Launch) (G : GX) (w : CW) (a1 : Int32) (q : Int32) (hf : f_X9_has w a1 = q) : MI l G yX9_has cX9_has 2 (some .boolean) rm_X9_has [.ref (G.2.2.1 194), .int a1] (cA G) (cH G w) (cH G w) q := by
  refine cM_start (by decide +kernel) (Nat.le_of_ble_eq_true rfl) ?_
  intro p e s m below meth c ls X hH hl
  have hS : va_S (cA G) s.heap s.heap [] := va_S.rf
  have hx := X.1.1
  have hb := X.1.2.1
  generalize hargs : ([.ref (G.2.2.1 194), .int a1] : List Value).toArray = args at X ⊢
  generalize hQ : MQ below (QI (cA G) (cH G w) q) args s 0 0 (cA G) = Q
  have hl : lv_has ls 2 [(0, .ref (G.2.2.1 194)), (1, .int a1)] := hl
  unfold f_X9_has at hf
  refine lv_iload_n hx hb dX9_has_0 rfl (lv_at hl 1 rfl) ?_
  have hJ : ∀ (H : Heap) (locs : List Loc), cH G w H → va_S (cA G) s.heap H locs → W p l e rm_X9_has s m args below meth c H locs 0 0 Q (F0 m 20 ls [.int (if a1 < 0 then 0 else (if (f_X5_size w 10) ≤ a1 then 0 else 1))]) := by
    intro H locs hH hS
    subst hQ
    exact cEz X hH hS (hf) (nz (zb_ite zb0 (zb_ite zb0 zb1))) dX9_has_20
  refine lv_if_lt (tgt := 19) hx hb dX9_has_1 (by decide) (fun hc1 => ?_) (fun hc1 => ?_)
  · refine lv_iconst (v := 0) hx hb dX9_has_19 (by decide) ?_
    exact W.eq (by rw [if_pos hc1] <;> rfl) (hJ _ _ hH hS)
  · refine lv_iload_n hx hb dX9_has_4 rfl (lv_at hl 1 rfl) ?_
    refine lv_aload_n hx hb dX9_has_5 rfl (lv_at hl 0 rfl) ?_
    refine co_get X hH 194 (by decide) eO194 rfl inBX9 0 (by decide) rfl bw332 dX9_has_6 ?_
    refine cGi (cVrun (rest := [.int a1]) X (c_X5_size l G w 10 (by decide) _ rfl) bw890 bw624 bw625 bw91 bw626 cn_X5_size ⟨rfl, rfl, Nat.le_of_ble_eq_true rfl, Nat.le_of_ble_eq_true rfl⟩ (c_recR X hH (by decide)) cA_g hH hS hl rfl (Nat.le_of_ble_eq_true rfl) dX9_has_9) hS (fun H locs hH hS => ?_)
    refine lv_icmp_ge (tgt := 19) hx hb dX9_has_12 (by decide) (fun hc12 => ?_) (fun hc12 => ?_)
    · refine lv_iconst (v := 0) hx hb dX9_has_19 (by decide) ?_
      exact W.eq (by rw [if_neg hc1, if_pos hc12] <;> rfl) (hJ _ _ hH hS)
    · refine lv_iconst (v := 1) hx hb dX9_has_15 (by decide) ?_
      refine lv_goto (tgt := 20) hx hb dX9_has_16 (by decide) ?_
      exact W.eq (by rw [if_neg hc1, if_neg hc12] <;> rfl) (hJ _ _ hH hS)
theorem zb_X9_has (w : CW) (a1 : Int32) : f_X9_has w a1 = 0 ∨ f_X9_has w a1 = 1 := by
  unfold f_X9_has
  try simp only [nmk]
  repeat' (first | exact zb0 | exact zb1 | refine zb_ite ?_ ?_)
def f_X10_isLetter (a0 : Int32) : Int32 := ((if a0 < 97 then 0 else (if 122 < a0 then 0 else 1)))
abbrev rm_X10_isLetter : Room := { frames := 1, cells := 0, slots := 0, locals := 0 }
theorem cn_X10_isLetter : CN yX10_isLetter 1 := ⟨by decide +kernel, by decide +kernel, by decide +kernel⟩
set_option maxHeartbeats 4000000 in
set_option maxRecDepth 100000 in
theorem c_X10_isLetter (l : Launch) (G : GX) (P : Heap → Prop) (A : Nat → Prop) (hAG : ∀ q, A q → gA G q) (a0 : Int32) (q : Int32) (hf : f_X10_isLetter a0 = q) : MI l G yX10_isLetter cX10_isLetter 1 (some .boolean) rm_X10_isLetter [.int a0] A P P q := by
  refine cM_start (by decide +kernel) (Nat.le_of_ble_eq_true rfl) ?_
  intro p e s m below meth c ls X hH hl
  have hS : va_S A s.heap s.heap [] := va_S.rf
  have hx := X.1.1
  have hb := X.1.2.1
  generalize hargs : ([.int a0] : List Value).toArray = args at X ⊢
  generalize hQ : MQ below (QI A P q) args s 0 0 A = Q
  have hl : lv_has ls 1 [(0, .int a0)] := hl
  unfold f_X10_isLetter at hf
  refine lv_iload_n hx hb dX10_isLetter_0 rfl (lv_at hl 0 rfl) ?_
  refine lv_bipush (v := 97) hx hb dX10_isLetter_1 (by decide) ?_
  have hJ : ∀ (H : Heap) (locs : List Loc), P H → va_S A s.heap H locs → W p l e rm_X10_isLetter s m args below meth c H locs 0 0 Q (F0 m 17 ls [.int (if a0 < 97 then 0 else (if 122 < a0 then 0 else 1))]) := by
    intro H locs hH hS
    subst hQ
    exact cEz X hH hS (hf) (nz (zb_ite zb0 (zb_ite zb0 zb1))) dX10_isLetter_17
  refine lv_icmp_lt (tgt := 16) hx hb dX10_isLetter_3 (by decide) (fun hc3 => ?_) (fun hc3 => ?_)
  · refine lv_iconst (v := 0) hx hb dX10_isLetter_16 (by decide) ?_
    exact W.eq (by rw [if_pos hc3] <;> rfl) (hJ _ _ hH hS)
  · refine lv_iload_n hx hb dX10_isLetter_6 rfl (lv_at hl 0 rfl) ?_
    refine lv_bipush (v := 122) hx hb dX10_isLetter_7 (by decide) ?_
    refine lv_icmp_gt (tgt := 16) hx hb dX10_isLetter_9 (by decide) (fun hc9 => ?_) (fun hc9 => ?_)
    · refine lv_iconst (v := 0) hx hb dX10_isLetter_16 (by decide) ?_
      exact W.eq (by rw [if_neg hc3, if_pos hc9] <;> rfl) (hJ _ _ hH hS)
    · refine lv_iconst (v := 1) hx hb dX10_isLetter_12 (by decide) ?_
      refine lv_goto (tgt := 17) hx hb dX10_isLetter_13 (by decide) ?_
      exact W.eq (by rw [if_neg hc3, if_neg hc9] <;> rfl) (hJ _ _ hH hS)
theorem zb_X10_isLetter (a0 : Int32) : f_X10_isLetter a0 = 0 ∨ f_X10_isLetter a0 = 1 := by
  unfold f_X10_isLetter
  try simp only [nmk]
  repeat' (first | exact zb0 | exact zb1 | refine zb_ite ?_ ?_)
def f_X9_canStand (w : CW) (k0 : Nat) (a1 : Int32) : Int32 := (nmk (rAt w k0 a1) fun (x5 : Int32) => ((if (f_X10_isLetter x5) = 0 then (if x5 = 32 then (if a1 ≤ 0 then 0 else (if (rAt w k0 (a1 - 1)) = 32 then 0 else 1)) else 0) else 1)))
abbrev rm_X9_canStand : Room := { frames := 2, cells := 0, slots := 0, locals := 21 }
theorem cn_X9_canStand : CN yX9_canStand 2 := ⟨by decide +kernel, by decide +kernel, by decide +kernel⟩
set_option maxHeartbeats 4000000 in
set_option maxRecDepth 100000 in
theorem c_X9_canStand (l : Launch) (G : GX) (w : CW) (k0 : Nat) (hk0 : k0 < 95) (a1 : Int32) (q : Int32) (hf : f_X9_canStand w k0 a1 = q) : MI l G yX9_canStand cX9_canStand 3 (some .boolean) rm_X9_canStand [.ref (G.2.2.1 k0), .int a1] (cA G) (cH G w) (cH G w) q := by
  refine cM_start (by decide +kernel) (Nat.le_of_ble_eq_true rfl) ?_
  intro p e s m below meth c ls X hH hl
  have hS : va_S (cA G) s.heap s.heap [] := va_S.rf
  have hx := X.1.1
  have hb := X.1.2.1
  generalize hargs : ([.ref (G.2.2.1 k0), .int a1] : List Value).toArray = args at X ⊢
  generalize hQ : MQ below (QI (cA G) (cH G w) q) args s 0 0 (cA G) = Q
  have hl : lv_has ls 3 [(0, .ref (G.2.2.1 k0)), (1, .int a1)] := hl
  unfold f_X9_canStand at hf
  refine lv_aload_n hx hb dX9_canStand_0 rfl (lv_at hl 0 rfl) ?_
  refine lv_iload_n hx hb dX9_canStand_1 rfl (lv_at hl 1 rfl) ?_
  refine cGi (cVrun (rest := []) X (cl_X5_at l G w k0 hk0 a1 _ rfl) bw894 bw628 bw629 bw91 bw630 cn_X5_at ⟨rfl, rfl, Nat.le_of_ble_eq_true rfl, Nat.le_of_ble_eq_true rfl⟩ (c_recR X hH hk0) cA_g hH hS hl rfl (Nat.le_of_ble_eq_true rfl) dX9_canStand_2) hS (fun H locs hH hS => ?_)
  refine lv_topi (fun x5 ex5 => ?_)
  have hf := nm_s hf x5 ex5
  refine lv_istore_n (lv' := [(2, .int x5), (0, .ref (G.2.2.1 k0)), (1, .int a1)]) hx hb dX9_canStand_5 rfl hl (by decide) rfl (fun ls hl => ?_)
  refine lv_iload_n hx hb dX9_canStand_6 rfl (lv_at hl 0 rfl) ?_
  refine cGi (cSNrun (rest := []) X (c_X10_isLetter l G (cH G w) (cA G) cA_g x5 _ rfl) bw895 bw793 bw96 bw794 cn_X10_isLetter ⟨rfl, rfl, Nat.le_of_ble_eq_true rfl, Nat.le_of_ble_eq_true rfl⟩ cA_g hH hS hl rfl (Nat.le_of_ble_eq_true rfl) dX9_canStand_7) hS (fun H locs hH hS => ?_)
  have hJ : ∀ (H : Heap) (locs : List Loc), cH G w H → va_S (cA G) s.heap H locs → W p l e rm_X9_canStand s m args below meth c H locs 0 0 Q (F0 m 40 ls [.int (if (f_X10_isLetter x5) = 0 then (if x5 = 32 then (if a1 ≤ 0 then 0 else (if (rAt w k0 (a1 - 1)) = 32 then 0 else 1)) else 0) else 1)]) := by
    intro H locs hH hS
    subst hQ
    exact cEz X hH hS (hf) (nz (zb_ite (zb_ite (zb_ite zb0 (zb_ite zb0 zb1)) zb0) zb1)) dX9_canStand_40
  refine lv_if_ne (tgt := 35) hx hb dX9_canStand_10 (by decide) (fun hc10 => ?_) (fun hc10 => ?_)
  · refine lv_iconst (v := 1) hx hb dX9_canStand_35 (by decide) ?_
    refine lv_goto (tgt := 40) hx hb dX9_canStand_36 (by decide) ?_
    exact W.eq (by rw [if_neg hc10] <;> rfl) (hJ _ _ hH hS)
  · refine lv_iload_n hx hb dX9_canStand_13 rfl (lv_at hl 0 rfl) ?_
    refine lv_bipush (v := 32) hx hb dX9_canStand_14 (by decide) ?_
    refine lv_icmp_ne (tgt := 39) hx hb dX9_canStand_16 (by decide) (fun hc16 => ?_) (fun hc16 => ?_)
    · refine lv_iconst (v := 0) hx hb dX9_canStand_39 (by decide) ?_
      exact W.eq (by rw [if_pos hc10, if_neg hc16] <;> rfl) (hJ _ _ hH hS)
    · refine lv_iload_n hx hb dX9_canStand_19 rfl (lv_at hl 2 rfl) ?_
      refine lv_if_le (tgt := 39) hx hb dX9_canStand_20 (by decide) (fun hc20 => ?_) (fun hc20 => ?_)
      · refine lv_iconst (v := 0) hx hb dX9_canStand_39 (by decide) ?_
        exact W.eq (by rw [if_pos hc10, if_pos hc16, if_pos hc20] <;> rfl) (hJ _ _ hH hS)
      · refine lv_aload_n hx hb dX9_canStand_23 rfl (lv_at hl 1 rfl) ?_
        refine lv_iload_n hx hb dX9_canStand_24 rfl (lv_at hl 2 rfl) ?_
        refine lv_iconst (v := 1) hx hb dX9_canStand_25 (by decide) ?_
        refine lv_isub hx hb dX9_canStand_26 ?_
        refine cGi (cVrun (rest := []) X (cl_X5_at l G w k0 hk0 (a1 - 1) _ rfl) bw894 bw628 bw629 bw91 bw630 cn_X5_at ⟨rfl, rfl, Nat.le_of_ble_eq_true rfl, Nat.le_of_ble_eq_true rfl⟩ (c_recR X hH hk0) cA_g hH hS hl rfl (Nat.le_of_ble_eq_true rfl) dX9_canStand_27) hS (fun H locs hH hS => ?_)
        refine lv_bipush (v := 32) hx hb dX9_canStand_30 (by decide) ?_
        refine lv_icmp_eq (tgt := 39) hx hb dX9_canStand_32 (by decide) (fun hc32 => ?_) (fun hc32 => ?_)
        · refine lv_iconst (v := 0) hx hb dX9_canStand_39 (by decide) ?_
          exact W.eq (by rw [if_pos hc10, if_pos hc16, if_neg hc20, if_pos hc32] <;> rfl) (hJ _ _ hH hS)
        · refine lv_iconst (v := 1) hx hb dX9_canStand_35 (by decide) ?_
          refine lv_goto (tgt := 40) hx hb dX9_canStand_36 (by decide) ?_
          exact W.eq (by rw [if_pos hc10, if_pos hc16, if_neg hc20, if_neg hc32] <;> rfl) (hJ _ _ hH hS)
theorem zb_X9_canStand (w : CW) (k0 : Nat) (a1 : Int32) : f_X9_canStand w k0 a1 = 0 ∨ f_X9_canStand w k0 a1 = 1 := by
  unfold f_X9_canStand
  try simp only [nmk]
  repeat' (first | exact zb0 | exact zb1 | refine zb_ite ?_ ?_)
def f_X9_faultOf_L7 (w : CW) (k1 : Nat) (x4 : Int32) (j34 : Unit → Option (Int32)) : Nat → Int32 → Option (Int32)
  | 0, _ => none
  | n7 + 1, v7_3 => (if x4 ≤ v7_3 then (j34 ()) else (if v7_3 = 60 then (some v7_3) else (if (f_X9_canStand w k1 v7_3) = 0 then (some v7_3) else (nmk (v7_3 + 1) fun (x28 : Int32) => (f_X9_faultOf_L7 w k1 x4 j34 n7 x28)))))
def f_X9_faultOf (w : CW) (k1 : Nat) : Option (Int32) := (nmk (f_X5_size w k1) fun (x4 : Int32) => (nmk (fun (_ : Unit) => (some (if x4 = 0 then x4 else (if (rAt w k1 (x4 - 1)) = 32 then x4 else (-1))))) fun j34 => (f_X9_faultOf_L7 w k1 x4 j34 FU 0)))
abbrev rm_X9_faultOf : Room := { frames := 3, cells := 0, slots := 0, locals := 43 }
theorem cn_X9_faultOf : CN yX9_faultOf 1 := ⟨by decide +kernel, by decide +kernel, by decide +kernel⟩
set_option maxHeartbeats 4000000 in
set_option maxRecDepth 100000 in
theorem c_X9_faultOf (l : Launch) (G : GX) (w : CW) (k1 : Nat) (hk1 : k1 < 95) (q : Int32) (hf : f_X9_faultOf w k1 = some q) : MI l G yX9_faultOf cX9_faultOf 4 (some .int) rm_X9_faultOf [.ref (G.2.2.1 194), .ref (G.2.2.1 k1)] (cA G) (cH G w) (cH G w) q := by
  refine cM_start (by decide +kernel) (Nat.le_of_ble_eq_true rfl) ?_
  intro p e s m below meth c ls X hH hl
  have hS : va_S (cA G) s.heap s.heap [] := va_S.rf
  have hx := X.1.1
  have hb := X.1.2.1
  generalize hargs : ([.ref (G.2.2.1 194), .ref (G.2.2.1 k1)] : List Value).toArray = args at X ⊢
  generalize hQ : MQ below (QI (cA G) (cH G w) q) args s 0 0 (cA G) = Q
  have hl : lv_has ls 4 [(0, .ref (G.2.2.1 194)), (1, .ref (G.2.2.1 k1))] := hl
  unfold f_X9_faultOf at hf
  refine lv_aload_n hx hb dX9_faultOf_0 rfl (lv_at hl 1 rfl) ?_
  refine cGi (cVrun (rest := []) X (c_X5_size l G w k1 hk1 _ rfl) bw890 bw624 bw625 bw91 bw626 cn_X5_size ⟨rfl, rfl, Nat.le_of_ble_eq_true rfl, Nat.le_of_ble_eq_true rfl⟩ (c_recR X hH hk1) cA_g hH hS hl rfl (Nat.le_of_ble_eq_true rfl) dX9_faultOf_1) hS (fun H locs hH hS => ?_)
  refine lv_topi (fun x4 ex4 => ?_)
  have hf := nm_s hf x4 ex4
  refine lv_istore_n (lv' := [(2, .int x4), (0, .ref (G.2.2.1 194)), (1, .ref (G.2.2.1 k1))]) hx hb dX9_faultOf_4 rfl hl (by decide) rfl (fun ls hl => ?_)
  refine lv_iconst (v := 0) hx hb dX9_faultOf_5 (by decide) ?_
  refine lv_istore_n (lv' := [(3, .int 0), (2, .int x4), (0, .ref (G.2.2.1 194)), (1, .ref (G.2.2.1 k1))]) hx hb dX9_faultOf_6 rfl hl (by decide) rfl (fun ls hl => ?_)
  obtain ⟨j34, ej34, hf⟩ := nm_x hf
  have hj34 : ∀ (u0 : Unit) (H : Heap) (locs : List Loc) (ls : Array Slot), j34 u0 = some q → cH G w H → va_S (cA G) s.heap H locs → lv_has ls 4 [(2, .int x4), (1, .ref (G.2.2.1 k1))] → W p l e rm_X9_faultOf s m args below meth c H locs 0 0 Q (F0 m 34 ls []) := by
    intro u0 H locs ls hf hH hS hl
    have hf := jb1 ej34 hf
    refine lv_iload_n hx hb dX9_faultOf_34 rfl (lv_at hl 0 rfl) ?_
    have hJ : ∀ (H : Heap) (locs : List Loc), cH G w H → va_S (cA G) s.heap H locs → W p l e rm_X9_faultOf s m args below meth c H locs 0 0 Q (F0 m 55 ls [.int (if x4 = 0 then x4 else (if (rAt w k1 (x4 - 1)) = 32 then x4 else (-1)))]) := by
      intro H locs hH hS
      subst hQ
      exact cEi X hH hS (so_s hf) dX9_faultOf_55
    refine lv_if_eq (tgt := 50) hx hb dX9_faultOf_35 (by decide) (fun hc35 => ?_) (fun hc35 => ?_)
    · refine lv_iload_n hx hb dX9_faultOf_50 rfl (lv_at hl 0 rfl) ?_
      refine lv_goto (tgt := 55) hx hb dX9_faultOf_51 (by decide) ?_
      exact W.eq (by rw [if_pos hc35] <;> rfl) (hJ _ _ hH hS)
    · refine lv_aload_n hx hb dX9_faultOf_38 rfl (lv_at hl 1 rfl) ?_
      refine lv_iload_n hx hb dX9_faultOf_39 rfl (lv_at hl 0 rfl) ?_
      refine lv_iconst (v := 1) hx hb dX9_faultOf_40 (by decide) ?_
      refine lv_isub hx hb dX9_faultOf_41 ?_
      refine cGi (cVrun (rest := []) X (cl_X5_at l G w k1 hk1 (x4 - 1) _ rfl) bw894 bw628 bw629 bw91 bw630 cn_X5_at ⟨rfl, rfl, Nat.le_of_ble_eq_true rfl, Nat.le_of_ble_eq_true rfl⟩ (c_recR X hH hk1) cA_g hH hS hl rfl (Nat.le_of_ble_eq_true rfl) dX9_faultOf_42) hS (fun H locs hH hS => ?_)
      refine lv_bipush (v := 32) hx hb dX9_faultOf_45 (by decide) ?_
      refine lv_icmp_ne (tgt := 54) hx hb dX9_faultOf_47 (by decide) (fun hc47 => ?_) (fun hc47 => ?_)
      · refine lv_iconst (v := (-1)) hx hb dX9_faultOf_54 (by decide) ?_
        exact W.eq (by rw [if_neg hc35, if_neg hc47] <;> rfl) (hJ _ _ hH hS)
      · refine lv_iload_n hx hb dX9_faultOf_50 rfl (lv_at hl 0 rfl) ?_
        refine lv_goto (tgt := 55) hx hb dX9_faultOf_51 (by decide) ?_
        exact W.eq (by rw [if_neg hc35, if_pos hc47] <;> rfl) (hJ _ _ hH hS)
  have hL7 : ∀ (n7 : Nat) (v7_3 : Int32) (H : Heap) (locs : List Loc) (ls : Array Slot), f_X9_faultOf_L7 w k1 x4 j34 n7 v7_3 = some q → cH G w H → va_S (cA G) s.heap H locs → lv_has ls 4 [(3, .int v7_3), (2, .int x4), (1, .ref (G.2.2.1 k1))] → W p l e rm_X9_faultOf s m args below meth c H locs 0 0 Q (F0 m 7 ls []) := by
    intro n7
    induction n7 with
    | zero => intro v7_3 H locs ls hf; rw [f_X9_faultOf_L7] at hf; cases hf
    | succ n7 ih7 =>
      intro v7_3 H locs ls hf hH hS hl
      rw [f_X9_faultOf_L7] at hf
      refine lv_iload_n hx hb dX9_faultOf_7 rfl (lv_at hl 0 rfl) ?_
      refine lv_iload_n hx hb dX9_faultOf_8 rfl (lv_at hl 1 rfl) ?_
      refine lv_icmp_ge (tgt := 34) hx hb dX9_faultOf_9 (by decide) (fun hc => ?_) (fun hc => ?_)
      · have hf := fo_t hc hf
        exact hj34 () _ _ _ hf hH hS (lv_sub hl [1, 2] rfl)
      have hf := fo_f hc hf
      refine lv_iload_n hx hb dX9_faultOf_12 rfl (lv_at hl 0 rfl) ?_
      refine lv_bipush (v := 60) hx hb dX9_faultOf_13 (by decide) ?_
      refine lv_icmp_eq (tgt := 26) hx hb dX9_faultOf_15 (by decide) (fun hc => ?_) (fun hc => ?_)
      · have hf := fo_t hc hf
        refine lv_iload_n hx hb dX9_faultOf_26 rfl (lv_at hl 0 rfl) ?_
        subst hQ
        exact cEi X hH hS (so_s hf) dX9_faultOf_27
      have hf := fo_f hc hf
      refine lv_aload_n hx hb dX9_faultOf_18 rfl (lv_at hl 2 rfl) ?_
      refine lv_iload_n hx hb dX9_faultOf_19 rfl (lv_at hl 0 rfl) ?_
      refine cGi (cSrun (rest := []) X (c_X9_canStand l G w k1 hk1 v7_3 _ rfl) bw891 bw892 bw98 bw893 cn_X9_canStand ⟨rfl, rfl, Nat.le_of_ble_eq_true rfl, Nat.le_of_ble_eq_true rfl⟩ cA_g hH hS hl rfl (Nat.le_of_ble_eq_true rfl) dX9_faultOf_20) hS (fun H locs hH hS => ?_)
      refine lv_if_ne (tgt := 28) hx hb dX9_faultOf_23 (by decide) (fun hc => ?_) (fun hc => ?_)
      rotate_left
      · have hf := fo_t hc hf
        refine lv_iload_n hx hb dX9_faultOf_26 rfl (lv_at hl 0 rfl) ?_
        subst hQ
        exact cEi X hH hS (so_s hf) dX9_faultOf_27
      have hf := fo_f hc hf
      obtain ⟨x28, ex28⟩ : ∃ z : Int32, z = (v7_3 + 1) := ⟨_, rfl⟩
      have hf := nm_s hf x28 ex28
      refine lv_iinc (v := x28) (lv' := [(3, .int x28), (2, .int x4), (1, .ref (G.2.2.1 k1))]) hx hb dX9_faultOf_28 hl (k := 0) rfl (by rw [ex28]; rfl) (by decide) rfl (fun ls hl => ?_)
      refine lv_goto (tgt := 7) hx hb dX9_faultOf_31 (by decide) ?_
      exact ih7 _ _ _ _ hf hH hS (lv_sub hl [0, 1, 2] rfl)
  exact hL7 _ _ _ _ _ hf hH hS (lv_sub hl [0, 1, 3] rfl)
def f_X9_accept_L14 (k1 : Nat) (q8 : (Int32 × CW)) : Nat → Int32 → CW → Option (Int32 × CW)
  | 0, _, _ => none
  | n14 + 1, v14_3, w14_ => (if (f_X5_size w14_ k1) ≤ v14_3 then (some (q8.1, w14_)) else (if 60 ≤ v14_3 then (some (q8.1, w14_)) else (nmk (rAt w14_ k1 v14_3) fun (x33 : Int32) => (nmk (rPut w14_ 11 ((q8.1 * 60) + v14_3) (if x33 = 32 then (-1) else (x33 - 97))) fun q61 => (nmk (v14_3 + 1) fun (x64 : Int32) => (f_X9_accept_L14 k1 q8 n14 x64 q61))))))
def f_X9_accept (w : CW) (k1 : Nat) : Option (Int32 × CW) := (nmk (rNumber w 10 (f_X5_size w k1)) fun q8 => (f_X9_accept_L14 k1 q8 FU 0 q8.2))
abbrev rm_X9_accept : Room := { frames := 2, cells := 0, slots := 0, locals := 22 }
theorem cn_X9_accept : CN yX9_accept 1 := ⟨by decide +kernel, by decide +kernel, by decide +kernel⟩
set_option maxHeartbeats 4000000 in
set_option maxRecDepth 100000 in
theorem c_X9_accept (l : Launch) (G : GX) (w : CW) (k1 : Nat) (hk1 : k1 < 95) (q : Int32 × CW) (hf : f_X9_accept w k1 = some q) : MI l G yX9_accept cX9_accept 5 (some .int) rm_X9_accept [.ref (G.2.2.1 194), .ref (G.2.2.1 k1)] (cA G) (cH G w) (cH G q.2) q.1 := by
  refine cM_start (by decide +kernel) (Nat.le_of_ble_eq_true rfl) ?_
  intro p e s m below meth c ls X hH hl
  have hS : va_S (cA G) s.heap s.heap [] := va_S.rf
  have hx := X.1.1
  have hb := X.1.2.1
  generalize hargs : ([.ref (G.2.2.1 194), .ref (G.2.2.1 k1)] : List Value).toArray = args at X ⊢
  generalize hQ : MQ below (QI (cA G) (cH G q.2) q.1) args s 0 0 (cA G) = Q
  have hl : lv_has ls 5 [(0, .ref (G.2.2.1 194)), (1, .ref (G.2.2.1 k1))] := hl
  unfold f_X9_accept at hf
  refine lv_aload_n hx hb dX9_accept_0 rfl (lv_at hl 0 rfl) ?_
  refine co_get X hH 194 (by decide) eO194 rfl inBX9 0 (by decide) rfl bw332 dX9_accept_1 ?_
  refine lv_aload_n hx hb dX9_accept_4 rfl (lv_at hl 1 rfl) ?_
  refine cGi (cVrun (rest := [.ref (G.2.2.1 10)]) X (c_X5_size l G w k1 hk1 _ rfl) bw890 bw624 bw625 bw91 bw626 cn_X5_size ⟨rfl, rfl, Nat.le_of_ble_eq_true rfl, Nat.le_of_ble_eq_true rfl⟩ (c_recR X hH hk1) cA_g hH hS hl rfl (Nat.le_of_ble_eq_true rfl) dX9_accept_5) hS (fun H locs hH hS => ?_)
  obtain ⟨q8, hq8, hf⟩ := nm_x hf
  have hq8 := hq8.symm
  refine cGi (cVrun (rest := []) X (cl_X5_number l G w 10 (by decide) (f_X5_size w k1) q8 hq8) bw900 bw817 bw818 bw91 bw819 cn_X5_number ⟨rfl, rfl, Nat.le_of_ble_eq_true rfl, Nat.le_of_ble_eq_true rfl⟩ (c_recR X hH (by decide)) cA_g hH hS hl rfl (Nat.le_of_ble_eq_true rfl) dX9_accept_8) hS (fun H locs hH hS => ?_)
  refine lv_istore_n (lv' := [(2, .int q8.1), (0, .ref (G.2.2.1 194)), (1, .ref (G.2.2.1 k1))]) hx hb dX9_accept_11 rfl hl (by decide) rfl (fun ls hl => ?_)
  refine lv_iconst (v := 0) hx hb dX9_accept_12 (by decide) ?_
  refine lv_istore_n (lv' := [(3, .int 0), (2, .int q8.1), (0, .ref (G.2.2.1 194)), (1, .ref (G.2.2.1 k1))]) hx hb dX9_accept_13 rfl hl (by decide) rfl (fun ls hl => ?_)
  have hL14 : ∀ (n14 : Nat) (v14_3 : Int32) (w14_ : CW) (H : Heap) (locs : List Loc) (ls : Array Slot), f_X9_accept_L14 k1 q8 n14 v14_3 w14_ = some q → cH G w14_ H → va_S (cA G) s.heap H locs → lv_has ls 5 [(3, .int v14_3), (2, .int q8.1), (0, .ref (G.2.2.1 194)), (1, .ref (G.2.2.1 k1))] → W p l e rm_X9_accept s m args below meth c H locs 0 0 Q (F0 m 14 ls []) := by
    intro n14
    induction n14 with
    | zero => intro v14_3 w14_ H locs ls hf; rw [f_X9_accept_L14] at hf; cases hf
    | succ n14 ih14 =>
      intro v14_3 w14_ H locs ls hf hH hS hl
      rw [f_X9_accept_L14] at hf
      refine lv_iload_n hx hb dX9_accept_14 rfl (lv_at hl 0 rfl) ?_
      refine lv_aload_n hx hb dX9_accept_15 rfl (lv_at hl 3 rfl) ?_
      refine cGi (cVrun (rest := [.int v14_3]) X (c_X5_size l G w14_ k1 hk1 _ rfl) bw890 bw624 bw625 bw91 bw626 cn_X5_size ⟨rfl, rfl, Nat.le_of_ble_eq_true rfl, Nat.le_of_ble_eq_true rfl⟩ (c_recR X hH hk1) cA_g hH hS hl rfl (Nat.le_of_ble_eq_true rfl) dX9_accept_16) hS (fun H locs hH hS => ?_)
      refine lv_icmp_ge (tgt := 70) hx hb dX9_accept_19 (by decide) (fun hc => ?_) (fun hc => ?_)
      · have hf := fo_t hc hf
        refine lv_iload_n hx hb dX9_accept_70 rfl (lv_at hl 1 rfl) ?_
        subst hQ
        exact cEi X (cH2 (so_s hf) hH) hS (pf1 (so_s hf)) dX9_accept_71
      have hf := fo_f hc hf
      refine lv_iload_n hx hb dX9_accept_22 rfl (lv_at hl 0 rfl) ?_
      refine lv_bipush (v := 60) hx hb dX9_accept_23 (by decide) ?_
      refine lv_icmp_ge (tgt := 70) hx hb dX9_accept_25 (by decide) (fun hc => ?_) (fun hc => ?_)
      · have hf := fo_t hc hf
        refine lv_iload_n hx hb dX9_accept_70 rfl (lv_at hl 1 rfl) ?_
        subst hQ
        exact cEi X (cH2 (so_s hf) hH) hS (pf1 (so_s hf)) dX9_accept_71
      have hf := fo_f hc hf
      refine lv_aload_n hx hb dX9_accept_28 rfl (lv_at hl 3 rfl) ?_
      refine lv_iload_n hx hb dX9_accept_29 rfl (lv_at hl 0 rfl) ?_
      refine cGi (cVrun (rest := []) X (cl_X5_at l G w14_ k1 hk1 v14_3 _ rfl) bw894 bw628 bw629 bw91 bw630 cn_X5_at ⟨rfl, rfl, Nat.le_of_ble_eq_true rfl, Nat.le_of_ble_eq_true rfl⟩ (c_recR X hH hk1) cA_g hH hS hl rfl (Nat.le_of_ble_eq_true rfl) dX9_accept_30) hS (fun H locs hH hS => ?_)
      refine lv_topi (fun x33 ex33 => ?_)
      have hf := nm_s hf x33 ex33
      refine lv_istore (lv' := [(4, .int x33), (3, .int v14_3), (2, .int q8.1), (0, .ref (G.2.2.1 194)), (1, .ref (G.2.2.1 k1))]) hx hb dX9_accept_33 hl (by decide) rfl (fun ls hl => ?_)
      refine lv_aload_n hx hb dX9_accept_35 rfl (lv_at hl 3 rfl) ?_
      refine co_get X hH 194 (by decide) eO194 rfl inBX9 1 (by decide) rfl bw334 dX9_accept_36 ?_
      refine lv_iload_n hx hb dX9_accept_39 rfl (lv_at hl 2 rfl) ?_
      refine lv_bipush (v := 60) hx hb dX9_accept_40 (by decide) ?_
      refine lv_imul hx hb dX9_accept_42 ?_
      refine lv_iload_n hx hb dX9_accept_43 rfl (lv_at hl 1 rfl) ?_
      refine lv_iadd hx hb dX9_accept_44 ?_
      refine lv_iload hx hb dX9_accept_45 (lv_at hl 0 rfl) ?_
      refine lv_bipush (v := 32) hx hb dX9_accept_47 (by decide) ?_
      have hJ : ∀ (H : Heap) (locs : List Loc), cH G w14_ H → va_S (cA G) s.heap H locs → W p l e rm_X9_accept s m args below meth c H locs 0 0 Q (F0 m 61 ls [.int (if x33 = 32 then (-1) else (x33 - 97)), .int ((q8.1 * 60) + v14_3), .ref (G.2.2.1 11)]) := by
        intro H locs hH hS
        obtain ⟨q61, hq61, hf⟩ := nm_x hf
        have hq61 := hq61.symm
        refine cGv (cVrun (rest := []) X (cl_X5_put l G w14_ 11 (by decide) ((q8.1 * 60) + v14_3) (if x33 = 32 then (-1) else (x33 - 97)) q61 hq61) bw901 bw352 bw353 bw91 bw354 cn_X5_put ⟨rfl, rfl, Nat.le_of_ble_eq_true rfl, Nat.le_of_ble_eq_true rfl⟩ (c_recR X hH (by decide)) cA_g hH hS hl rfl (Nat.le_of_ble_eq_true rfl) dX9_accept_61) hS (fun H locs hH hS => ?_)
        obtain ⟨x64, ex64⟩ : ∃ z : Int32, z = (v14_3 + 1) := ⟨_, rfl⟩
        have hf := nm_s hf x64 ex64
        refine lv_iinc (v := x64) (lv' := [(3, .int x64), (4, .int x33), (2, .int q8.1), (0, .ref (G.2.2.1 194)), (1, .ref (G.2.2.1 k1))]) hx hb dX9_accept_64 hl (k := 1) rfl (by rw [ex64]; rfl) (by decide) rfl (fun ls hl => ?_)
        refine lv_goto (tgt := 14) hx hb dX9_accept_67 (by decide) ?_
        exact ih14 _ _ _ _ _ hf hH hS (lv_sub hl [0, 2, 3, 4] rfl)
      refine lv_icmp_ne (tgt := 56) hx hb dX9_accept_49 (by decide) (fun hc49 => ?_) (fun hc49 => ?_)
      · refine lv_iload hx hb dX9_accept_56 (lv_at hl 0 rfl) ?_
        refine lv_bipush (v := 97) hx hb dX9_accept_58 (by decide) ?_
        refine lv_isub hx hb dX9_accept_60 ?_
        exact W.eq (by rw [if_neg hc49] <;> rfl) (hJ _ _ hH hS)
      · refine lv_iconst (v := (-1)) hx hb dX9_accept_52 (by decide) ?_
        refine lv_goto (tgt := 61) hx hb dX9_accept_53 (by decide) ?_
        exact W.eq (by rw [if_pos hc49] <;> rfl) (hJ _ _ hH hS)
  exact hL14 _ _ _ _ _ _ hf hH hS (lv_sub hl [0, 1, 2, 3] rfl)
def f_X9_copyTo_L6 (a1 : Int32) (k2 : Nat) : Nat → Int32 → CW → Option (CW)
  | 0, _, _ => none
  | n6 + 1, v6_3, w6_ => (if (rAt w6_ 10 a1) ≤ v6_3 then (some w6_) else (nmk (rPush w6_ k2 (rAt w6_ 11 ((a1 * 60) + v6_3))) fun q32 => (nmk (v6_3 + 1) fun (x35 : Int32) => (f_X9_copyTo_L6 a1 k2 n6 x35 q32))))
def f_X9_copyTo (w : CW) (a1 : Int32) (k2 : Nat) : Option (CW) := (nmk (f_X5_clear w k2) fun q1 => (f_X9_copyTo_L6 a1 k2 FU 0 q1))
abbrev rm_X9_copyTo : Room := { frames := 2, cells := 0, slots := 0, locals := 21 }
theorem cn_X9_copyTo : CN yX9_copyTo 2 := ⟨by decide +kernel, by decide +kernel, by decide +kernel⟩
set_option maxHeartbeats 4000000 in
set_option maxRecDepth 100000 in
theorem c_X9_copyTo (l : Launch) (G : GX) (w : CW) (a1 : Int32) (k2 : Nat) (hk2 : k2 < 95) (q : CW) (hf : f_X9_copyTo w a1 k2 = some q) : MV l G yX9_copyTo cX9_copyTo 4 rm_X9_copyTo [.ref (G.2.2.1 194), .int a1, .ref (G.2.2.1 k2)] (cA G) (cH G w) (cH G q) := by
  refine cM_start (by decide +kernel) (Nat.le_of_ble_eq_true rfl) ?_
  intro p e s m below meth c ls X hH hl
  have hS : va_S (cA G) s.heap s.heap [] := va_S.rf
  have hx := X.1.1
  have hb := X.1.2.1
  generalize hargs : ([.ref (G.2.2.1 194), .int a1, .ref (G.2.2.1 k2)] : List Value).toArray = args at X ⊢
  generalize hQ : MQ below (QV (cA G) (cH G q)) args s 0 0 (cA G) = Q
  have hl : lv_has ls 4 [(0, .ref (G.2.2.1 194)), (1, .int a1), (2, .ref (G.2.2.1 k2))] := hl
  unfold f_X9_copyTo at hf
  refine lv_aload_n hx hb dX9_copyTo_0 rfl (lv_at hl 2 rfl) ?_
  obtain ⟨q1, hq1, hf⟩ := nm_x hf
  have hq1 := hq1.symm
  refine cGv (cVrun (rest := []) X (c_X5_clear l G w k2 hk2 q1 hq1) bw918 bw809 bw810 bw91 bw811 cn_X5_clear ⟨rfl, rfl, Nat.le_of_ble_eq_true rfl, Nat.le_of_ble_eq_true rfl⟩ (c_recR X hH hk2) cA_g hH hS hl rfl (Nat.le_of_ble_eq_true rfl) dX9_copyTo_1) hS (fun H locs hH hS => ?_)
  refine lv_iconst (v := 0) hx hb dX9_copyTo_4 (by decide) ?_
  refine lv_istore_n (lv' := [(3, .int 0), (0, .ref (G.2.2.1 194)), (1, .int a1), (2, .ref (G.2.2.1 k2))]) hx hb dX9_copyTo_5 rfl hl (by decide) rfl (fun ls hl => ?_)
  have hL6 : ∀ (n6 : Nat) (v6_3 : Int32) (w6_ : CW) (H : Heap) (locs : List Loc) (ls : Array Slot), f_X9_copyTo_L6 a1 k2 n6 v6_3 w6_ = some q → cH G w6_ H → va_S (cA G) s.heap H locs → lv_has ls 4 [(3, .int v6_3), (0, .ref (G.2.2.1 194)), (1, .int a1), (2, .ref (G.2.2.1 k2))] → W p l e rm_X9_copyTo s m args below meth c H locs 0 0 Q (F0 m 6 ls []) := by
    intro n6
    induction n6 with
    | zero => intro v6_3 w6_ H locs ls hf; rw [f_X9_copyTo_L6] at hf; cases hf
    | succ n6 ih6 =>
      intro v6_3 w6_ H locs ls hf hH hS hl
      rw [f_X9_copyTo_L6] at hf
      refine lv_iload_n hx hb dX9_copyTo_6 rfl (lv_at hl 0 rfl) ?_
      refine lv_aload_n hx hb dX9_copyTo_7 rfl (lv_at hl 1 rfl) ?_
      refine co_get X hH 194 (by decide) eO194 rfl inBX9 0 (by decide) rfl bw332 dX9_copyTo_8 ?_
      refine lv_iload_n hx hb dX9_copyTo_11 rfl (lv_at hl 2 rfl) ?_
      refine cGi (cVrun (rest := [.int v6_3]) X (cl_X5_at l G w6_ 10 (by decide) a1 _ rfl) bw894 bw628 bw629 bw91 bw630 cn_X5_at ⟨rfl, rfl, Nat.le_of_ble_eq_true rfl, Nat.le_of_ble_eq_true rfl⟩ (c_recR X hH (by decide)) cA_g hH hS hl rfl (Nat.le_of_ble_eq_true rfl) dX9_copyTo_12) hS (fun H locs hH hS => ?_)
      refine lv_icmp_ge (tgt := 41) hx hb dX9_copyTo_15 (by decide) (fun hc => ?_) (fun hc => ?_)
      · have hf := fo_t hc hf
        subst hQ
        exact cEv X (cH1 (so_s hf) hH) hS dX9_copyTo_41
      have hf := fo_f hc hf
      refine lv_aload_n hx hb dX9_copyTo_18 rfl (lv_at hl 3 rfl) ?_
      refine lv_aload_n hx hb dX9_copyTo_19 rfl (lv_at hl 1 rfl) ?_
      refine co_get X hH 194 (by decide) eO194 rfl inBX9 1 (by decide) rfl bw334 dX9_copyTo_20 ?_
      refine lv_iload_n hx hb dX9_copyTo_23 rfl (lv_at hl 2 rfl) ?_
      refine lv_bipush (v := 60) hx hb dX9_copyTo_24 (by decide) ?_
      refine lv_imul hx hb dX9_copyTo_26 ?_
      refine lv_iload_n hx hb dX9_copyTo_27 rfl (lv_at hl 0 rfl) ?_
      refine lv_iadd hx hb dX9_copyTo_28 ?_
      refine cGi (cVrun (rest := [.ref (G.2.2.1 k2)]) X (cl_X5_at l G w6_ 11 (by decide) ((a1 * 60) + v6_3) _ rfl) bw894 bw628 bw629 bw91 bw630 cn_X5_at ⟨rfl, rfl, Nat.le_of_ble_eq_true rfl, Nat.le_of_ble_eq_true rfl⟩ (c_recR X hH (by decide)) cA_g hH hS hl rfl (Nat.le_of_ble_eq_true rfl) dX9_copyTo_29) hS (fun H locs hH hS => ?_)
      obtain ⟨q32, hq32, hf⟩ := nm_x hf
      have hq32 := hq32.symm
      refine cGv (cVrun (rest := []) X (cl_X5_push l G w6_ k2 hk2 (rAt w6_ 11 ((a1 * 60) + v6_3)) q32 hq32) bw919 bw679 bw680 bw91 bw681 cn_X5_push ⟨rfl, rfl, Nat.le_of_ble_eq_true rfl, Nat.le_of_ble_eq_true rfl⟩ (c_recR X hH hk2) cA_g hH hS hl rfl (Nat.le_of_ble_eq_true rfl) dX9_copyTo_32) hS (fun H locs hH hS => ?_)
      obtain ⟨x35, ex35⟩ : ∃ z : Int32, z = (v6_3 + 1) := ⟨_, rfl⟩
      have hf := nm_s hf x35 ex35
      refine lv_iinc (v := x35) (lv' := [(3, .int x35), (0, .ref (G.2.2.1 194)), (1, .int a1), (2, .ref (G.2.2.1 k2))]) hx hb dX9_copyTo_35 hl (k := 0) rfl (by rw [ex35]; rfl) (by decide) rfl (fun ls hl => ?_)
      refine lv_goto (tgt := 6) hx hb dX9_copyTo_38 (by decide) ?_
      exact ih6 _ _ _ _ _ hf hH hS (lv_sub hl [0, 1, 2, 3] rfl)
  exact hL6 _ _ _ _ _ _ hf hH hS (lv_sub hl [0, 1, 2, 3] rfl)
def f_X0_putForm (w : CW) (a1 : Int32) (a2 : Int32) (a3 : Int32) : CW := (nmk (rIndexOf w 37 a1) fun (x8 : Int32) => (nmk (fun (y25_4 : Int32) (w25_ : CW) => (nmk (rPut w25_ 38 y25_4 a2) fun q32 => (nmk (rPut q32 39 y25_4 a3) fun q42 => (q42)))) fun j25 => (if 0 ≤ x8 then (j25 x8 w) else (nmk (rNumber w 37 a1) fun q20 => (j25 q20.1 q20.2)))))
abbrev rm_X0_putForm : Room := { frames := 2, cells := 0, slots := 0, locals := 22 }
theorem cn_X0_putForm : CN yX0_putForm 3 := ⟨by decide +kernel, by decide +kernel, by decide +kernel⟩
set_option maxHeartbeats 4000000 in
set_option maxRecDepth 100000 in
theorem c_X0_putForm (l : Launch) (G : GX) (w : CW) (a1 : Int32) (a2 : Int32) (a3 : Int32) (q : CW) (hf : f_X0_putForm w a1 a2 a3 = q) : MV l G yX0_putForm cX0_putForm 5 rm_X0_putForm [.ref (G.2.2.1 193), .int a1, .int a2, .int a3] (cA G) (cH G w) (cH G q) := by
  refine cM_start (by decide +kernel) (Nat.le_of_ble_eq_true rfl) ?_
  intro p e s m below meth c ls X hH hl
  have hS : va_S (cA G) s.heap s.heap [] := va_S.rf
  have hx := X.1.1
  have hb := X.1.2.1
  generalize hargs : ([.ref (G.2.2.1 193), .int a1, .int a2, .int a3] : List Value).toArray = args at X ⊢
  generalize hQ : MQ below (QV (cA G) (cH G q)) args s 0 0 (cA G) = Q
  have hl : lv_has ls 5 [(0, .ref (G.2.2.1 193)), (1, .int a1), (2, .int a2), (3, .int a3)] := hl
  unfold f_X0_putForm at hf
  refine lv_aload_n hx hb dX0_putForm_0 rfl (lv_at hl 0 rfl) ?_
  refine co_get X hH 193 (by decide) eO193 rfl inBX0 5 (by decide) rfl bw302 dX0_putForm_1 ?_
  refine lv_iload_n hx hb dX0_putForm_4 rfl (lv_at hl 1 rfl) ?_
  refine cGi (cVrun (rest := []) X (cl_X5_indexOf l G w 37 (by decide) a1 _ rfl) bw853 bw854 bw855 bw91 bw856 cn_X5_indexOf ⟨rfl, rfl, Nat.le_of_ble_eq_true rfl, Nat.le_of_ble_eq_true rfl⟩ (c_recR X hH (by decide)) cA_g hH hS hl rfl (Nat.le_of_ble_eq_true rfl) dX0_putForm_5) hS (fun H locs hH hS => ?_)
  refine lv_topi (fun x8 ex8 => ?_)
  have hf := nm_s hf x8 ex8
  refine lv_istore (lv' := [(4, .int x8), (0, .ref (G.2.2.1 193)), (1, .int a1), (2, .int a2), (3, .int a3)]) hx hb dX0_putForm_8 hl (by decide) rfl (fun ls hl => ?_)
  refine lv_iload hx hb dX0_putForm_10 (lv_at hl 0 rfl) ?_
  obtain ⟨j25, ej25, hf⟩ := nm_x hf
  have hj25 : ∀ (y25_4 : Int32) (w25_ : CW) (H : Heap) (locs : List Loc) (ls : Array Slot), j25 y25_4 w25_ = q → cH G w25_ H → va_S (cA G) s.heap H locs → lv_has ls 5 [(4, .int y25_4), (0, .ref (G.2.2.1 193)), (2, .int a2), (3, .int a3)] → W p l e rm_X0_putForm s m args below meth c H locs 0 0 Q (F0 m 25 ls []) := by
    intro y25_4 w25_ H locs ls hf hH hS hl
    have hf := jb2 ej25 hf
    refine lv_aload_n hx hb dX0_putForm_25 rfl (lv_at hl 1 rfl) ?_
    refine co_get X hH 193 (by decide) eO193 rfl inBX0 6 (by decide) rfl bw304 dX0_putForm_26 ?_
    refine lv_iload hx hb dX0_putForm_29 (lv_at hl 0 rfl) ?_
    refine lv_iload_n hx hb dX0_putForm_31 rfl (lv_at hl 2 rfl) ?_
    obtain ⟨q32, hq32, hf⟩ := nm_x hf
    have hq32 := hq32.symm
    refine cGv (cVrun (rest := []) X (cl_X5_put l G w25_ 38 (by decide) y25_4 a2 q32 hq32) bw858 bw352 bw353 bw91 bw354 cn_X5_put ⟨rfl, rfl, Nat.le_of_ble_eq_true rfl, Nat.le_of_ble_eq_true rfl⟩ (c_recR X hH (by decide)) cA_g hH hS hl rfl (Nat.le_of_ble_eq_true rfl) dX0_putForm_32) hS (fun H locs hH hS => ?_)
    refine lv_aload_n hx hb dX0_putForm_35 rfl (lv_at hl 1 rfl) ?_
    refine co_get X hH 193 (by decide) eO193 rfl inBX0 7 (by decide) rfl bw306 dX0_putForm_36 ?_
    refine lv_iload hx hb dX0_putForm_39 (lv_at hl 0 rfl) ?_
    refine lv_iload_n hx hb dX0_putForm_41 rfl (lv_at hl 3 rfl) ?_
    obtain ⟨q42, hq42, hf⟩ := nm_x hf
    have hq42 := hq42.symm
    refine cGv (cVrun (rest := []) X (cl_X5_put l G q32 39 (by decide) y25_4 a3 q42 hq42) bw858 bw352 bw353 bw91 bw354 cn_X5_put ⟨rfl, rfl, Nat.le_of_ble_eq_true rfl, Nat.le_of_ble_eq_true rfl⟩ (c_recR X hH (by decide)) cA_g hH hS hl rfl (Nat.le_of_ble_eq_true rfl) dX0_putForm_42) hS (fun H locs hH hS => ?_)
    subst hQ
    exact cEv X (cH1 (hf) hH) hS dX0_putForm_45
  refine lv_if_ge (tgt := 25) hx hb dX0_putForm_12 (by decide) (fun hc => ?_) (fun hc => ?_)
  · have hf := fo_t hc hf
    exact hj25 _ _ _ _ _ hf hH hS (lv_sub hl [0, 1, 3, 4] rfl)
  have hf := fo_f hc hf
  refine lv_aload_n hx hb dX0_putForm_15 rfl (lv_at hl 1 rfl) ?_
  refine co_get X hH 193 (by decide) eO193 rfl inBX0 5 (by decide) rfl bw302 dX0_putForm_16 ?_
  refine lv_iload_n hx hb dX0_putForm_19 rfl (lv_at hl 2 rfl) ?_
  obtain ⟨q20, hq20, hf⟩ := nm_x hf
  have hq20 := hq20.symm
  refine cGi (cVrun (rest := []) X (cl_X5_number l G w 37 (by decide) a1 q20 hq20) bw857 bw817 bw818 bw91 bw819 cn_X5_number ⟨rfl, rfl, Nat.le_of_ble_eq_true rfl, Nat.le_of_ble_eq_true rfl⟩ (c_recR X hH (by decide)) cA_g hH hS hl rfl (Nat.le_of_ble_eq_true rfl) dX0_putForm_20) hS (fun H locs hH hS => ?_)
  refine lv_istore (lv' := [(4, .int q20.1), (0, .ref (G.2.2.1 193)), (1, .int a1), (2, .int a2), (3, .int a3)]) hx hb dX0_putForm_23 hl (by decide) rfl (fun ls hl => ?_)
  exact hj25 _ _ _ _ _ hf hH hS (lv_sub hl [0, 1, 3, 4] rfl)
def f_X0_barForm (w : CW) (a1 : Int32) : CW := (nmk (rIndexOf w 37 a1) fun (x8 : Int32) => (if 0 ≤ x8 then (nmk ((f_X5_size w 37) - 1) fun (x23 : Int32) => (nmk (rPut w 37 x8 (rAt w 37 x23)) fun q37 => (nmk (rPut q37 38 x8 (rAt q37 38 x23)) fun q53 => (nmk (rPut q53 39 x8 (rAt q53 39 x23)) fun q69 => (nmk (f_X5_shorten q69 37) fun q76 => (q76)))))) else (w)))
abbrev rm_X0_barForm : Room := { frames := 2, cells := 0, slots := 0, locals := 22 }
theorem cn_X0_barForm : CN yX0_barForm 1 := ⟨by decide +kernel, by decide +kernel, by decide +kernel⟩
set_option maxHeartbeats 4000000 in
set_option maxRecDepth 100000 in
theorem c_X0_barForm (l : Launch) (G : GX) (w : CW) (a1 : Int32) (q : CW) (hf : f_X0_barForm w a1 = q) : MV l G yX0_barForm cX0_barForm 4 rm_X0_barForm [.ref (G.2.2.1 193), .int a1] (cA G) (cH G w) (cH G q) := by
  refine cM_start (by decide +kernel) (Nat.le_of_ble_eq_true rfl) ?_
  intro p e s m below meth c ls X hH hl
  have hS : va_S (cA G) s.heap s.heap [] := va_S.rf
  have hx := X.1.1
  have hb := X.1.2.1
  generalize hargs : ([.ref (G.2.2.1 193), .int a1] : List Value).toArray = args at X ⊢
  generalize hQ : MQ below (QV (cA G) (cH G q)) args s 0 0 (cA G) = Q
  have hl : lv_has ls 4 [(0, .ref (G.2.2.1 193)), (1, .int a1)] := hl
  unfold f_X0_barForm at hf
  refine lv_aload_n hx hb dX0_barForm_0 rfl (lv_at hl 0 rfl) ?_
  refine co_get X hH 193 (by decide) eO193 rfl inBX0 5 (by decide) rfl bw302 dX0_barForm_1 ?_
  refine lv_iload_n hx hb dX0_barForm_4 rfl (lv_at hl 1 rfl) ?_
  refine cGi (cVrun (rest := []) X (cl_X5_indexOf l G w 37 (by decide) a1 _ rfl) bw853 bw854 bw855 bw91 bw856 cn_X5_indexOf ⟨rfl, rfl, Nat.le_of_ble_eq_true rfl, Nat.le_of_ble_eq_true rfl⟩ (c_recR X hH (by decide)) cA_g hH hS hl rfl (Nat.le_of_ble_eq_true rfl) dX0_barForm_5) hS (fun H locs hH hS => ?_)
  refine lv_topi (fun x8 ex8 => ?_)
  have hf := nm_s hf x8 ex8
  refine lv_istore_n (lv' := [(2, .int x8), (0, .ref (G.2.2.1 193)), (1, .int a1)]) hx hb dX0_barForm_8 rfl hl (by decide) rfl (fun ls hl => ?_)
  refine lv_iload_n hx hb dX0_barForm_9 rfl (lv_at hl 0 rfl) ?_
  refine lv_if_ge (tgt := 14) hx hb dX0_barForm_10 (by decide) (fun hc => ?_) (fun hc => ?_)
  rotate_left
  · have hf := fo_f hc hf
    subst hQ
    exact cEv X (cH1 (hf) hH) hS dX0_barForm_13
  have hf := fo_t hc hf
  refine lv_aload_n hx hb dX0_barForm_14 rfl (lv_at hl 1 rfl) ?_
  refine co_get X hH 193 (by decide) eO193 rfl inBX0 5 (by decide) rfl bw302 dX0_barForm_15 ?_
  refine cGi (cVrun (rest := []) X (c_X5_size l G w 37 (by decide) _ rfl) bw839 bw624 bw625 bw91 bw626 cn_X5_size ⟨rfl, rfl, Nat.le_of_ble_eq_true rfl, Nat.le_of_ble_eq_true rfl⟩ (c_recR X hH (by decide)) cA_g hH hS hl rfl (Nat.le_of_ble_eq_true rfl) dX0_barForm_18) hS (fun H locs hH hS => ?_)
  refine lv_iconst (v := 1) hx hb dX0_barForm_21 (by decide) ?_
  refine lv_isub hx hb dX0_barForm_22 ?_
  refine lv_topi (fun x23 ex23 => ?_)
  have hf := nm_s hf x23 ex23
  refine lv_istore_n (lv' := [(3, .int x23), (2, .int x8), (0, .ref (G.2.2.1 193)), (1, .int a1)]) hx hb dX0_barForm_23 rfl hl (by decide) rfl (fun ls hl => ?_)
  refine lv_aload_n hx hb dX0_barForm_24 rfl (lv_at hl 2 rfl) ?_
  refine co_get X hH 193 (by decide) eO193 rfl inBX0 5 (by decide) rfl bw302 dX0_barForm_25 ?_
  refine lv_iload_n hx hb dX0_barForm_28 rfl (lv_at hl 1 rfl) ?_
  refine lv_aload_n hx hb dX0_barForm_29 rfl (lv_at hl 2 rfl) ?_
  refine co_get X hH 193 (by decide) eO193 rfl inBX0 5 (by decide) rfl bw302 dX0_barForm_30 ?_
  refine lv_iload_n hx hb dX0_barForm_33 rfl (lv_at hl 0 rfl) ?_
  refine cGi (cVrun (rest := [.int x8, .ref (G.2.2.1 37)]) X (cl_X5_at l G w 37 (by decide) x23 _ rfl) bw840 bw628 bw629 bw91 bw630 cn_X5_at ⟨rfl, rfl, Nat.le_of_ble_eq_true rfl, Nat.le_of_ble_eq_true rfl⟩ (c_recR X hH (by decide)) cA_g hH hS hl rfl (Nat.le_of_ble_eq_true rfl) dX0_barForm_34) hS (fun H locs hH hS => ?_)
  obtain ⟨q37, hq37, hf⟩ := nm_x hf
  have hq37 := hq37.symm
  refine cGv (cVrun (rest := []) X (cl_X5_put l G w 37 (by decide) x8 (rAt w 37 x23) q37 hq37) bw858 bw352 bw353 bw91 bw354 cn_X5_put ⟨rfl, rfl, Nat.le_of_ble_eq_true rfl, Nat.le_of_ble_eq_true rfl⟩ (c_recR X hH (by decide)) cA_g hH hS hl rfl (Nat.le_of_ble_eq_true rfl) dX0_barForm_37) hS (fun H locs hH hS => ?_)
  refine lv_aload_n hx hb dX0_barForm_40 rfl (lv_at hl 2 rfl) ?_
  refine co_get X hH 193 (by decide) eO193 rfl inBX0 6 (by decide) rfl bw304 dX0_barForm_41 ?_
  refine lv_iload_n hx hb dX0_barForm_44 rfl (lv_at hl 1 rfl) ?_
  refine lv_aload_n hx hb dX0_barForm_45 rfl (lv_at hl 2 rfl) ?_
  refine co_get X hH 193 (by decide) eO193 rfl inBX0 6 (by decide) rfl bw304 dX0_barForm_46 ?_
  refine lv_iload_n hx hb dX0_barForm_49 rfl (lv_at hl 0 rfl) ?_
  refine cGi (cVrun (rest := [.int x8, .ref (G.2.2.1 38)]) X (cl_X5_at l G q37 38 (by decide) x23 _ rfl) bw840 bw628 bw629 bw91 bw630 cn_X5_at ⟨rfl, rfl, Nat.le_of_ble_eq_true rfl, Nat.le_of_ble_eq_true rfl⟩ (c_recR X hH (by decide)) cA_g hH hS hl rfl (Nat.le_of_ble_eq_true rfl) dX0_barForm_50) hS (fun H locs hH hS => ?_)
  obtain ⟨q53, hq53, hf⟩ := nm_x hf
  have hq53 := hq53.symm
  refine cGv (cVrun (rest := []) X (cl_X5_put l G q37 38 (by decide) x8 (rAt q37 38 x23) q53 hq53) bw858 bw352 bw353 bw91 bw354 cn_X5_put ⟨rfl, rfl, Nat.le_of_ble_eq_true rfl, Nat.le_of_ble_eq_true rfl⟩ (c_recR X hH (by decide)) cA_g hH hS hl rfl (Nat.le_of_ble_eq_true rfl) dX0_barForm_53) hS (fun H locs hH hS => ?_)
  refine lv_aload_n hx hb dX0_barForm_56 rfl (lv_at hl 2 rfl) ?_
  refine co_get X hH 193 (by decide) eO193 rfl inBX0 7 (by decide) rfl bw306 dX0_barForm_57 ?_
  refine lv_iload_n hx hb dX0_barForm_60 rfl (lv_at hl 1 rfl) ?_
  refine lv_aload_n hx hb dX0_barForm_61 rfl (lv_at hl 2 rfl) ?_
  refine co_get X hH 193 (by decide) eO193 rfl inBX0 7 (by decide) rfl bw306 dX0_barForm_62 ?_
  refine lv_iload_n hx hb dX0_barForm_65 rfl (lv_at hl 0 rfl) ?_
  refine cGi (cVrun (rest := [.int x8, .ref (G.2.2.1 39)]) X (cl_X5_at l G q53 39 (by decide) x23 _ rfl) bw840 bw628 bw629 bw91 bw630 cn_X5_at ⟨rfl, rfl, Nat.le_of_ble_eq_true rfl, Nat.le_of_ble_eq_true rfl⟩ (c_recR X hH (by decide)) cA_g hH hS hl rfl (Nat.le_of_ble_eq_true rfl) dX0_barForm_66) hS (fun H locs hH hS => ?_)
  obtain ⟨q69, hq69, hf⟩ := nm_x hf
  have hq69 := hq69.symm
  refine cGv (cVrun (rest := []) X (cl_X5_put l G q53 39 (by decide) x8 (rAt q53 39 x23) q69 hq69) bw858 bw352 bw353 bw91 bw354 cn_X5_put ⟨rfl, rfl, Nat.le_of_ble_eq_true rfl, Nat.le_of_ble_eq_true rfl⟩ (c_recR X hH (by decide)) cA_g hH hS hl rfl (Nat.le_of_ble_eq_true rfl) dX0_barForm_69) hS (fun H locs hH hS => ?_)
  refine lv_aload_n hx hb dX0_barForm_72 rfl (lv_at hl 2 rfl) ?_
  refine co_get X hH 193 (by decide) eO193 rfl inBX0 5 (by decide) rfl bw302 dX0_barForm_73 ?_
  obtain ⟨q76, hq76, hf⟩ := nm_x hf
  have hq76 := hq76.symm
  refine cGv (cVrun (rest := []) X (c_X5_shorten l G q69 37 (by decide) q76 hq76) bw863 bw864 bw865 bw91 bw866 cn_X5_shorten ⟨rfl, rfl, Nat.le_of_ble_eq_true rfl, Nat.le_of_ble_eq_true rfl⟩ (c_recR X hH (by decide)) cA_g hH hS hl rfl (Nat.le_of_ble_eq_true rfl) dX0_barForm_76) hS (fun H locs hH hS => ?_)
  subst hQ
  exact cEv X (cH1 (hf) hH) hS dX0_barForm_79
