def f_X1_rivals (w : CW) : Int32 := ((rAt w 57 (((1 : Int32) <<< ((f_X5_size w 28) &&& 31)) - 1)))
abbrev rm_X1_rivals : Room := { frames := 2, cells := 0, slots := 0, locals := 21 }
theorem cn_X1_rivals : CN yX1_rivals 0 := ⟨by decide +kernel, by decide +kernel, by decide +kernel⟩
set_option maxHeartbeats 4000000 in
set_option maxRecDepth 100000 in
theorem c_X1_rivals (l : Launch) (G : GX) (w : CW) (q : Int32) (hf : f_X1_rivals w = q) : MI l G yX1_rivals cX1_rivals 1 (some .int) rm_X1_rivals [.ref (G.2.2.1 199)] (cA G) (cH G w) (cH G w) q := by
  refine cM_start (by decide +kernel) (Nat.le_of_ble_eq_true rfl) ?_
  intro p e s m below meth c ls X hH hl
  have hS : va_S (cA G) s.heap s.heap [] := va_S.rf
  have hx := X.1.1
  have hb := X.1.2.1
  generalize hargs : ([.ref (G.2.2.1 199)] : List Value).toArray = args at X ⊢
  generalize hQ : MQ below (QI (cA G) (cH G w) q) args s 0 0 (cA G) = Q
  have hl : lv_has ls 1 [(0, .ref (G.2.2.1 199))] := hl
  unfold f_X1_rivals at hf
  refine lv_aload_n hx hb dX1_rivals_0 rfl (lv_at hl 0 rfl) ?_
  refine co_get X hH 199 (by decide) eO199 rfl inBX1 9 (by decide) rfl bw517 dX1_rivals_1 ?_
  refine lv_iconst (v := 1) hx hb dX1_rivals_4 (by decide) ?_
  refine lv_aload_n hx hb dX1_rivals_5 rfl (lv_at hl 0 rfl) ?_
  refine co_get X hH 199 (by decide) eO199 rfl inBX1 1 (by decide) rfl bw506 dX1_rivals_6 ?_
  refine cGi (cVrun (rest := [.int 1, .ref (G.2.2.1 57)]) X (c_X5_size l G w 28 (by decide) _ rfl) bw1170 bw624 bw625 bw91 bw626 cn_X5_size ⟨rfl, rfl, Nat.le_of_ble_eq_true rfl, Nat.le_of_ble_eq_true rfl⟩ (c_recR X hH (by decide)) cA_g hH hS hl rfl (Nat.le_of_ble_eq_true rfl) dX1_rivals_9) hS (fun H locs hH hS => ?_)
  refine lv_ishl hx hb dX1_rivals_12 ?_
  refine lv_iconst (v := 1) hx hb dX1_rivals_13 (by decide) ?_
  refine lv_isub hx hb dX1_rivals_14 ?_
  refine cGi (cVrun (rest := []) X (cl_X5_at l G w 57 (by decide) (((1 : Int32) <<< ((f_X5_size w 28) &&& 31)) - 1) _ rfl) bw1175 bw628 bw629 bw91 bw630 cn_X5_at ⟨rfl, rfl, Nat.le_of_ble_eq_true rfl, Nat.le_of_ble_eq_true rfl⟩ (c_recR X hH (by decide)) cA_g hH hS hl rfl (Nat.le_of_ble_eq_true rfl) dX1_rivals_15) hS (fun H locs hH hS => ?_)
  subst hQ
  exact cEi X hH hS (hf) dX1_rivals_18
def f_X1_isPrinted (a0 : Int32) : Int32 := ((if a0 < 0 then 0 else (if 10 ≤ a0 then 0 else 1)))
abbrev rm_X1_isPrinted : Room := { frames := 1, cells := 0, slots := 0, locals := 0 }
theorem cn_X1_isPrinted : CN yX1_isPrinted 1 := ⟨by decide +kernel, by decide +kernel, by decide +kernel⟩
set_option maxHeartbeats 4000000 in
set_option maxRecDepth 100000 in
theorem c_X1_isPrinted (l : Launch) (G : GX) (P : Heap → Prop) (A : Nat → Prop) (hAG : ∀ q, A q → gA G q) (a0 : Int32) (q : Int32) (hf : f_X1_isPrinted a0 = q) : MI l G yX1_isPrinted cX1_isPrinted 1 (some .boolean) rm_X1_isPrinted [.int a0] A P P q := by
  refine cM_start (by decide +kernel) (Nat.le_of_ble_eq_true rfl) ?_
  intro p e s m below meth c ls X hH hl
  have hS : va_S A s.heap s.heap [] := va_S.rf
  have hx := X.1.1
  have hb := X.1.2.1
  generalize hargs : ([.int a0] : List Value).toArray = args at X ⊢
  generalize hQ : MQ below (QI A P q) args s 0 0 A = Q
  have hl : lv_has ls 1 [(0, .int a0)] := hl
  unfold f_X1_isPrinted at hf
  refine lv_iload_n hx hb dX1_isPrinted_0 rfl (lv_at hl 0 rfl) ?_
  have hJ : ∀ (H : Heap) (locs : List Loc), P H → va_S A s.heap H locs → W p l e rm_X1_isPrinted s m args below meth c H locs 0 0 Q (F0 m 15 ls [.int (if a0 < 0 then 0 else (if 10 ≤ a0 then 0 else 1))]) := by
    intro H locs hH hS
    subst hQ
    exact cEz X hH hS (hf) (nz (zb_ite zb0 (zb_ite zb0 zb1))) dX1_isPrinted_15
  refine lv_if_lt (tgt := 14) hx hb dX1_isPrinted_1 (by decide) (fun hc1 => ?_) (fun hc1 => ?_)
  · refine lv_iconst (v := 0) hx hb dX1_isPrinted_14 (by decide) ?_
    exact W.eq (by rw [if_pos hc1] <;> rfl) (hJ _ _ hH hS)
  · refine lv_iload_n hx hb dX1_isPrinted_4 rfl (lv_at hl 0 rfl) ?_
    refine lv_bipush (v := 10) hx hb dX1_isPrinted_5 (by decide) ?_
    refine lv_icmp_ge (tgt := 14) hx hb dX1_isPrinted_7 (by decide) (fun hc7 => ?_) (fun hc7 => ?_)
    · refine lv_iconst (v := 0) hx hb dX1_isPrinted_14 (by decide) ?_
      exact W.eq (by rw [if_neg hc1, if_pos hc7] <;> rfl) (hJ _ _ hH hS)
    · refine lv_iconst (v := 1) hx hb dX1_isPrinted_10 (by decide) ?_
      refine lv_goto (tgt := 15) hx hb dX1_isPrinted_11 (by decide) ?_
      exact W.eq (by rw [if_neg hc1, if_neg hc7] <;> rfl) (hJ _ _ hH hS)
theorem zb_X1_isPrinted (a0 : Int32) : f_X1_isPrinted a0 = 0 ∨ f_X1_isPrinted a0 = 1 := by
  unfold f_X1_isPrinted
  try simp only [nmk]
  repeat' (first | exact zb0 | exact zb1 | refine zb_ite ?_ ?_)
def f_X1_rule (a0 : Int32) (a1 : Int32) : Int32 := (((a0 * 10) + a1))
abbrev rm_X1_rule : Room := { frames := 1, cells := 0, slots := 0, locals := 0 }
theorem cn_X1_rule : CN yX1_rule 2 := ⟨by decide +kernel, by decide +kernel, by decide +kernel⟩
set_option maxHeartbeats 4000000 in
set_option maxRecDepth 100000 in
theorem c_X1_rule (l : Launch) (G : GX) (P : Heap → Prop) (A : Nat → Prop) (hAG : ∀ q, A q → gA G q) (a0 : Int32) (a1 : Int32) (q : Int32) (hf : f_X1_rule a0 a1 = q) : MI l G yX1_rule cX1_rule 2 (some .int) rm_X1_rule [.int a0, .int a1] A P P q := by
  refine cM_start (by decide +kernel) (Nat.le_of_ble_eq_true rfl) ?_
  intro p e s m below meth c ls X hH hl
  have hS : va_S A s.heap s.heap [] := va_S.rf
  have hx := X.1.1
  have hb := X.1.2.1
  generalize hargs : ([.int a0, .int a1] : List Value).toArray = args at X ⊢
  generalize hQ : MQ below (QI A P q) args s 0 0 A = Q
  have hl : lv_has ls 2 [(0, .int a0), (1, .int a1)] := hl
  unfold f_X1_rule at hf
  refine lv_iload_n hx hb dX1_rule_0 rfl (lv_at hl 0 rfl) ?_
  refine lv_bipush (v := 10) hx hb dX1_rule_1 (by decide) ?_
  refine lv_imul hx hb dX1_rule_3 ?_
  refine lv_iload_n hx hb dX1_rule_4 rfl (lv_at hl 1 rfl) ?_
  refine lv_iadd hx hb dX1_rule_5 ?_
  subst hQ
  exact cEi X hH hS (hf) dX1_rule_6
def f_X1_findForerunners_L10 (a1 : Int32) : Nat → Int32 → CW → Option (CW)
  | 0, _, _ => none
  | n10 + 1, v10_2, w10_ => (if (f_X5_size w10_ 29) ≤ v10_2 then (some w10_) else (nmk ((rAt w10_ 29 v10_2) / 10) fun (x32 : Int32) => (nmk ((rAt w10_ 29 v10_2) - (rAt w10_ 29 v10_2) / 10 * 10) fun (x44 : Int32) => (nmk (fun (w79_ : CW) => (nmk (v10_2 + 1) fun (x79 : Int32) => (f_X1_findForerunners_L10 a1 n10 x79 w79_))) fun j79 => (if a1 ≤ x32 then (j79 w10_) else (if a1 ≤ x44 then (j79 w10_) else (nmk (rPut w10_ 54 x44 ((rAt w10_ 54 x44) ||| ((1 : Int32) <<< (x32 &&& 31)))) fun q76 => (j79 q76))))))))
def f_X1_findForerunners (w : CW) (a1 : Int32) : Option (CW) := (nmk (rFill w 54 0) fun q5 => (f_X1_findForerunners_L10 a1 FU 0 q5))
abbrev rm_X1_findForerunners : Room := { frames := 2, cells := 0, slots := 0, locals := 22 }
theorem cn_X1_findForerunners : CN yX1_findForerunners 1 := ⟨by decide +kernel, by decide +kernel, by decide +kernel⟩
set_option maxHeartbeats 4000000 in
set_option maxRecDepth 100000 in
theorem c_X1_findForerunners (l : Launch) (G : GX) (w : CW) (a1 : Int32) (q : CW) (hf : f_X1_findForerunners w a1 = some q) : MV l G yX1_findForerunners cX1_findForerunners 5 rm_X1_findForerunners [.ref (G.2.2.1 199), .int a1] (cA G) (cH G w) (cH G q) := by
  refine cM_start (by decide +kernel) (Nat.le_of_ble_eq_true rfl) ?_
  intro p e s m below meth c ls X hH hl
  have hS : va_S (cA G) s.heap s.heap [] := va_S.rf
  have hx := X.1.1
  have hb := X.1.2.1
  generalize hargs : ([.ref (G.2.2.1 199), .int a1] : List Value).toArray = args at X ⊢
  generalize hQ : MQ below (QV (cA G) (cH G q)) args s 0 0 (cA G) = Q
  have hl : lv_has ls 5 [(0, .ref (G.2.2.1 199)), (1, .int a1)] := hl
  unfold f_X1_findForerunners at hf
  refine lv_aload_n hx hb dX1_findForerunners_0 rfl (lv_at hl 0 rfl) ?_
  refine co_get X hH 199 (by decide) eO199 rfl inBX1 6 (by decide) rfl bw514 dX1_findForerunners_1 ?_
  refine lv_iconst (v := 0) hx hb dX1_findForerunners_4 (by decide) ?_
  obtain ⟨q5, hq5, hf⟩ := nm_x hf
  have hq5 := hq5.symm
  refine cGv (cVrun (rest := []) X (cl_X5_fill l G w 54 (by decide) 0 q5 hq5) bw1244 bw348 bw349 bw91 bw350 cn_X5_fill ⟨rfl, rfl, Nat.le_of_ble_eq_true rfl, Nat.le_of_ble_eq_true rfl⟩ (c_recR X hH (by decide)) cA_g hH hS hl rfl (Nat.le_of_ble_eq_true rfl) dX1_findForerunners_5) hS (fun H locs hH hS => ?_)
  refine lv_iconst (v := 0) hx hb dX1_findForerunners_8 (by decide) ?_
  refine lv_istore_n (lv' := [(2, .int 0), (0, .ref (G.2.2.1 199)), (1, .int a1)]) hx hb dX1_findForerunners_9 rfl hl (by decide) rfl (fun ls hl => ?_)
  have hL10 : ∀ (n10 : Nat) (v10_2 : Int32) (w10_ : CW) (H : Heap) (locs : List Loc) (ls : Array Slot), f_X1_findForerunners_L10 a1 n10 v10_2 w10_ = some q → cH G w10_ H → va_S (cA G) s.heap H locs → lv_has ls 5 [(2, .int v10_2), (0, .ref (G.2.2.1 199)), (1, .int a1)] → W p l e rm_X1_findForerunners s m args below meth c H locs 0 0 Q (F0 m 10 ls []) := by
    intro n10
    induction n10 with
    | zero => intro v10_2 w10_ H locs ls hf; rw [f_X1_findForerunners_L10] at hf; cases hf
    | succ n10 ih10 =>
      intro v10_2 w10_ H locs ls hf hH hS hl
      rw [f_X1_findForerunners_L10] at hf
      refine lv_iload_n hx hb dX1_findForerunners_10 rfl (lv_at hl 0 rfl) ?_
      refine lv_aload_n hx hb dX1_findForerunners_11 rfl (lv_at hl 1 rfl) ?_
      refine co_get X hH 199 (by decide) eO199 rfl inBX1 2 (by decide) rfl bw508 dX1_findForerunners_12 ?_
      refine cGi (cVrun (rest := [.int v10_2]) X (c_X5_size l G w10_ 29 (by decide) _ rfl) bw1170 bw624 bw625 bw91 bw626 cn_X5_size ⟨rfl, rfl, Nat.le_of_ble_eq_true rfl, Nat.le_of_ble_eq_true rfl⟩ (c_recR X hH (by decide)) cA_g hH hS hl rfl (Nat.le_of_ble_eq_true rfl) dX1_findForerunners_15) hS (fun H locs hH hS => ?_)
      refine lv_icmp_ge (tgt := 85) hx hb dX1_findForerunners_18 (by decide) (fun hc => ?_) (fun hc => ?_)
      · have hf := fo_t hc hf
        subst hQ
        exact cEv X (cH1 (so_s hf) hH) hS dX1_findForerunners_85
      have hf := fo_f hc hf
      refine lv_aload_n hx hb dX1_findForerunners_21 rfl (lv_at hl 1 rfl) ?_
      refine co_get X hH 199 (by decide) eO199 rfl inBX1 2 (by decide) rfl bw508 dX1_findForerunners_22 ?_
      refine lv_iload_n hx hb dX1_findForerunners_25 rfl (lv_at hl 0 rfl) ?_
      refine cGi (cVrun (rest := []) X (cl_X5_at l G w10_ 29 (by decide) v10_2 _ rfl) bw1175 bw628 bw629 bw91 bw630 cn_X5_at ⟨rfl, rfl, Nat.le_of_ble_eq_true rfl, Nat.le_of_ble_eq_true rfl⟩ (c_recR X hH (by decide)) cA_g hH hS hl rfl (Nat.le_of_ble_eq_true rfl) dX1_findForerunners_26) hS (fun H locs hH hS => ?_)
      refine lv_bipush (v := 10) hx hb dX1_findForerunners_29 (by decide) ?_
      refine lv_idiv hx hb dX1_findForerunners_31 (by decide) ?_
      refine lv_topi (fun x32 ex32 => ?_)
      have hf := nm_s hf x32 ex32
      refine lv_istore_n (lv' := [(3, .int x32), (2, .int v10_2), (0, .ref (G.2.2.1 199)), (1, .int a1)]) hx hb dX1_findForerunners_32 rfl hl (by decide) rfl (fun ls hl => ?_)
      refine lv_aload_n hx hb dX1_findForerunners_33 rfl (lv_at hl 2 rfl) ?_
      refine co_get X hH 199 (by decide) eO199 rfl inBX1 2 (by decide) rfl bw508 dX1_findForerunners_34 ?_
      refine lv_iload_n hx hb dX1_findForerunners_37 rfl (lv_at hl 1 rfl) ?_
      refine cGi (cVrun (rest := []) X (cl_X5_at l G w10_ 29 (by decide) v10_2 _ rfl) bw1175 bw628 bw629 bw91 bw630 cn_X5_at ⟨rfl, rfl, Nat.le_of_ble_eq_true rfl, Nat.le_of_ble_eq_true rfl⟩ (c_recR X hH (by decide)) cA_g hH hS hl rfl (Nat.le_of_ble_eq_true rfl) dX1_findForerunners_38) hS (fun H locs hH hS => ?_)
      refine lv_bipush (v := 10) hx hb dX1_findForerunners_41 (by decide) ?_
      refine lv_irem hx hb dX1_findForerunners_43 (by decide) ?_
      refine lv_topi (fun x44 ex44 => ?_)
      have hf := nm_s hf x44 ex44
      refine lv_istore (lv' := [(4, .int x44), (3, .int x32), (2, .int v10_2), (0, .ref (G.2.2.1 199)), (1, .int a1)]) hx hb dX1_findForerunners_44 hl (by decide) rfl (fun ls hl => ?_)
      refine lv_iload_n hx hb dX1_findForerunners_46 rfl (lv_at hl 1 rfl) ?_
      refine lv_iload_n hx hb dX1_findForerunners_47 rfl (lv_at hl 4 rfl) ?_
      obtain ⟨j79, ej79, hf⟩ := nm_x hf
      have hj79 : ∀ (w79_ : CW) (H : Heap) (locs : List Loc) (ls : Array Slot), j79 w79_ = some q → cH G w79_ H → va_S (cA G) s.heap H locs → lv_has ls 5 [(2, .int v10_2), (0, .ref (G.2.2.1 199)), (1, .int a1)] → W p l e rm_X1_findForerunners s m args below meth c H locs 0 0 Q (F0 m 79 ls []) := by
        intro w79_ H locs ls hf hH hS hl
        have hf := jb1 ej79 hf
        obtain ⟨x79, ex79⟩ : ∃ z : Int32, z = (v10_2 + 1) := ⟨_, rfl⟩
        have hf := nm_s hf x79 ex79
        refine lv_iinc (v := x79) (lv' := [(2, .int x79), (0, .ref (G.2.2.1 199)), (1, .int a1)]) hx hb dX1_findForerunners_79 hl (k := 0) rfl (by rw [ex79]; rfl) (by decide) rfl (fun ls hl => ?_)
        refine lv_goto (tgt := 10) hx hb dX1_findForerunners_82 (by decide) ?_
        exact ih10 _ _ _ _ _ hf hH hS (lv_sub hl [0, 1, 2] rfl)
      refine lv_icmp_ge (tgt := 79) hx hb dX1_findForerunners_48 (by decide) (fun hc => ?_) (fun hc => ?_)
      · have hf := fo_t hc hf
        exact hj79 _ _ _ _ hf hH hS (lv_sub hl [2, 3, 4] rfl)
      have hf := fo_f hc hf
      refine lv_iload hx hb dX1_findForerunners_51 (lv_at hl 0 rfl) ?_
      refine lv_iload_n hx hb dX1_findForerunners_53 rfl (lv_at hl 4 rfl) ?_
      refine lv_icmp_ge (tgt := 79) hx hb dX1_findForerunners_54 (by decide) (fun hc => ?_) (fun hc => ?_)
      · have hf := fo_t hc hf
        exact hj79 _ _ _ _ hf hH hS (lv_sub hl [2, 3, 4] rfl)
      have hf := fo_f hc hf
      refine lv_aload_n hx hb dX1_findForerunners_57 rfl (lv_at hl 3 rfl) ?_
      refine co_get X hH 199 (by decide) eO199 rfl inBX1 6 (by decide) rfl bw514 dX1_findForerunners_58 ?_
      refine lv_iload hx hb dX1_findForerunners_61 (lv_at hl 0 rfl) ?_
      refine lv_aload_n hx hb dX1_findForerunners_63 rfl (lv_at hl 3 rfl) ?_
      refine co_get X hH 199 (by decide) eO199 rfl inBX1 6 (by decide) rfl bw514 dX1_findForerunners_64 ?_
      refine lv_iload hx hb dX1_findForerunners_67 (lv_at hl 0 rfl) ?_
      refine cGi (cVrun (rest := [.int x44, .ref (G.2.2.1 54)]) X (cl_X5_at l G w10_ 54 (by decide) x44 _ rfl) bw1175 bw628 bw629 bw91 bw630 cn_X5_at ⟨rfl, rfl, Nat.le_of_ble_eq_true rfl, Nat.le_of_ble_eq_true rfl⟩ (c_recR X hH (by decide)) cA_g hH hS hl rfl (Nat.le_of_ble_eq_true rfl) dX1_findForerunners_69) hS (fun H locs hH hS => ?_)
      refine lv_iconst (v := 1) hx hb dX1_findForerunners_72 (by decide) ?_
      refine lv_iload_n hx hb dX1_findForerunners_73 rfl (lv_at hl 1 rfl) ?_
      refine lv_ishl hx hb dX1_findForerunners_74 ?_
      refine lv_ior hx hb dX1_findForerunners_75 ?_
      obtain ⟨q76, hq76, hf⟩ := nm_x hf
      have hq76 := hq76.symm
      refine cGv (cVrun (rest := []) X (cl_X5_put l G w10_ 54 (by decide) x44 ((rAt w10_ 54 x44) ||| ((1 : Int32) <<< (x32 &&& 31))) q76 hq76) bw1177 bw352 bw353 bw91 bw354 cn_X5_put ⟨rfl, rfl, Nat.le_of_ble_eq_true rfl, Nat.le_of_ble_eq_true rfl⟩ (c_recR X hH (by decide)) cA_g hH hS hl rfl (Nat.le_of_ble_eq_true rfl) dX1_findForerunners_76) hS (fun H locs hH hS => ?_)
      exact hj79 _ _ _ _ hf hH hS (lv_sub hl [2, 3, 4] rfl)
  exact hL10 _ _ _ _ _ _ hf hH hS (lv_sub hl [0, 1, 2] rfl)
def f_X1_canFollow (w : CW) (a1 : Int32) (a2 : Int32) : Int32 := ((if ((a2 >>> (a1 &&& 31)) &&& 1) = 0 then (if ((rAt w 54 a1) &&& (a2 ^^^ (-1))) = 0 then 1 else 0) else 0))
abbrev rm_X1_canFollow : Room := { frames := 2, cells := 0, slots := 0, locals := 21 }
theorem cn_X1_canFollow : CN yX1_canFollow 2 := ⟨by decide +kernel, by decide +kernel, by decide +kernel⟩
set_option maxHeartbeats 4000000 in
set_option maxRecDepth 100000 in
theorem c_X1_canFollow (l : Launch) (G : GX) (w : CW) (a1 : Int32) (a2 : Int32) (q : Int32) (hf : f_X1_canFollow w a1 a2 = q) : MI l G yX1_canFollow cX1_canFollow 3 (some .boolean) rm_X1_canFollow [.ref (G.2.2.1 199), .int a1, .int a2] (cA G) (cH G w) (cH G w) q := by
  refine cM_start (by decide +kernel) (Nat.le_of_ble_eq_true rfl) ?_
  intro p e s m below meth c ls X hH hl
  have hS : va_S (cA G) s.heap s.heap [] := va_S.rf
  have hx := X.1.1
  have hb := X.1.2.1
  generalize hargs : ([.ref (G.2.2.1 199), .int a1, .int a2] : List Value).toArray = args at X ⊢
  generalize hQ : MQ below (QI (cA G) (cH G w) q) args s 0 0 (cA G) = Q
  have hl : lv_has ls 3 [(0, .ref (G.2.2.1 199)), (1, .int a1), (2, .int a2)] := hl
  unfold f_X1_canFollow at hf
  refine lv_iload_n hx hb dX1_canFollow_0 rfl (lv_at hl 2 rfl) ?_
  refine lv_iload_n hx hb dX1_canFollow_1 rfl (lv_at hl 1 rfl) ?_
  refine lv_ishr hx hb dX1_canFollow_2 ?_
  refine lv_iconst (v := 1) hx hb dX1_canFollow_3 (by decide) ?_
  refine lv_iand hx hb dX1_canFollow_4 ?_
  have hJ : ∀ (H : Heap) (locs : List Loc), cH G w H → va_S (cA G) s.heap H locs → W p l e rm_X1_canFollow s m args below meth c H locs 0 0 Q (F0 m 28 ls [.int (if ((a2 >>> (a1 &&& 31)) &&& 1) = 0 then (if ((rAt w 54 a1) &&& (a2 ^^^ (-1))) = 0 then 1 else 0) else 0)]) := by
    intro H locs hH hS
    subst hQ
    exact cEz X hH hS (hf) (nz (zb_ite (zb_ite zb1 zb0) zb0)) dX1_canFollow_28
  refine lv_if_ne (tgt := 27) hx hb dX1_canFollow_5 (by decide) (fun hc5 => ?_) (fun hc5 => ?_)
  · refine lv_iconst (v := 0) hx hb dX1_canFollow_27 (by decide) ?_
    exact W.eq (by rw [if_neg hc5] <;> rfl) (hJ _ _ hH hS)
  · refine lv_aload_n hx hb dX1_canFollow_8 rfl (lv_at hl 0 rfl) ?_
    refine co_get X hH 199 (by decide) eO199 rfl inBX1 6 (by decide) rfl bw514 dX1_canFollow_9 ?_
    refine lv_iload_n hx hb dX1_canFollow_12 rfl (lv_at hl 1 rfl) ?_
    refine cGi (cVrun (rest := []) X (cl_X5_at l G w 54 (by decide) a1 _ rfl) bw1175 bw628 bw629 bw91 bw630 cn_X5_at ⟨rfl, rfl, Nat.le_of_ble_eq_true rfl, Nat.le_of_ble_eq_true rfl⟩ (c_recR X hH (by decide)) cA_g hH hS hl rfl (Nat.le_of_ble_eq_true rfl) dX1_canFollow_13) hS (fun H locs hH hS => ?_)
    refine lv_iload_n hx hb dX1_canFollow_16 rfl (lv_at hl 2 rfl) ?_
    refine lv_iconst (v := (-1)) hx hb dX1_canFollow_17 (by decide) ?_
    refine lv_ixor hx hb dX1_canFollow_18 ?_
    refine lv_iand hx hb dX1_canFollow_19 ?_
    refine lv_if_ne (tgt := 27) hx hb dX1_canFollow_20 (by decide) (fun hc20 => ?_) (fun hc20 => ?_)
    · refine lv_iconst (v := 0) hx hb dX1_canFollow_27 (by decide) ?_
      exact W.eq (by rw [if_pos hc5, if_neg hc20] <;> rfl) (hJ _ _ hH hS)
    · refine lv_iconst (v := 1) hx hb dX1_canFollow_23 (by decide) ?_
      refine lv_goto (tgt := 28) hx hb dX1_canFollow_24 (by decide) ?_
      exact W.eq (by rw [if_pos hc5, if_pos hc20] <;> rfl) (hJ _ _ hH hS)
theorem zb_X1_canFollow (w : CW) (a1 : Int32) (a2 : Int32) : f_X1_canFollow w a1 a2 = 0 ∨ f_X1_canFollow w a1 a2 = 1 := by
  unfold f_X1_canFollow
  try simp only [nmk]
  repeat' (first | exact zb0 | exact zb1 | refine zb_ite ?_ ?_)
def f_X1_countRuns_L45 (a1 : Int32) (v37_3 : Int32) (j99 : CW → Option (Int32 × CW)) : Nat → Int32 → CW → Option (Int32 × CW)
  | 0, _, _ => none
  | n45 + 1, v45_4, w45_ => (if a1 ≤ v45_4 then (j99 w45_) else (if (rAt w45_ 57 v37_3) ≤ 0 then (j99 w45_) else (nmk (fun (w93_ : CW) => (nmk (v45_4 + 1) fun (x93 : Int32) => (f_X1_countRuns_L45 a1 v37_3 j99 n45 x93 w93_))) fun j93 => (if (f_X1_canFollow w45_ v45_4 v37_3) = 0 then (j93 w45_) else (nmk (rAdd w45_ 57 (v37_3 ||| ((1 : Int32) <<< (v45_4 &&& 31))) (rAt w45_ 57 v37_3)) fun q90 => (j93 q90))))))
def f_X1_countRuns_L37 (a1 : Int32) (x17 : Int32) (j105 : CW → Option (Int32 × CW)) : Nat → Int32 → CW → Option (Int32 × CW)
  | 0, _, _ => none
  | n37 + 1, v37_3, w37_ => (if x17 ≤ v37_3 then (j105 w37_) else (nmk (fun (w99_ : CW) => (nmk (v37_3 + 1) fun (x99 : Int32) => (f_X1_countRuns_L37 a1 x17 j105 n37 x99 w99_))) fun j99 => (f_X1_countRuns_L45 a1 v37_3 j99 FU 0 w37_)))
def f_X1_countRuns (w : CW) (a1 : Int32) : Option (Int32 × CW) := (Option.bind (f_X1_findForerunners w a1) fun q2 => (nmk ((1 : Int32) <<< ((if 0 < (if 10 < a1 then 10 else a1) then (if 10 < a1 then 10 else a1) else 0) &&& 31)) fun (x17 : Int32) => (nmk (rFill q2 57 0) fun q23 => (nmk (rPut q23 57 0 1) fun q32 => (nmk (fun (w105_ : CW) => (some ((rAt w105_ 57 (x17 - 1)), w105_))) fun j105 => (f_X1_countRuns_L37 a1 x17 j105 FU 0 q32))))))
abbrev rm_X1_countRuns : Room := { frames := 3, cells := 0, slots := 0, locals := 46 }
theorem cn_X1_countRuns : CN yX1_countRuns 1 := ⟨by decide +kernel, by decide +kernel, by decide +kernel⟩
set_option maxHeartbeats 4000000 in
set_option maxRecDepth 100000 in
theorem c_X1_countRuns (l : Launch) (G : GX) (w : CW) (a1 : Int32) (q : Int32 × CW) (hf : f_X1_countRuns w a1 = some q) : MI l G yX1_countRuns cX1_countRuns 5 (some .int) rm_X1_countRuns [.ref (G.2.2.1 199), .int a1] (cA G) (cH G w) (cH G q.2) q.1 := by
  refine cM_start (by decide +kernel) (Nat.le_of_ble_eq_true rfl) ?_
  intro p e s m below meth c ls X hH hl
  have hS : va_S (cA G) s.heap s.heap [] := va_S.rf
  have hx := X.1.1
  have hb := X.1.2.1
  generalize hargs : ([.ref (G.2.2.1 199), .int a1] : List Value).toArray = args at X ⊢
  generalize hQ : MQ below (QI (cA G) (cH G q.2) q.1) args s 0 0 (cA G) = Q
  have hl : lv_has ls 5 [(0, .ref (G.2.2.1 199)), (1, .int a1)] := hl
  unfold f_X1_countRuns at hf
  refine lv_aload_n hx hb dX1_countRuns_0 rfl (lv_at hl 0 rfl) ?_
  refine lv_iload_n hx hb dX1_countRuns_1 rfl (lv_at hl 1 rfl) ?_
  obtain ⟨q2, hq2, hf⟩ := bd_s hf
  refine cGv (cVrun (rest := []) X (c_X1_findForerunners l G w a1 q2 hq2) bw1240 bw1242 bw43 bw103 bw1243 cn_X1_findForerunners ⟨rfl, rfl, Nat.le_of_ble_eq_true rfl, Nat.le_of_ble_eq_true rfl⟩ (c_rec X hH 199 (by decide) eO199 rfl) cA_g hH hS hl rfl (Nat.le_of_ble_eq_true rfl) dX1_countRuns_2) hS (fun H locs hH hS => ?_)
  refine lv_iconst (v := 1) hx hb dX1_countRuns_5 (by decide) ?_
  refine lv_iconst (v := 0) hx hb dX1_countRuns_6 (by decide) ?_
  refine lv_iload_n hx hb dX1_countRuns_7 rfl (lv_at hl 1 rfl) ?_
  refine lv_bipush (v := 10) hx hb dX1_countRuns_8 (by decide) ?_
  refine va_mmin hx hb (X.1.2.2.1.trans hl.1.symm) X.1.2.2.2.1 (X.w bw1200) (X.w bw231) (X.w bw93) (X.w bw232) (Nat.le_of_ble_eq_true rfl) (Nat.le_of_ble_eq_true rfl) (Nat.zero_le _) (Nat.zero_le _) dX1_countRuns_10 ?_
  refine va_mmax hx hb (X.1.2.2.1.trans hl.1.symm) X.1.2.2.2.1 (X.w bw1245) (X.w bw197) (X.w bw93) (X.w bw198) (Nat.le_of_ble_eq_true rfl) (Nat.le_of_ble_eq_true rfl) (Nat.zero_le _) (Nat.zero_le _) dX1_countRuns_13 ?_
  refine lv_ishl hx hb dX1_countRuns_16 ?_
  refine lv_topi (fun x17 ex17 => ?_)
  have hf := nm_s hf x17 ex17
  refine lv_istore_n (lv' := [(2, .int x17), (0, .ref (G.2.2.1 199)), (1, .int a1)]) hx hb dX1_countRuns_17 rfl hl (by decide) rfl (fun ls hl => ?_)
  refine lv_aload_n hx hb dX1_countRuns_18 rfl (lv_at hl 1 rfl) ?_
  refine co_get X hH 199 (by decide) eO199 rfl inBX1 9 (by decide) rfl bw517 dX1_countRuns_19 ?_
  refine lv_iconst (v := 0) hx hb dX1_countRuns_22 (by decide) ?_
  obtain ⟨q23, hq23, hf⟩ := nm_x hf
  have hq23 := hq23.symm
  refine cGv (cVrun (rest := []) X (cl_X5_fill l G q2 57 (by decide) 0 q23 hq23) bw1244 bw348 bw349 bw91 bw350 cn_X5_fill ⟨rfl, rfl, Nat.le_of_ble_eq_true rfl, Nat.le_of_ble_eq_true rfl⟩ (c_recR X hH (by decide)) cA_g hH hS hl rfl (Nat.le_of_ble_eq_true rfl) dX1_countRuns_23) hS (fun H locs hH hS => ?_)
  refine lv_aload_n hx hb dX1_countRuns_26 rfl (lv_at hl 1 rfl) ?_
  refine co_get X hH 199 (by decide) eO199 rfl inBX1 9 (by decide) rfl bw517 dX1_countRuns_27 ?_
  refine lv_iconst (v := 0) hx hb dX1_countRuns_30 (by decide) ?_
  refine lv_iconst (v := 1) hx hb dX1_countRuns_31 (by decide) ?_
  obtain ⟨q32, hq32, hf⟩ := nm_x hf
  have hq32 := hq32.symm
  refine cGv (cVrun (rest := []) X (cl_X5_put l G q23 57 (by decide) 0 1 q32 hq32) bw1177 bw352 bw353 bw91 bw354 cn_X5_put ⟨rfl, rfl, Nat.le_of_ble_eq_true rfl, Nat.le_of_ble_eq_true rfl⟩ (c_recR X hH (by decide)) cA_g hH hS hl rfl (Nat.le_of_ble_eq_true rfl) dX1_countRuns_32) hS (fun H locs hH hS => ?_)
  refine lv_iconst (v := 0) hx hb dX1_countRuns_35 (by decide) ?_
  refine lv_istore_n (lv' := [(3, .int 0), (2, .int x17), (0, .ref (G.2.2.1 199)), (1, .int a1)]) hx hb dX1_countRuns_36 rfl hl (by decide) rfl (fun ls hl => ?_)
  obtain ⟨j105, ej105, hf⟩ := nm_x hf
  have hj105 : ∀ (w105_ : CW) (H : Heap) (locs : List Loc) (ls : Array Slot), j105 w105_ = some q → cH G w105_ H → va_S (cA G) s.heap H locs → lv_has ls 5 [(2, .int x17), (0, .ref (G.2.2.1 199))] → W p l e rm_X1_countRuns s m args below meth c H locs 0 0 Q (F0 m 105 ls []) := by
    intro w105_ H locs ls hf hH hS hl
    have hf := jb1 ej105 hf
    refine lv_aload_n hx hb dX1_countRuns_105 rfl (lv_at hl 1 rfl) ?_
    refine co_get X hH 199 (by decide) eO199 rfl inBX1 9 (by decide) rfl bw517 dX1_countRuns_106 ?_
    refine lv_iload_n hx hb dX1_countRuns_109 rfl (lv_at hl 0 rfl) ?_
    refine lv_iconst (v := 1) hx hb dX1_countRuns_110 (by decide) ?_
    refine lv_isub hx hb dX1_countRuns_111 ?_
    refine cGi (cVrun (rest := []) X (cl_X5_at l G w105_ 57 (by decide) (x17 - 1) _ rfl) bw1175 bw628 bw629 bw91 bw630 cn_X5_at ⟨rfl, rfl, Nat.le_of_ble_eq_true rfl, Nat.le_of_ble_eq_true rfl⟩ (c_recR X hH (by decide)) cA_g hH hS hl rfl (Nat.le_of_ble_eq_true rfl) dX1_countRuns_112) hS (fun H locs hH hS => ?_)
    subst hQ
    exact cEi X (cH2 (so_s hf) hH) hS (pf1 (so_s hf)) dX1_countRuns_115
  have hL37 : ∀ (n37 : Nat) (v37_3 : Int32) (w37_ : CW) (H : Heap) (locs : List Loc) (ls : Array Slot), f_X1_countRuns_L37 a1 x17 j105 n37 v37_3 w37_ = some q → cH G w37_ H → va_S (cA G) s.heap H locs → lv_has ls 5 [(3, .int v37_3), (2, .int x17), (0, .ref (G.2.2.1 199)), (1, .int a1)] → W p l e rm_X1_countRuns s m args below meth c H locs 0 0 Q (F0 m 37 ls []) := by
    intro n37
    induction n37 with
    | zero => intro v37_3 w37_ H locs ls hf; rw [f_X1_countRuns_L37] at hf; cases hf
    | succ n37 ih37 =>
      intro v37_3 w37_ H locs ls hf hH hS hl
      rw [f_X1_countRuns_L37] at hf
      refine lv_iload_n hx hb dX1_countRuns_37 rfl (lv_at hl 0 rfl) ?_
      refine lv_iload_n hx hb dX1_countRuns_38 rfl (lv_at hl 1 rfl) ?_
      refine lv_icmp_ge (tgt := 105) hx hb dX1_countRuns_39 (by decide) (fun hc => ?_) (fun hc => ?_)
      · have hf := fo_t hc hf
        exact hj105 _ _ _ _ hf hH hS (lv_sub hl [1, 2] rfl)
      have hf := fo_f hc hf
      refine lv_iconst (v := 0) hx hb dX1_countRuns_42 (by decide) ?_
      refine lv_istore (lv' := [(4, .int 0), (3, .int v37_3), (2, .int x17), (0, .ref (G.2.2.1 199)), (1, .int a1)]) hx hb dX1_countRuns_43 hl (by decide) rfl (fun ls hl => ?_)
      obtain ⟨j99, ej99, hf⟩ := nm_x hf
      have hj99 : ∀ (w99_ : CW) (H : Heap) (locs : List Loc) (ls : Array Slot), j99 w99_ = some q → cH G w99_ H → va_S (cA G) s.heap H locs → lv_has ls 5 [(3, .int v37_3), (2, .int x17), (0, .ref (G.2.2.1 199)), (1, .int a1)] → W p l e rm_X1_countRuns s m args below meth c H locs 0 0 Q (F0 m 99 ls []) := by
        intro w99_ H locs ls hf hH hS hl
        have hf := jb1 ej99 hf
        obtain ⟨x99, ex99⟩ : ∃ z : Int32, z = (v37_3 + 1) := ⟨_, rfl⟩
        have hf := nm_s hf x99 ex99
        refine lv_iinc (v := x99) (lv' := [(3, .int x99), (2, .int x17), (0, .ref (G.2.2.1 199)), (1, .int a1)]) hx hb dX1_countRuns_99 hl (k := 0) rfl (by rw [ex99]; rfl) (by decide) rfl (fun ls hl => ?_)
        refine lv_goto (tgt := 37) hx hb dX1_countRuns_102 (by decide) ?_
        exact ih37 _ _ _ _ _ hf hH hS (lv_sub hl [0, 1, 2, 3] rfl)
      have hL45 : ∀ (n45 : Nat) (v45_4 : Int32) (w45_ : CW) (H : Heap) (locs : List Loc) (ls : Array Slot), f_X1_countRuns_L45 a1 v37_3 j99 n45 v45_4 w45_ = some q → cH G w45_ H → va_S (cA G) s.heap H locs → lv_has ls 5 [(4, .int v45_4), (3, .int v37_3), (2, .int x17), (0, .ref (G.2.2.1 199)), (1, .int a1)] → W p l e rm_X1_countRuns s m args below meth c H locs 0 0 Q (F0 m 45 ls []) := by
        intro n45
        induction n45 with
        | zero => intro v45_4 w45_ H locs ls hf; rw [f_X1_countRuns_L45] at hf; cases hf
        | succ n45 ih45 =>
          intro v45_4 w45_ H locs ls hf hH hS hl
          rw [f_X1_countRuns_L45] at hf
          refine lv_iload hx hb dX1_countRuns_45 (lv_at hl 0 rfl) ?_
          refine lv_iload_n hx hb dX1_countRuns_47 rfl (lv_at hl 4 rfl) ?_
          refine lv_icmp_ge (tgt := 99) hx hb dX1_countRuns_48 (by decide) (fun hc => ?_) (fun hc => ?_)
          · have hf := fo_t hc hf
            exact hj99 _ _ _ _ hf hH hS (lv_sub hl [1, 2, 3, 4] rfl)
          have hf := fo_f hc hf
          refine lv_aload_n hx hb dX1_countRuns_51 rfl (lv_at hl 3 rfl) ?_
          refine co_get X hH 199 (by decide) eO199 rfl inBX1 9 (by decide) rfl bw517 dX1_countRuns_52 ?_
          refine lv_iload_n hx hb dX1_countRuns_55 rfl (lv_at hl 1 rfl) ?_
          refine cGi (cVrun (rest := []) X (cl_X5_at l G w45_ 57 (by decide) v37_3 _ rfl) bw1175 bw628 bw629 bw91 bw630 cn_X5_at ⟨rfl, rfl, Nat.le_of_ble_eq_true rfl, Nat.le_of_ble_eq_true rfl⟩ (c_recR X hH (by decide)) cA_g hH hS hl rfl (Nat.le_of_ble_eq_true rfl) dX1_countRuns_56) hS (fun H locs hH hS => ?_)
          refine lv_if_le (tgt := 99) hx hb dX1_countRuns_59 (by decide) (fun hc => ?_) (fun hc => ?_)
          · have hf := fo_t hc hf
            exact hj99 _ _ _ _ hf hH hS (lv_sub hl [1, 2, 3, 4] rfl)
          have hf := fo_f hc hf
          refine lv_aload_n hx hb dX1_countRuns_62 rfl (lv_at hl 3 rfl) ?_
          refine lv_iload hx hb dX1_countRuns_63 (lv_at hl 0 rfl) ?_
          refine lv_iload_n hx hb dX1_countRuns_65 rfl (lv_at hl 1 rfl) ?_
          refine cGi (cVrun (rest := []) X (c_X1_canFollow l G w45_ v45_4 v37_3 _ rfl) bw1246 bw1248 bw44 bw103 bw1249 cn_X1_canFollow ⟨rfl, rfl, Nat.le_of_ble_eq_true rfl, Nat.le_of_ble_eq_true rfl⟩ (c_rec X hH 199 (by decide) eO199 rfl) cA_g hH hS hl rfl (Nat.le_of_ble_eq_true rfl) dX1_countRuns_66) hS (fun H locs hH hS => ?_)
          obtain ⟨j93, ej93, hf⟩ := nm_x hf
          have hj93 : ∀ (w93_ : CW) (H : Heap) (locs : List Loc) (ls : Array Slot), j93 w93_ = some q → cH G w93_ H → va_S (cA G) s.heap H locs → lv_has ls 5 [(4, .int v45_4), (3, .int v37_3), (2, .int x17), (0, .ref (G.2.2.1 199)), (1, .int a1)] → W p l e rm_X1_countRuns s m args below meth c H locs 0 0 Q (F0 m 93 ls []) := by
            intro w93_ H locs ls hf hH hS hl
            have hf := jb1 ej93 hf
            obtain ⟨x93, ex93⟩ : ∃ z : Int32, z = (v45_4 + 1) := ⟨_, rfl⟩
            have hf := nm_s hf x93 ex93
            refine lv_iinc (v := x93) (lv' := [(4, .int x93), (3, .int v37_3), (2, .int x17), (0, .ref (G.2.2.1 199)), (1, .int a1)]) hx hb dX1_countRuns_93 hl (k := 0) rfl (by rw [ex93]; rfl) (by decide) rfl (fun ls hl => ?_)
            refine lv_goto (tgt := 45) hx hb dX1_countRuns_96 (by decide) ?_
            exact ih45 _ _ _ _ _ hf hH hS (lv_sub hl [0, 1, 2, 3, 4] rfl)
          refine lv_if_eq (tgt := 93) hx hb dX1_countRuns_69 (by decide) (fun hc => ?_) (fun hc => ?_)
          · have hf := fo_t hc hf
            exact hj93 _ _ _ _ hf hH hS (lv_sub hl [0, 1, 2, 3, 4] rfl)
          have hf := fo_f hc hf
          refine lv_aload_n hx hb dX1_countRuns_72 rfl (lv_at hl 3 rfl) ?_
          refine co_get X hH 199 (by decide) eO199 rfl inBX1 9 (by decide) rfl bw517 dX1_countRuns_73 ?_
          refine lv_iload_n hx hb dX1_countRuns_76 rfl (lv_at hl 1 rfl) ?_
          refine lv_iconst (v := 1) hx hb dX1_countRuns_77 (by decide) ?_
          refine lv_iload hx hb dX1_countRuns_78 (lv_at hl 0 rfl) ?_
          refine lv_ishl hx hb dX1_countRuns_80 ?_
          refine lv_ior hx hb dX1_countRuns_81 ?_
          refine lv_aload_n hx hb dX1_countRuns_82 rfl (lv_at hl 3 rfl) ?_
          refine co_get X hH 199 (by decide) eO199 rfl inBX1 9 (by decide) rfl bw517 dX1_countRuns_83 ?_
          refine lv_iload_n hx hb dX1_countRuns_86 rfl (lv_at hl 1 rfl) ?_
          refine cGi (cVrun (rest := [.int (v37_3 ||| ((1 : Int32) <<< (v45_4 &&& 31))), .ref (G.2.2.1 57)]) X (cl_X5_at l G w45_ 57 (by decide) v37_3 _ rfl) bw1175 bw628 bw629 bw91 bw630 cn_X5_at ⟨rfl, rfl, Nat.le_of_ble_eq_true rfl, Nat.le_of_ble_eq_true rfl⟩ (c_recR X hH (by decide)) cA_g hH hS hl rfl (Nat.le_of_ble_eq_true rfl) dX1_countRuns_87) hS (fun H locs hH hS => ?_)
          obtain ⟨q90, hq90, hf⟩ := nm_x hf
          have hq90 := hq90.symm
          refine cGv (cVrun (rest := []) X (cl_X5_add l G w45_ 57 (by decide) (v37_3 ||| ((1 : Int32) <<< (v45_4 &&& 31))) (rAt w45_ 57 v37_3) q90 hq90) bw1213 bw648 bw649 bw91 bw650 cn_X5_add ⟨rfl, rfl, Nat.le_of_ble_eq_true rfl, Nat.le_of_ble_eq_true rfl⟩ (c_recR X hH (by decide)) cA_g hH hS hl rfl (Nat.le_of_ble_eq_true rfl) dX1_countRuns_90) hS (fun H locs hH hS => ?_)
          exact hj93 _ _ _ _ hf hH hS (lv_sub hl [0, 1, 2, 3, 4] rfl)
      exact hL45 _ _ _ _ _ _ hf hH hS (lv_sub hl [0, 1, 2, 3, 4] rfl)
  exact hL37 _ _ _ _ _ _ hf hH hS (lv_sub hl [0, 1, 2, 3] rfl)
def f_X1_beginnings_L4 (w : CW) (a1 : Int32) : Nat → Int32 → Int32 → Option (Int32)
  | 0, _, _ => none
  | n4 + 1, v4_2, v4_3 => (if a1 ≤ v4_3 then (some v4_2) else (nmk (v4_2 ||| (if (f_X1_canFollow w v4_3 0) = 0 then 0 else ((1 : Int32) <<< (v4_3 &&& 31)))) fun (x27 : Int32) => (nmk (v4_3 + 1) fun (x28 : Int32) => (f_X1_beginnings_L4 w a1 n4 x27 x28))))
def f_X1_beginnings (w : CW) (a1 : Int32) : Option (Int32) := (f_X1_beginnings_L4 w a1 FU 0 0)
abbrev rm_X1_beginnings : Room := { frames := 3, cells := 0, slots := 0, locals := 43 }
theorem cn_X1_beginnings : CN yX1_beginnings 1 := ⟨by decide +kernel, by decide +kernel, by decide +kernel⟩
set_option maxHeartbeats 4000000 in
set_option maxRecDepth 100000 in
theorem c_X1_beginnings (l : Launch) (G : GX) (w : CW) (a1 : Int32) (q : Int32) (hf : f_X1_beginnings w a1 = some q) : MI l G yX1_beginnings cX1_beginnings 4 (some .int) rm_X1_beginnings [.ref (G.2.2.1 199), .int a1] (cA G) (cH G w) (cH G w) q := by
  refine cM_start (by decide +kernel) (Nat.le_of_ble_eq_true rfl) ?_
  intro p e s m below meth c ls X hH hl
  have hS : va_S (cA G) s.heap s.heap [] := va_S.rf
  have hx := X.1.1
  have hb := X.1.2.1
  generalize hargs : ([.ref (G.2.2.1 199), .int a1] : List Value).toArray = args at X ⊢
  generalize hQ : MQ below (QI (cA G) (cH G w) q) args s 0 0 (cA G) = Q
  have hl : lv_has ls 4 [(0, .ref (G.2.2.1 199)), (1, .int a1)] := hl
  unfold f_X1_beginnings at hf
  refine lv_iconst (v := 0) hx hb dX1_beginnings_0 (by decide) ?_
  refine lv_istore_n (lv' := [(2, .int 0), (0, .ref (G.2.2.1 199)), (1, .int a1)]) hx hb dX1_beginnings_1 rfl hl (by decide) rfl (fun ls hl => ?_)
  refine lv_iconst (v := 0) hx hb dX1_beginnings_2 (by decide) ?_
  refine lv_istore_n (lv' := [(3, .int 0), (2, .int 0), (0, .ref (G.2.2.1 199)), (1, .int a1)]) hx hb dX1_beginnings_3 rfl hl (by decide) rfl (fun ls hl => ?_)
  have hL4 : ∀ (n4 : Nat) (v4_2 : Int32) (v4_3 : Int32) (H : Heap) (locs : List Loc) (ls : Array Slot), f_X1_beginnings_L4 w a1 n4 v4_2 v4_3 = some q → cH G w H → va_S (cA G) s.heap H locs → lv_has ls 4 [(3, .int v4_3), (2, .int v4_2), (0, .ref (G.2.2.1 199)), (1, .int a1)] → W p l e rm_X1_beginnings s m args below meth c H locs 0 0 Q (F0 m 4 ls []) := by
    intro n4
    induction n4 with
    | zero => intro v4_2 v4_3 H locs ls hf; rw [f_X1_beginnings_L4] at hf; cases hf
    | succ n4 ih4 =>
      intro v4_2 v4_3 H locs ls hf hH hS hl
      rw [f_X1_beginnings_L4] at hf
      refine lv_iload_n hx hb dX1_beginnings_4 rfl (lv_at hl 0 rfl) ?_
      refine lv_iload_n hx hb dX1_beginnings_5 rfl (lv_at hl 3 rfl) ?_
      refine lv_icmp_ge (tgt := 34) hx hb dX1_beginnings_6 (by decide) (fun hc => ?_) (fun hc => ?_)
      · have hf := fo_t hc hf
        refine lv_iload_n hx hb dX1_beginnings_34 rfl (lv_at hl 1 rfl) ?_
        subst hQ
        exact cEi X hH hS (so_s hf) dX1_beginnings_35
      have hf := fo_f hc hf
      refine lv_iload_n hx hb dX1_beginnings_9 rfl (lv_at hl 1 rfl) ?_
      refine lv_aload_n hx hb dX1_beginnings_10 rfl (lv_at hl 2 rfl) ?_
      refine lv_iload_n hx hb dX1_beginnings_11 rfl (lv_at hl 0 rfl) ?_
      refine lv_iconst (v := 0) hx hb dX1_beginnings_12 (by decide) ?_
      refine cGi (cVrun (rest := [.int v4_2]) X (c_X1_canFollow l G w v4_3 0 _ rfl) bw1246 bw1248 bw44 bw103 bw1249 cn_X1_canFollow ⟨rfl, rfl, Nat.le_of_ble_eq_true rfl, Nat.le_of_ble_eq_true rfl⟩ (c_rec X hH 199 (by decide) eO199 rfl) cA_g hH hS hl rfl (Nat.le_of_ble_eq_true rfl) dX1_beginnings_13) hS (fun H locs hH hS => ?_)
      have hJ : ∀ (H : Heap) (locs : List Loc), cH G w H → va_S (cA G) s.heap H locs → W p l e rm_X1_beginnings s m args below meth c H locs 0 0 Q (F0 m 26 ls [.int (if (f_X1_canFollow w v4_3 0) = 0 then 0 else ((1 : Int32) <<< (v4_3 &&& 31))), .int v4_2]) := by
        intro H locs hH hS
        refine lv_ior hx hb dX1_beginnings_26 ?_
        refine lv_topi (fun x27 ex27 => ?_)
        have hf := nm_s hf x27 ex27
        refine lv_istore_n (lv' := [(2, .int x27), (3, .int v4_3), (0, .ref (G.2.2.1 199)), (1, .int a1)]) hx hb dX1_beginnings_27 rfl hl (by decide) rfl (fun ls hl => ?_)
        obtain ⟨x28, ex28⟩ : ∃ z : Int32, z = (v4_3 + 1) := ⟨_, rfl⟩
        have hf := nm_s hf x28 ex28
        refine lv_iinc (v := x28) (lv' := [(3, .int x28), (2, .int x27), (0, .ref (G.2.2.1 199)), (1, .int a1)]) hx hb dX1_beginnings_28 hl (k := 1) rfl (by rw [ex28]; rfl) (by decide) rfl (fun ls hl => ?_)
        refine lv_goto (tgt := 4) hx hb dX1_beginnings_31 (by decide) ?_
        exact ih4 _ _ _ _ _ hf hH hS (lv_sub hl [0, 1, 2, 3] rfl)
      refine lv_if_eq (tgt := 25) hx hb dX1_beginnings_16 (by decide) (fun hc16 => ?_) (fun hc16 => ?_)
      · refine lv_iconst (v := 0) hx hb dX1_beginnings_25 (by decide) ?_
        exact W.eq (by rw [if_pos hc16] <;> rfl) (hJ _ _ hH hS)
      · refine lv_iconst (v := 1) hx hb dX1_beginnings_19 (by decide) ?_
        refine lv_iload_n hx hb dX1_beginnings_20 rfl (lv_at hl 0 rfl) ?_
        refine lv_ishl hx hb dX1_beginnings_21 ?_
        refine lv_goto (tgt := 26) hx hb dX1_beginnings_22 (by decide) ?_
        exact W.eq (by rw [if_neg hc16] <;> rfl) (hJ _ _ hH hS)
  exact hL4 _ _ _ _ _ _ hf hH hS (lv_sub hl [0, 1, 2, 3] rfl)
def f_X1_greatestNext_L4 (w : CW) (a2 : Int32) : Nat → Int32 → Option (Int32)
  | 0, _ => none
  | n4 + 1, v4_3 => (if v4_3 < 0 then (some (-1)) else (if (f_X1_canFollow w v4_3 a2) = 0 then (nmk (v4_3 + (-1)) fun (x19 : Int32) => (f_X1_greatestNext_L4 w a2 n4 x19)) else (some v4_3)))
def f_X1_greatestNext (w : CW) (a1 : Int32) (a2 : Int32) : Option (Int32) := (nmk (a1 - 1) fun (x3 : Int32) => (f_X1_greatestNext_L4 w a2 FU x3))
abbrev rm_X1_greatestNext : Room := { frames := 3, cells := 0, slots := 0, locals := 43 }
theorem cn_X1_greatestNext : CN yX1_greatestNext 2 := ⟨by decide +kernel, by decide +kernel, by decide +kernel⟩
set_option maxHeartbeats 4000000 in
set_option maxRecDepth 100000 in
theorem c_X1_greatestNext (l : Launch) (G : GX) (w : CW) (a1 : Int32) (a2 : Int32) (q : Int32) (hf : f_X1_greatestNext w a1 a2 = some q) : MI l G yX1_greatestNext cX1_greatestNext 4 (some .int) rm_X1_greatestNext [.ref (G.2.2.1 199), .int a1, .int a2] (cA G) (cH G w) (cH G w) q := by
  refine cM_start (by decide +kernel) (Nat.le_of_ble_eq_true rfl) ?_
  intro p e s m below meth c ls X hH hl
  have hS : va_S (cA G) s.heap s.heap [] := va_S.rf
  have hx := X.1.1
  have hb := X.1.2.1
  generalize hargs : ([.ref (G.2.2.1 199), .int a1, .int a2] : List Value).toArray = args at X ⊢
  generalize hQ : MQ below (QI (cA G) (cH G w) q) args s 0 0 (cA G) = Q
  have hl : lv_has ls 4 [(0, .ref (G.2.2.1 199)), (1, .int a1), (2, .int a2)] := hl
  unfold f_X1_greatestNext at hf
  refine lv_iload_n hx hb dX1_greatestNext_0 rfl (lv_at hl 1 rfl) ?_
  refine lv_iconst (v := 1) hx hb dX1_greatestNext_1 (by decide) ?_
  refine lv_isub hx hb dX1_greatestNext_2 ?_
  refine lv_topi (fun x3 ex3 => ?_)
  have hf := nm_s hf x3 ex3
  refine lv_istore_n (lv' := [(3, .int x3), (0, .ref (G.2.2.1 199)), (1, .int a1), (2, .int a2)]) hx hb dX1_greatestNext_3 rfl hl (by decide) rfl (fun ls hl => ?_)
  have hL4 : ∀ (n4 : Nat) (v4_3 : Int32) (H : Heap) (locs : List Loc) (ls : Array Slot), f_X1_greatestNext_L4 w a2 n4 v4_3 = some q → cH G w H → va_S (cA G) s.heap H locs → lv_has ls 4 [(3, .int v4_3), (0, .ref (G.2.2.1 199)), (2, .int a2)] → W p l e rm_X1_greatestNext s m args below meth c H locs 0 0 Q (F0 m 4 ls []) := by
    intro n4
    induction n4 with
    | zero => intro v4_3 H locs ls hf; rw [f_X1_greatestNext_L4] at hf; cases hf
    | succ n4 ih4 =>
      intro v4_3 H locs ls hf hH hS hl
      rw [f_X1_greatestNext_L4] at hf
      refine lv_iload_n hx hb dX1_greatestNext_4 rfl (lv_at hl 0 rfl) ?_
      refine lv_if_lt (tgt := 25) hx hb dX1_greatestNext_5 (by decide) (fun hc => ?_) (fun hc => ?_)
      · have hf := fo_t hc hf
        refine lv_iconst (v := (-1)) hx hb dX1_greatestNext_25 (by decide) ?_
        subst hQ
        exact cEi X hH hS (so_s hf) dX1_greatestNext_26
      have hf := fo_f hc hf
      refine lv_aload_n hx hb dX1_greatestNext_8 rfl (lv_at hl 1 rfl) ?_
      refine lv_iload_n hx hb dX1_greatestNext_9 rfl (lv_at hl 0 rfl) ?_
      refine lv_iload_n hx hb dX1_greatestNext_10 rfl (lv_at hl 2 rfl) ?_
      refine cGi (cVrun (rest := []) X (c_X1_canFollow l G w v4_3 a2 _ rfl) bw1246 bw1248 bw44 bw103 bw1249 cn_X1_canFollow ⟨rfl, rfl, Nat.le_of_ble_eq_true rfl, Nat.le_of_ble_eq_true rfl⟩ (c_rec X hH 199 (by decide) eO199 rfl) cA_g hH hS hl rfl (Nat.le_of_ble_eq_true rfl) dX1_greatestNext_11) hS (fun H locs hH hS => ?_)
      refine lv_if_eq (tgt := 19) hx hb dX1_greatestNext_14 (by decide) (fun hc => ?_) (fun hc => ?_)
      rotate_left
      · have hf := fo_f hc hf
        refine lv_iload_n hx hb dX1_greatestNext_17 rfl (lv_at hl 0 rfl) ?_
        subst hQ
        exact cEi X hH hS (so_s hf) dX1_greatestNext_18
      have hf := fo_t hc hf
      obtain ⟨x19, ex19⟩ : ∃ z : Int32, z = (v4_3 + (-1)) := ⟨_, rfl⟩
      have hf := nm_s hf x19 ex19
      refine lv_iinc (v := x19) (lv' := [(3, .int x19), (0, .ref (G.2.2.1 199)), (2, .int a2)]) hx hb dX1_greatestNext_19 hl (k := 0) rfl (by rw [ex19]; rfl) (by decide) rfl (fun ls hl => ?_)
      refine lv_goto (tgt := 4) hx hb dX1_greatestNext_22 (by decide) ?_
      exact ih4 _ _ _ _ hf hH hS (lv_sub hl [0, 1, 2] rfl)
  exact hL4 _ _ _ _ _ hf hH hS (lv_sub hl [0, 1, 3] rfl)
def f_X1_lastOne_L8 (w : CW) (a1 : Int32) (a2 : Int32) : Nat → Int32 → Int32 → Int32 → Option (Int32)
  | 0, _, _, _ => none
  | n8 + 1, v8_3, v8_4, v8_5 => (if a2 < v8_5 then (some v8_4) else (if 10 ≤ v8_5 then (some v8_4) else (Option.bind (f_X1_greatestNext w a1 v8_3) fun q24 => (nmk (v8_3 ||| ((1 : Int32) <<< ((if q24 < 0 then 0 else q24) &&& 31))) fun (x39 : Int32) => (nmk (v8_5 + 1) fun (x40 : Int32) => (f_X1_lastOne_L8 w a1 a2 n8 x39 q24 x40))))))
def f_X1_lastOne (w : CW) (a1 : Int32) (a2 : Int32) : Option (Int32) := (f_X1_lastOne_L8 w a1 a2 FU 0 (-1) 0)
abbrev rm_X1_lastOne : Room := { frames := 4, cells := 0, slots := 0, locals := 66 }
theorem cn_X1_lastOne : CN yX1_lastOne 2 := ⟨by decide +kernel, by decide +kernel, by decide +kernel⟩
set_option maxHeartbeats 4000000 in
set_option maxRecDepth 100000 in
theorem c_X1_lastOne (l : Launch) (G : GX) (w : CW) (a1 : Int32) (a2 : Int32) (q : Int32) (hf : f_X1_lastOne w a1 a2 = some q) : MI l G yX1_lastOne cX1_lastOne 6 (some .int) rm_X1_lastOne [.ref (G.2.2.1 199), .int a1, .int a2] (cA G) (cH G w) (cH G w) q := by
  refine cM_start (by decide +kernel) (Nat.le_of_ble_eq_true rfl) ?_
  intro p e s m below meth c ls X hH hl
  have hS : va_S (cA G) s.heap s.heap [] := va_S.rf
  have hx := X.1.1
  have hb := X.1.2.1
  generalize hargs : ([.ref (G.2.2.1 199), .int a1, .int a2] : List Value).toArray = args at X ⊢
  generalize hQ : MQ below (QI (cA G) (cH G w) q) args s 0 0 (cA G) = Q
  have hl : lv_has ls 6 [(0, .ref (G.2.2.1 199)), (1, .int a1), (2, .int a2)] := hl
  unfold f_X1_lastOne at hf
  refine lv_iconst (v := 0) hx hb dX1_lastOne_0 (by decide) ?_
  refine lv_istore_n (lv' := [(3, .int 0), (0, .ref (G.2.2.1 199)), (1, .int a1), (2, .int a2)]) hx hb dX1_lastOne_1 rfl hl (by decide) rfl (fun ls hl => ?_)
  refine lv_iconst (v := (-1)) hx hb dX1_lastOne_2 (by decide) ?_
  refine lv_istore (lv' := [(4, .int (-1)), (3, .int 0), (0, .ref (G.2.2.1 199)), (1, .int a1), (2, .int a2)]) hx hb dX1_lastOne_3 hl (by decide) rfl (fun ls hl => ?_)
  refine lv_iconst (v := 0) hx hb dX1_lastOne_5 (by decide) ?_
  refine lv_istore (lv' := [(5, .int 0), (4, .int (-1)), (3, .int 0), (0, .ref (G.2.2.1 199)), (1, .int a1), (2, .int a2)]) hx hb dX1_lastOne_6 hl (by decide) rfl (fun ls hl => ?_)
  have hL8 : ∀ (n8 : Nat) (v8_3 : Int32) (v8_4 : Int32) (v8_5 : Int32) (H : Heap) (locs : List Loc) (ls : Array Slot), f_X1_lastOne_L8 w a1 a2 n8 v8_3 v8_4 v8_5 = some q → cH G w H → va_S (cA G) s.heap H locs → lv_has ls 6 [(5, .int v8_5), (4, .int v8_4), (3, .int v8_3), (0, .ref (G.2.2.1 199)), (1, .int a1), (2, .int a2)] → W p l e rm_X1_lastOne s m args below meth c H locs 0 0 Q (F0 m 8 ls []) := by
    intro n8
    induction n8 with
    | zero => intro v8_3 v8_4 v8_5 H locs ls hf; rw [f_X1_lastOne_L8] at hf; cases hf
    | succ n8 ih8 =>
      intro v8_3 v8_4 v8_5 H locs ls hf hH hS hl
      rw [f_X1_lastOne_L8] at hf
      refine lv_iload hx hb dX1_lastOne_8 (lv_at hl 0 rfl) ?_
      refine lv_iload_n hx hb dX1_lastOne_10 rfl (lv_at hl 5 rfl) ?_
      refine lv_icmp_gt (tgt := 46) hx hb dX1_lastOne_11 (by decide) (fun hc => ?_) (fun hc => ?_)
      · have hf := fo_t hc hf
        refine lv_iload hx hb dX1_lastOne_46 (lv_at hl 1 rfl) ?_
        subst hQ
        exact cEi X hH hS (so_s hf) dX1_lastOne_48
      have hf := fo_f hc hf
      refine lv_iload hx hb dX1_lastOne_14 (lv_at hl 0 rfl) ?_
      refine lv_bipush (v := 10) hx hb dX1_lastOne_16 (by decide) ?_
      refine lv_icmp_ge (tgt := 46) hx hb dX1_lastOne_18 (by decide) (fun hc => ?_) (fun hc => ?_)
      · have hf := fo_t hc hf
        refine lv_iload hx hb dX1_lastOne_46 (lv_at hl 1 rfl) ?_
        subst hQ
        exact cEi X hH hS (so_s hf) dX1_lastOne_48
      have hf := fo_f hc hf
      refine lv_aload_n hx hb dX1_lastOne_21 rfl (lv_at hl 3 rfl) ?_
      refine lv_iload_n hx hb dX1_lastOne_22 rfl (lv_at hl 4 rfl) ?_
      refine lv_iload_n hx hb dX1_lastOne_23 rfl (lv_at hl 2 rfl) ?_
      obtain ⟨q24, hq24, hf⟩ := bd_s hf
      refine cGi (cVrun (rest := []) X (c_X1_greatestNext l G w a1 v8_3 q24 hq24) bw1258 bw1260 bw45 bw103 bw1261 cn_X1_greatestNext ⟨rfl, rfl, Nat.le_of_ble_eq_true rfl, Nat.le_of_ble_eq_true rfl⟩ (c_rec X hH 199 (by decide) eO199 rfl) cA_g hH hS hl rfl (Nat.le_of_ble_eq_true rfl) dX1_lastOne_24) hS (fun H locs hH hS => ?_)
      refine lv_istore (lv' := [(4, .int q24), (5, .int v8_5), (3, .int v8_3), (0, .ref (G.2.2.1 199)), (1, .int a1), (2, .int a2)]) hx hb dX1_lastOne_27 hl (by decide) rfl (fun ls hl => ?_)
      refine lv_iload_n hx hb dX1_lastOne_29 rfl (lv_at hl 2 rfl) ?_
      refine lv_iconst (v := 1) hx hb dX1_lastOne_30 (by decide) ?_
      refine lv_iload hx hb dX1_lastOne_31 (lv_at hl 0 rfl) ?_
      refine lv_iconst (v := 0) hx hb dX1_lastOne_33 (by decide) ?_
      refine va_mmax hx hb (X.1.2.2.1.trans hl.1.symm) X.1.2.2.2.1 (X.w bw1245) (X.w bw197) (X.w bw93) (X.w bw198) (Nat.le_of_ble_eq_true rfl) (Nat.le_of_ble_eq_true rfl) (Nat.zero_le _) (Nat.zero_le _) dX1_lastOne_34 ?_
      refine lv_ishl hx hb dX1_lastOne_37 ?_
      refine lv_ior hx hb dX1_lastOne_38 ?_
      refine lv_topi (fun x39 ex39 => ?_)
      have hf := nm_s hf x39 ex39
      refine lv_istore_n (lv' := [(3, .int x39), (4, .int q24), (5, .int v8_5), (0, .ref (G.2.2.1 199)), (1, .int a1), (2, .int a2)]) hx hb dX1_lastOne_39 rfl hl (by decide) rfl (fun ls hl => ?_)
      obtain ⟨x40, ex40⟩ : ∃ z : Int32, z = (v8_5 + 1) := ⟨_, rfl⟩
      have hf := nm_s hf x40 ex40
      refine lv_iinc (v := x40) (lv' := [(5, .int x40), (3, .int x39), (4, .int q24), (0, .ref (G.2.2.1 199)), (1, .int a1), (2, .int a2)]) hx hb dX1_lastOne_40 hl (k := 2) rfl (by rw [ex40]; rfl) (by decide) rfl (fun ls hl => ?_)
      refine lv_goto (tgt := 8) hx hb dX1_lastOne_43 (by decide) ?_
      exact ih8 _ _ _ _ _ _ hf hH hS (lv_sub hl [0, 2, 1, 3, 4, 5] rfl)
  exact hL8 _ _ _ _ _ _ _ hf hH hS (lv_sub hl [0, 1, 2, 3, 4, 5] rfl)
def f_X10_isFull (w : CW) : Int32 := ((f_X5_isFull w 2))
abbrev rm_X10_isFull : Room := { frames := 2, cells := 0, slots := 0, locals := 20 }
theorem cn_X10_isFull : CN yX10_isFull 0 := ⟨by decide +kernel, by decide +kernel, by decide +kernel⟩
set_option maxHeartbeats 4000000 in
set_option maxRecDepth 100000 in
theorem c_X10_isFull (l : Launch) (G : GX) (w : CW) (q : Int32) (hf : f_X10_isFull w = q) : MI l G yX10_isFull cX10_isFull 1 (some .boolean) rm_X10_isFull [.ref (G.2.2.1 192)] (cA G) (cH G w) (cH G w) q := by
  refine cM_start (by decide +kernel) (Nat.le_of_ble_eq_true rfl) ?_
  intro p e s m below meth c ls X hH hl
  have hS : va_S (cA G) s.heap s.heap [] := va_S.rf
  have hx := X.1.1
  have hb := X.1.2.1
  generalize hargs : ([.ref (G.2.2.1 192)] : List Value).toArray = args at X ⊢
  generalize hQ : MQ below (QI (cA G) (cH G w) q) args s 0 0 (cA G) = Q
  have hl : lv_has ls 1 [(0, .ref (G.2.2.1 192))] := hl
  unfold f_X10_isFull at hf
  refine lv_aload_n hx hb dX10_isFull_0 rfl (lv_at hl 0 rfl) ?_
  refine co_get X hH 192 (by decide) eO192 rfl inBX10 1 (by decide) rfl bw246 dX10_isFull_1 ?_
  refine cGi (cVrun (rest := []) X (c_X5_isFull l G w 2 (by decide) _ rfl) bw693 bw694 bw695 bw91 bw696 cn_X5_isFull ⟨rfl, rfl, Nat.le_of_ble_eq_true rfl, Nat.le_of_ble_eq_true rfl⟩ (c_recR X hH (by decide)) cA_g hH hS hl rfl (Nat.le_of_ble_eq_true rfl) dX10_isFull_4) hS (fun H locs hH hS => ?_)
  subst hQ
  exact cEz X hH hS (hf) (nz (zb_X5_isFull w 2)) dX10_isFull_7
theorem zb_X10_isFull (w : CW) : f_X10_isFull w = 0 ∨ f_X10_isFull w = 1 := by
  unfold f_X10_isFull
  try simp only [nmk]
  repeat' (first | exact zb0 | exact zb1 | apply zb_X5_isFull | refine zb_ite ?_ ?_)
def f_X10_accept_L19 (a1 : Int32) (q5 : (Int32 × CW)) : Nat → Int32 → CW → Option (Int32 × CW)
  | 0, _, _ => none
  | n19 + 1, v19_3, w19_ => (if v19_3 ≤ 0 then (some (q5.1, w19_)) else (if (rAt w19_ 2 (rAt w19_ 3 (v19_3 - 1))) ≤ a1 then (some (q5.1, w19_)) else (nmk (rSwap w19_ 3 (v19_3 - 1) q5.1) fun q57 => (nmk (rPut q57.2 3 v19_3 q57.1) fun q60 => (nmk (v19_3 + (-1)) fun (x63 : Int32) => (f_X10_accept_L19 a1 q5 n19 x63 q60))))))
def f_X10_accept (w : CW) (a1 : Int32) : Option (Int32 × CW) := (nmk (rNumber w 2 a1) fun q5 => (nmk (rPush q5.2 3 q5.1) fun q14 => (f_X10_accept_L19 a1 q5 FU q5.1 q14)))
abbrev rm_X10_accept : Room := { frames := 3, cells := 0, slots := 0, locals := 45 }
theorem cn_X10_accept : CN yX10_accept 1 := ⟨by decide +kernel, by decide +kernel, by decide +kernel⟩
set_option maxHeartbeats 4000000 in
set_option maxRecDepth 100000 in
theorem c_X10_accept (l : Launch) (G : GX) (w : CW) (a1 : Int32) (q : Int32 × CW) (hf : f_X10_accept w a1 = some q) : MI l G yX10_accept cX10_accept 4 (some .int) rm_X10_accept [.ref (G.2.2.1 192), .int a1] (cA G) (cH G w) (cH G q.2) q.1 := by
  refine cM_start (by decide +kernel) (Nat.le_of_ble_eq_true rfl) ?_
  intro p e s m below meth c ls X hH hl
  have hS : va_S (cA G) s.heap s.heap [] := va_S.rf
  have hx := X.1.1
  have hb := X.1.2.1
  generalize hargs : ([.ref (G.2.2.1 192), .int a1] : List Value).toArray = args at X ⊢
  generalize hQ : MQ below (QI (cA G) (cH G q.2) q.1) args s 0 0 (cA G) = Q
  have hl : lv_has ls 4 [(0, .ref (G.2.2.1 192)), (1, .int a1)] := hl
  unfold f_X10_accept at hf
  refine lv_aload_n hx hb dX10_accept_0 rfl (lv_at hl 0 rfl) ?_
  refine co_get X hH 192 (by decide) eO192 rfl inBX10 1 (by decide) rfl bw246 dX10_accept_1 ?_
  refine lv_iload_n hx hb dX10_accept_4 rfl (lv_at hl 1 rfl) ?_
  obtain ⟨q5, hq5, hf⟩ := nm_x hf
  have hq5 := hq5.symm
  refine cGi (cVrun (rest := []) X (cl_X5_number l G w 2 (by decide) a1 q5 hq5) bw816 bw817 bw818 bw91 bw819 cn_X5_number ⟨rfl, rfl, Nat.le_of_ble_eq_true rfl, Nat.le_of_ble_eq_true rfl⟩ (c_recR X hH (by decide)) cA_g hH hS hl rfl (Nat.le_of_ble_eq_true rfl) dX10_accept_5) hS (fun H locs hH hS => ?_)
  refine lv_istore_n (lv' := [(2, .int q5.1), (0, .ref (G.2.2.1 192)), (1, .int a1)]) hx hb dX10_accept_8 rfl hl (by decide) rfl (fun ls hl => ?_)
  refine lv_aload_n hx hb dX10_accept_9 rfl (lv_at hl 1 rfl) ?_
  refine co_get X hH 192 (by decide) eO192 rfl inBX10 2 (by decide) rfl bw249 dX10_accept_10 ?_
  refine lv_iload_n hx hb dX10_accept_13 rfl (lv_at hl 0 rfl) ?_
  obtain ⟨q14, hq14, hf⟩ := nm_x hf
  have hq14 := hq14.symm
  refine cGv (cVrun (rest := []) X (cl_X5_push l G q5.2 3 (by decide) q5.1 q14 hq14) bw820 bw679 bw680 bw91 bw681 cn_X5_push ⟨rfl, rfl, Nat.le_of_ble_eq_true rfl, Nat.le_of_ble_eq_true rfl⟩ (c_recR X hH (by decide)) cA_g hH hS hl rfl (Nat.le_of_ble_eq_true rfl) dX10_accept_14) hS (fun H locs hH hS => ?_)
  refine lv_iload_n hx hb dX10_accept_17 rfl (lv_at hl 0 rfl) ?_
  refine lv_istore_n (lv' := [(3, .int q5.1), (2, .int q5.1), (0, .ref (G.2.2.1 192)), (1, .int a1)]) hx hb dX10_accept_18 rfl hl (by decide) rfl (fun ls hl => ?_)
  have hL19 : ∀ (n19 : Nat) (v19_3 : Int32) (w19_ : CW) (H : Heap) (locs : List Loc) (ls : Array Slot), f_X10_accept_L19 a1 q5 n19 v19_3 w19_ = some q → cH G w19_ H → va_S (cA G) s.heap H locs → lv_has ls 4 [(3, .int v19_3), (2, .int q5.1), (0, .ref (G.2.2.1 192)), (1, .int a1)] → W p l e rm_X10_accept s m args below meth c H locs 0 0 Q (F0 m 19 ls []) := by
    intro n19
    induction n19 with
    | zero => intro v19_3 w19_ H locs ls hf; rw [f_X10_accept_L19] at hf; cases hf
    | succ n19 ih19 =>
      intro v19_3 w19_ H locs ls hf hH hS hl
      rw [f_X10_accept_L19] at hf
      refine lv_iload_n hx hb dX10_accept_19 rfl (lv_at hl 0 rfl) ?_
      refine lv_if_le (tgt := 69) hx hb dX10_accept_20 (by decide) (fun hc => ?_) (fun hc => ?_)
      · have hf := fo_t hc hf
        refine lv_iload_n hx hb dX10_accept_69 rfl (lv_at hl 1 rfl) ?_
        subst hQ
        exact cEi X (cH2 (so_s hf) hH) hS (pf1 (so_s hf)) dX10_accept_70
      have hf := fo_f hc hf
      refine lv_aload_n hx hb dX10_accept_23 rfl (lv_at hl 2 rfl) ?_
      refine co_get X hH 192 (by decide) eO192 rfl inBX10 1 (by decide) rfl bw246 dX10_accept_24 ?_
      refine lv_aload_n hx hb dX10_accept_27 rfl (lv_at hl 2 rfl) ?_
      refine co_get X hH 192 (by decide) eO192 rfl inBX10 2 (by decide) rfl bw249 dX10_accept_28 ?_
      refine lv_iload_n hx hb dX10_accept_31 rfl (lv_at hl 0 rfl) ?_
      refine lv_iconst (v := 1) hx hb dX10_accept_32 (by decide) ?_
      refine lv_isub hx hb dX10_accept_33 ?_
      refine cGi (cVrun (rest := [.ref (G.2.2.1 2)]) X (cl_X5_at l G w19_ 3 (by decide) (v19_3 - 1) _ rfl) bw740 bw628 bw629 bw91 bw630 cn_X5_at ⟨rfl, rfl, Nat.le_of_ble_eq_true rfl, Nat.le_of_ble_eq_true rfl⟩ (c_recR X hH (by decide)) cA_g hH hS hl rfl (Nat.le_of_ble_eq_true rfl) dX10_accept_34) hS (fun H locs hH hS => ?_)
      refine cGi (cVrun (rest := []) X (cl_X5_at l G w19_ 2 (by decide) (rAt w19_ 3 (v19_3 - 1)) _ rfl) bw740 bw628 bw629 bw91 bw630 cn_X5_at ⟨rfl, rfl, Nat.le_of_ble_eq_true rfl, Nat.le_of_ble_eq_true rfl⟩ (c_recR X hH (by decide)) cA_g hH hS hl rfl (Nat.le_of_ble_eq_true rfl) dX10_accept_37) hS (fun H locs hH hS => ?_)
      refine lv_iload_n hx hb dX10_accept_40 rfl (lv_at hl 3 rfl) ?_
      refine lv_icmp_le (tgt := 69) hx hb dX10_accept_41 (by decide) (fun hc => ?_) (fun hc => ?_)
      · have hf := fo_t hc hf
        refine lv_iload_n hx hb dX10_accept_69 rfl (lv_at hl 1 rfl) ?_
        subst hQ
        exact cEi X (cH2 (so_s hf) hH) hS (pf1 (so_s hf)) dX10_accept_70
      have hf := fo_f hc hf
      refine lv_aload_n hx hb dX10_accept_44 rfl (lv_at hl 2 rfl) ?_
      refine co_get X hH 192 (by decide) eO192 rfl inBX10 2 (by decide) rfl bw249 dX10_accept_45 ?_
      refine lv_iload_n hx hb dX10_accept_48 rfl (lv_at hl 0 rfl) ?_
      refine lv_aload_n hx hb dX10_accept_49 rfl (lv_at hl 2 rfl) ?_
      refine co_get X hH 192 (by decide) eO192 rfl inBX10 2 (by decide) rfl bw249 dX10_accept_50 ?_
      refine lv_iload_n hx hb dX10_accept_53 rfl (lv_at hl 0 rfl) ?_
      refine lv_iconst (v := 1) hx hb dX10_accept_54 (by decide) ?_
      refine lv_isub hx hb dX10_accept_55 ?_
      refine lv_iload_n hx hb dX10_accept_56 rfl (lv_at hl 1 rfl) ?_
      obtain ⟨q57, hq57, hf⟩ := nm_x hf
      have hq57 := hq57.symm
      refine cGi (cVrun (rest := [.int v19_3, .ref (G.2.2.1 3)]) X (cl_X5_swap l G w19_ 3 (by decide) (v19_3 - 1) q5.1 q57 hq57) bw821 bw632 bw633 bw91 bw634 cn_X5_swap ⟨rfl, rfl, Nat.le_of_ble_eq_true rfl, Nat.le_of_ble_eq_true rfl⟩ (c_recR X hH (by decide)) cA_g hH hS hl rfl (Nat.le_of_ble_eq_true rfl) dX10_accept_57) hS (fun H locs hH hS => ?_)
      obtain ⟨q60, hq60, hf⟩ := nm_x hf
      have hq60 := hq60.symm
      refine cGv (cVrun (rest := []) X (cl_X5_put l G q57.2 3 (by decide) v19_3 q57.1 q60 hq60) bw706 bw352 bw353 bw91 bw354 cn_X5_put ⟨rfl, rfl, Nat.le_of_ble_eq_true rfl, Nat.le_of_ble_eq_true rfl⟩ (c_recR X hH (by decide)) cA_g hH hS hl rfl (Nat.le_of_ble_eq_true rfl) dX10_accept_60) hS (fun H locs hH hS => ?_)
      obtain ⟨x63, ex63⟩ : ∃ z : Int32, z = (v19_3 + (-1)) := ⟨_, rfl⟩
      have hf := nm_s hf x63 ex63
      refine lv_iinc (v := x63) (lv' := [(3, .int x63), (2, .int q5.1), (0, .ref (G.2.2.1 192)), (1, .int a1)]) hx hb dX10_accept_63 hl (k := 0) rfl (by rw [ex63]; rfl) (by decide) rfl (fun ls hl => ?_)
      refine lv_goto (tgt := 19) hx hb dX10_accept_66 (by decide) ?_
      exact ih19 _ _ _ _ _ hf hH hS (lv_sub hl [0, 1, 2, 3] rfl)
  exact hL19 _ _ _ _ _ _ hf hH hS (lv_sub hl [0, 1, 2, 3] rfl)
def f_X10_next (w : CW) : Int32 := ((if (f_X5_size w 1) ≤ (w.2.2 0) then (-1) else (rAt w 1 (w.2.2 0))))
abbrev rm_X10_next : Room := { frames := 2, cells := 0, slots := 0, locals := 21 }
theorem cn_X10_next : CN yX10_next 0 := ⟨by decide +kernel, by decide +kernel, by decide +kernel⟩
set_option maxHeartbeats 4000000 in
set_option maxRecDepth 100000 in
theorem c_X10_next (l : Launch) (G : GX) (w : CW) (q : Int32) (hf : f_X10_next w = q) : MI l G yX10_next cX10_next 1 (some .int) rm_X10_next [.ref (G.2.2.1 192)] (cA G) (cH G w) (cH G w) q := by
  refine cM_start (by decide +kernel) (Nat.le_of_ble_eq_true rfl) ?_
  intro p e s m below meth c ls X hH hl
  have hS : va_S (cA G) s.heap s.heap [] := va_S.rf
  have hx := X.1.1
  have hb := X.1.2.1
  generalize hargs : ([.ref (G.2.2.1 192)] : List Value).toArray = args at X ⊢
  generalize hQ : MQ below (QI (cA G) (cH G w) q) args s 0 0 (cA G) = Q
  have hl : lv_has ls 1 [(0, .ref (G.2.2.1 192))] := hl
  unfold f_X10_next at hf
  refine lv_aload_n hx hb dX10_next_0 rfl (lv_at hl 0 rfl) ?_
  refine co_get X hH 192 (by decide) eO192 rfl inBX10 9 (by decide) rfl bw262 dX10_next_1 ?_
  refine lv_aload_n hx hb dX10_next_4 rfl (lv_at hl 0 rfl) ?_
  refine co_get X hH 192 (by decide) eO192 rfl inBX10 0 (by decide) rfl bw245 dX10_next_5 ?_
  refine cGi (cVrun (rest := [.int (w.2.2 0)]) X (c_X5_size l G w 1 (by decide) _ rfl) bw705 bw624 bw625 bw91 bw626 cn_X5_size ⟨rfl, rfl, Nat.le_of_ble_eq_true rfl, Nat.le_of_ble_eq_true rfl⟩ (c_recR X hH (by decide)) cA_g hH hS hl rfl (Nat.le_of_ble_eq_true rfl) dX10_next_8) hS (fun H locs hH hS => ?_)
  have hJ : ∀ (H : Heap) (locs : List Loc), cH G w H → va_S (cA G) s.heap H locs → W p l e rm_X10_next s m args below meth c H locs 0 0 Q (F0 m 29 ls [.int (if (f_X5_size w 1) ≤ (w.2.2 0) then (-1) else (rAt w 1 (w.2.2 0)))]) := by
    intro H locs hH hS
    subst hQ
    exact cEi X hH hS (hf) dX10_next_29
  refine lv_icmp_ge (tgt := 28) hx hb dX10_next_11 (by decide) (fun hc11 => ?_) (fun hc11 => ?_)
  · refine lv_iconst (v := (-1)) hx hb dX10_next_28 (by decide) ?_
    exact W.eq (by rw [if_pos hc11] <;> rfl) (hJ _ _ hH hS)
  · refine lv_aload_n hx hb dX10_next_14 rfl (lv_at hl 0 rfl) ?_
    refine co_get X hH 192 (by decide) eO192 rfl inBX10 0 (by decide) rfl bw245 dX10_next_15 ?_
    refine lv_aload_n hx hb dX10_next_18 rfl (lv_at hl 0 rfl) ?_
    refine co_get X hH 192 (by decide) eO192 rfl inBX10 9 (by decide) rfl bw262 dX10_next_19 ?_
    refine cGi (cVrun (rest := []) X (cl_X5_at l G w 1 (by decide) (w.2.2 0) _ rfl) bw740 bw628 bw629 bw91 bw630 cn_X5_at ⟨rfl, rfl, Nat.le_of_ble_eq_true rfl, Nat.le_of_ble_eq_true rfl⟩ (c_recR X hH (by decide)) cA_g hH hS hl rfl (Nat.le_of_ble_eq_true rfl) dX10_next_22) hS (fun H locs hH hS => ?_)
    refine lv_goto (tgt := 29) hx hb dX10_next_25 (by decide) ?_
    exact W.eq (by rw [if_neg hc11] <;> rfl) (hJ _ _ hH hS)
def f_X10_readBlank (w : CW) : Int32 × CW := (if (f_X10_next w) = 32 then (nmk (sS w 0 ((w.2.2 0) + 1)) fun w18 => ((1, w18))) else ((0, w)))
abbrev rm_X10_readBlank : Room := { frames := 3, cells := 0, slots := 0, locals := 41 }
theorem cn_X10_readBlank : CN yX10_readBlank 0 := ⟨by decide +kernel, by decide +kernel, by decide +kernel⟩
set_option maxHeartbeats 4000000 in
set_option maxRecDepth 100000 in
theorem c_X10_readBlank (l : Launch) (G : GX) (w : CW) (q : Int32 × CW) (hf : f_X10_readBlank w = q) : MZ l G yX10_readBlank cX10_readBlank 1 (some .boolean) rm_X10_readBlank [.ref (G.2.2.1 192)] (cA G) (cH G w) (cH G q.2) q.1 := by
  refine cM_start (by decide +kernel) (Nat.le_of_ble_eq_true rfl) ?_
  intro p e s m below meth c ls X hH hl
  have hS : va_S (cA G) s.heap s.heap [] := va_S.rf
  have hx := X.1.1
  have hb := X.1.2.1
  generalize hargs : ([.ref (G.2.2.1 192)] : List Value).toArray = args at X ⊢
  generalize hQ : MQ below (QZ (cA G) (cH G q.2) q.1) args s 0 0 (cA G) = Q
  have hl : lv_has ls 1 [(0, .ref (G.2.2.1 192))] := hl
  unfold f_X10_readBlank at hf
  refine lv_aload_n hx hb dX10_readBlank_0 rfl (lv_at hl 0 rfl) ?_
  refine cGi (cVrun (rest := []) X (c_X10_next l G w _ rfl) bw784 bw786 bw8 bw96 bw787 cn_X10_next ⟨rfl, rfl, Nat.le_of_ble_eq_true rfl, Nat.le_of_ble_eq_true rfl⟩ (c_rec X hH 192 (by decide) eO192 rfl) cA_g hH hS hl rfl (Nat.le_of_ble_eq_true rfl) dX10_readBlank_1) hS (fun H locs hH hS => ?_)
  refine lv_bipush (v := 32) hx hb dX10_readBlank_4 (by decide) ?_
  refine lv_icmp_eq (tgt := 11) hx hb dX10_readBlank_6 (by decide) (fun hc => ?_) (fun hc => ?_)
  rotate_left
  · have hf := fo_f hc hf
    refine lv_iconst (v := 0) hx hb dX10_readBlank_9 (by decide) ?_
    subst hQ
    exact cEzz X (cH2 (hf) hH) hS (pf1 (hf)) zb0 dX10_readBlank_10
  have hf := fo_t hc hf
  refine lv_aload_n hx hb dX10_readBlank_11 rfl (lv_at hl 0 rfl) ?_
  refine lv_dup hx hb dX10_readBlank_12 rfl ?_
  refine co_get X hH 192 (by decide) eO192 rfl inBX10 9 (by decide) rfl bw262 dX10_readBlank_13 ?_
  refine lv_iconst (v := 1) hx hb dX10_readBlank_16 (by decide) ?_
  refine lv_iadd hx hb dX10_readBlank_17 ?_
  refine co_put (C := RX10) (N := 10) X hH hS 192 (by decide) eO192 rfl inBX10 tyX10 tyX10_ok nmX10 9 (by decide) bw262 rfl rfl rfl (by simp) (sS w 0 ((w.2.2 0) + 1)) rfl cE_s0 dX10_readBlank_18 (fun H locs hH hS => ?_)
  obtain ⟨w18, ew18⟩ : ∃ z : CW, z = (sS w 0 ((w.2.2 0) + 1)) := ⟨_, rfl⟩
  have hf := nm_s hf w18 ew18
  have hH : cH G w18 H := ew18 ▸ hH
  refine lv_iconst (v := 1) hx hb dX10_readBlank_21 (by decide) ?_
  subst hQ
  exact cEzz X (cH2 (hf) hH) hS (pf1 (hf)) zb1 dX10_readBlank_22
def f_X10_readLetters_L4 (j50 : Int32 → CW → Option (Int32 × CW)) : Nat → Int32 → Int32 → CW → Option (Int32 × CW)
  | 0, _, _, _ => none
  | n4 + 1, v4_2, v4_3, w4_ => (if 2 ≤ v4_3 then (j50 v4_2 w4_) else (if (f_X10_isLetter (f_X10_next w4_)) = 0 then (some (0, w4_)) else (nmk (((v4_2 * 100) + (f_X10_next w4_)) - 97) fun (x33 : Int32) => (nmk (sS w4_ 0 ((w4_.2.2 0) + 1)) fun w41 => (nmk (v4_3 + 1) fun (x44 : Int32) => (f_X10_readLetters_L4 j50 n4 x33 x44 w41))))))
def f_X10_readLetters (w : CW) (a1 : Int32) : Option (Int32 × CW) := (nmk (fun (y50_2 : Int32) (w50_ : CW) => (nmk (fun (y81_3 : Int32) (w81_ : CW) => (nmk (rPut w81_ 7 a1 ((y50_2 * 100) + y81_3)) fun q92 => (some (1, q92)))) fun j81 => (if (f_X10_isLetter (f_X10_next w50_)) = 0 then (j81 99 w50_) else (nmk ((f_X10_next w50_) - 97) fun (x70 : Int32) => (nmk (sS w50_ 0 ((w50_.2.2 0) + 1)) fun w78 => (j81 x70 w78)))))) fun j50 => (f_X10_readLetters_L4 j50 FU 0 0 w))
abbrev rm_X10_readLetters : Room := { frames := 3, cells := 0, slots := 0, locals := 41 }
theorem cn_X10_readLetters : CN yX10_readLetters 1 := ⟨by decide +kernel, by decide +kernel, by decide +kernel⟩
set_option maxHeartbeats 4000000 in
set_option maxRecDepth 100000 in
theorem c_X10_readLetters (l : Launch) (G : GX) (w : CW) (a1 : Int32) (q : Int32 × CW) (hf : f_X10_readLetters w a1 = some q) : MZ l G yX10_readLetters cX10_readLetters 4 (some .boolean) rm_X10_readLetters [.ref (G.2.2.1 192), .int a1] (cA G) (cH G w) (cH G q.2) q.1 := by
  refine cM_start (by decide +kernel) (Nat.le_of_ble_eq_true rfl) ?_
  intro p e s m below meth c ls X hH hl
  have hS : va_S (cA G) s.heap s.heap [] := va_S.rf
  have hx := X.1.1
  have hb := X.1.2.1
  generalize hargs : ([.ref (G.2.2.1 192), .int a1] : List Value).toArray = args at X ⊢
  generalize hQ : MQ below (QZ (cA G) (cH G q.2) q.1) args s 0 0 (cA G) = Q
  have hl : lv_has ls 4 [(0, .ref (G.2.2.1 192)), (1, .int a1)] := hl
  unfold f_X10_readLetters at hf
  refine lv_iconst (v := 0) hx hb dX10_readLetters_0 (by decide) ?_
  refine lv_istore_n (lv' := [(2, .int 0), (0, .ref (G.2.2.1 192)), (1, .int a1)]) hx hb dX10_readLetters_1 rfl hl (by decide) rfl (fun ls hl => ?_)
  refine lv_iconst (v := 0) hx hb dX10_readLetters_2 (by decide) ?_
  refine lv_istore_n (lv' := [(3, .int 0), (2, .int 0), (0, .ref (G.2.2.1 192)), (1, .int a1)]) hx hb dX10_readLetters_3 rfl hl (by decide) rfl (fun ls hl => ?_)
  obtain ⟨j50, ej50, hf⟩ := nm_x hf
  have hj50 : ∀ (y50_2 : Int32) (w50_ : CW) (H : Heap) (locs : List Loc) (ls : Array Slot), j50 y50_2 w50_ = some q → cH G w50_ H → va_S (cA G) s.heap H locs → lv_has ls 4 [(2, .int y50_2), (0, .ref (G.2.2.1 192)), (1, .int a1)] → W p l e rm_X10_readLetters s m args below meth c H locs 0 0 Q (F0 m 50 ls []) := by
    intro y50_2 w50_ H locs ls hf hH hS hl
    have hf := jb2 ej50 hf
    refine lv_bipush (v := 99) hx hb dX10_readLetters_50 (by decide) ?_
    refine lv_istore_n (lv' := [(3, .int 99), (2, .int y50_2), (0, .ref (G.2.2.1 192)), (1, .int a1)]) hx hb dX10_readLetters_52 rfl hl (by decide) rfl (fun ls hl => ?_)
    refine lv_aload_n hx hb dX10_readLetters_53 rfl (lv_at hl 2 rfl) ?_
    refine cGi (cVrun (rest := []) X (c_X10_next l G w50_ _ rfl) bw784 bw786 bw8 bw96 bw787 cn_X10_next ⟨rfl, rfl, Nat.le_of_ble_eq_true rfl, Nat.le_of_ble_eq_true rfl⟩ (c_rec X hH 192 (by decide) eO192 rfl) cA_g hH hS hl rfl (Nat.le_of_ble_eq_true rfl) dX10_readLetters_54) hS (fun H locs hH hS => ?_)
    refine cGi (cSrun (rest := []) X (c_X10_isLetter l G (cH G w50_) (cA G) cA_g (f_X10_next w50_) _ rfl) bw792 bw793 bw96 bw794 cn_X10_isLetter ⟨rfl, rfl, Nat.le_of_ble_eq_true rfl, Nat.le_of_ble_eq_true rfl⟩ cA_g hH hS hl rfl (Nat.le_of_ble_eq_true rfl) dX10_readLetters_57) hS (fun H locs hH hS => ?_)
    obtain ⟨j81, ej81, hf⟩ := nm_x hf
    have hj81 : ∀ (y81_3 : Int32) (w81_ : CW) (H : Heap) (locs : List Loc) (ls : Array Slot), j81 y81_3 w81_ = some q → cH G w81_ H → va_S (cA G) s.heap H locs → lv_has ls 4 [(3, .int y81_3), (2, .int y50_2), (0, .ref (G.2.2.1 192)), (1, .int a1)] → W p l e rm_X10_readLetters s m args below meth c H locs 0 0 Q (F0 m 81 ls []) := by
      intro y81_3 w81_ H locs ls hf hH hS hl
      have hf := jb2 ej81 hf
      refine lv_aload_n hx hb dX10_readLetters_81 rfl (lv_at hl 2 rfl) ?_
      refine co_get X hH 192 (by decide) eO192 rfl inBX10 6 (by decide) rfl bw256 dX10_readLetters_82 ?_
      refine lv_iload_n hx hb dX10_readLetters_85 rfl (lv_at hl 3 rfl) ?_
      refine lv_iload_n hx hb dX10_readLetters_86 rfl (lv_at hl 1 rfl) ?_
      refine lv_bipush (v := 100) hx hb dX10_readLetters_87 (by decide) ?_
      refine lv_imul hx hb dX10_readLetters_89 ?_
      refine lv_iload_n hx hb dX10_readLetters_90 rfl (lv_at hl 0 rfl) ?_
      refine lv_iadd hx hb dX10_readLetters_91 ?_
      obtain ⟨q92, hq92, hf⟩ := nm_x hf
      have hq92 := hq92.symm
      refine cGv (cVrun (rest := []) X (cl_X5_put l G w81_ 7 (by decide) a1 ((y50_2 * 100) + y81_3) q92 hq92) bw706 bw352 bw353 bw91 bw354 cn_X5_put ⟨rfl, rfl, Nat.le_of_ble_eq_true rfl, Nat.le_of_ble_eq_true rfl⟩ (c_recR X hH (by decide)) cA_g hH hS hl rfl (Nat.le_of_ble_eq_true rfl) dX10_readLetters_92) hS (fun H locs hH hS => ?_)
      refine lv_iconst (v := 1) hx hb dX10_readLetters_95 (by decide) ?_
      subst hQ
      exact cEzz X (cH2 (so_s hf) hH) hS (pf1 (so_s hf)) zb1 dX10_readLetters_96
    refine lv_if_eq (tgt := 81) hx hb dX10_readLetters_60 (by decide) (fun hc => ?_) (fun hc => ?_)
    · have hf := fo_t hc hf
      exact hj81 _ _ _ _ _ hf hH hS (lv_sub hl [0, 1, 2, 3] rfl)
    have hf := fo_f hc hf
    refine lv_aload_n hx hb dX10_readLetters_63 rfl (lv_at hl 2 rfl) ?_
    refine cGi (cVrun (rest := []) X (c_X10_next l G w50_ _ rfl) bw784 bw786 bw8 bw96 bw787 cn_X10_next ⟨rfl, rfl, Nat.le_of_ble_eq_true rfl, Nat.le_of_ble_eq_true rfl⟩ (c_rec X hH 192 (by decide) eO192 rfl) cA_g hH hS hl rfl (Nat.le_of_ble_eq_true rfl) dX10_readLetters_64) hS (fun H locs hH hS => ?_)
    refine lv_bipush (v := 97) hx hb dX10_readLetters_67 (by decide) ?_
    refine lv_isub hx hb dX10_readLetters_69 ?_
    refine lv_topi (fun x70 ex70 => ?_)
    have hf := nm_s hf x70 ex70
    refine lv_istore_n (lv' := [(3, .int x70), (2, .int y50_2), (0, .ref (G.2.2.1 192)), (1, .int a1)]) hx hb dX10_readLetters_70 rfl hl (by decide) rfl (fun ls hl => ?_)
    refine lv_aload_n hx hb dX10_readLetters_71 rfl (lv_at hl 2 rfl) ?_
    refine lv_dup hx hb dX10_readLetters_72 rfl ?_
    refine co_get X hH 192 (by decide) eO192 rfl inBX10 9 (by decide) rfl bw262 dX10_readLetters_73 ?_
    refine lv_iconst (v := 1) hx hb dX10_readLetters_76 (by decide) ?_
    refine lv_iadd hx hb dX10_readLetters_77 ?_
    refine co_put (C := RX10) (N := 10) X hH hS 192 (by decide) eO192 rfl inBX10 tyX10 tyX10_ok nmX10 9 (by decide) bw262 rfl rfl rfl (by simp) (sS w50_ 0 ((w50_.2.2 0) + 1)) rfl cE_s0 dX10_readLetters_78 (fun H locs hH hS => ?_)
    obtain ⟨w78, ew78⟩ : ∃ z : CW, z = (sS w50_ 0 ((w50_.2.2 0) + 1)) := ⟨_, rfl⟩
    have hf := nm_s hf w78 ew78
    have hH : cH G w78 H := ew78 ▸ hH
    exact hj81 _ _ _ _ _ hf hH hS (lv_sub hl [0, 1, 2, 3] rfl)
  have hL4 : ∀ (n4 : Nat) (v4_2 : Int32) (v4_3 : Int32) (w4_ : CW) (H : Heap) (locs : List Loc) (ls : Array Slot), f_X10_readLetters_L4 j50 n4 v4_2 v4_3 w4_ = some q → cH G w4_ H → va_S (cA G) s.heap H locs → lv_has ls 4 [(3, .int v4_3), (2, .int v4_2), (0, .ref (G.2.2.1 192)), (1, .int a1)] → W p l e rm_X10_readLetters s m args below meth c H locs 0 0 Q (F0 m 4 ls []) := by
    intro n4
    induction n4 with
    | zero => intro v4_2 v4_3 w4_ H locs ls hf; rw [f_X10_readLetters_L4] at hf; cases hf
    | succ n4 ih4 =>
      intro v4_2 v4_3 w4_ H locs ls hf hH hS hl
      rw [f_X10_readLetters_L4] at hf
      refine lv_iload_n hx hb dX10_readLetters_4 rfl (lv_at hl 0 rfl) ?_
      refine lv_iconst (v := 2) hx hb dX10_readLetters_5 (by decide) ?_
      refine lv_icmp_ge (tgt := 50) hx hb dX10_readLetters_6 (by decide) (fun hc => ?_) (fun hc => ?_)
      · have hf := fo_t hc hf
        exact hj50 _ _ _ _ _ hf hH hS (lv_sub hl [1, 2, 3] rfl)
      have hf := fo_f hc hf
      refine lv_aload_n hx hb dX10_readLetters_9 rfl (lv_at hl 2 rfl) ?_
      refine cGi (cVrun (rest := []) X (c_X10_next l G w4_ _ rfl) bw784 bw786 bw8 bw96 bw787 cn_X10_next ⟨rfl, rfl, Nat.le_of_ble_eq_true rfl, Nat.le_of_ble_eq_true rfl⟩ (c_rec X hH 192 (by decide) eO192 rfl) cA_g hH hS hl rfl (Nat.le_of_ble_eq_true rfl) dX10_readLetters_10) hS (fun H locs hH hS => ?_)
      refine cGi (cSrun (rest := []) X (c_X10_isLetter l G (cH G w4_) (cA G) cA_g (f_X10_next w4_) _ rfl) bw792 bw793 bw96 bw794 cn_X10_isLetter ⟨rfl, rfl, Nat.le_of_ble_eq_true rfl, Nat.le_of_ble_eq_true rfl⟩ cA_g hH hS hl rfl (Nat.le_of_ble_eq_true rfl) dX10_readLetters_13) hS (fun H locs hH hS => ?_)
      refine lv_if_ne (tgt := 21) hx hb dX10_readLetters_16 (by decide) (fun hc => ?_) (fun hc => ?_)
      rotate_left
      · have hf := fo_t hc hf
        refine lv_iconst (v := 0) hx hb dX10_readLetters_19 (by decide) ?_
        subst hQ
        exact cEzz X (cH2 (so_s hf) hH) hS (pf1 (so_s hf)) zb0 dX10_readLetters_20
      have hf := fo_f hc hf
      refine lv_iload_n hx hb dX10_readLetters_21 rfl (lv_at hl 1 rfl) ?_
      refine lv_bipush (v := 100) hx hb dX10_readLetters_22 (by decide) ?_
      refine lv_imul hx hb dX10_readLetters_24 ?_
      refine lv_aload_n hx hb dX10_readLetters_25 rfl (lv_at hl 2 rfl) ?_
      refine cGi (cVrun (rest := [.int (v4_2 * 100)]) X (c_X10_next l G w4_ _ rfl) bw784 bw786 bw8 bw96 bw787 cn_X10_next ⟨rfl, rfl, Nat.le_of_ble_eq_true rfl, Nat.le_of_ble_eq_true rfl⟩ (c_rec X hH 192 (by decide) eO192 rfl) cA_g hH hS hl rfl (Nat.le_of_ble_eq_true rfl) dX10_readLetters_26) hS (fun H locs hH hS => ?_)
      refine lv_iadd hx hb dX10_readLetters_29 ?_
      refine lv_bipush (v := 97) hx hb dX10_readLetters_30 (by decide) ?_
      refine lv_isub hx hb dX10_readLetters_32 ?_
      refine lv_topi (fun x33 ex33 => ?_)
      have hf := nm_s hf x33 ex33
      refine lv_istore_n (lv' := [(2, .int x33), (3, .int v4_3), (0, .ref (G.2.2.1 192)), (1, .int a1)]) hx hb dX10_readLetters_33 rfl hl (by decide) rfl (fun ls hl => ?_)
      refine lv_aload_n hx hb dX10_readLetters_34 rfl (lv_at hl 2 rfl) ?_
      refine lv_dup hx hb dX10_readLetters_35 rfl ?_
      refine co_get X hH 192 (by decide) eO192 rfl inBX10 9 (by decide) rfl bw262 dX10_readLetters_36 ?_
      refine lv_iconst (v := 1) hx hb dX10_readLetters_39 (by decide) ?_
      refine lv_iadd hx hb dX10_readLetters_40 ?_
      refine co_put (C := RX10) (N := 10) X hH hS 192 (by decide) eO192 rfl inBX10 tyX10 tyX10_ok nmX10 9 (by decide) bw262 rfl rfl rfl (by simp) (sS w4_ 0 ((w4_.2.2 0) + 1)) rfl cE_s0 dX10_readLetters_41 (fun H locs hH hS => ?_)
      obtain ⟨w41, ew41⟩ : ∃ z : CW, z = (sS w4_ 0 ((w4_.2.2 0) + 1)) := ⟨_, rfl⟩
      have hf := nm_s hf w41 ew41
      have hH : cH G w41 H := ew41 ▸ hH
      obtain ⟨x44, ex44⟩ : ∃ z : Int32, z = (v4_3 + 1) := ⟨_, rfl⟩
      have hf := nm_s hf x44 ex44
      refine lv_iinc (v := x44) (lv' := [(3, .int x44), (2, .int x33), (0, .ref (G.2.2.1 192)), (1, .int a1)]) hx hb dX10_readLetters_44 hl (k := 1) rfl (by rw [ex44]; rfl) (by decide) rfl (fun ls hl => ?_)
      refine lv_goto (tgt := 4) hx hb dX10_readLetters_47 (by decide) ?_
      exact ih4 _ _ _ _ _ _ hf hH hS (lv_sub hl [0, 1, 2, 3] rfl)
  exact hL4 _ _ _ _ _ _ _ hf hH hS (lv_sub hl [0, 1, 2, 3] rfl)
def f_X10_readFigure (w : CW) (a1 : Int32) (k2 : Nat) (a3 : Int32) : Int32 × CW := (nmk ((f_X10_next w) - 48) fun (x7 : Int32) => (if x7 < a1 then ((0, w)) else (if x7 ≤ 9 then (nmk (rPut w k2 a3 x7) fun q28 => (nmk (sS q28 0 ((q28.2.2 0) + 1)) fun w38 => ((1, w38)))) else ((0, w)))))
abbrev rm_X10_readFigure : Room := { frames := 3, cells := 0, slots := 0, locals := 41 }
theorem cn_X10_readFigure : CN yX10_readFigure 3 := ⟨by decide +kernel, by decide +kernel, by decide +kernel⟩
set_option maxHeartbeats 4000000 in
set_option maxRecDepth 100000 in
theorem c_X10_readFigure (l : Launch) (G : GX) (w : CW) (a1 : Int32) (k2 : Nat) (hk2 : k2 < 95) (a3 : Int32) (q : Int32 × CW) (hf : f_X10_readFigure w a1 k2 a3 = q) : MZ l G yX10_readFigure cX10_readFigure 5 (some .boolean) rm_X10_readFigure [.ref (G.2.2.1 192), .int a1, .ref (G.2.2.1 k2), .int a3] (cA G) (cH G w) (cH G q.2) q.1 := by
  refine cM_start (by decide +kernel) (Nat.le_of_ble_eq_true rfl) ?_
  intro p e s m below meth c ls X hH hl
  have hS : va_S (cA G) s.heap s.heap [] := va_S.rf
  have hx := X.1.1
  have hb := X.1.2.1
  generalize hargs : ([.ref (G.2.2.1 192), .int a1, .ref (G.2.2.1 k2), .int a3] : List Value).toArray = args at X ⊢
  generalize hQ : MQ below (QZ (cA G) (cH G q.2) q.1) args s 0 0 (cA G) = Q
  have hl : lv_has ls 5 [(0, .ref (G.2.2.1 192)), (1, .int a1), (2, .ref (G.2.2.1 k2)), (3, .int a3)] := hl
  unfold f_X10_readFigure at hf
  refine lv_aload_n hx hb dX10_readFigure_0 rfl (lv_at hl 0 rfl) ?_
  refine cGi (cVrun (rest := []) X (c_X10_next l G w _ rfl) bw784 bw786 bw8 bw96 bw787 cn_X10_next ⟨rfl, rfl, Nat.le_of_ble_eq_true rfl, Nat.le_of_ble_eq_true rfl⟩ (c_rec X hH 192 (by decide) eO192 rfl) cA_g hH hS hl rfl (Nat.le_of_ble_eq_true rfl) dX10_readFigure_1) hS (fun H locs hH hS => ?_)
  refine lv_bipush (v := 48) hx hb dX10_readFigure_4 (by decide) ?_
  refine lv_isub hx hb dX10_readFigure_6 ?_
  refine lv_topi (fun x7 ex7 => ?_)
  have hf := nm_s hf x7 ex7
  refine lv_istore (lv' := [(4, .int x7), (0, .ref (G.2.2.1 192)), (1, .int a1), (2, .ref (G.2.2.1 k2)), (3, .int a3)]) hx hb dX10_readFigure_7 hl (by decide) rfl (fun ls hl => ?_)
  refine lv_iload hx hb dX10_readFigure_9 (lv_at hl 0 rfl) ?_
  refine lv_iload_n hx hb dX10_readFigure_11 rfl (lv_at hl 2 rfl) ?_
  refine lv_icmp_lt (tgt := 22) hx hb dX10_readFigure_12 (by decide) (fun hc => ?_) (fun hc => ?_)
  · have hf := fo_t hc hf
    refine lv_iconst (v := 0) hx hb dX10_readFigure_22 (by decide) ?_
    subst hQ
    exact cEzz X (cH2 (hf) hH) hS (pf1 (hf)) zb0 dX10_readFigure_23
  have hf := fo_f hc hf
  refine lv_iload hx hb dX10_readFigure_15 (lv_at hl 0 rfl) ?_
  refine lv_bipush (v := 9) hx hb dX10_readFigure_17 (by decide) ?_
  refine lv_icmp_le (tgt := 24) hx hb dX10_readFigure_19 (by decide) (fun hc => ?_) (fun hc => ?_)
  rotate_left
  · have hf := fo_f hc hf
    refine lv_iconst (v := 0) hx hb dX10_readFigure_22 (by decide) ?_
    subst hQ
    exact cEzz X (cH2 (hf) hH) hS (pf1 (hf)) zb0 dX10_readFigure_23
  have hf := fo_t hc hf
  refine lv_aload_n hx hb dX10_readFigure_24 rfl (lv_at hl 3 rfl) ?_
  refine lv_iload_n hx hb dX10_readFigure_25 rfl (lv_at hl 4 rfl) ?_
  refine lv_iload hx hb dX10_readFigure_26 (lv_at hl 0 rfl) ?_
  obtain ⟨q28, hq28, hf⟩ := nm_x hf
  have hq28 := hq28.symm
  refine cGv (cVrun (rest := []) X (cl_X5_put l G w k2 hk2 a3 x7 q28 hq28) bw706 bw352 bw353 bw91 bw354 cn_X5_put ⟨rfl, rfl, Nat.le_of_ble_eq_true rfl, Nat.le_of_ble_eq_true rfl⟩ (c_recR X hH hk2) cA_g hH hS hl rfl (Nat.le_of_ble_eq_true rfl) dX10_readFigure_28) hS (fun H locs hH hS => ?_)
  refine lv_aload_n hx hb dX10_readFigure_31 rfl (lv_at hl 1 rfl) ?_
  refine lv_dup hx hb dX10_readFigure_32 rfl ?_
  refine co_get X hH 192 (by decide) eO192 rfl inBX10 9 (by decide) rfl bw262 dX10_readFigure_33 ?_
  refine lv_iconst (v := 1) hx hb dX10_readFigure_36 (by decide) ?_
  refine lv_iadd hx hb dX10_readFigure_37 ?_
  refine co_put (C := RX10) (N := 10) X hH hS 192 (by decide) eO192 rfl inBX10 tyX10 tyX10_ok nmX10 9 (by decide) bw262 rfl rfl rfl (by simp) (sS q28 0 ((q28.2.2 0) + 1)) rfl cE_s0 dX10_readFigure_38 (fun H locs hH hS => ?_)
  obtain ⟨w38, ew38⟩ : ∃ z : CW, z = (sS q28 0 ((q28.2.2 0) + 1)) := ⟨_, rfl⟩
  have hf := nm_s hf w38 ew38
  have hH : cH G w38 H := ew38 ▸ hH
  refine lv_iconst (v := 1) hx hb dX10_readFigure_41 (by decide) ?_
  subst hQ
  exact cEzz X (cH2 (hf) hH) hS (pf1 (hf)) zb1 dX10_readFigure_42
def f_X10_readNumber (w : CW) (a1 : Int32) : Int32 × CW := (nmk (f_X10_readFigure w 0 8 a1) fun q7 => (if q7.1 = 0 then ((0, q7.2)) else (nmk (rAt q7.2 8 a1) fun (x23 : Int32) => (if x23 ≤ 0 then ((1, q7.2)) else (nmk (f_X10_readFigure q7.2 0 8 a1) fun q35 => (if q35.1 = 0 then ((1, q35.2)) else (nmk (rAdd q35.2 8 a1 (10 * x23)) fun q50 => ((1, q50)))))))))
abbrev rm_X10_readNumber : Room := { frames := 4, cells := 0, slots := 0, locals := 65 }
theorem cn_X10_readNumber : CN yX10_readNumber 1 := ⟨by decide +kernel, by decide +kernel, by decide +kernel⟩
set_option maxHeartbeats 4000000 in
set_option maxRecDepth 100000 in
theorem c_X10_readNumber (l : Launch) (G : GX) (w : CW) (a1 : Int32) (q : Int32 × CW) (hf : f_X10_readNumber w a1 = q) : MZ l G yX10_readNumber cX10_readNumber 3 (some .boolean) rm_X10_readNumber [.ref (G.2.2.1 192), .int a1] (cA G) (cH G w) (cH G q.2) q.1 := by
  refine cM_start (by decide +kernel) (Nat.le_of_ble_eq_true rfl) ?_
  intro p e s m below meth c ls X hH hl
  have hS : va_S (cA G) s.heap s.heap [] := va_S.rf
  have hx := X.1.1
  have hb := X.1.2.1
  generalize hargs : ([.ref (G.2.2.1 192), .int a1] : List Value).toArray = args at X ⊢
  generalize hQ : MQ below (QZ (cA G) (cH G q.2) q.1) args s 0 0 (cA G) = Q
  have hl : lv_has ls 3 [(0, .ref (G.2.2.1 192)), (1, .int a1)] := hl
  unfold f_X10_readNumber at hf
  refine lv_aload_n hx hb dX10_readNumber_0 rfl (lv_at hl 0 rfl) ?_
  refine lv_iconst (v := 0) hx hb dX10_readNumber_1 (by decide) ?_
  refine lv_aload_n hx hb dX10_readNumber_2 rfl (lv_at hl 0 rfl) ?_
  refine co_get X hH 192 (by decide) eO192 rfl inBX10 7 (by decide) rfl bw258 dX10_readNumber_3 ?_
  refine lv_iload_n hx hb dX10_readNumber_6 rfl (lv_at hl 1 rfl) ?_
  obtain ⟨q7, hq7, hf⟩ := nm_x hf
  have hq7 := hq7.symm
  refine cGz (cVrun (rest := []) X (c_X10_readFigure l G w 0 8 (by decide) a1 q7 hq7) bw795 bw797 bw10 bw96 bw798 cn_X10_readFigure ⟨rfl, rfl, Nat.le_of_ble_eq_true rfl, Nat.le_of_ble_eq_true rfl⟩ (c_rec X hH 192 (by decide) eO192 rfl) cA_g hH hS hl rfl (Nat.le_of_ble_eq_true rfl) dX10_readNumber_7) hS (fun hz7 H locs hH hS => ?_)
  refine lv_if_ne (tgt := 15) hx hb dX10_readNumber_10 (by decide) (fun hc => ?_) (fun hc => ?_)
  rotate_left
  · have hf := fo_t hc hf
    refine lv_iconst (v := 0) hx hb dX10_readNumber_13 (by decide) ?_
    subst hQ
    exact cEzz X (cH2 (hf) hH) hS (pf1 (hf)) zb0 dX10_readNumber_14
  have hf := fo_f hc hf
  refine lv_aload_n hx hb dX10_readNumber_15 rfl (lv_at hl 0 rfl) ?_
  refine co_get X hH 192 (by decide) eO192 rfl inBX10 7 (by decide) rfl bw258 dX10_readNumber_16 ?_
  refine lv_iload_n hx hb dX10_readNumber_19 rfl (lv_at hl 1 rfl) ?_
  refine cGi (cVrun (rest := []) X (cl_X5_at l G q7.2 8 (by decide) a1 _ rfl) bw740 bw628 bw629 bw91 bw630 cn_X5_at ⟨rfl, rfl, Nat.le_of_ble_eq_true rfl, Nat.le_of_ble_eq_true rfl⟩ (c_recR X hH (by decide)) cA_g hH hS hl rfl (Nat.le_of_ble_eq_true rfl) dX10_readNumber_20) hS (fun H locs hH hS => ?_)
  refine lv_topi (fun x23 ex23 => ?_)
  have hf := nm_s hf x23 ex23
  refine lv_istore_n (lv' := [(2, .int x23), (0, .ref (G.2.2.1 192)), (1, .int a1)]) hx hb dX10_readNumber_23 rfl hl (by decide) rfl (fun ls hl => ?_)
  refine lv_iload_n hx hb dX10_readNumber_24 rfl (lv_at hl 0 rfl) ?_
  refine lv_if_le (tgt := 53) hx hb dX10_readNumber_25 (by decide) (fun hc => ?_) (fun hc => ?_)
  · have hf := fo_t hc hf
    refine lv_iconst (v := 1) hx hb dX10_readNumber_53 (by decide) ?_
    subst hQ
    exact cEzz X (cH2 (hf) hH) hS (pf1 (hf)) zb1 dX10_readNumber_54
  have hf := fo_f hc hf
  refine lv_aload_n hx hb dX10_readNumber_28 rfl (lv_at hl 1 rfl) ?_
  refine lv_iconst (v := 0) hx hb dX10_readNumber_29 (by decide) ?_
  refine lv_aload_n hx hb dX10_readNumber_30 rfl (lv_at hl 1 rfl) ?_
  refine co_get X hH 192 (by decide) eO192 rfl inBX10 7 (by decide) rfl bw258 dX10_readNumber_31 ?_
  refine lv_iload_n hx hb dX10_readNumber_34 rfl (lv_at hl 2 rfl) ?_
  obtain ⟨q35, hq35, hf⟩ := nm_x hf
  have hq35 := hq35.symm
  refine cGz (cVrun (rest := []) X (c_X10_readFigure l G q7.2 0 8 (by decide) a1 q35 hq35) bw795 bw797 bw10 bw96 bw798 cn_X10_readFigure ⟨rfl, rfl, Nat.le_of_ble_eq_true rfl, Nat.le_of_ble_eq_true rfl⟩ (c_rec X hH 192 (by decide) eO192 rfl) cA_g hH hS hl rfl (Nat.le_of_ble_eq_true rfl) dX10_readNumber_35) hS (fun hz35 H locs hH hS => ?_)
  refine lv_if_eq (tgt := 53) hx hb dX10_readNumber_38 (by decide) (fun hc => ?_) (fun hc => ?_)
  · have hf := fo_t hc hf
    refine lv_iconst (v := 1) hx hb dX10_readNumber_53 (by decide) ?_
    subst hQ
    exact cEzz X (cH2 (hf) hH) hS (pf1 (hf)) zb1 dX10_readNumber_54
  have hf := fo_f hc hf
  refine lv_aload_n hx hb dX10_readNumber_41 rfl (lv_at hl 1 rfl) ?_
  refine co_get X hH 192 (by decide) eO192 rfl inBX10 7 (by decide) rfl bw258 dX10_readNumber_42 ?_
  refine lv_iload_n hx hb dX10_readNumber_45 rfl (lv_at hl 2 rfl) ?_
  refine lv_bipush (v := 10) hx hb dX10_readNumber_46 (by decide) ?_
  refine lv_iload_n hx hb dX10_readNumber_48 rfl (lv_at hl 0 rfl) ?_
  refine lv_imul hx hb dX10_readNumber_49 ?_
  obtain ⟨q50, hq50, hf⟩ := nm_x hf
  have hq50 := hq50.symm
  refine cGv (cVrun (rest := []) X (cl_X5_add l G q35.2 8 (by decide) a1 (10 * x23) q50 hq50) bw803 bw648 bw649 bw91 bw650 cn_X5_add ⟨rfl, rfl, Nat.le_of_ble_eq_true rfl, Nat.le_of_ble_eq_true rfl⟩ (c_recR X hH (by decide)) cA_g hH hS hl rfl (Nat.le_of_ble_eq_true rfl) dX10_readNumber_50) hS (fun H locs hH hS => ?_)
  refine lv_iconst (v := 1) hx hb dX10_readNumber_53 (by decide) ?_
  subst hQ
  exact cEzz X (cH2 (hf) hH) hS (pf1 (hf)) zb1 dX10_readNumber_54
def f_X10_addFeast (w : CW) (a1 : Int32) (a2 : Int32) : Int32 × CW := (if a2 < 0 then ((1, w)) else (if 30 ≤ a2 then ((1, w)) else (nmk (rPut w 4 a1 ((rAt w 4 a1) ||| ((1 : Int32) <<< (a2 &&& 31)))) fun q27 => ((1, q27)))))
abbrev rm_X10_addFeast : Room := { frames := 2, cells := 0, slots := 0, locals := 22 }
theorem cn_X10_addFeast : CN yX10_addFeast 2 := ⟨by decide +kernel, by decide +kernel, by decide +kernel⟩
set_option maxHeartbeats 4000000 in
set_option maxRecDepth 100000 in
theorem c_X10_addFeast (l : Launch) (G : GX) (w : CW) (a1 : Int32) (a2 : Int32) (q : Int32 × CW) (hf : f_X10_addFeast w a1 a2 = q) : MZ l G yX10_addFeast cX10_addFeast 3 (some .boolean) rm_X10_addFeast [.ref (G.2.2.1 192), .int a1, .int a2] (cA G) (cH G w) (cH G q.2) q.1 := by
  refine cM_start (by decide +kernel) (Nat.le_of_ble_eq_true rfl) ?_
  intro p e s m below meth c ls X hH hl
  have hS : va_S (cA G) s.heap s.heap [] := va_S.rf
  have hx := X.1.1
  have hb := X.1.2.1
  generalize hargs : ([.ref (G.2.2.1 192), .int a1, .int a2] : List Value).toArray = args at X ⊢
  generalize hQ : MQ below (QZ (cA G) (cH G q.2) q.1) args s 0 0 (cA G) = Q
  have hl : lv_has ls 3 [(0, .ref (G.2.2.1 192)), (1, .int a1), (2, .int a2)] := hl
  unfold f_X10_addFeast at hf
  refine lv_iload_n hx hb dX10_addFeast_0 rfl (lv_at hl 2 rfl) ?_
  refine lv_if_lt (tgt := 30) hx hb dX10_addFeast_1 (by decide) (fun hc => ?_) (fun hc => ?_)
  · have hf := fo_t hc hf
    refine lv_iconst (v := 1) hx hb dX10_addFeast_30 (by decide) ?_
    subst hQ
    exact cEzz X (cH2 (hf) hH) hS (pf1 (hf)) zb1 dX10_addFeast_31
  have hf := fo_f hc hf
  refine lv_iload_n hx hb dX10_addFeast_4 rfl (lv_at hl 2 rfl) ?_
  refine lv_bipush (v := 30) hx hb dX10_addFeast_5 (by decide) ?_
  refine lv_icmp_ge (tgt := 30) hx hb dX10_addFeast_7 (by decide) (fun hc => ?_) (fun hc => ?_)
  · have hf := fo_t hc hf
    refine lv_iconst (v := 1) hx hb dX10_addFeast_30 (by decide) ?_
    subst hQ
    exact cEzz X (cH2 (hf) hH) hS (pf1 (hf)) zb1 dX10_addFeast_31
  have hf := fo_f hc hf
  refine lv_aload_n hx hb dX10_addFeast_10 rfl (lv_at hl 0 rfl) ?_
  refine co_get X hH 192 (by decide) eO192 rfl inBX10 3 (by decide) rfl bw251 dX10_addFeast_11 ?_
  refine lv_iload_n hx hb dX10_addFeast_14 rfl (lv_at hl 1 rfl) ?_
  refine lv_aload_n hx hb dX10_addFeast_15 rfl (lv_at hl 0 rfl) ?_
  refine co_get X hH 192 (by decide) eO192 rfl inBX10 3 (by decide) rfl bw251 dX10_addFeast_16 ?_
  refine lv_iload_n hx hb dX10_addFeast_19 rfl (lv_at hl 1 rfl) ?_
  refine cGi (cVrun (rest := [.int a1, .ref (G.2.2.1 4)]) X (cl_X5_at l G w 4 (by decide) a1 _ rfl) bw740 bw628 bw629 bw91 bw630 cn_X5_at ⟨rfl, rfl, Nat.le_of_ble_eq_true rfl, Nat.le_of_ble_eq_true rfl⟩ (c_recR X hH (by decide)) cA_g hH hS hl rfl (Nat.le_of_ble_eq_true rfl) dX10_addFeast_20) hS (fun H locs hH hS => ?_)
  refine lv_iconst (v := 1) hx hb dX10_addFeast_23 (by decide) ?_
  refine lv_iload_n hx hb dX10_addFeast_24 rfl (lv_at hl 2 rfl) ?_
  refine lv_ishl hx hb dX10_addFeast_25 ?_
  refine lv_ior hx hb dX10_addFeast_26 ?_
  obtain ⟨q27, hq27, hf⟩ := nm_x hf
  have hq27 := hq27.symm
  refine cGv (cVrun (rest := []) X (cl_X5_put l G w 4 (by decide) a1 ((rAt w 4 a1) ||| ((1 : Int32) <<< (a2 &&& 31))) q27 hq27) bw706 bw352 bw353 bw91 bw354 cn_X5_put ⟨rfl, rfl, Nat.le_of_ble_eq_true rfl, Nat.le_of_ble_eq_true rfl⟩ (c_recR X hH (by decide)) cA_g hH hS hl rfl (Nat.le_of_ble_eq_true rfl) dX10_addFeast_27) hS (fun H locs hH hS => ?_)
  refine lv_iconst (v := 1) hx hb dX10_addFeast_30 (by decide) ?_
  subst hQ
  exact cEzz X (cH2 (hf) hH) hS (pf1 (hf)) zb1 dX10_addFeast_31
