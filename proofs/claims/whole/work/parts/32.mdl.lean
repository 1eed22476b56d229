def f_X12_limited (a0 : Int32) (a1 : Int32) (a2 : Int32) : Int32 := ((if a1 ≤ a0 then (if a0 ≤ a2 then a0 else a2) else a1))
abbrev rm_X12_limited : Room := { frames := 1, cells := 0, slots := 0, locals := 0 }
theorem cn_X12_limited : CN yX12_limited 3 := ⟨by decide +kernel, by decide +kernel, by decide +kernel⟩
set_option maxHeartbeats 4000000 in
set_option maxRecDepth 100000 in
theorem c_X12_limited (l : Launch) (G : GX) (P : Heap → Prop) (A : Nat → Prop) (hAG : ∀ q, A q → gA G q) (a0 : Int32) (a1 : Int32) (a2 : Int32) (q : Int32) (hf : f_X12_limited a0 a1 a2 = q) : MI l G yX12_limited cX12_limited 3 (some .int) rm_X12_limited [.int a0, .int a1, .int a2] A P P q := by
  refine cM_start (by decide +kernel) (Nat.le_of_ble_eq_true rfl) ?_
  intro p e s m below meth c ls X hH hl
  have hS : va_S A s.heap s.heap [] := va_S.rf
  have hx := X.1.1
  have hb := X.1.2.1
  generalize hargs : ([.int a0, .int a1, .int a2] : List Value).toArray = args at X ⊢
  generalize hQ : MQ below (QI A P q) args s 0 0 A = Q
  have hl : lv_has ls 3 [(0, .int a0), (1, .int a1), (2, .int a2)] := hl
  unfold f_X12_limited at hf
  refine lv_iload_n hx hb dX12_limited_0 rfl (lv_at hl 0 rfl) ?_
  refine lv_iload_n hx hb dX12_limited_1 rfl (lv_at hl 1 rfl) ?_
  have hJ : ∀ (H : Heap) (locs : List Loc), P H → va_S A s.heap H locs → W p l e rm_X12_limited s m args below meth c H locs 0 0 Q (F0 m 19 ls [.int (if a1 ≤ a0 then (if a0 ≤ a2 then a0 else a2) else a1)]) := by
    intro H locs hH hS
    subst hQ
    exact cEi X hH hS (hf) dX12_limited_19
  refine lv_icmp_ge (tgt := 9) hx hb dX12_limited_2 (by decide) (fun hc2 => ?_) (fun hc2 => ?_)
  · refine lv_iload_n hx hb dX12_limited_9 rfl (lv_at hl 0 rfl) ?_
    refine lv_iload_n hx hb dX12_limited_10 rfl (lv_at hl 2 rfl) ?_
    refine lv_icmp_le (tgt := 18) hx hb dX12_limited_11 (by decide) (fun hc11 => ?_) (fun hc11 => ?_)
    · refine lv_iload_n hx hb dX12_limited_18 rfl (lv_at hl 0 rfl) ?_
      exact W.eq (by rw [if_pos hc2, if_pos hc11] <;> rfl) (hJ _ _ hH hS)
    · refine lv_iload_n hx hb dX12_limited_14 rfl (lv_at hl 2 rfl) ?_
      refine lv_goto (tgt := 19) hx hb dX12_limited_15 (by decide) ?_
      exact W.eq (by rw [if_pos hc2, if_neg hc11] <;> rfl) (hJ _ _ hH hS)
  · refine lv_iload_n hx hb dX12_limited_5 rfl (lv_at hl 1 rfl) ?_
    refine lv_goto (tgt := 19) hx hb dX12_limited_6 (by decide) ?_
    exact W.eq (by rw [if_neg hc2] <;> rfl) (hJ _ _ hH hS)
def f_X12_looks_L165 (a1 : Int32) (v157_3 : Int32) (j226 : CW → Option (CW)) : Nat → Int32 → CW → Option (CW)
  | 0, _, _ => none
  | n165 + 1, v165_4, w165_ => (if (v157_3 < 0 ∨ 9 ≤ v157_3.toNatClampNeg) then none else (if ((1330 + (w165_.1 2 v157_3.toNatClampNeg)) < 0 ∨ 3250 ≤ (1330 + (w165_.1 2 v157_3.toNatClampNeg)).toNatClampNeg) then none else (if (w165_.1 0 (1330 + (w165_.1 2 v157_3.toNatClampNeg)).toNatClampNeg) ≤ v165_4 then (j226 w165_) else (if (v157_3 < 0 ∨ 9 ≤ v157_3.toNatClampNeg) then none else (if ((230 + (w165_.1 2 v157_3.toNatClampNeg)) < 0 ∨ 3250 ≤ (230 + (w165_.1 2 v157_3.toNatClampNeg)).toNatClampNeg) then none else (if a1 < (w165_.1 0 (230 + (w165_.1 2 v157_3.toNatClampNeg)).toNatClampNeg) then (j226 w165_) else (if (v157_3 < 0 ∨ 9 ≤ v157_3.toNatClampNeg) then none else (Option.bind (f_X12_takes w165_ ((8 * (w165_.1 2 v157_3.toNatClampNeg)) + v165_4)) fun q217 => (nmk (v165_4 + 1) fun (x220 : Int32) => (f_X12_looks_L165 a1 v157_3 j226 n165 x220 q217))))))))))
def f_X12_looks_L157 (a1 : Int32) (y155_2 : Int32) (j232 : CW → Option (CW)) : Nat → Int32 → CW → Option (CW)
  | 0, _, _ => none
  | n157 + 1, v157_3, w157_ => (if y155_2 ≤ v157_3 then (j232 w157_) else (nmk (fun (w226_ : CW) => (nmk (v157_3 + 1) fun (x226 : Int32) => (f_X12_looks_L157 a1 y155_2 j232 n157 x226 w226_))) fun j226 => (f_X12_looks_L165 a1 v157_3 j226 FU 0 w157_)))
def f_X12_looks_L80 (v67_3 : Int32) (j138 : Int32 → CW → Option (CW)) : Nat → Int32 → CW → Option (CW)
  | 0, _, _ => none
  | n80 + 1, v80_4, w80_ => (if v80_4 ≤ 0 then (j138 v80_4 w80_) else (if ((v80_4 - 1) < 0 ∨ 9 ≤ (v80_4 - 1).toNatClampNeg) then none else (if ((230 + (w80_.1 2 (v80_4 - 1).toNatClampNeg)) < 0 ∨ 3250 ≤ (230 + (w80_.1 2 (v80_4 - 1).toNatClampNeg)).toNatClampNeg) then none else (if ((230 + v67_3) < 0 ∨ 3250 ≤ (230 + v67_3).toNatClampNeg) then none else (if (w80_.1 0 (230 + (w80_.1 2 (v80_4 - 1).toNatClampNeg)).toNatClampNeg) ≤ (w80_.1 0 (230 + v67_3).toNatClampNeg) then (j138 v80_4 w80_) else (if ((v80_4 - 1) < 0 ∨ 9 ≤ (v80_4 - 1).toNatClampNeg) then none else (if (v80_4 < 0 ∨ 9 ≤ v80_4.toNatClampNeg) then none else (nmk (sC w80_ 2 v80_4.toNatClampNeg (w80_.1 2 (v80_4 - 1).toNatClampNeg)) fun w131 => (nmk (v80_4 + (-1)) fun (x132 : Int32) => (f_X12_looks_L80 v67_3 j138 n80 x132 w131))))))))))
def f_X12_looks_L67 (j155 : Int32 → CW → Option (CW)) : Nat → Int32 → Int32 → CW → Option (CW)
  | 0, _, _, _ => none
  | n67 + 1, v67_2, v67_3, w67_ => (if ((1 : Int32) < 0 ∨ 3250 ≤ (1 : Int32).toNatClampNeg) then none else (if (w67_.1 0 (1 : Int32).toNatClampNeg) ≤ v67_3 then (j155 v67_2 w67_) else (nmk (fun (y138_4 : Int32) (w138_ : CW) => (if (y138_4 < 0 ∨ 9 ≤ y138_4.toNatClampNeg) then none else (nmk (sC w138_ 2 y138_4.toNatClampNeg v67_3) fun w145 => (nmk (v67_2 + 1) fun (x146 : Int32) => (nmk (v67_3 + 1) fun (x149 : Int32) => (f_X12_looks_L67 j155 n67 x146 x149 w145)))))) fun j138 => (f_X12_looks_L80 v67_3 j138 FU v67_2 w67_))))
def f_X12_looks_L44 (j63 : CW → Option (CW)) : Nat → Int32 → CW → Option (CW)
  | 0, _, _ => none
  | n44 + 1, v44_2, w44_ => (if 30 ≤ v44_2 then (j63 w44_) else (if (v44_2 < 0 ∨ 30 ≤ v44_2.toNatClampNeg) then none else (nmk (sC w44_ 7 v44_2.toNatClampNeg (vp_nar .boolean 0)) fun w56 => (nmk (v44_2 + 1) fun (x57 : Int32) => (f_X12_looks_L44 j63 n44 x57 w56)))))
def f_X12_looks (w : CW) (a1 : Int32) : Option (CW) := (if ((2 : Int32) < 0 ∨ 8 ≤ (2 : Int32).toNatClampNeg) then none else (nmk (sC w 3 (2 : Int32).toNatClampNeg 12) fun w7 => (if ((3 : Int32) < 0 ∨ 8 ≤ (3 : Int32).toNatClampNeg) then none else (nmk (sC w7 3 (3 : Int32).toNatClampNeg 1) fun w14 => (if ((4 : Int32) < 0 ∨ 8 ≤ (4 : Int32).toNatClampNeg) then none else (nmk (sC w14 3 (4 : Int32).toNatClampNeg 3) fun w21 => (if ((5 : Int32) < 0 ∨ 8 ≤ (5 : Int32).toNatClampNeg) then none else (nmk (sC w21 3 (5 : Int32).toNatClampNeg 5) fun w28 => (if ((6 : Int32) < 0 ∨ 8 ≤ (6 : Int32).toNatClampNeg) then none else (nmk (sC w28 3 (6 : Int32).toNatClampNeg 1) fun w36 => (nmk (sS w36 13 0) fun w39 => (nmk (fun (w63_ : CW) => (nmk (fun (y155_2 : Int32) (w155_ : CW) => (nmk (fun (w232_ : CW) => (if ((2 : Int32) < 0 ∨ 8 ≤ (2 : Int32).toNatClampNeg) then none else (if ((2 : Int32) < 0 ∨ 8 ≤ (2 : Int32).toNatClampNeg) then none else (nmk (sC w232_ 3 (2 : Int32).toNatClampNeg (f_X12_limited (w232_.1 3 (2 : Int32).toNatClampNeg) 10 40)) fun w250 => (if ((3 : Int32) < 0 ∨ 8 ≤ (3 : Int32).toNatClampNeg) then none else (if ((3 : Int32) < 0 ∨ 8 ≤ (3 : Int32).toNatClampNeg) then none else (nmk (sC w250 3 (3 : Int32).toNatClampNeg (f_X12_limited (w250.1 3 (3 : Int32).toNatClampNeg) 1 9)) fun w268 => (if ((4 : Int32) < 0 ∨ 8 ≤ (4 : Int32).toNatClampNeg) then none else (if ((3 : Int32) < 0 ∨ 8 ≤ (3 : Int32).toNatClampNeg) then none else (if ((4 : Int32) < 0 ∨ 8 ≤ (4 : Int32).toNatClampNeg) then none else (nmk (sC w268 3 (4 : Int32).toNatClampNeg (f_X12_limited (w268.1 3 (4 : Int32).toNatClampNeg) (w268.1 3 (3 : Int32).toNatClampNeg) 9)) fun w291 => (some w291)))))))))))) fun j232 => (f_X12_looks_L157 a1 y155_2 j232 FU 0 w155_))) fun j155 => (f_X12_looks_L67 j155 FU 0 0 w63_))) fun j63 => (f_X12_looks_L44 j63 FU 0 w39)))))))))))))
abbrev rm_X12_looks : Room := { frames := 3, cells := 0, slots := 0, locals := 47 }
theorem cn_X12_looks : CN yX12_looks 1 := ⟨by decide +kernel, by decide +kernel, by decide +kernel⟩
set_option maxHeartbeats 4000000 in
set_option maxRecDepth 100000 in
theorem c_X12_looks (l : Launch) (G : GX) (w : CW) (a1 : Int32) (q : CW) (hf : f_X12_looks w a1 = some q) : MV l G yX12_looks cX12_looks 5 rm_X12_looks [.ref (G.2.2.1 300), .int a1] (rA G) (rH G w) (rH G q) := by
  refine cM_start (by decide +kernel) (Nat.le_of_ble_eq_true rfl) ?_
  intro p e s m below meth c ls X hH hl
  have hS : va_S (rA G) s.heap s.heap [] := va_S.rf
  have hx := X.1.1
  have hb := X.1.2.1
  generalize hargs : ([.ref (G.2.2.1 300), .int a1] : List Value).toArray = args at X ⊢
  generalize hQ : MQ below (QV (rA G) (rH G q)) args s 0 0 (rA G) = Q
  have hl : lv_has ls 5 [(0, .ref (G.2.2.1 300)), (1, .int a1)] := hl
  unfold f_X12_looks at hf
  refine lv_aload_n hx hb dX12_looks_0 rfl (lv_at hl 0 rfl) ?_
  refine ro_get (C := RX12) (N := 30) X hH 0 (by decide) rO rfl inBX12 8 (by decide) rfl bw1386 dX12_looks_1 ?_
  refine lv_iconst (v := 2) hx hb dX12_looks_4 (by decide) ?_
  refine lv_bipush (v := 12) hx hb dX12_looks_5 (by decide) ?_
  by_cases hc : ((2 : Int32) < 0 ∨ 8 ≤ (2 : Int32).toNatClampNeg)
  · cases (fo_t hc hf)
  have hf := fo_f hc hf
  refine ra_st X hH hS 3 (by decide) (by decide) hc dX12_looks_7 (fun H locs hH hS => ?_)
  obtain ⟨w7, ew7⟩ : ∃ z : CW, z = (sC w 3 (2 : Int32).toNatClampNeg 12) := ⟨_, rfl⟩
  have hf := nm_s hf w7 ew7
  have hH : rH G w7 H := ew7 ▸ hH
  refine lv_aload_n hx hb dX12_looks_8 rfl (lv_at hl 0 rfl) ?_
  refine ro_get (C := RX12) (N := 30) X hH 0 (by decide) rO rfl inBX12 8 (by decide) rfl bw1386 dX12_looks_9 ?_
  refine lv_iconst (v := 3) hx hb dX12_looks_12 (by decide) ?_
  refine lv_iconst (v := 1) hx hb dX12_looks_13 (by decide) ?_
  by_cases hc : ((3 : Int32) < 0 ∨ 8 ≤ (3 : Int32).toNatClampNeg)
  · cases (fo_t hc hf)
  have hf := fo_f hc hf
  refine ra_st X hH hS 3 (by decide) (by decide) hc dX12_looks_14 (fun H locs hH hS => ?_)
  obtain ⟨w14, ew14⟩ : ∃ z : CW, z = (sC w7 3 (3 : Int32).toNatClampNeg 1) := ⟨_, rfl⟩
  have hf := nm_s hf w14 ew14
  have hH : rH G w14 H := ew14 ▸ hH
  refine lv_aload_n hx hb dX12_looks_15 rfl (lv_at hl 0 rfl) ?_
  refine ro_get (C := RX12) (N := 30) X hH 0 (by decide) rO rfl inBX12 8 (by decide) rfl bw1386 dX12_looks_16 ?_
  refine lv_iconst (v := 4) hx hb dX12_looks_19 (by decide) ?_
  refine lv_iconst (v := 3) hx hb dX12_looks_20 (by decide) ?_
  by_cases hc : ((4 : Int32) < 0 ∨ 8 ≤ (4 : Int32).toNatClampNeg)
  · cases (fo_t hc hf)
  have hf := fo_f hc hf
  refine ra_st X hH hS 3 (by decide) (by decide) hc dX12_looks_21 (fun H locs hH hS => ?_)
  obtain ⟨w21, ew21⟩ : ∃ z : CW, z = (sC w14 3 (4 : Int32).toNatClampNeg 3) := ⟨_, rfl⟩
  have hf := nm_s hf w21 ew21
  have hH : rH G w21 H := ew21 ▸ hH
  refine lv_aload_n hx hb dX12_looks_22 rfl (lv_at hl 0 rfl) ?_
  refine ro_get (C := RX12) (N := 30) X hH 0 (by decide) rO rfl inBX12 8 (by decide) rfl bw1386 dX12_looks_23 ?_
  refine lv_iconst (v := 5) hx hb dX12_looks_26 (by decide) ?_
  refine lv_iconst (v := 5) hx hb dX12_looks_27 (by decide) ?_
  by_cases hc : ((5 : Int32) < 0 ∨ 8 ≤ (5 : Int32).toNatClampNeg)
  · cases (fo_t hc hf)
  have hf := fo_f hc hf
  refine ra_st X hH hS 3 (by decide) (by decide) hc dX12_looks_28 (fun H locs hH hS => ?_)
  obtain ⟨w28, ew28⟩ : ∃ z : CW, z = (sC w21 3 (5 : Int32).toNatClampNeg 5) := ⟨_, rfl⟩
  have hf := nm_s hf w28 ew28
  have hH : rH G w28 H := ew28 ▸ hH
  refine lv_aload_n hx hb dX12_looks_29 rfl (lv_at hl 0 rfl) ?_
  refine ro_get (C := RX12) (N := 30) X hH 0 (by decide) rO rfl inBX12 8 (by decide) rfl bw1386 dX12_looks_30 ?_
  refine lv_bipush (v := 6) hx hb dX12_looks_33 (by decide) ?_
  refine lv_iconst (v := 1) hx hb dX12_looks_35 (by decide) ?_
  by_cases hc : ((6 : Int32) < 0 ∨ 8 ≤ (6 : Int32).toNatClampNeg)
  · cases (fo_t hc hf)
  have hf := fo_f hc hf
  refine ra_st X hH hS 3 (by decide) (by decide) hc dX12_looks_36 (fun H locs hH hS => ?_)
  obtain ⟨w36, ew36⟩ : ∃ z : CW, z = (sC w28 3 (6 : Int32).toNatClampNeg 1) := ⟨_, rfl⟩
  have hf := nm_s hf w36 ew36
  have hH : rH G w36 H := ew36 ▸ hH
  refine lv_aload_n hx hb dX12_looks_37 rfl (lv_at hl 0 rfl) ?_
  refine lv_iconst (v := 0) hx hb dX12_looks_38 (by decide) ?_
  refine ro_put (C := RX12) (N := 30) X hH hS 0 (by decide) rO rfl inBX12 tyX12 tyX12_ok nmX12 13 (by decide) bw1391 rfl rfl rfl (by simp) (sS w36 13 0) rfl rE_sS dX12_looks_39 (fun H locs hH hS => ?_)
  obtain ⟨w39, ew39⟩ : ∃ z : CW, z = (sS w36 13 0) := ⟨_, rfl⟩
  have hf := nm_s hf w39 ew39
  have hH : rH G w39 H := ew39 ▸ hH
  refine lv_iconst (v := 0) hx hb dX12_looks_42 (by decide) ?_
  refine lv_istore_n (lv' := [(2, .int 0), (0, .ref (G.2.2.1 300)), (1, .int a1)]) hx hb dX12_looks_43 rfl hl (by decide) rfl (fun ls hl => ?_)
  obtain ⟨j63, ej63, hf⟩ := nm_x hf
  have hj63 : ∀ (w63_ : CW) (H : Heap) (locs : List Loc) (ls : Array Slot), j63 w63_ = some q → rH G w63_ H → va_S (rA G) s.heap H locs → lv_has ls 5 [(0, .ref (G.2.2.1 300)), (1, .int a1)] → W p l e rm_X12_looks s m args below meth c H locs 0 0 Q (F0 m 63 ls []) := by
    intro w63_ H locs ls hf hH hS hl
    have hf := jb1 ej63 hf
    refine lv_iconst (v := 0) hx hb dX12_looks_63 (by decide) ?_
    refine lv_istore_n (lv' := [(2, .int 0), (0, .ref (G.2.2.1 300)), (1, .int a1)]) hx hb dX12_looks_64 rfl hl (by decide) rfl (fun ls hl => ?_)
    refine lv_iconst (v := 0) hx hb dX12_looks_65 (by decide) ?_
    refine lv_istore_n (lv' := [(3, .int 0), (2, .int 0), (0, .ref (G.2.2.1 300)), (1, .int a1)]) hx hb dX12_looks_66 rfl hl (by decide) rfl (fun ls hl => ?_)
    obtain ⟨j155, ej155, hf⟩ := nm_x hf
    have hj155 : ∀ (y155_2 : Int32) (w155_ : CW) (H : Heap) (locs : List Loc) (ls : Array Slot), j155 y155_2 w155_ = some q → rH G w155_ H → va_S (rA G) s.heap H locs → lv_has ls 5 [(2, .int y155_2), (0, .ref (G.2.2.1 300)), (1, .int a1)] → W p l e rm_X12_looks s m args below meth c H locs 0 0 Q (F0 m 155 ls []) := by
      intro y155_2 w155_ H locs ls hf hH hS hl
      have hf := jb2 ej155 hf
      refine lv_iconst (v := 0) hx hb dX12_looks_155 (by decide) ?_
      refine lv_istore_n (lv' := [(3, .int 0), (2, .int y155_2), (0, .ref (G.2.2.1 300)), (1, .int a1)]) hx hb dX12_looks_156 rfl hl (by decide) rfl (fun ls hl => ?_)
      obtain ⟨j232, ej232, hf⟩ := nm_x hf
      have hj232 : ∀ (w232_ : CW) (H : Heap) (locs : List Loc) (ls : Array Slot), j232 w232_ = some q → rH G w232_ H → va_S (rA G) s.heap H locs → lv_has ls 5 [(0, .ref (G.2.2.1 300))] → W p l e rm_X12_looks s m args below meth c H locs 0 0 Q (F0 m 232 ls []) := by
        intro w232_ H locs ls hf hH hS hl
        have hf := jb1 ej232 hf
        refine lv_aload_n hx hb dX12_looks_232 rfl (lv_at hl 0 rfl) ?_
        refine ro_get (C := RX12) (N := 30) X hH 0 (by decide) rO rfl inBX12 8 (by decide) rfl bw1386 dX12_looks_233 ?_
        refine lv_iconst (v := 2) hx hb dX12_looks_236 (by decide) ?_
        refine lv_aload_n hx hb dX12_looks_237 rfl (lv_at hl 0 rfl) ?_
        refine ro_get (C := RX12) (N := 30) X hH 0 (by decide) rO rfl inBX12 8 (by decide) rfl bw1386 dX12_looks_238 ?_
        refine lv_iconst (v := 2) hx hb dX12_looks_241 (by decide) ?_
        by_cases hc : ((2 : Int32) < 0 ∨ 8 ≤ (2 : Int32).toNatClampNeg)
        · cases (fo_t hc hf)
        have hf := fo_f hc hf
        refine ra_ld X hH 3 (by decide) (by decide) hc dX12_looks_242 ?_
        refine lv_bipush (v := 10) hx hb dX12_looks_243 (by decide) ?_
        refine lv_bipush (v := 40) hx hb dX12_looks_245 (by decide) ?_
        refine cGi (cSrun (rest := [.int 2, .ref (G.2.2.1 304)]) X (c_X12_limited l G (rH G w232_) (rA G) rA_g (w232_.1 3 (2 : Int32).toNatClampNeg) 10 40 _ rfl) bw1574 bw1575 bw105 bw1576 cn_X12_limited ⟨rfl, rfl, Nat.le_of_ble_eq_true rfl, Nat.le_of_ble_eq_true rfl⟩ rA_g hH hS hl rfl (Nat.le_of_ble_eq_true rfl) dX12_looks_247) hS (fun H locs hH hS => ?_)
        by_cases hc : ((2 : Int32) < 0 ∨ 8 ≤ (2 : Int32).toNatClampNeg)
        · cases (fo_t hc hf)
        have hf := fo_f hc hf
        refine ra_st X hH hS 3 (by decide) (by decide) hc dX12_looks_250 (fun H locs hH hS => ?_)
        obtain ⟨w250, ew250⟩ : ∃ z : CW, z = (sC w232_ 3 (2 : Int32).toNatClampNeg (f_X12_limited (w232_.1 3 (2 : Int32).toNatClampNeg) 10 40)) := ⟨_, rfl⟩
        have hf := nm_s hf w250 ew250
        have hH : rH G w250 H := ew250 ▸ hH
        refine lv_aload_n hx hb dX12_looks_251 rfl (lv_at hl 0 rfl) ?_
        refine ro_get (C := RX12) (N := 30) X hH 0 (by decide) rO rfl inBX12 8 (by decide) rfl bw1386 dX12_looks_252 ?_
        refine lv_iconst (v := 3) hx hb dX12_looks_255 (by decide) ?_
        refine lv_aload_n hx hb dX12_looks_256 rfl (lv_at hl 0 rfl) ?_
        refine ro_get (C := RX12) (N := 30) X hH 0 (by decide) rO rfl inBX12 8 (by decide) rfl bw1386 dX12_looks_257 ?_
        refine lv_iconst (v := 3) hx hb dX12_looks_260 (by decide) ?_
        by_cases hc : ((3 : Int32) < 0 ∨ 8 ≤ (3 : Int32).toNatClampNeg)
        · cases (fo_t hc hf)
        have hf := fo_f hc hf
        refine ra_ld X hH 3 (by decide) (by decide) hc dX12_looks_261 ?_
        refine lv_iconst (v := 1) hx hb dX12_looks_262 (by decide) ?_
        refine lv_bipush (v := 9) hx hb dX12_looks_263 (by decide) ?_
        refine cGi (cSrun (rest := [.int 3, .ref (G.2.2.1 304)]) X (c_X12_limited l G (rH G w250) (rA G) rA_g (w250.1 3 (3 : Int32).toNatClampNeg) 1 9 _ rfl) bw1574 bw1575 bw105 bw1576 cn_X12_limited ⟨rfl, rfl, Nat.le_of_ble_eq_true rfl, Nat.le_of_ble_eq_true rfl⟩ rA_g hH hS hl rfl (Nat.le_of_ble_eq_true rfl) dX12_looks_265) hS (fun H locs hH hS => ?_)
        by_cases hc : ((3 : Int32) < 0 ∨ 8 ≤ (3 : Int32).toNatClampNeg)
        · cases (fo_t hc hf)
        have hf := fo_f hc hf
        refine ra_st X hH hS 3 (by decide) (by decide) hc dX12_looks_268 (fun H locs hH hS => ?_)
        obtain ⟨w268, ew268⟩ : ∃ z : CW, z = (sC w250 3 (3 : Int32).toNatClampNeg (f_X12_limited (w250.1 3 (3 : Int32).toNatClampNeg) 1 9)) := ⟨_, rfl⟩
        have hf := nm_s hf w268 ew268
        have hH : rH G w268 H := ew268 ▸ hH
        refine lv_aload_n hx hb dX12_looks_269 rfl (lv_at hl 0 rfl) ?_
        refine ro_get (C := RX12) (N := 30) X hH 0 (by decide) rO rfl inBX12 8 (by decide) rfl bw1386 dX12_looks_270 ?_
        refine lv_iconst (v := 4) hx hb dX12_looks_273 (by decide) ?_
        refine lv_aload_n hx hb dX12_looks_274 rfl (lv_at hl 0 rfl) ?_
        refine ro_get (C := RX12) (N := 30) X hH 0 (by decide) rO rfl inBX12 8 (by decide) rfl bw1386 dX12_looks_275 ?_
        refine lv_iconst (v := 4) hx hb dX12_looks_278 (by decide) ?_
        by_cases hc : ((4 : Int32) < 0 ∨ 8 ≤ (4 : Int32).toNatClampNeg)
        · cases (fo_t hc hf)
        have hf := fo_f hc hf
        refine ra_ld X hH 3 (by decide) (by decide) hc dX12_looks_279 ?_
        refine lv_aload_n hx hb dX12_looks_280 rfl (lv_at hl 0 rfl) ?_
        refine ro_get (C := RX12) (N := 30) X hH 0 (by decide) rO rfl inBX12 8 (by decide) rfl bw1386 dX12_looks_281 ?_
        refine lv_iconst (v := 3) hx hb dX12_looks_284 (by decide) ?_
        by_cases hc : ((3 : Int32) < 0 ∨ 8 ≤ (3 : Int32).toNatClampNeg)
        · cases (fo_t hc hf)
        have hf := fo_f hc hf
        refine ra_ld X hH 3 (by decide) (by decide) hc dX12_looks_285 ?_
        refine lv_bipush (v := 9) hx hb dX12_looks_286 (by decide) ?_
        refine cGi (cSrun (rest := [.int 4, .ref (G.2.2.1 304)]) X (c_X12_limited l G (rH G w268) (rA G) rA_g (w268.1 3 (4 : Int32).toNatClampNeg) (w268.1 3 (3 : Int32).toNatClampNeg) 9 _ rfl) bw1574 bw1575 bw105 bw1576 cn_X12_limited ⟨rfl, rfl, Nat.le_of_ble_eq_true rfl, Nat.le_of_ble_eq_true rfl⟩ rA_g hH hS hl rfl (Nat.le_of_ble_eq_true rfl) dX12_looks_288) hS (fun H locs hH hS => ?_)
        by_cases hc : ((4 : Int32) < 0 ∨ 8 ≤ (4 : Int32).toNatClampNeg)
        · cases (fo_t hc hf)
        have hf := fo_f hc hf
        refine ra_st X hH hS 3 (by decide) (by decide) hc dX12_looks_291 (fun H locs hH hS => ?_)
        obtain ⟨w291, ew291⟩ : ∃ z : CW, z = (sC w268 3 (4 : Int32).toNatClampNeg (f_X12_limited (w268.1 3 (4 : Int32).toNatClampNeg) (w268.1 3 (3 : Int32).toNatClampNeg) 9)) := ⟨_, rfl⟩
        have hf := nm_s hf w291 ew291
        have hH : rH G w291 H := ew291 ▸ hH
        subst hQ
        exact cEv X (rH1 (so_s hf) hH) hS dX12_looks_292
      have hL157 : ∀ (n157 : Nat) (v157_3 : Int32) (w157_ : CW) (H : Heap) (locs : List Loc) (ls : Array Slot), f_X12_looks_L157 a1 y155_2 j232 n157 v157_3 w157_ = some q → rH G w157_ H → va_S (rA G) s.heap H locs → lv_has ls 5 [(3, .int v157_3), (2, .int y155_2), (0, .ref (G.2.2.1 300)), (1, .int a1)] → W p l e rm_X12_looks s m args below meth c H locs 0 0 Q (F0 m 157 ls []) := by
        intro n157
        induction n157 with
        | zero => intro v157_3 w157_ H locs ls hf; rw [f_X12_looks_L157] at hf; cases hf
        | succ n157 ih157 =>
          intro v157_3 w157_ H locs ls hf hH hS hl
          rw [f_X12_looks_L157] at hf
          refine lv_iload_n hx hb dX12_looks_157 rfl (lv_at hl 0 rfl) ?_
          refine lv_iload_n hx hb dX12_looks_158 rfl (lv_at hl 1 rfl) ?_
          refine lv_icmp_ge (tgt := 232) hx hb dX12_looks_159 (by decide) (fun hc => ?_) (fun hc => ?_)
          · have hf := fo_t hc hf
            exact hj232 _ _ _ _ hf hH hS (lv_sub hl [2] rfl)
          have hf := fo_f hc hf
          refine lv_iconst (v := 0) hx hb dX12_looks_162 (by decide) ?_
          refine lv_istore (lv' := [(4, .int 0), (3, .int v157_3), (2, .int y155_2), (0, .ref (G.2.2.1 300)), (1, .int a1)]) hx hb dX12_looks_163 hl (by decide) rfl (fun ls hl => ?_)
          obtain ⟨j226, ej226, hf⟩ := nm_x hf
          have hj226 : ∀ (w226_ : CW) (H : Heap) (locs : List Loc) (ls : Array Slot), j226 w226_ = some q → rH G w226_ H → va_S (rA G) s.heap H locs → lv_has ls 5 [(3, .int v157_3), (2, .int y155_2), (0, .ref (G.2.2.1 300)), (1, .int a1)] → W p l e rm_X12_looks s m args below meth c H locs 0 0 Q (F0 m 226 ls []) := by
            intro w226_ H locs ls hf hH hS hl
            have hf := jb1 ej226 hf
            obtain ⟨x226, ex226⟩ : ∃ z : Int32, z = (v157_3 + 1) := ⟨_, rfl⟩
            have hf := nm_s hf x226 ex226
            refine lv_iinc (v := x226) (lv' := [(3, .int x226), (2, .int y155_2), (0, .ref (G.2.2.1 300)), (1, .int a1)]) hx hb dX12_looks_226 hl (k := 0) rfl (by rw [ex226]; rfl) (by decide) rfl (fun ls hl => ?_)
            refine lv_goto (tgt := 157) hx hb dX12_looks_229 (by decide) ?_
            exact ih157 _ _ _ _ _ hf hH hS (lv_sub hl [0, 1, 2, 3] rfl)
          have hL165 : ∀ (n165 : Nat) (v165_4 : Int32) (w165_ : CW) (H : Heap) (locs : List Loc) (ls : Array Slot), f_X12_looks_L165 a1 v157_3 j226 n165 v165_4 w165_ = some q → rH G w165_ H → va_S (rA G) s.heap H locs → lv_has ls 5 [(4, .int v165_4), (3, .int v157_3), (2, .int y155_2), (0, .ref (G.2.2.1 300)), (1, .int a1)] → W p l e rm_X12_looks s m args below meth c H locs 0 0 Q (F0 m 165 ls []) := by
            intro n165
            induction n165 with
            | zero => intro v165_4 w165_ H locs ls hf; rw [f_X12_looks_L165] at hf; cases hf
            | succ n165 ih165 =>
              intro v165_4 w165_ H locs ls hf hH hS hl
              rw [f_X12_looks_L165] at hf
              refine lv_iload hx hb dX12_looks_165 (lv_at hl 0 rfl) ?_
              refine lv_aload_n hx hb dX12_looks_167 rfl (lv_at hl 3 rfl) ?_
              refine ro_get (C := RX12) (N := 30) X hH 0 (by decide) rO rfl inBX12 1 (by decide) rfl bw1379 dX12_looks_168 ?_
              refine lv_sipush (v := 1330) hx hb dX12_looks_171 (by decide) ?_
              refine lv_aload_n hx hb dX12_looks_174 rfl (lv_at hl 3 rfl) ?_
              refine ro_get (C := RX12) (N := 30) X hH 0 (by decide) rO rfl inBX12 7 (by decide) rfl bw1385 dX12_looks_175 ?_
              refine lv_iload_n hx hb dX12_looks_178 rfl (lv_at hl 1 rfl) ?_
              by_cases hc : (v157_3 < 0 ∨ 9 ≤ v157_3.toNatClampNeg)
              · cases (fo_t hc hf)
              have hf := fo_f hc hf
              refine ra_ld X hH 2 (by decide) (by decide) hc dX12_looks_179 ?_
              refine lv_iadd hx hb dX12_looks_180 ?_
              by_cases hc : ((1330 + (w165_.1 2 v157_3.toNatClampNeg)) < 0 ∨ 3250 ≤ (1330 + (w165_.1 2 v157_3.toNatClampNeg)).toNatClampNeg)
              · cases (fo_t hc hf)
              have hf := fo_f hc hf
              refine ra_ld X hH 0 (by decide) (by decide) hc dX12_looks_181 ?_
              refine lv_icmp_ge (tgt := 226) hx hb dX12_looks_182 (by decide) (fun hc => ?_) (fun hc => ?_)
              · have hf := fo_t hc hf
                exact hj226 _ _ _ _ hf hH hS (lv_sub hl [1, 2, 3, 4] rfl)
              have hf := fo_f hc hf
              refine lv_aload_n hx hb dX12_looks_185 rfl (lv_at hl 3 rfl) ?_
              refine ro_get (C := RX12) (N := 30) X hH 0 (by decide) rO rfl inBX12 1 (by decide) rfl bw1379 dX12_looks_186 ?_
              refine lv_sipush (v := 230) hx hb dX12_looks_189 (by decide) ?_
              refine lv_aload_n hx hb dX12_looks_192 rfl (lv_at hl 3 rfl) ?_
              refine ro_get (C := RX12) (N := 30) X hH 0 (by decide) rO rfl inBX12 7 (by decide) rfl bw1385 dX12_looks_193 ?_
              refine lv_iload_n hx hb dX12_looks_196 rfl (lv_at hl 1 rfl) ?_
              by_cases hc : (v157_3 < 0 ∨ 9 ≤ v157_3.toNatClampNeg)
              · cases (fo_t hc hf)
              have hf := fo_f hc hf
              refine ra_ld X hH 2 (by decide) (by decide) hc dX12_looks_197 ?_
              refine lv_iadd hx hb dX12_looks_198 ?_
              by_cases hc : ((230 + (w165_.1 2 v157_3.toNatClampNeg)) < 0 ∨ 3250 ≤ (230 + (w165_.1 2 v157_3.toNatClampNeg)).toNatClampNeg)
              · cases (fo_t hc hf)
              have hf := fo_f hc hf
              refine ra_ld X hH 0 (by decide) (by decide) hc dX12_looks_199 ?_
              refine lv_iload_n hx hb dX12_looks_200 rfl (lv_at hl 4 rfl) ?_
              refine lv_icmp_gt (tgt := 226) hx hb dX12_looks_201 (by decide) (fun hc => ?_) (fun hc => ?_)
              · have hf := fo_t hc hf
                exact hj226 _ _ _ _ hf hH hS (lv_sub hl [1, 2, 3, 4] rfl)
              have hf := fo_f hc hf
              refine lv_aload_n hx hb dX12_looks_204 rfl (lv_at hl 3 rfl) ?_
              refine lv_bipush (v := 8) hx hb dX12_looks_205 (by decide) ?_
              refine lv_aload_n hx hb dX12_looks_207 rfl (lv_at hl 3 rfl) ?_
              refine ro_get (C := RX12) (N := 30) X hH 0 (by decide) rO rfl inBX12 7 (by decide) rfl bw1385 dX12_looks_208 ?_
              refine lv_iload_n hx hb dX12_looks_211 rfl (lv_at hl 1 rfl) ?_
              by_cases hc : (v157_3 < 0 ∨ 9 ≤ v157_3.toNatClampNeg)
              · cases (fo_t hc hf)
              have hf := fo_f hc hf
              refine ra_ld X hH 2 (by decide) (by decide) hc dX12_looks_212 ?_
              refine lv_imul hx hb dX12_looks_213 ?_
              refine lv_iload hx hb dX12_looks_214 (lv_at hl 0 rfl) ?_
              refine lv_iadd hx hb dX12_looks_216 ?_
              obtain ⟨q217, hq217, hf⟩ := bd_s hf
              refine cGv (cVrun (rest := []) X (c_X12_takes l G w165_ ((8 * (w165_.1 2 v157_3.toNatClampNeg)) + v165_4) q217 hq217) bw1566 bw1568 bw61 bw105 bw1569 cn_X12_takes ⟨rfl, rfl, Nat.le_of_ble_eq_true rfl, Nat.le_of_ble_eq_true rfl⟩ (r_rec X hH) rA_g hH hS hl rfl (Nat.le_of_ble_eq_true rfl) dX12_looks_217) hS (fun H locs hH hS => ?_)
              obtain ⟨x220, ex220⟩ : ∃ z : Int32, z = (v165_4 + 1) := ⟨_, rfl⟩
              have hf := nm_s hf x220 ex220
              refine lv_iinc (v := x220) (lv' := [(4, .int x220), (3, .int v157_3), (2, .int y155_2), (0, .ref (G.2.2.1 300)), (1, .int a1)]) hx hb dX12_looks_220 hl (k := 0) rfl (by rw [ex220]; rfl) (by decide) rfl (fun ls hl => ?_)
              refine lv_goto (tgt := 165) hx hb dX12_looks_223 (by decide) ?_
              exact ih165 _ _ _ _ _ hf hH hS (lv_sub hl [0, 1, 2, 3, 4] rfl)
          exact hL165 _ _ _ _ _ _ hf hH hS (lv_sub hl [0, 1, 2, 3, 4] rfl)
      exact hL157 _ _ _ _ _ _ hf hH hS (lv_sub hl [0, 1, 2, 3] rfl)
    have hL67 : ∀ (n67 : Nat) (v67_2 : Int32) (v67_3 : Int32) (w67_ : CW) (H : Heap) (locs : List Loc) (ls : Array Slot), f_X12_looks_L67 j155 n67 v67_2 v67_3 w67_ = some q → rH G w67_ H → va_S (rA G) s.heap H locs → lv_has ls 5 [(3, .int v67_3), (2, .int v67_2), (0, .ref (G.2.2.1 300)), (1, .int a1)] → W p l e rm_X12_looks s m args below meth c H locs 0 0 Q (F0 m 67 ls []) := by
      intro n67
      induction n67 with
      | zero => intro v67_2 v67_3 w67_ H locs ls hf; rw [f_X12_looks_L67] at hf; cases hf
      | succ n67 ih67 =>
        intro v67_2 v67_3 w67_ H locs ls hf hH hS hl
        rw [f_X12_looks_L67] at hf
        refine lv_iload_n hx hb dX12_looks_67 rfl (lv_at hl 0 rfl) ?_
        refine lv_aload_n hx hb dX12_looks_68 rfl (lv_at hl 2 rfl) ?_
        refine ro_get (C := RX12) (N := 30) X hH 0 (by decide) rO rfl inBX12 1 (by decide) rfl bw1379 dX12_looks_69 ?_
        refine lv_iconst (v := 1) hx hb dX12_looks_72 (by decide) ?_
        by_cases hc : ((1 : Int32) < 0 ∨ 3250 ≤ (1 : Int32).toNatClampNeg)
        · cases (fo_t hc hf)
        have hf := fo_f hc hf
        refine ra_ld X hH 0 (by decide) (by decide) hc dX12_looks_73 ?_
        refine lv_icmp_ge (tgt := 155) hx hb dX12_looks_74 (by decide) (fun hc => ?_) (fun hc => ?_)
        · have hf := fo_t hc hf
          exact hj155 _ _ _ _ _ hf hH hS (lv_sub hl [1, 2, 3] rfl)
        have hf := fo_f hc hf
        refine lv_iload_n hx hb dX12_looks_77 rfl (lv_at hl 1 rfl) ?_
        refine lv_istore (lv' := [(4, .int v67_2), (3, .int v67_3), (2, .int v67_2), (0, .ref (G.2.2.1 300)), (1, .int a1)]) hx hb dX12_looks_78 hl (by decide) rfl (fun ls hl => ?_)
        obtain ⟨j138, ej138, hf⟩ := nm_x hf
        have hj138 : ∀ (y138_4 : Int32) (w138_ : CW) (H : Heap) (locs : List Loc) (ls : Array Slot), j138 y138_4 w138_ = some q → rH G w138_ H → va_S (rA G) s.heap H locs → lv_has ls 5 [(4, .int y138_4), (3, .int v67_3), (2, .int v67_2), (0, .ref (G.2.2.1 300)), (1, .int a1)] → W p l e rm_X12_looks s m args below meth c H locs 0 0 Q (F0 m 138 ls []) := by
          intro y138_4 w138_ H locs ls hf hH hS hl
          have hf := jb2 ej138 hf
          refine lv_aload_n hx hb dX12_looks_138 rfl (lv_at hl 3 rfl) ?_
          refine ro_get (C := RX12) (N := 30) X hH 0 (by decide) rO rfl inBX12 7 (by decide) rfl bw1385 dX12_looks_139 ?_
          refine lv_iload hx hb dX12_looks_142 (lv_at hl 0 rfl) ?_
          refine lv_iload_n hx hb dX12_looks_144 rfl (lv_at hl 1 rfl) ?_
          by_cases hc : (y138_4 < 0 ∨ 9 ≤ y138_4.toNatClampNeg)
          · cases (fo_t hc hf)
          have hf := fo_f hc hf
          refine ra_st X hH hS 2 (by decide) (by decide) hc dX12_looks_145 (fun H locs hH hS => ?_)
          obtain ⟨w145, ew145⟩ : ∃ z : CW, z = (sC w138_ 2 y138_4.toNatClampNeg v67_3) := ⟨_, rfl⟩
          have hf := nm_s hf w145 ew145
          have hH : rH G w145 H := ew145 ▸ hH
          obtain ⟨x146, ex146⟩ : ∃ z : Int32, z = (v67_2 + 1) := ⟨_, rfl⟩
          have hf := nm_s hf x146 ex146
          refine lv_iinc (v := x146) (lv' := [(2, .int x146), (4, .int y138_4), (3, .int v67_3), (0, .ref (G.2.2.1 300)), (1, .int a1)]) hx hb dX12_looks_146 hl (k := 2) rfl (by rw [ex146]; rfl) (by decide) rfl (fun ls hl => ?_)
          obtain ⟨x149, ex149⟩ : ∃ z : Int32, z = (v67_3 + 1) := ⟨_, rfl⟩
          have hf := nm_s hf x149 ex149
          refine lv_iinc (v := x149) (lv' := [(3, .int x149), (2, .int x146), (4, .int y138_4), (0, .ref (G.2.2.1 300)), (1, .int a1)]) hx hb dX12_looks_149 hl (k := 2) rfl (by rw [ex149]; rfl) (by decide) rfl (fun ls hl => ?_)
          refine lv_goto (tgt := 67) hx hb dX12_looks_152 (by decide) ?_
          exact ih67 _ _ _ _ _ _ hf hH hS (lv_sub hl [0, 1, 3, 4] rfl)
        have hL80 : ∀ (n80 : Nat) (v80_4 : Int32) (w80_ : CW) (H : Heap) (locs : List Loc) (ls : Array Slot), f_X12_looks_L80 v67_3 j138 n80 v80_4 w80_ = some q → rH G w80_ H → va_S (rA G) s.heap H locs → lv_has ls 5 [(4, .int v80_4), (3, .int v67_3), (2, .int v67_2), (0, .ref (G.2.2.1 300)), (1, .int a1)] → W p l e rm_X12_looks s m args below meth c H locs 0 0 Q (F0 m 80 ls []) := by
          intro n80
          induction n80 with
          | zero => intro v80_4 w80_ H locs ls hf; rw [f_X12_looks_L80] at hf; cases hf
          | succ n80 ih80 =>
            intro v80_4 w80_ H locs ls hf hH hS hl
            rw [f_X12_looks_L80] at hf
            refine lv_iload hx hb dX12_looks_80 (lv_at hl 0 rfl) ?_
            refine lv_if_le (tgt := 138) hx hb dX12_looks_82 (by decide) (fun hc => ?_) (fun hc => ?_)
            · have hf := fo_t hc hf
              exact hj138 _ _ _ _ _ hf hH hS (lv_sub hl [0, 1, 2, 3, 4] rfl)
            have hf := fo_f hc hf
            refine lv_aload_n hx hb dX12_looks_85 rfl (lv_at hl 3 rfl) ?_
            refine ro_get (C := RX12) (N := 30) X hH 0 (by decide) rO rfl inBX12 1 (by decide) rfl bw1379 dX12_looks_86 ?_
            refine lv_sipush (v := 230) hx hb dX12_looks_89 (by decide) ?_
            refine lv_aload_n hx hb dX12_looks_92 rfl (lv_at hl 3 rfl) ?_
            refine ro_get (C := RX12) (N := 30) X hH 0 (by decide) rO rfl inBX12 7 (by decide) rfl bw1385 dX12_looks_93 ?_
            refine lv_iload hx hb dX12_looks_96 (lv_at hl 0 rfl) ?_
            refine lv_iconst (v := 1) hx hb dX12_looks_98 (by decide) ?_
            refine lv_isub hx hb dX12_looks_99 ?_
            by_cases hc : ((v80_4 - 1) < 0 ∨ 9 ≤ (v80_4 - 1).toNatClampNeg)
            · cases (fo_t hc hf)
            have hf := fo_f hc hf
            refine ra_ld X hH 2 (by decide) (by decide) hc dX12_looks_100 ?_
            refine lv_iadd hx hb dX12_looks_101 ?_
            by_cases hc : ((230 + (w80_.1 2 (v80_4 - 1).toNatClampNeg)) < 0 ∨ 3250 ≤ (230 + (w80_.1 2 (v80_4 - 1).toNatClampNeg)).toNatClampNeg)
            · cases (fo_t hc hf)
            have hf := fo_f hc hf
            refine ra_ld X hH 0 (by decide) (by decide) hc dX12_looks_102 ?_
            refine lv_aload_n hx hb dX12_looks_103 rfl (lv_at hl 3 rfl) ?_
            refine ro_get (C := RX12) (N := 30) X hH 0 (by decide) rO rfl inBX12 1 (by decide) rfl bw1379 dX12_looks_104 ?_
            refine lv_sipush (v := 230) hx hb dX12_looks_107 (by decide) ?_
            refine lv_iload_n hx hb dX12_looks_110 rfl (lv_at hl 1 rfl) ?_
            refine lv_iadd hx hb dX12_looks_111 ?_
            by_cases hc : ((230 + v67_3) < 0 ∨ 3250 ≤ (230 + v67_3).toNatClampNeg)
            · cases (fo_t hc hf)
            have hf := fo_f hc hf
            refine ra_ld X hH 0 (by decide) (by decide) hc dX12_looks_112 ?_
            refine lv_icmp_le (tgt := 138) hx hb dX12_looks_113 (by decide) (fun hc => ?_) (fun hc => ?_)
            · have hf := fo_t hc hf
              exact hj138 _ _ _ _ _ hf hH hS (lv_sub hl [0, 1, 2, 3, 4] rfl)
            have hf := fo_f hc hf
            refine lv_aload_n hx hb dX12_looks_116 rfl (lv_at hl 3 rfl) ?_
            refine ro_get (C := RX12) (N := 30) X hH 0 (by decide) rO rfl inBX12 7 (by decide) rfl bw1385 dX12_looks_117 ?_
            refine lv_iload hx hb dX12_looks_120 (lv_at hl 0 rfl) ?_
            refine lv_aload_n hx hb dX12_looks_122 rfl (lv_at hl 3 rfl) ?_
            refine ro_get (C := RX12) (N := 30) X hH 0 (by decide) rO rfl inBX12 7 (by decide) rfl bw1385 dX12_looks_123 ?_
            refine lv_iload hx hb dX12_looks_126 (lv_at hl 0 rfl) ?_
            refine lv_iconst (v := 1) hx hb dX12_looks_128 (by decide) ?_
            refine lv_isub hx hb dX12_looks_129 ?_
            by_cases hc : ((v80_4 - 1) < 0 ∨ 9 ≤ (v80_4 - 1).toNatClampNeg)
            · cases (fo_t hc hf)
            have hf := fo_f hc hf
            refine ra_ld X hH 2 (by decide) (by decide) hc dX12_looks_130 ?_
            by_cases hc : (v80_4 < 0 ∨ 9 ≤ v80_4.toNatClampNeg)
            · cases (fo_t hc hf)
            have hf := fo_f hc hf
            refine ra_st X hH hS 2 (by decide) (by decide) hc dX12_looks_131 (fun H locs hH hS => ?_)
            obtain ⟨w131, ew131⟩ : ∃ z : CW, z = (sC w80_ 2 v80_4.toNatClampNeg (w80_.1 2 (v80_4 - 1).toNatClampNeg)) := ⟨_, rfl⟩
            have hf := nm_s hf w131 ew131
            have hH : rH G w131 H := ew131 ▸ hH
            obtain ⟨x132, ex132⟩ : ∃ z : Int32, z = (v80_4 + (-1)) := ⟨_, rfl⟩
            have hf := nm_s hf x132 ex132
            refine lv_iinc (v := x132) (lv' := [(4, .int x132), (3, .int v67_3), (2, .int v67_2), (0, .ref (G.2.2.1 300)), (1, .int a1)]) hx hb dX12_looks_132 hl (k := 0) rfl (by rw [ex132]; rfl) (by decide) rfl (fun ls hl => ?_)
            refine lv_goto (tgt := 80) hx hb dX12_looks_135 (by decide) ?_
            exact ih80 _ _ _ _ _ hf hH hS (lv_sub hl [0, 1, 2, 3, 4] rfl)
        exact hL80 _ _ _ _ _ _ hf hH hS (lv_sub hl [0, 1, 2, 3, 4] rfl)
    exact hL67 _ _ _ _ _ _ _ hf hH hS (lv_sub hl [0, 1, 2, 3] rfl)
  have hL44 : ∀ (n44 : Nat) (v44_2 : Int32) (w44_ : CW) (H : Heap) (locs : List Loc) (ls : Array Slot), f_X12_looks_L44 j63 n44 v44_2 w44_ = some q → rH G w44_ H → va_S (rA G) s.heap H locs → lv_has ls 5 [(2, .int v44_2), (0, .ref (G.2.2.1 300)), (1, .int a1)] → W p l e rm_X12_looks s m args below meth c H locs 0 0 Q (F0 m 44 ls []) := by
    intro n44
    induction n44 with
    | zero => intro v44_2 w44_ H locs ls hf; rw [f_X12_looks_L44] at hf; cases hf
    | succ n44 ih44 =>
      intro v44_2 w44_ H locs ls hf hH hS hl
      rw [f_X12_looks_L44] at hf
      refine lv_iload_n hx hb dX12_looks_44 rfl (lv_at hl 0 rfl) ?_
      refine lv_bipush (v := 30) hx hb dX12_looks_45 (by decide) ?_
      refine lv_icmp_ge (tgt := 63) hx hb dX12_looks_47 (by decide) (fun hc => ?_) (fun hc => ?_)
      · have hf := fo_t hc hf
        exact hj63 _ _ _ _ hf hH hS (lv_sub hl [1, 2] rfl)
      have hf := fo_f hc hf
      refine lv_aload_n hx hb dX12_looks_50 rfl (lv_at hl 1 rfl) ?_
      refine ro_get (C := RX12) (N := 30) X hH 0 (by decide) rO rfl inBX12 12 (by decide) rfl bw1390 dX12_looks_51 ?_
      refine lv_iload_n hx hb dX12_looks_54 rfl (lv_at hl 0 rfl) ?_
      refine lv_iconst (v := 0) hx hb dX12_looks_55 (by decide) ?_
      by_cases hc : (v44_2 < 0 ∨ 30 ≤ v44_2.toNatClampNeg)
      · cases (fo_t hc hf)
      have hf := fo_f hc hf
      refine rz_st X hH hS hc dX12_looks_56 (fun H locs hH hS => ?_)
      obtain ⟨w56, ew56⟩ : ∃ z : CW, z = (sC w44_ 7 v44_2.toNatClampNeg (vp_nar .boolean 0)) := ⟨_, rfl⟩
      have hf := nm_s hf w56 ew56
      have hH : rH G w56 H := ew56 ▸ hH
      obtain ⟨x57, ex57⟩ : ∃ z : Int32, z = (v44_2 + 1) := ⟨_, rfl⟩
      have hf := nm_s hf x57 ex57
      refine lv_iinc (v := x57) (lv' := [(2, .int x57), (0, .ref (G.2.2.1 300)), (1, .int a1)]) hx hb dX12_looks_57 hl (k := 0) rfl (by rw [ex57]; rfl) (by decide) rfl (fun ls hl => ?_)
      refine lv_goto (tgt := 44) hx hb dX12_looks_60 (by decide) ?_
      exact ih44 _ _ _ _ _ hf hH hS (lv_sub hl [0, 1, 2] rfl)
  exact hL44 _ _ _ _ _ _ hf hH hS (lv_sub hl [0, 1, 2] rfl)
def f_X12_force (w : CW) (a1 : Int32) (a2 : Int32) : Option (Int32 × CW) := (if (f_X12_in a1 0 6) = 0 then (some ((-1), w)) else (if (f_X12_isDay a2) = 0 then (some ((-2), w)) else (Option.bind (f_X12_looks w a2) fun q24 => (if 5 ≤ a1 then (if a1 = 5 then (if ((a2 - a2 / 30 * 30) < 0 ∨ 30 ≤ (a2 - a2 / 30 * 30).toNatClampNeg) then none else (some ((if (q24.1 7 (a2 - a2 / 30 * 30).toNatClampNeg) = 0 then 0 else 1), q24))) else (some ((q24.2.2 13), q24))) else (if ((a1 + 2) < 0 ∨ 8 ≤ (a1 + 2).toNatClampNeg) then none else (some ((q24.1 3 (a1 + 2).toNatClampNeg), q24)))))))
abbrev rm_X12_force : Room := { frames := 4, cells := 0, slots := 0, locals := 71 }
theorem cn_X12_force : CN yX12_force 2 := ⟨by decide +kernel, by decide +kernel, by decide +kernel⟩
set_option maxHeartbeats 4000000 in
set_option maxRecDepth 100000 in
theorem c_X12_force (l : Launch) (G : GX) (w : CW) (a1 : Int32) (a2 : Int32) (q : Int32 × CW) (hf : f_X12_force w a1 a2 = some q) : MI l G yX12_force cX12_force 3 (some .int) rm_X12_force [.ref (G.2.2.1 300), .int a1, .int a2] (rA G) (rH G w) (rH G q.2) q.1 := by
  refine cM_start (by decide +kernel) (Nat.le_of_ble_eq_true rfl) ?_
  intro p e s m below meth c ls X hH hl
  have hS : va_S (rA G) s.heap s.heap [] := va_S.rf
  have hx := X.1.1
  have hb := X.1.2.1
  generalize hargs : ([.ref (G.2.2.1 300), .int a1, .int a2] : List Value).toArray = args at X ⊢
  generalize hQ : MQ below (QI (rA G) (rH G q.2) q.1) args s 0 0 (rA G) = Q
  have hl : lv_has ls 3 [(0, .ref (G.2.2.1 300)), (1, .int a1), (2, .int a2)] := hl
  unfold f_X12_force at hf
  refine lv_iload_n hx hb dX12_force_0 rfl (lv_at hl 1 rfl) ?_
  refine lv_iconst (v := 0) hx hb dX12_force_1 (by decide) ?_
  refine lv_bipush (v := 6) hx hb dX12_force_2 (by decide) ?_
  refine cGi (cSrun (rest := []) X (c_X12_in l G (rH G w) (rA G) rA_g a1 0 6 _ rfl) bw1477 bw1478 bw105 bw1479 cn_X12_in ⟨rfl, rfl, Nat.le_of_ble_eq_true rfl, Nat.le_of_ble_eq_true rfl⟩ rA_g hH hS hl rfl (Nat.le_of_ble_eq_true rfl) dX12_force_4) hS (fun H locs hH hS => ?_)
  refine lv_if_ne (tgt := 12) hx hb dX12_force_7 (by decide) (fun hc => ?_) (fun hc => ?_)
  rotate_left
  · have hf := fo_t hc hf
    refine lv_iconst (v := (-1)) hx hb dX12_force_10 (by decide) ?_
    subst hQ
    exact cEi X (rH2 (so_s hf) hH) hS (pf1 (so_s hf)) dX12_force_11
  have hf := fo_f hc hf
  refine lv_iload_n hx hb dX12_force_12 rfl (lv_at hl 2 rfl) ?_
  refine cGi (cSrun (rest := []) X (c_X12_isDay l G (rH G w) (rA G) rA_g a2 _ rfl) bw1505 bw1506 bw105 bw1507 cn_X12_isDay ⟨rfl, rfl, Nat.le_of_ble_eq_true rfl, Nat.le_of_ble_eq_true rfl⟩ rA_g hH hS hl rfl (Nat.le_of_ble_eq_true rfl) dX12_force_13) hS (fun H locs hH hS => ?_)
  refine lv_if_ne (tgt := 22) hx hb dX12_force_16 (by decide) (fun hc => ?_) (fun hc => ?_)
  rotate_left
  · have hf := fo_t hc hf
    refine lv_bipush (v := (-2)) hx hb dX12_force_19 (by decide) ?_
    subst hQ
    exact cEi X (rH2 (so_s hf) hH) hS (pf1 (so_s hf)) dX12_force_21
  have hf := fo_f hc hf
  refine lv_aload_n hx hb dX12_force_22 rfl (lv_at hl 0 rfl) ?_
  refine lv_iload_n hx hb dX12_force_23 rfl (lv_at hl 2 rfl) ?_
  obtain ⟨q24, hq24, hf⟩ := bd_s hf
  refine cGv (cVrun (rest := []) X (c_X12_looks l G w a2 q24 hq24) bw1562 bw1564 bw60 bw105 bw1565 cn_X12_looks ⟨rfl, rfl, Nat.le_of_ble_eq_true rfl, Nat.le_of_ble_eq_true rfl⟩ (r_rec X hH) rA_g hH hS hl rfl (Nat.le_of_ble_eq_true rfl) dX12_force_24) hS (fun H locs hH hS => ?_)
  refine lv_iload_n hx hb dX12_force_27 rfl (lv_at hl 1 rfl) ?_
  refine lv_iconst (v := 5) hx hb dX12_force_28 (by decide) ?_
  refine lv_icmp_ge (tgt := 43) hx hb dX12_force_29 (by decide) (fun hc => ?_) (fun hc => ?_)
  rotate_left
  · have hf := fo_f hc hf
    refine lv_aload_n hx hb dX12_force_32 rfl (lv_at hl 0 rfl) ?_
    refine ro_get (C := RX12) (N := 30) X hH 0 (by decide) rO rfl inBX12 8 (by decide) rfl bw1386 dX12_force_33 ?_
    refine lv_iload_n hx hb dX12_force_36 rfl (lv_at hl 1 rfl) ?_
    refine lv_iconst (v := 2) hx hb dX12_force_37 (by decide) ?_
    refine lv_iadd hx hb dX12_force_38 ?_
    by_cases hc : ((a1 + 2) < 0 ∨ 8 ≤ (a1 + 2).toNatClampNeg)
    · cases (fo_t hc hf)
    have hf := fo_f hc hf
    refine ra_ld X hH 3 (by decide) (by decide) hc dX12_force_39 ?_
    refine lv_goto (tgt := 72) hx hb dX12_force_40 (by decide) ?_
    subst hQ
    exact cEi X (rH2 (so_s hf) hH) hS (pf1 (so_s hf)) dX12_force_72
  have hf := fo_t hc hf
  refine lv_iload_n hx hb dX12_force_43 rfl (lv_at hl 1 rfl) ?_
  refine lv_iconst (v := 5) hx hb dX12_force_44 (by decide) ?_
  refine lv_icmp_ne (tgt := 68) hx hb dX12_force_45 (by decide) (fun hc => ?_) (fun hc => ?_)
  · have hf := fo_f hc hf
    refine lv_aload_n hx hb dX12_force_68 rfl (lv_at hl 0 rfl) ?_
    refine ro_get (C := RX12) (N := 30) X hH 0 (by decide) rO rfl inBX12 13 (by decide) rfl bw1391 dX12_force_69 ?_
    subst hQ
    exact cEi X (rH2 (so_s hf) hH) hS (pf1 (so_s hf)) dX12_force_72
  have hf := fo_t hc hf
  refine lv_aload_n hx hb dX12_force_48 rfl (lv_at hl 0 rfl) ?_
  refine ro_get (C := RX12) (N := 30) X hH 0 (by decide) rO rfl inBX12 12 (by decide) rfl bw1390 dX12_force_49 ?_
  refine lv_iload_n hx hb dX12_force_52 rfl (lv_at hl 2 rfl) ?_
  refine lv_bipush (v := 30) hx hb dX12_force_53 (by decide) ?_
  refine lv_irem hx hb dX12_force_55 (by decide) ?_
  by_cases hc : ((a2 - a2 / 30 * 30) < 0 ∨ 30 ≤ (a2 - a2 / 30 * 30).toNatClampNeg)
  · cases (fo_t hc hf)
  have hf := fo_f hc hf
  refine rz_ld X hH hc dX12_force_56 ?_
  have hJ : ∀ (H : Heap) (locs : List Loc), rH G q24 H → va_S (rA G) s.heap H locs → W p l e rm_X12_force s m args below meth c H locs 0 0 Q (F0 m 72 ls [.int (if (q24.1 7 (a2 - a2 / 30 * 30).toNatClampNeg) = 0 then 0 else 1)]) := by
    intro H locs hH hS
    subst hQ
    exact cEi X (rH2 (so_s hf) hH) hS (pf1 (so_s hf)) dX12_force_72
  refine lv_if_eq (tgt := 64) hx hb dX12_force_57 (by decide) (fun hc57 => ?_) (fun hc57 => ?_)
  · refine lv_iconst (v := 0) hx hb dX12_force_64 (by decide) ?_
    refine lv_goto (tgt := 72) hx hb dX12_force_65 (by decide) ?_
    exact W.eq (by rw [if_pos hc57] <;> rfl) (hJ _ _ hH hS)
  · refine lv_iconst (v := 1) hx hb dX12_force_60 (by decide) ?_
    refine lv_goto (tgt := 72) hx hb dX12_force_61 (by decide) ?_
    exact W.eq (by rw [if_neg hc57] <;> rfl) (hJ _ _ hH hS)
def f_X12_verse_L158 (x21 : Int32) (x144 : Int32) (j193 : CW → Option (Int32 × CW)) : Nat → Int32 → CW → Option (Int32 × CW)
  | 0, _, _ => none
  | n158 + 1, v158_3, w158_ => (if x21 ≤ v158_3 then (j193 w158_) else (if ((110 + v158_3) < 0 ∨ 3250 ≤ (110 + v158_3).toNatClampNeg) then none else (if (((1670 + (60 * x144)) + v158_3) < 0 ∨ 3250 ≤ ((1670 + (60 * x144)) + v158_3).toNatClampNeg) then none else (nmk (sC w158_ 0 ((1670 + (60 * x144)) + v158_3).toNatClampNeg (w158_.1 0 (110 + v158_3).toNatClampNeg)) fun w186 => (nmk (v158_3 + 1) fun (x187 : Int32) => (f_X12_verse_L158 x21 x144 j193 n158 x187 w186))))))
def f_X12_verse_L32 (x21 : Int32) (w29 : CW) (j113 : Unit → Option (Int32 × CW)) : Nat → Int32 → Option (Int32 × CW)
  | 0, _ => none
  | n32 + 1, v32_2 => (if x21 ≤ v32_2 then (j113 ()) else (if ((110 + v32_2) < 0 ∨ 3250 ≤ (110 + v32_2).toNatClampNeg) then none else (nmk (w29.1 0 (110 + v32_2).toNatClampNeg) fun (x46 : Int32) => (nmk (fun (z78_0 : Int32) => (if v32_2 = 60 then (some (((-10) - v32_2), w29)) else (nmk (fun (_ : Unit) => (nmk (v32_2 + 1) fun (x107 : Int32) => (f_X12_verse_L32 x21 w29 j113 n32 x107))) fun j107 => (if (f_X12_in x46 97 122) = 0 then (if z78_0 = 0 then (some (((-10) - v32_2), w29)) else (j107 ())) else (j107 ()))))) fun j78 => (nmk (fun (_ : Unit) => (j78 0)) fun j77 => (if x46 = 32 then (if v32_2 ≤ 0 then (j77 ()) else (if (((110 + v32_2) - 1) < 0 ∨ 3250 ≤ ((110 + v32_2) - 1).toNatClampNeg) then none else (if (w29.1 0 ((110 + v32_2) - 1).toNatClampNeg) = 32 then (j77 ()) else (j78 1)))) else (j77 ())))))))
def f_X12_verse (w : CW) : Option (Int32 × CW) := (if ((2 : Int32) < 0 ∨ 3250 ≤ (2 : Int32).toNatClampNeg) then none else (if (w.1 0 (2 : Int32).toNatClampNeg) = 10 then (some ((-4), w)) else (if ((9 : Int32) < 0 ∨ 3250 ≤ (9 : Int32).toNatClampNeg) then none else (nmk (w.1 0 (9 : Int32).toNatClampNeg) fun (x21 : Int32) => (if ((9 : Int32) < 0 ∨ 3250 ≤ (9 : Int32).toNatClampNeg) then none else (nmk (sC w 0 (9 : Int32).toNatClampNeg 0) fun w29 => (nmk (fun (_ : Unit) => (if x21 = 0 then (some (((-10) - x21), w29)) else (if (((110 + x21) - 1) < 0 ∨ 3250 ≤ ((110 + x21) - 1).toNatClampNeg) then none else (if (w29.1 0 ((110 + x21) - 1).toNatClampNeg) = 32 then (some (((-10) - x21), w29)) else (if ((2 : Int32) < 0 ∨ 3250 ≤ (2 : Int32).toNatClampNeg) then none else (nmk (w29.1 0 (2 : Int32).toNatClampNeg) fun (x144 : Int32) => (if ((1660 + x144) < 0 ∨ 3250 ≤ (1660 + x144).toNatClampNeg) then none else (nmk (sC w29 0 (1660 + x144).toNatClampNeg x21) fun w155 => (nmk (fun (w193_ : CW) => (if ((2 : Int32) < 0 ∨ 3250 ≤ (2 : Int32).toNatClampNeg) then none else (if ((2 : Int32) < 0 ∨ 3250 ≤ (2 : Int32).toNatClampNeg) then none else (nmk (sC w193_ 0 (2 : Int32).toNatClampNeg ((w193_.1 0 (2 : Int32).toNatClampNeg) + 1)) fun w202 => (some (x144, w202)))))) fun j193 => (f_X12_verse_L158 x21 x144 j193 FU 0 w155)))))))))) fun j113 => (f_X12_verse_L32 x21 w29 j113 FU 0))))))))
abbrev rm_X12_verse : Room := { frames := 2, cells := 0, slots := 0, locals := 22 }
theorem cn_X12_verse : CN yX12_verse 0 := ⟨by decide +kernel, by decide +kernel, by decide +kernel⟩
set_option maxHeartbeats 4000000 in
set_option maxRecDepth 100000 in
theorem c_X12_verse (l : Launch) (G : GX) (w : CW) (q : Int32 × CW) (hf : f_X12_verse w = some q) : MI l G yX12_verse cX12_verse 5 (some .int) rm_X12_verse [.ref (G.2.2.1 300)] (rA G) (rH G w) (rH G q.2) q.1 := by
  refine cM_start (by decide +kernel) (Nat.le_of_ble_eq_true rfl) ?_
  intro p e s m below meth c ls X hH hl
  have hS : va_S (rA G) s.heap s.heap [] := va_S.rf
  have hx := X.1.1
  have hb := X.1.2.1
  generalize hargs : ([.ref (G.2.2.1 300)] : List Value).toArray = args at X ⊢
  generalize hQ : MQ below (QI (rA G) (rH G q.2) q.1) args s 0 0 (rA G) = Q
  have hl : lv_has ls 5 [(0, .ref (G.2.2.1 300))] := hl
  unfold f_X12_verse at hf
  refine lv_aload_n hx hb dX12_verse_0 rfl (lv_at hl 0 rfl) ?_
  refine ro_get (C := RX12) (N := 30) X hH 0 (by decide) rO rfl inBX12 1 (by decide) rfl bw1379 dX12_verse_1 ?_
  refine lv_iconst (v := 2) hx hb dX12_verse_4 (by decide) ?_
  by_cases hc : ((2 : Int32) < 0 ∨ 3250 ≤ (2 : Int32).toNatClampNeg)
  · cases (fo_t hc hf)
  have hf := fo_f hc hf
  refine ra_ld X hH 0 (by decide) (by decide) hc dX12_verse_5 ?_
  refine lv_bipush (v := 10) hx hb dX12_verse_6 (by decide) ?_
  refine lv_icmp_ne (tgt := 14) hx hb dX12_verse_8 (by decide) (fun hc => ?_) (fun hc => ?_)
  rotate_left
  · have hf := fo_t hc hf
    refine lv_bipush (v := (-4)) hx hb dX12_verse_11 (by decide) ?_
    subst hQ
    exact cEi X (rH2 (so_s hf) hH) hS (pf1 (so_s hf)) dX12_verse_13
  have hf := fo_f hc hf
  refine lv_aload_n hx hb dX12_verse_14 rfl (lv_at hl 0 rfl) ?_
  refine ro_get (C := RX12) (N := 30) X hH 0 (by decide) rO rfl inBX12 1 (by decide) rfl bw1379 dX12_verse_15 ?_
  refine lv_bipush (v := 9) hx hb dX12_verse_18 (by decide) ?_
  by_cases hc : ((9 : Int32) < 0 ∨ 3250 ≤ (9 : Int32).toNatClampNeg)
  · cases (fo_t hc hf)
  have hf := fo_f hc hf
  refine ra_ld X hH 0 (by decide) (by decide) hc dX12_verse_20 ?_
  refine lv_topi (fun x21 ex21 => ?_)
  have hf := nm_s hf x21 ex21
  refine lv_istore_n (lv' := [(1, .int x21), (0, .ref (G.2.2.1 300))]) hx hb dX12_verse_21 rfl hl (by decide) rfl (fun ls hl => ?_)
  refine lv_aload_n hx hb dX12_verse_22 rfl (lv_at hl 1 rfl) ?_
  refine ro_get (C := RX12) (N := 30) X hH 0 (by decide) rO rfl inBX12 1 (by decide) rfl bw1379 dX12_verse_23 ?_
  refine lv_bipush (v := 9) hx hb dX12_verse_26 (by decide) ?_
  refine lv_iconst (v := 0) hx hb dX12_verse_28 (by decide) ?_
  by_cases hc : ((9 : Int32) < 0 ∨ 3250 ≤ (9 : Int32).toNatClampNeg)
  · cases (fo_t hc hf)
  have hf := fo_f hc hf
  refine ra_st X hH hS 0 (by decide) (by decide) hc dX12_verse_29 (fun H locs hH hS => ?_)
  obtain ⟨w29, ew29⟩ : ∃ z : CW, z = (sC w 0 (9 : Int32).toNatClampNeg 0) := ⟨_, rfl⟩
  have hf := nm_s hf w29 ew29
  have hH : rH G w29 H := ew29 ▸ hH
  refine lv_iconst (v := 0) hx hb dX12_verse_30 (by decide) ?_
  refine lv_istore_n (lv' := [(2, .int 0), (1, .int x21), (0, .ref (G.2.2.1 300))]) hx hb dX12_verse_31 rfl hl (by decide) rfl (fun ls hl => ?_)
  obtain ⟨j113, ej113, hf⟩ := nm_x hf
  have hj113 : ∀ (u0 : Unit) (H : Heap) (locs : List Loc) (ls : Array Slot), j113 u0 = some q → rH G w29 H → va_S (rA G) s.heap H locs → lv_has ls 5 [(1, .int x21), (0, .ref (G.2.2.1 300))] → W p l e rm_X12_verse s m args below meth c H locs 0 0 Q (F0 m 113 ls []) := by
    intro u0 H locs ls hf hH hS hl
    have hf := jb1 ej113 hf
    refine lv_iload_n hx hb dX12_verse_113 rfl (lv_at hl 0 rfl) ?_
    refine lv_if_eq (tgt := 133) hx hb dX12_verse_114 (by decide) (fun hc => ?_) (fun hc => ?_)
    · have hf := fo_t hc hf
      refine lv_bipush (v := (-10)) hx hb dX12_verse_133 (by decide) ?_
      refine lv_iload_n hx hb dX12_verse_135 rfl (lv_at hl 0 rfl) ?_
      refine lv_isub hx hb dX12_verse_136 ?_
      subst hQ
      exact cEi X (rH2 (so_s hf) hH) hS (pf1 (so_s hf)) dX12_verse_137
    have hf := fo_f hc hf
    refine lv_aload_n hx hb dX12_verse_117 rfl (lv_at hl 1 rfl) ?_
    refine ro_get (C := RX12) (N := 30) X hH 0 (by decide) rO rfl inBX12 1 (by decide) rfl bw1379 dX12_verse_118 ?_
    refine lv_bipush (v := 110) hx hb dX12_verse_121 (by decide) ?_
    refine lv_iload_n hx hb dX12_verse_123 rfl (lv_at hl 0 rfl) ?_
    refine lv_iadd hx hb dX12_verse_124 ?_
    refine lv_iconst (v := 1) hx hb dX12_verse_125 (by decide) ?_
    refine lv_isub hx hb dX12_verse_126 ?_
    by_cases hc : (((110 + x21) - 1) < 0 ∨ 3250 ≤ ((110 + x21) - 1).toNatClampNeg)
    · cases (fo_t hc hf)
    have hf := fo_f hc hf
    refine ra_ld X hH 0 (by decide) (by decide) hc dX12_verse_127 ?_
    refine lv_bipush (v := 32) hx hb dX12_verse_128 (by decide) ?_
    refine lv_icmp_ne (tgt := 138) hx hb dX12_verse_130 (by decide) (fun hc => ?_) (fun hc => ?_)
    rotate_left
    · have hf := fo_t hc hf
      refine lv_bipush (v := (-10)) hx hb dX12_verse_133 (by decide) ?_
      refine lv_iload_n hx hb dX12_verse_135 rfl (lv_at hl 0 rfl) ?_
      refine lv_isub hx hb dX12_verse_136 ?_
      subst hQ
      exact cEi X (rH2 (so_s hf) hH) hS (pf1 (so_s hf)) dX12_verse_137
    have hf := fo_f hc hf
    refine lv_aload_n hx hb dX12_verse_138 rfl (lv_at hl 1 rfl) ?_
    refine ro_get (C := RX12) (N := 30) X hH 0 (by decide) rO rfl inBX12 1 (by decide) rfl bw1379 dX12_verse_139 ?_
    refine lv_iconst (v := 2) hx hb dX12_verse_142 (by decide) ?_
    by_cases hc : ((2 : Int32) < 0 ∨ 3250 ≤ (2 : Int32).toNatClampNeg)
    · cases (fo_t hc hf)
    have hf := fo_f hc hf
    refine ra_ld X hH 0 (by decide) (by decide) hc dX12_verse_143 ?_
    refine lv_topi (fun x144 ex144 => ?_)
    have hf := nm_s hf x144 ex144
    refine lv_istore_n (lv' := [(2, .int x144), (1, .int x21), (0, .ref (G.2.2.1 300))]) hx hb dX12_verse_144 rfl hl (by decide) rfl (fun ls hl => ?_)
    refine lv_aload_n hx hb dX12_verse_145 rfl (lv_at hl 2 rfl) ?_
    refine ro_get (C := RX12) (N := 30) X hH 0 (by decide) rO rfl inBX12 1 (by decide) rfl bw1379 dX12_verse_146 ?_
    refine lv_sipush (v := 1660) hx hb dX12_verse_149 (by decide) ?_
    refine lv_iload_n hx hb dX12_verse_152 rfl (lv_at hl 0 rfl) ?_
    refine lv_iadd hx hb dX12_verse_153 ?_
    refine lv_iload_n hx hb dX12_verse_154 rfl (lv_at hl 1 rfl) ?_
    by_cases hc : ((1660 + x144) < 0 ∨ 3250 ≤ (1660 + x144).toNatClampNeg)
    · cases (fo_t hc hf)
    have hf := fo_f hc hf
    refine ra_st X hH hS 0 (by decide) (by decide) hc dX12_verse_155 (fun H locs hH hS => ?_)
    obtain ⟨w155, ew155⟩ : ∃ z : CW, z = (sC w29 0 (1660 + x144).toNatClampNeg x21) := ⟨_, rfl⟩
    have hf := nm_s hf w155 ew155
    have hH : rH G w155 H := ew155 ▸ hH
    refine lv_iconst (v := 0) hx hb dX12_verse_156 (by decide) ?_
    refine lv_istore_n (lv' := [(3, .int 0), (2, .int x144), (1, .int x21), (0, .ref (G.2.2.1 300))]) hx hb dX12_verse_157 rfl hl (by decide) rfl (fun ls hl => ?_)
    obtain ⟨j193, ej193, hf⟩ := nm_x hf
    have hj193 : ∀ (w193_ : CW) (H : Heap) (locs : List Loc) (ls : Array Slot), j193 w193_ = some q → rH G w193_ H → va_S (rA G) s.heap H locs → lv_has ls 5 [(2, .int x144), (0, .ref (G.2.2.1 300))] → W p l e rm_X12_verse s m args below meth c H locs 0 0 Q (F0 m 193 ls []) := by
      intro w193_ H locs ls hf hH hS hl
      have hf := jb1 ej193 hf
      refine lv_aload_n hx hb dX12_verse_193 rfl (lv_at hl 1 rfl) ?_
      refine ro_get (C := RX12) (N := 30) X hH 0 (by decide) rO rfl inBX12 1 (by decide) rfl bw1379 dX12_verse_194 ?_
      refine lv_iconst (v := 2) hx hb dX12_verse_197 (by decide) ?_
      refine lv_dup2_11 hx hb dX12_verse_198 rfl rfl ?_
      by_cases hc : ((2 : Int32) < 0 ∨ 3250 ≤ (2 : Int32).toNatClampNeg)
      · cases (fo_t hc hf)
      have hf := fo_f hc hf
      refine ra_ld X hH 0 (by decide) (by decide) hc dX12_verse_199 ?_
      refine lv_iconst (v := 1) hx hb dX12_verse_200 (by decide) ?_
      refine lv_iadd hx hb dX12_verse_201 ?_
      by_cases hc : ((2 : Int32) < 0 ∨ 3250 ≤ (2 : Int32).toNatClampNeg)
      · cases (fo_t hc hf)
      have hf := fo_f hc hf
      refine ra_st X hH hS 0 (by decide) (by decide) hc dX12_verse_202 (fun H locs hH hS => ?_)
      obtain ⟨w202, ew202⟩ : ∃ z : CW, z = (sC w193_ 0 (2 : Int32).toNatClampNeg ((w193_.1 0 (2 : Int32).toNatClampNeg) + 1)) := ⟨_, rfl⟩
      have hf := nm_s hf w202 ew202
      have hH : rH G w202 H := ew202 ▸ hH
      refine lv_iload_n hx hb dX12_verse_203 rfl (lv_at hl 0 rfl) ?_
      subst hQ
      exact cEi X (rH2 (so_s hf) hH) hS (pf1 (so_s hf)) dX12_verse_204
    have hL158 : ∀ (n158 : Nat) (v158_3 : Int32) (w158_ : CW) (H : Heap) (locs : List Loc) (ls : Array Slot), f_X12_verse_L158 x21 x144 j193 n158 v158_3 w158_ = some q → rH G w158_ H → va_S (rA G) s.heap H locs → lv_has ls 5 [(3, .int v158_3), (2, .int x144), (1, .int x21), (0, .ref (G.2.2.1 300))] → W p l e rm_X12_verse s m args below meth c H locs 0 0 Q (F0 m 158 ls []) := by
      intro n158
      induction n158 with
      | zero => intro v158_3 w158_ H locs ls hf; rw [f_X12_verse_L158] at hf; cases hf
      | succ n158 ih158 =>
        intro v158_3 w158_ H locs ls hf hH hS hl
        rw [f_X12_verse_L158] at hf
        refine lv_iload_n hx hb dX12_verse_158 rfl (lv_at hl 0 rfl) ?_
        refine lv_iload_n hx hb dX12_verse_159 rfl (lv_at hl 2 rfl) ?_
        refine lv_icmp_ge (tgt := 193) hx hb dX12_verse_160 (by decide) (fun hc => ?_) (fun hc => ?_)
        · have hf := fo_t hc hf
          exact hj193 _ _ _ _ hf hH hS (lv_sub hl [1, 3] rfl)
        have hf := fo_f hc hf
        refine lv_aload_n hx hb dX12_verse_163 rfl (lv_at hl 3 rfl) ?_
        refine ro_get (C := RX12) (N := 30) X hH 0 (by decide) rO rfl inBX12 1 (by decide) rfl bw1379 dX12_verse_164 ?_
        refine lv_sipush (v := 1670) hx hb dX12_verse_167 (by decide) ?_
        refine lv_bipush (v := 60) hx hb dX12_verse_170 (by decide) ?_
        refine lv_iload_n hx hb dX12_verse_172 rfl (lv_at hl 1 rfl) ?_
        refine lv_imul hx hb dX12_verse_173 ?_
        refine lv_iadd hx hb dX12_verse_174 ?_
        refine lv_iload_n hx hb dX12_verse_175 rfl (lv_at hl 0 rfl) ?_
        refine lv_iadd hx hb dX12_verse_176 ?_
        refine lv_aload_n hx hb dX12_verse_177 rfl (lv_at hl 3 rfl) ?_
        refine ro_get (C := RX12) (N := 30) X hH 0 (by decide) rO rfl inBX12 1 (by decide) rfl bw1379 dX12_verse_178 ?_
        refine lv_bipush (v := 110) hx hb dX12_verse_181 (by decide) ?_
        refine lv_iload_n hx hb dX12_verse_183 rfl (lv_at hl 0 rfl) ?_
        refine lv_iadd hx hb dX12_verse_184 ?_
        by_cases hc : ((110 + v158_3) < 0 ∨ 3250 ≤ (110 + v158_3).toNatClampNeg)
        · cases (fo_t hc hf)
        have hf := fo_f hc hf
        refine ra_ld X hH 0 (by decide) (by decide) hc dX12_verse_185 ?_
        by_cases hc : (((1670 + (60 * x144)) + v158_3) < 0 ∨ 3250 ≤ ((1670 + (60 * x144)) + v158_3).toNatClampNeg)
        · cases (fo_t hc hf)
        have hf := fo_f hc hf
        refine ra_st X hH hS 0 (by decide) (by decide) hc dX12_verse_186 (fun H locs hH hS => ?_)
        obtain ⟨w186, ew186⟩ : ∃ z : CW, z = (sC w158_ 0 ((1670 + (60 * x144)) + v158_3).toNatClampNeg (w158_.1 0 (110 + v158_3).toNatClampNeg)) := ⟨_, rfl⟩
        have hf := nm_s hf w186 ew186
        have hH : rH G w186 H := ew186 ▸ hH
        obtain ⟨x187, ex187⟩ : ∃ z : Int32, z = (v158_3 + 1) := ⟨_, rfl⟩
        have hf := nm_s hf x187 ex187
        refine lv_iinc (v := x187) (lv' := [(3, .int x187), (2, .int x144), (1, .int x21), (0, .ref (G.2.2.1 300))]) hx hb dX12_verse_187 hl (k := 0) rfl (by rw [ex187]; rfl) (by decide) rfl (fun ls hl => ?_)
        refine lv_goto (tgt := 158) hx hb dX12_verse_190 (by decide) ?_
        exact ih158 _ _ _ _ _ hf hH hS (lv_sub hl [0, 1, 2, 3] rfl)
    exact hL158 _ _ _ _ _ _ hf hH hS (lv_sub hl [0, 1, 2, 3] rfl)
  have hL32 : ∀ (n32 : Nat) (v32_2 : Int32) (H : Heap) (locs : List Loc) (ls : Array Slot), f_X12_verse_L32 x21 w29 j113 n32 v32_2 = some q → rH G w29 H → va_S (rA G) s.heap H locs → lv_has ls 5 [(2, .int v32_2), (1, .int x21), (0, .ref (G.2.2.1 300))] → W p l e rm_X12_verse s m args below meth c H locs 0 0 Q (F0 m 32 ls []) := by
    intro n32
    induction n32 with
    | zero => intro v32_2 H locs ls hf; rw [f_X12_verse_L32] at hf; cases hf
    | succ n32 ih32 =>
      intro v32_2 H locs ls hf hH hS hl
      rw [f_X12_verse_L32] at hf
      refine lv_iload_n hx hb dX12_verse_32 rfl (lv_at hl 0 rfl) ?_
      refine lv_iload_n hx hb dX12_verse_33 rfl (lv_at hl 1 rfl) ?_
      refine lv_icmp_ge (tgt := 113) hx hb dX12_verse_34 (by decide) (fun hc => ?_) (fun hc => ?_)
      · have hf := fo_t hc hf
        exact hj113 () _ _ _ hf hH hS (lv_sub hl [1, 2] rfl)
      have hf := fo_f hc hf
      refine lv_aload_n hx hb dX12_verse_37 rfl (lv_at hl 2 rfl) ?_
      refine ro_get (C := RX12) (N := 30) X hH 0 (by decide) rO rfl inBX12 1 (by decide) rfl bw1379 dX12_verse_38 ?_
      refine lv_bipush (v := 110) hx hb dX12_verse_41 (by decide) ?_
      refine lv_iload_n hx hb dX12_verse_43 rfl (lv_at hl 0 rfl) ?_
      refine lv_iadd hx hb dX12_verse_44 ?_
      by_cases hc : ((110 + v32_2) < 0 ∨ 3250 ≤ (110 + v32_2).toNatClampNeg)
      · cases (fo_t hc hf)
      have hf := fo_f hc hf
      refine ra_ld X hH 0 (by decide) (by decide) hc dX12_verse_45 ?_
      refine lv_topi (fun x46 ex46 => ?_)
      have hf := nm_s hf x46 ex46
      refine lv_istore_n (lv' := [(3, .int x46), (2, .int v32_2), (1, .int x21), (0, .ref (G.2.2.1 300))]) hx hb dX12_verse_46 rfl hl (by decide) rfl (fun ls hl => ?_)
      refine lv_iload_n hx hb dX12_verse_47 rfl (lv_at hl 0 rfl) ?_
      refine lv_bipush (v := 32) hx hb dX12_verse_48 (by decide) ?_
      obtain ⟨j78, ej78, hf⟩ := nm_x hf
      have hj78 : ∀ (z78_0 : Int32) (H : Heap) (locs : List Loc) (ls : Array Slot), (z78_0 = 0 ∨ z78_0 = 1) → j78 z78_0 = some q → rH G w29 H → va_S (rA G) s.heap H locs → lv_has ls 5 [(3, .int x46), (2, .int v32_2), (1, .int x21), (0, .ref (G.2.2.1 300))] → W p l e rm_X12_verse s m args below meth c H locs 0 0 Q (F0 m 78 ls [.int z78_0]) := by
        intro z78_0 H locs ls hzz78_0 hf hH hS hl
        have hf := jb1 ej78 hf
        refine lv_istore (lv' := [(4, .int z78_0), (3, .int x46), (2, .int v32_2), (1, .int x21), (0, .ref (G.2.2.1 300))]) hx hb dX12_verse_78 hl (by decide) rfl (fun ls hl => ?_)
        refine lv_iload_n hx hb dX12_verse_80 rfl (lv_at hl 2 rfl) ?_
        refine lv_bipush (v := 60) hx hb dX12_verse_81 (by decide) ?_
        refine lv_icmp_eq (tgt := 102) hx hb dX12_verse_83 (by decide) (fun hc => ?_) (fun hc => ?_)
        · have hf := fo_t hc hf
          refine lv_bipush (v := (-10)) hx hb dX12_verse_102 (by decide) ?_
          refine lv_iload_n hx hb dX12_verse_104 rfl (lv_at hl 2 rfl) ?_
          refine lv_isub hx hb dX12_verse_105 ?_
          subst hQ
          exact cEi X (rH2 (so_s hf) hH) hS (pf1 (so_s hf)) dX12_verse_106
        have hf := fo_f hc hf
        refine lv_iload_n hx hb dX12_verse_86 rfl (lv_at hl 1 rfl) ?_
        refine lv_bipush (v := 97) hx hb dX12_verse_87 (by decide) ?_
        refine lv_bipush (v := 122) hx hb dX12_verse_89 (by decide) ?_
        refine cGi (cSrun (rest := []) X (c_X12_in l G (rH G w29) (rA G) rA_g x46 97 122 _ rfl) bw1477 bw1478 bw105 bw1479 cn_X12_in ⟨rfl, rfl, Nat.le_of_ble_eq_true rfl, Nat.le_of_ble_eq_true rfl⟩ rA_g hH hS hl rfl (Nat.le_of_ble_eq_true rfl) dX12_verse_91) hS (fun H locs hH hS => ?_)
        obtain ⟨j107, ej107, hf⟩ := nm_x hf
        have hj107 : ∀ (u0 : Unit) (H : Heap) (locs : List Loc) (ls : Array Slot), j107 u0 = some q → rH G w29 H → va_S (rA G) s.heap H locs → lv_has ls 5 [(2, .int v32_2), (1, .int x21), (0, .ref (G.2.2.1 300))] → W p l e rm_X12_verse s m args below meth c H locs 0 0 Q (F0 m 107 ls []) := by
          intro u0 H locs ls hf hH hS hl
          have hf := jb1 ej107 hf
          obtain ⟨x107, ex107⟩ : ∃ z : Int32, z = (v32_2 + 1) := ⟨_, rfl⟩
          have hf := nm_s hf x107 ex107
          refine lv_iinc (v := x107) (lv' := [(2, .int x107), (1, .int x21), (0, .ref (G.2.2.1 300))]) hx hb dX12_verse_107 hl (k := 0) rfl (by rw [ex107]; rfl) (by decide) rfl (fun ls hl => ?_)
          refine lv_goto (tgt := 32) hx hb dX12_verse_110 (by decide) ?_
          exact ih32 _ _ _ _ hf hH hS (lv_sub hl [0, 1, 2] rfl)
        refine lv_if_ne (tgt := 107) hx hb dX12_verse_94 (by decide) (fun hc => ?_) (fun hc => ?_)
        · have hf := fo_f hc hf
          exact hj107 () _ _ _ hf hH hS (lv_sub hl [2, 3, 4] rfl)
        have hf := fo_t hc hf
        refine lv_iload hx hb dX12_verse_97 (lv_at hl 0 rfl) ?_
        refine lv_if_ne (tgt := 107) hx hb dX12_verse_99 (by decide) (fun hc => ?_) (fun hc => ?_)
        · have hf := fo_f hc hf
          exact hj107 () _ _ _ hf hH hS (lv_sub hl [2, 3, 4] rfl)
        have hf := fo_t hc hf
        refine lv_bipush (v := (-10)) hx hb dX12_verse_102 (by decide) ?_
        refine lv_iload_n hx hb dX12_verse_104 rfl (lv_at hl 2 rfl) ?_
        refine lv_isub hx hb dX12_verse_105 ?_
        subst hQ
        exact cEi X (rH2 (so_s hf) hH) hS (pf1 (so_s hf)) dX12_verse_106
      obtain ⟨j77, ej77, hf⟩ := nm_x hf
      have hj77 : ∀ (u0 : Unit) (H : Heap) (locs : List Loc) (ls : Array Slot), j77 u0 = some q → rH G w29 H → va_S (rA G) s.heap H locs → lv_has ls 5 [(3, .int x46), (2, .int v32_2), (1, .int x21), (0, .ref (G.2.2.1 300))] → W p l e rm_X12_verse s m args below meth c H locs 0 0 Q (F0 m 77 ls []) := by
        intro u0 H locs ls hf hH hS hl
        have hf := jb1 ej77 hf
        refine lv_iconst (v := 0) hx hb dX12_verse_77 (by decide) ?_
        exact hj78 _ _ _ _ zb0 hf hH hS (lv_sub hl [0, 1, 2, 3] rfl)
      refine lv_icmp_ne (tgt := 77) hx hb dX12_verse_50 (by decide) (fun hc => ?_) (fun hc => ?_)
      · have hf := fo_f hc hf
        exact hj77 () _ _ _ hf hH hS (lv_sub hl [0, 1, 2, 3] rfl)
      have hf := fo_t hc hf
      refine lv_iload_n hx hb dX12_verse_53 rfl (lv_at hl 1 rfl) ?_
      refine lv_if_le (tgt := 77) hx hb dX12_verse_54 (by decide) (fun hc => ?_) (fun hc => ?_)
      · have hf := fo_t hc hf
        exact hj77 () _ _ _ hf hH hS (lv_sub hl [0, 1, 2, 3] rfl)
      have hf := fo_f hc hf
      refine lv_aload_n hx hb dX12_verse_57 rfl (lv_at hl 3 rfl) ?_
      refine ro_get (C := RX12) (N := 30) X hH 0 (by decide) rO rfl inBX12 1 (by decide) rfl bw1379 dX12_verse_58 ?_
      refine lv_bipush (v := 110) hx hb dX12_verse_61 (by decide) ?_
      refine lv_iload_n hx hb dX12_verse_63 rfl (lv_at hl 1 rfl) ?_
      refine lv_iadd hx hb dX12_verse_64 ?_
      refine lv_iconst (v := 1) hx hb dX12_verse_65 (by decide) ?_
      refine lv_isub hx hb dX12_verse_66 ?_
      by_cases hc : (((110 + v32_2) - 1) < 0 ∨ 3250 ≤ ((110 + v32_2) - 1).toNatClampNeg)
      · cases (fo_t hc hf)
      have hf := fo_f hc hf
      refine ra_ld X hH 0 (by decide) (by decide) hc dX12_verse_67 ?_
      refine lv_bipush (v := 32) hx hb dX12_verse_68 (by decide) ?_
      refine lv_icmp_eq (tgt := 77) hx hb dX12_verse_70 (by decide) (fun hc => ?_) (fun hc => ?_)
      · have hf := fo_t hc hf
        exact hj77 () _ _ _ hf hH hS (lv_sub hl [0, 1, 2, 3] rfl)
      have hf := fo_f hc hf
      refine lv_iconst (v := 1) hx hb dX12_verse_73 (by decide) ?_
      refine lv_goto (tgt := 78) hx hb dX12_verse_74 (by decide) ?_
      exact hj78 _ _ _ _ zb1 hf hH hS (lv_sub hl [0, 1, 2, 3] rfl)
  exact hL32 _ _ _ _ _ hf hH hS (lv_sub hl [0, 1, 2] rfl)
def f_X12_isVerse (w : CW) (a1 : Int32) : Option (Int32) := (if ((2 : Int32) < 0 ∨ 3250 ≤ (2 : Int32).toNatClampNeg) then none else (some (f_X12_in a1 0 ((w.1 0 (2 : Int32).toNatClampNeg) - 1))))
abbrev rm_X12_isVerse : Room := { frames := 2, cells := 0, slots := 0, locals := 22 }
theorem cn_X12_isVerse : CN yX12_isVerse 1 := ⟨by decide +kernel, by decide +kernel, by decide +kernel⟩
set_option maxHeartbeats 4000000 in
set_option maxRecDepth 100000 in
theorem c_X12_isVerse (l : Launch) (G : GX) (w : CW) (a1 : Int32) (q : Int32) (hf : f_X12_isVerse w a1 = some q) : MZ l G yX12_isVerse cX12_isVerse 2 (some .boolean) rm_X12_isVerse [.ref (G.2.2.1 300), .int a1] (rA G) (rH G w) (rH G w) q := by
  refine cM_start (by decide +kernel) (Nat.le_of_ble_eq_true rfl) ?_
  intro p e s m below meth c ls X hH hl
  have hS : va_S (rA G) s.heap s.heap [] := va_S.rf
  have hx := X.1.1
  have hb := X.1.2.1
  generalize hargs : ([.ref (G.2.2.1 300), .int a1] : List Value).toArray = args at X ⊢
  generalize hQ : MQ below (QZ (rA G) (rH G w) q) args s 0 0 (rA G) = Q
  have hl : lv_has ls 2 [(0, .ref (G.2.2.1 300)), (1, .int a1)] := hl
  unfold f_X12_isVerse at hf
  refine lv_iload_n hx hb dX12_isVerse_0 rfl (lv_at hl 1 rfl) ?_
  refine lv_iconst (v := 0) hx hb dX12_isVerse_1 (by decide) ?_
  refine lv_aload_n hx hb dX12_isVerse_2 rfl (lv_at hl 0 rfl) ?_
  refine ro_get (C := RX12) (N := 30) X hH 0 (by decide) rO rfl inBX12 1 (by decide) rfl bw1379 dX12_isVerse_3 ?_
  refine lv_iconst (v := 2) hx hb dX12_isVerse_6 (by decide) ?_
  by_cases hc : ((2 : Int32) < 0 ∨ 3250 ≤ (2 : Int32).toNatClampNeg)
  · cases (fo_t hc hf)
  have hf := fo_f hc hf
  refine ra_ld X hH 0 (by decide) (by decide) hc dX12_isVerse_7 ?_
  refine lv_iconst (v := 1) hx hb dX12_isVerse_8 (by decide) ?_
  refine lv_isub hx hb dX12_isVerse_9 ?_
  refine cGi (cSrun (rest := []) X (c_X12_in l G (rH G w) (rA G) rA_g a1 0 ((w.1 0 (2 : Int32).toNatClampNeg) - 1) _ rfl) bw1477 bw1478 bw105 bw1479 cn_X12_in ⟨rfl, rfl, Nat.le_of_ble_eq_true rfl, Nat.le_of_ble_eq_true rfl⟩ rA_g hH hS hl rfl (Nat.le_of_ble_eq_true rfl) dX12_isVerse_10) hS (fun H locs hH hS => ?_)
  subst hQ
  exact cEzz X hH hS (so_s hf) (zb_X12_in a1 0 ((w.1 0 (2 : Int32).toNatClampNeg) - 1)) dX12_isVerse_13
def f_X12_at (w : CW) (a1 : Int32) (a2 : Int32) : Option (Int32) := (if ((1660 + a1) < 0 ∨ 3250 ≤ (1660 + a1).toNatClampNeg) then none else (if (w.1 0 (1660 + a1).toNatClampNeg) ≤ a2 then (some (-1)) else (if (((1670 + (60 * a1)) + a2) < 0 ∨ 3250 ≤ ((1670 + (60 * a1)) + a2).toNatClampNeg) then none else (some (w.1 0 ((1670 + (60 * a1)) + a2).toNatClampNeg)))))
abbrev rm_X12_at : Room := { frames := 1, cells := 0, slots := 0, locals := 0 }
theorem cn_X12_at : CN yX12_at 2 := ⟨by decide +kernel, by decide +kernel, by decide +kernel⟩
set_option maxHeartbeats 4000000 in
set_option maxRecDepth 100000 in
theorem c_X12_at (l : Launch) (G : GX) (w : CW) (a1 : Int32) (a2 : Int32) (q : Int32) (hf : f_X12_at w a1 a2 = some q) : MI l G yX12_at cX12_at 3 (some .int) rm_X12_at [.ref (G.2.2.1 300), .int a1, .int a2] (rA G) (rH G w) (rH G w) q := by
  refine cM_start (by decide +kernel) (Nat.le_of_ble_eq_true rfl) ?_
  intro p e s m below meth c ls X hH hl
  have hS : va_S (rA G) s.heap s.heap [] := va_S.rf
  have hx := X.1.1
  have hb := X.1.2.1
  generalize hargs : ([.ref (G.2.2.1 300), .int a1, .int a2] : List Value).toArray = args at X ⊢
  generalize hQ : MQ below (QI (rA G) (rH G w) q) args s 0 0 (rA G) = Q
  have hl : lv_has ls 3 [(0, .ref (G.2.2.1 300)), (1, .int a1), (2, .int a2)] := hl
  unfold f_X12_at at hf
  refine lv_iload_n hx hb dX12_at_0 rfl (lv_at hl 2 rfl) ?_
  refine lv_aload_n hx hb dX12_at_1 rfl (lv_at hl 0 rfl) ?_
  refine ro_get (C := RX12) (N := 30) X hH 0 (by decide) rO rfl inBX12 1 (by decide) rfl bw1379 dX12_at_2 ?_
  refine lv_sipush (v := 1660) hx hb dX12_at_5 (by decide) ?_
  refine lv_iload_n hx hb dX12_at_8 rfl (lv_at hl 1 rfl) ?_
  refine lv_iadd hx hb dX12_at_9 ?_
  by_cases hc : ((1660 + a1) < 0 ∨ 3250 ≤ (1660 + a1).toNatClampNeg)
  · cases (fo_t hc hf)
  have hf := fo_f hc hf
  refine ra_ld X hH 0 (by decide) (by decide) hc dX12_at_10 ?_
  refine lv_icmp_ge (tgt := 32) hx hb dX12_at_11 (by decide) (fun hc => ?_) (fun hc => ?_)
  · have hf := fo_t hc hf
    refine lv_iconst (v := (-1)) hx hb dX12_at_32 (by decide) ?_
    subst hQ
    exact cEi X hH hS (so_s hf) dX12_at_33
  have hf := fo_f hc hf
  refine lv_aload_n hx hb dX12_at_14 rfl (lv_at hl 0 rfl) ?_
  refine ro_get (C := RX12) (N := 30) X hH 0 (by decide) rO rfl inBX12 1 (by decide) rfl bw1379 dX12_at_15 ?_
  refine lv_sipush (v := 1670) hx hb dX12_at_18 (by decide) ?_
  refine lv_bipush (v := 60) hx hb dX12_at_21 (by decide) ?_
  refine lv_iload_n hx hb dX12_at_23 rfl (lv_at hl 1 rfl) ?_
  refine lv_imul hx hb dX12_at_24 ?_
  refine lv_iadd hx hb dX12_at_25 ?_
  refine lv_iload_n hx hb dX12_at_26 rfl (lv_at hl 2 rfl) ?_
  refine lv_iadd hx hb dX12_at_27 ?_
  by_cases hc : (((1670 + (60 * a1)) + a2) < 0 ∨ 3250 ≤ ((1670 + (60 * a1)) + a2).toNatClampNeg)
  · cases (fo_t hc hf)
  have hf := fo_f hc hf
  refine ra_ld X hH 0 (by decide) (by decide) hc dX12_at_28 ?_
  refine lv_goto (tgt := 33) hx hb dX12_at_29 (by decide) ?_
  subst hQ
  exact cEi X hH hS (so_s hf) dX12_at_33
def f_X12_formAt_L86 (w : CW) (y83_4 : Int32) : Nat → Int32 → Option (Int32)
  | 0, _ => none
  | n86 + 1, v86_5 => (if (w.2.2 13) ≤ v86_5 then (some (-1)) else (if (v86_5 < 0 ∨ 80 ≤ v86_5.toNatClampNeg) then none else (if (w.1 4 v86_5.toNatClampNeg) = y83_4 then (some v86_5) else (nmk (v86_5 + 1) fun (x110 : Int32) => (f_X12_formAt_L86 w y83_4 n86 x110)))))
def f_X12_formAt_L6 (w : CW) (a1 : Int32) (a2 : Int32) (a3 : Int32) (j83 : Int32 → Option (Int32)) : Nat → Int32 → Int32 → Option (Int32)
  | 0, _, _ => none
  | n6 + 1, v6_4, v6_5 => (if 3 ≤ v6_5 then (j83 v6_4) else (nmk (fun (z31_0 : Int32) => (nmk (fun (_ : Unit) => (nmk ((100 * v6_4) + (if a3 ≤ v6_5 then 99 else (z31_0 - 97))) fun (x75 : Int32) => (nmk (v6_5 + 1) fun (x77 : Int32) => (f_X12_formAt_L6 w a1 a2 a3 j83 n6 x75 x77)))) fun j53 => (if a3 ≤ v6_5 then (j53 ()) else (if (f_X12_in z31_0 97 122) = 0 then (some (-1)) else (j53 ()))))) fun j31 => (if a3 ≤ v6_5 then (j31 (-1)) else (Option.bind (f_X12_at w a1 (a2 + v6_5)) fun q24 => (j31 q24)))))
def f_X12_formAt (w : CW) (a1 : Int32) (a2 : Int32) (a3 : Int32) : Option (Int32) := (nmk (fun (y83_4 : Int32) => (f_X12_formAt_L86 w y83_4 FU 0)) fun j83 => (f_X12_formAt_L6 w a1 a2 a3 j83 FU 0 0))
abbrev rm_X12_formAt : Room := { frames := 2, cells := 0, slots := 0, locals := 22 }
theorem cn_X12_formAt : CN yX12_formAt 3 := ⟨by decide +kernel, by decide +kernel, by decide +kernel⟩
set_option maxHeartbeats 4000000 in
set_option maxRecDepth 100000 in
theorem c_X12_formAt (l : Launch) (G : GX) (w : CW) (a1 : Int32) (a2 : Int32) (a3 : Int32) (q : Int32) (hf : f_X12_formAt w a1 a2 a3 = some q) : MI l G yX12_formAt cX12_formAt 7 (some .int) rm_X12_formAt [.ref (G.2.2.1 300), .int a1, .int a2, .int a3] (rA G) (rH G w) (rH G w) q := by
  refine cM_start (by decide +kernel) (Nat.le_of_ble_eq_true rfl) ?_
  intro p e s m below meth c ls X hH hl
  have hS : va_S (rA G) s.heap s.heap [] := va_S.rf
  have hx := X.1.1
  have hb := X.1.2.1
  generalize hargs : ([.ref (G.2.2.1 300), .int a1, .int a2, .int a3] : List Value).toArray = args at X ⊢
  generalize hQ : MQ below (QI (rA G) (rH G w) q) args s 0 0 (rA G) = Q
  have hl : lv_has ls 7 [(0, .ref (G.2.2.1 300)), (1, .int a1), (2, .int a2), (3, .int a3)] := hl
  unfold f_X12_formAt at hf
  refine lv_iconst (v := 0) hx hb dX12_formAt_0 (by decide) ?_
  refine lv_istore (lv' := [(4, .int 0), (0, .ref (G.2.2.1 300)), (1, .int a1), (2, .int a2), (3, .int a3)]) hx hb dX12_formAt_1 hl (by decide) rfl (fun ls hl => ?_)
  refine lv_iconst (v := 0) hx hb dX12_formAt_3 (by decide) ?_
  refine lv_istore (lv' := [(5, .int 0), (4, .int 0), (0, .ref (G.2.2.1 300)), (1, .int a1), (2, .int a2), (3, .int a3)]) hx hb dX12_formAt_4 hl (by decide) rfl (fun ls hl => ?_)
  obtain ⟨j83, ej83, hf⟩ := nm_x hf
  have hj83 : ∀ (y83_4 : Int32) (H : Heap) (locs : List Loc) (ls : Array Slot), j83 y83_4 = some q → rH G w H → va_S (rA G) s.heap H locs → lv_has ls 7 [(4, .int y83_4), (0, .ref (G.2.2.1 300))] → W p l e rm_X12_formAt s m args below meth c H locs 0 0 Q (F0 m 83 ls []) := by
    intro y83_4 H locs ls hf hH hS hl
    have hf := jb1 ej83 hf
    refine lv_iconst (v := 0) hx hb dX12_formAt_83 (by decide) ?_
    refine lv_istore (lv' := [(5, .int 0), (4, .int y83_4), (0, .ref (G.2.2.1 300))]) hx hb dX12_formAt_84 hl (by decide) rfl (fun ls hl => ?_)
    have hL86 : ∀ (n86 : Nat) (v86_5 : Int32) (H : Heap) (locs : List Loc) (ls : Array Slot), f_X12_formAt_L86 w y83_4 n86 v86_5 = some q → rH G w H → va_S (rA G) s.heap H locs → lv_has ls 7 [(5, .int v86_5), (4, .int y83_4), (0, .ref (G.2.2.1 300))] → W p l e rm_X12_formAt s m args below meth c H locs 0 0 Q (F0 m 86 ls []) := by
      intro n86
      induction n86 with
      | zero => intro v86_5 H locs ls hf; rw [f_X12_formAt_L86] at hf; cases hf
      | succ n86 ih86 =>
        intro v86_5 H locs ls hf hH hS hl
        rw [f_X12_formAt_L86] at hf
        refine lv_iload hx hb dX12_formAt_86 (lv_at hl 0 rfl) ?_
        refine lv_aload_n hx hb dX12_formAt_88 rfl (lv_at hl 2 rfl) ?_
        refine ro_get (C := RX12) (N := 30) X hH 0 (by decide) rO rfl inBX12 13 (by decide) rfl bw1391 dX12_formAt_89 ?_
        refine lv_icmp_ge (tgt := 116) hx hb dX12_formAt_92 (by decide) (fun hc => ?_) (fun hc => ?_)
        · have hf := fo_t hc hf
          refine lv_iconst (v := (-1)) hx hb dX12_formAt_116 (by decide) ?_
          subst hQ
          exact cEi X hH hS (so_s hf) dX12_formAt_117
        have hf := fo_f hc hf
        refine lv_aload_n hx hb dX12_formAt_95 rfl (lv_at hl 2 rfl) ?_
        refine ro_get (C := RX12) (N := 30) X hH 0 (by decide) rO rfl inBX12 9 (by decide) rfl bw1387 dX12_formAt_96 ?_
        refine lv_iload hx hb dX12_formAt_99 (lv_at hl 0 rfl) ?_
        by_cases hc : (v86_5 < 0 ∨ 80 ≤ v86_5.toNatClampNeg)
        · cases (fo_t hc hf)
        have hf := fo_f hc hf
        refine ra_ld X hH 4 (by decide) (by decide) hc dX12_formAt_101 ?_
        refine lv_iload hx hb dX12_formAt_102 (lv_at hl 1 rfl) ?_
        refine lv_icmp_ne (tgt := 110) hx hb dX12_formAt_104 (by decide) (fun hc => ?_) (fun hc => ?_)
        rotate_left
        · have hf := fo_t hc hf
          refine lv_iload hx hb dX12_formAt_107 (lv_at hl 0 rfl) ?_
          subst hQ
          exact cEi X hH hS (so_s hf) dX12_formAt_109
        have hf := fo_f hc hf
        obtain ⟨x110, ex110⟩ : ∃ z : Int32, z = (v86_5 + 1) := ⟨_, rfl⟩
        have hf := nm_s hf x110 ex110
        refine lv_iinc (v := x110) (lv' := [(5, .int x110), (4, .int y83_4), (0, .ref (G.2.2.1 300))]) hx hb dX12_formAt_110 hl (k := 0) rfl (by rw [ex110]; rfl) (by decide) rfl (fun ls hl => ?_)
        refine lv_goto (tgt := 86) hx hb dX12_formAt_113 (by decide) ?_
        exact ih86 _ _ _ _ hf hH hS (lv_sub hl [0, 1, 2] rfl)
    exact hL86 _ _ _ _ _ hf hH hS (lv_sub hl [0, 1, 2] rfl)
  have hL6 : ∀ (n6 : Nat) (v6_4 : Int32) (v6_5 : Int32) (H : Heap) (locs : List Loc) (ls : Array Slot), f_X12_formAt_L6 w a1 a2 a3 j83 n6 v6_4 v6_5 = some q → rH G w H → va_S (rA G) s.heap H locs → lv_has ls 7 [(5, .int v6_5), (4, .int v6_4), (0, .ref (G.2.2.1 300)), (1, .int a1), (2, .int a2), (3, .int a3)] → W p l e rm_X12_formAt s m args below meth c H locs 0 0 Q (F0 m 6 ls []) := by
    intro n6
    induction n6 with
    | zero => intro v6_4 v6_5 H locs ls hf; rw [f_X12_formAt_L6] at hf; cases hf
    | succ n6 ih6 =>
      intro v6_4 v6_5 H locs ls hf hH hS hl
      rw [f_X12_formAt_L6] at hf
      refine lv_iload hx hb dX12_formAt_6 (lv_at hl 0 rfl) ?_
      refine lv_iconst (v := 3) hx hb dX12_formAt_8 (by decide) ?_
      refine lv_icmp_ge (tgt := 83) hx hb dX12_formAt_9 (by decide) (fun hc => ?_) (fun hc => ?_)
      · have hf := fo_t hc hf
        exact hj83 _ _ _ _ hf hH hS (lv_sub hl [1, 2] rfl)
      have hf := fo_f hc hf
      refine lv_iload hx hb dX12_formAt_12 (lv_at hl 0 rfl) ?_
      refine lv_iload_n hx hb dX12_formAt_14 rfl (lv_at hl 5 rfl) ?_
      obtain ⟨j31, ej31, hf⟩ := nm_x hf
      have hj31 : ∀ (z31_0 : Int32) (H : Heap) (locs : List Loc) (ls : Array Slot), j31 z31_0 = some q → rH G w H → va_S (rA G) s.heap H locs → lv_has ls 7 [(5, .int v6_5), (4, .int v6_4), (0, .ref (G.2.2.1 300)), (1, .int a1), (2, .int a2), (3, .int a3)] → W p l e rm_X12_formAt s m args below meth c H locs 0 0 Q (F0 m 31 ls [.int z31_0]) := by
        intro z31_0 H locs ls hf hH hS hl
        have hf := jb1 ej31 hf
        refine lv_istore (lv' := [(6, .int z31_0), (5, .int v6_5), (4, .int v6_4), (0, .ref (G.2.2.1 300)), (1, .int a1), (2, .int a2), (3, .int a3)]) hx hb dX12_formAt_31 hl (by decide) rfl (fun ls hl => ?_)
        refine lv_iload hx hb dX12_formAt_33 (lv_at hl 1 rfl) ?_
        refine lv_iload_n hx hb dX12_formAt_35 rfl (lv_at hl 6 rfl) ?_
        obtain ⟨j53, ej53, hf⟩ := nm_x hf
        have hj53 : ∀ (u0 : Unit) (H : Heap) (locs : List Loc) (ls : Array Slot), j53 u0 = some q → rH G w H → va_S (rA G) s.heap H locs → lv_has ls 7 [(6, .int z31_0), (5, .int v6_5), (4, .int v6_4), (0, .ref (G.2.2.1 300)), (1, .int a1), (2, .int a2), (3, .int a3)] → W p l e rm_X12_formAt s m args below meth c H locs 0 0 Q (F0 m 53 ls []) := by
          intro u0 H locs ls hf hH hS hl
          have hf := jb1 ej53 hf
          refine lv_bipush (v := 100) hx hb dX12_formAt_53 (by decide) ?_
          refine lv_iload hx hb dX12_formAt_55 (lv_at hl 2 rfl) ?_
          refine lv_imul hx hb dX12_formAt_57 ?_
          refine lv_iload hx hb dX12_formAt_58 (lv_at hl 1 rfl) ?_
          refine lv_iload_n hx hb dX12_formAt_60 rfl (lv_at hl 6 rfl) ?_
          have hJ : ∀ (H : Heap) (locs : List Loc), rH G w H → va_S (rA G) s.heap H locs → W p l e rm_X12_formAt s m args below meth c H locs 0 0 Q (F0 m 74 ls [.int (if a3 ≤ v6_5 then 99 else (z31_0 - 97)), .int (100 * v6_4)]) := by
            intro H locs hH hS
            refine lv_iadd hx hb dX12_formAt_74 ?_
            refine lv_topi (fun x75 ex75 => ?_)
            have hf := nm_s hf x75 ex75
            refine lv_istore (lv' := [(4, .int x75), (6, .int z31_0), (5, .int v6_5), (0, .ref (G.2.2.1 300)), (1, .int a1), (2, .int a2), (3, .int a3)]) hx hb dX12_formAt_75 hl (by decide) rfl (fun ls hl => ?_)
            obtain ⟨x77, ex77⟩ : ∃ z : Int32, z = (v6_5 + 1) := ⟨_, rfl⟩
            have hf := nm_s hf x77 ex77
            refine lv_iinc (v := x77) (lv' := [(5, .int x77), (4, .int x75), (6, .int z31_0), (0, .ref (G.2.2.1 300)), (1, .int a1), (2, .int a2), (3, .int a3)]) hx hb dX12_formAt_77 hl (k := 2) rfl (by rw [ex77]; rfl) (by decide) rfl (fun ls hl => ?_)
            refine lv_goto (tgt := 6) hx hb dX12_formAt_80 (by decide) ?_
            exact ih6 _ _ _ _ _ hf hH hS (lv_sub hl [0, 1, 3, 4, 5, 6] rfl)
          refine lv_icmp_ge (tgt := 72) hx hb dX12_formAt_61 (by decide) (fun hc61 => ?_) (fun hc61 => ?_)
          · refine lv_bipush (v := 99) hx hb dX12_formAt_72 (by decide) ?_
            exact W.eq (by rw [if_pos hc61] <;> rfl) (hJ _ _ hH hS)
          · refine lv_iload hx hb dX12_formAt_64 (lv_at hl 0 rfl) ?_
            refine lv_bipush (v := 97) hx hb dX12_formAt_66 (by decide) ?_
            refine lv_isub hx hb dX12_formAt_68 ?_
            refine lv_goto (tgt := 74) hx hb dX12_formAt_69 (by decide) ?_
            exact W.eq (by rw [if_neg hc61] <;> rfl) (hJ _ _ hH hS)
        refine lv_icmp_ge (tgt := 53) hx hb dX12_formAt_36 (by decide) (fun hc => ?_) (fun hc => ?_)
        · have hf := fo_t hc hf
          exact hj53 () _ _ _ hf hH hS (lv_sub hl [0, 1, 2, 3, 4, 5, 6] rfl)
        have hf := fo_f hc hf
        refine lv_iload hx hb dX12_formAt_39 (lv_at hl 0 rfl) ?_
        refine lv_bipush (v := 97) hx hb dX12_formAt_41 (by decide) ?_
        refine lv_bipush (v := 122) hx hb dX12_formAt_43 (by decide) ?_
        refine cGi (cSrun (rest := []) X (c_X12_in l G (rH G w) (rA G) rA_g z31_0 97 122 _ rfl) bw1477 bw1478 bw105 bw1479 cn_X12_in ⟨rfl, rfl, Nat.le_of_ble_eq_true rfl, Nat.le_of_ble_eq_true rfl⟩ rA_g hH hS hl rfl (Nat.le_of_ble_eq_true rfl) dX12_formAt_45) hS (fun H locs hH hS => ?_)
        refine lv_if_ne (tgt := 53) hx hb dX12_formAt_48 (by decide) (fun hc => ?_) (fun hc => ?_)
        · have hf := fo_f hc hf
          exact hj53 () _ _ _ hf hH hS (lv_sub hl [0, 1, 2, 3, 4, 5, 6] rfl)
        have hf := fo_t hc hf
        refine lv_iconst (v := (-1)) hx hb dX12_formAt_51 (by decide) ?_
        subst hQ
        exact cEi X hH hS (so_s hf) dX12_formAt_52
      refine lv_icmp_ge (tgt := 30) hx hb dX12_formAt_15 (by decide) (fun hc => ?_) (fun hc => ?_)
      · have hf := fo_t hc hf
        refine lv_iconst (v := (-1)) hx hb dX12_formAt_30 (by decide) ?_
        exact hj31 _ _ _ _ hf hH hS (lv_sub hl [0, 1, 2, 3, 4, 5] rfl)
      have hf := fo_f hc hf
      refine lv_aload_n hx hb dX12_formAt_18 rfl (lv_at hl 2 rfl) ?_
      refine lv_iload_n hx hb dX12_formAt_19 rfl (lv_at hl 3 rfl) ?_
      refine lv_iload_n hx hb dX12_formAt_20 rfl (lv_at hl 4 rfl) ?_
      refine lv_iload hx hb dX12_formAt_21 (lv_at hl 0 rfl) ?_
      refine lv_iadd hx hb dX12_formAt_23 ?_
      obtain ⟨q24, hq24, hf⟩ := bd_s hf
      refine cGi (cVrun (rest := []) X (c_X12_at l G w a1 (a2 + v6_5) q24 hq24) bw1602 bw1604 bw67 bw105 bw1605 cn_X12_at ⟨rfl, rfl, Nat.le_of_ble_eq_true rfl, Nat.le_of_ble_eq_true rfl⟩ (r_rec X hH) rA_g hH hS hl rfl (Nat.le_of_ble_eq_true rfl) dX12_formAt_24) hS (fun H locs hH hS => ?_)
      refine lv_goto (tgt := 31) hx hb dX12_formAt_27 (by decide) ?_
      exact hj31 _ _ _ _ hf hH hS (lv_sub hl [0, 1, 2, 3, 4, 5] rfl)
  exact hL6 _ _ _ _ _ _ hf hH hS (lv_sub hl [0, 1, 2, 3, 4, 5] rfl)
def f_X12_restOf (w : CW) (a1 : Int32) (a2 : Int32) (a3 : Int32) : Option (Int32) := (if ((2 : Int32) < 0 ∨ 8 ≤ (2 : Int32).toNatClampNeg) then none else (if a2 ≤ (w.1 3 (2 : Int32).toNatClampNeg) then (if ((((82 * a1) + (2 * a2)) + a3) < 0 ∨ 5002 ≤ (((82 * a1) + (2 * a2)) + a3).toNatClampNeg) then none else (some (w.1 8 (((82 * a1) + (2 * a2)) + a3).toNatClampNeg))) else (some 1000000)))
abbrev rm_X12_restOf : Room := { frames := 1, cells := 0, slots := 0, locals := 0 }
theorem cn_X12_restOf : CN yX12_restOf 3 := ⟨by decide +kernel, by decide +kernel, by decide +kernel⟩
set_option maxHeartbeats 4000000 in
set_option maxRecDepth 100000 in
theorem c_X12_restOf (l : Launch) (G : GX) (w : CW) (a1 : Int32) (a2 : Int32) (a3 : Int32) (q : Int32) (hf : f_X12_restOf w a1 a2 a3 = some q) : MI l G yX12_restOf cX12_restOf 4 (some .int) rm_X12_restOf [.ref (G.2.2.1 300), .int a1, .int a2, .int a3] (rA G) (rH G w) (rH G w) q := by
  refine cM_start (by decide +kernel) (Nat.le_of_ble_eq_true rfl) ?_
  intro p e s m below meth c ls X hH hl
  have hS : va_S (rA G) s.heap s.heap [] := va_S.rf
  have hx := X.1.1
  have hb := X.1.2.1
  generalize hargs : ([.ref (G.2.2.1 300), .int a1, .int a2, .int a3] : List Value).toArray = args at X ⊢
  generalize hQ : MQ below (QI (rA G) (rH G w) q) args s 0 0 (rA G) = Q
  have hl : lv_has ls 4 [(0, .ref (G.2.2.1 300)), (1, .int a1), (2, .int a2), (3, .int a3)] := hl
  unfold f_X12_restOf at hf
  refine lv_iload_n hx hb dX12_restOf_0 rfl (lv_at hl 2 rfl) ?_
  refine lv_aload_n hx hb dX12_restOf_1 rfl (lv_at hl 0 rfl) ?_
  refine ro_get (C := RX12) (N := 30) X hH 0 (by decide) rO rfl inBX12 8 (by decide) rfl bw1386 dX12_restOf_2 ?_
  refine lv_iconst (v := 2) hx hb dX12_restOf_5 (by decide) ?_
  by_cases hc : ((2 : Int32) < 0 ∨ 8 ≤ (2 : Int32).toNatClampNeg)
  · cases (fo_t hc hf)
  have hf := fo_f hc hf
  refine ra_ld X hH 3 (by decide) (by decide) hc dX12_restOf_6 ?_
  refine lv_icmp_le (tgt := 15) hx hb dX12_restOf_7 (by decide) (fun hc => ?_) (fun hc => ?_)
  rotate_left
  · have hf := fo_f hc hf
    refine lv_ldc (v := 1000000) hx hb X.1.2.2.2.1 (X.w bw1597) dX12_restOf_10 ?_
    refine lv_goto (tgt := 30) hx hb dX12_restOf_12 (by decide) ?_
    subst hQ
    exact cEi X hH hS (so_s hf) dX12_restOf_30
  have hf := fo_t hc hf
  refine lv_aload_n hx hb dX12_restOf_15 rfl (lv_at hl 0 rfl) ?_
  refine ro_get (C := RX12) (N := 30) X hH 0 (by decide) rO rfl inBX12 14 (by decide) rfl bw1392 dX12_restOf_16 ?_
  refine lv_bipush (v := 82) hx hb dX12_restOf_19 (by decide) ?_
  refine lv_iload_n hx hb dX12_restOf_21 rfl (lv_at hl 1 rfl) ?_
  refine lv_imul hx hb dX12_restOf_22 ?_
  refine lv_iconst (v := 2) hx hb dX12_restOf_23 (by decide) ?_
  refine lv_iload_n hx hb dX12_restOf_24 rfl (lv_at hl 2 rfl) ?_
  refine lv_imul hx hb dX12_restOf_25 ?_
  refine lv_iadd hx hb dX12_restOf_26 ?_
  refine lv_iload_n hx hb dX12_restOf_27 rfl (lv_at hl 3 rfl) ?_
  refine lv_iadd hx hb dX12_restOf_28 ?_
  by_cases hc : ((((82 * a1) + (2 * a2)) + a3) < 0 ∨ 5002 ≤ (((82 * a1) + (2 * a2)) + a3).toNatClampNeg)
  · cases (fo_t hc hf)
  have hf := fo_f hc hf
  refine ra_ld X hH 8 (by decide) (by decide) hc dX12_restOf_29 ?_
  subst hQ
  exact cEi X hH hS (so_s hf) dX12_restOf_30
def f_X12_wide (w : CW) (a1 : Int32) (a2 : Int32) (a3 : Int32) : Option (Int32) := (if a3 = 1 then (Option.bind (f_X12_at w a1 a2) fun q14 => (if (((20 + q14) - 97) < 0 ∨ 3250 ≤ ((20 + q14) - 97).toNatClampNeg) then none else (some (w.1 0 ((20 + q14) - 97).toNatClampNeg)))) else (Option.bind (f_X12_formAt w a1 a2 a3) fun q27 => (if q27 = (-1) then (some 0) else (if (q27 < 0 ∨ 80 ≤ q27.toNatClampNeg) then none else (some (w.1 5 q27.toNatClampNeg))))))
abbrev rm_X12_wide : Room := { frames := 3, cells := 0, slots := 0, locals := 48 }
theorem cn_X12_wide : CN yX12_wide 3 := ⟨by decide +kernel, by decide +kernel, by decide +kernel⟩
set_option maxHeartbeats 4000000 in
set_option maxRecDepth 100000 in
theorem c_X12_wide (l : Launch) (G : GX) (w : CW) (a1 : Int32) (a2 : Int32) (a3 : Int32) (q : Int32) (hf : f_X12_wide w a1 a2 a3 = some q) : MI l G yX12_wide cX12_wide 5 (some .int) rm_X12_wide [.ref (G.2.2.1 300), .int a1, .int a2, .int a3] (rA G) (rH G w) (rH G w) q := by
  refine cM_start (by decide +kernel) (Nat.le_of_ble_eq_true rfl) ?_
  intro p e s m below meth c ls X hH hl
  have hS : va_S (rA G) s.heap s.heap [] := va_S.rf
  have hx := X.1.1
  have hb := X.1.2.1
  generalize hargs : ([.ref (G.2.2.1 300), .int a1, .int a2, .int a3] : List Value).toArray = args at X ⊢
  generalize hQ : MQ below (QI (rA G) (rH G w) q) args s 0 0 (rA G) = Q
  have hl : lv_has ls 5 [(0, .ref (G.2.2.1 300)), (1, .int a1), (2, .int a2), (3, .int a3)] := hl
  unfold f_X12_wide at hf
  refine lv_iload_n hx hb dX12_wide_0 rfl (lv_at hl 3 rfl) ?_
  refine lv_iconst (v := 1) hx hb dX12_wide_1 (by decide) ?_
  refine lv_icmp_ne (tgt := 23) hx hb dX12_wide_2 (by decide) (fun hc => ?_) (fun hc => ?_)
  rotate_left
  · have hf := fo_t hc hf
    refine lv_aload_n hx hb dX12_wide_5 rfl (lv_at hl 0 rfl) ?_
    refine ro_get (C := RX12) (N := 30) X hH 0 (by decide) rO rfl inBX12 1 (by decide) rfl bw1379 dX12_wide_6 ?_
    refine lv_bipush (v := 20) hx hb dX12_wide_9 (by decide) ?_
    refine lv_aload_n hx hb dX12_wide_11 rfl (lv_at hl 0 rfl) ?_
    refine lv_iload_n hx hb dX12_wide_12 rfl (lv_at hl 1 rfl) ?_
    refine lv_iload_n hx hb dX12_wide_13 rfl (lv_at hl 2 rfl) ?_
    obtain ⟨q14, hq14, hf⟩ := bd_s hf
    refine cGi (cVrun (rest := [.int 20, .ref (G.2.2.1 301)]) X (c_X12_at l G w a1 a2 q14 hq14) bw1602 bw1604 bw67 bw105 bw1605 cn_X12_at ⟨rfl, rfl, Nat.le_of_ble_eq_true rfl, Nat.le_of_ble_eq_true rfl⟩ (r_rec X hH) rA_g hH hS hl rfl (Nat.le_of_ble_eq_true rfl) dX12_wide_14) hS (fun H locs hH hS => ?_)
    refine lv_iadd hx hb dX12_wide_17 ?_
    refine lv_bipush (v := 97) hx hb dX12_wide_18 (by decide) ?_
    refine lv_isub hx hb dX12_wide_20 ?_
    by_cases hc : (((20 + q14) - 97) < 0 ∨ 3250 ≤ ((20 + q14) - 97).toNatClampNeg)
    · cases (fo_t hc hf)
    have hf := fo_f hc hf
    refine ra_ld X hH 0 (by decide) (by decide) hc dX12_wide_21 ?_
    subst hQ
    exact cEi X hH hS (so_s hf) dX12_wide_22
  have hf := fo_f hc hf
  refine lv_aload_n hx hb dX12_wide_23 rfl (lv_at hl 0 rfl) ?_
  refine lv_iload_n hx hb dX12_wide_24 rfl (lv_at hl 1 rfl) ?_
  refine lv_iload_n hx hb dX12_wide_25 rfl (lv_at hl 2 rfl) ?_
  refine lv_iload_n hx hb dX12_wide_26 rfl (lv_at hl 3 rfl) ?_
  obtain ⟨q27, hq27, hf⟩ := bd_s hf
  refine cGi (cVrun (rest := []) X (c_X12_formAt l G w a1 a2 a3 q27 hq27) bw1614 bw1616 bw70 bw105 bw1617 cn_X12_formAt ⟨rfl, rfl, Nat.le_of_ble_eq_true rfl, Nat.le_of_ble_eq_true rfl⟩ (r_rec X hH) rA_g hH hS hl rfl (Nat.le_of_ble_eq_true rfl) dX12_wide_27) hS (fun H locs hH hS => ?_)
  refine lv_istore (lv' := [(4, .int q27), (0, .ref (G.2.2.1 300)), (1, .int a1), (2, .int a2), (3, .int a3)]) hx hb dX12_wide_30 hl (by decide) rfl (fun ls hl => ?_)
  refine lv_iload hx hb dX12_wide_32 (lv_at hl 0 rfl) ?_
  refine lv_iconst (v := (-1)) hx hb dX12_wide_34 (by decide) ?_
  refine lv_icmp_ne (tgt := 42) hx hb dX12_wide_35 (by decide) (fun hc => ?_) (fun hc => ?_)
  rotate_left
  · have hf := fo_t hc hf
    refine lv_iconst (v := 0) hx hb dX12_wide_38 (by decide) ?_
    refine lv_goto (tgt := 49) hx hb dX12_wide_39 (by decide) ?_
    subst hQ
    exact cEi X hH hS (so_s hf) dX12_wide_49
  have hf := fo_f hc hf
  refine lv_aload_n hx hb dX12_wide_42 rfl (lv_at hl 1 rfl) ?_
  refine ro_get (C := RX12) (N := 30) X hH 0 (by decide) rO rfl inBX12 10 (by decide) rfl bw1388 dX12_wide_43 ?_
  refine lv_iload hx hb dX12_wide_46 (lv_at hl 0 rfl) ?_
  by_cases hc : (q27 < 0 ∨ 80 ≤ q27.toNatClampNeg)
  · cases (fo_t hc hf)
  have hf := fo_f hc hf
  refine ra_ld X hH 5 (by decide) (by decide) hc dX12_wide_48 ?_
  subst hQ
  exact cEi X hH hS (so_s hf) dX12_wide_49
def f_X12_ugly (w : CW) (a1 : Int32) (a2 : Int32) (a3 : Int32) : Option (Int32) := (if a3 = 1 then (some 0) else (Option.bind (f_X12_formAt w a1 a2 a3) fun q17 => (if (q17 < 0 ∨ 80 ≤ q17.toNatClampNeg) then none else (some (w.1 6 q17.toNatClampNeg)))))
abbrev rm_X12_ugly : Room := { frames := 3, cells := 0, slots := 0, locals := 48 }
theorem cn_X12_ugly : CN yX12_ugly 3 := ⟨by decide +kernel, by decide +kernel, by decide +kernel⟩
set_option maxHeartbeats 4000000 in
set_option maxRecDepth 100000 in
theorem c_X12_ugly (l : Launch) (G : GX) (w : CW) (a1 : Int32) (a2 : Int32) (a3 : Int32) (q : Int32) (hf : f_X12_ugly w a1 a2 a3 = some q) : MI l G yX12_ugly cX12_ugly 4 (some .int) rm_X12_ugly [.ref (G.2.2.1 300), .int a1, .int a2, .int a3] (rA G) (rH G w) (rH G w) q := by
  refine cM_start (by decide +kernel) (Nat.le_of_ble_eq_true rfl) ?_
  intro p e s m below meth c ls X hH hl
  have hS : va_S (rA G) s.heap s.heap [] := va_S.rf
  have hx := X.1.1
  have hb := X.1.2.1
  generalize hargs : ([.ref (G.2.2.1 300), .int a1, .int a2, .int a3] : List Value).toArray = args at X ⊢
  generalize hQ : MQ below (QI (rA G) (rH G w) q) args s 0 0 (rA G) = Q
  have hl : lv_has ls 4 [(0, .ref (G.2.2.1 300)), (1, .int a1), (2, .int a2), (3, .int a3)] := hl
  unfold f_X12_ugly at hf
  refine lv_iload_n hx hb dX12_ugly_0 rfl (lv_at hl 3 rfl) ?_
  refine lv_iconst (v := 1) hx hb dX12_ugly_1 (by decide) ?_
  refine lv_icmp_ne (tgt := 9) hx hb dX12_ugly_2 (by decide) (fun hc => ?_) (fun hc => ?_)
  rotate_left
  · have hf := fo_t hc hf
    refine lv_iconst (v := 0) hx hb dX12_ugly_5 (by decide) ?_
    refine lv_goto (tgt := 21) hx hb dX12_ugly_6 (by decide) ?_
    subst hQ
    exact cEi X hH hS (so_s hf) dX12_ugly_21
  have hf := fo_f hc hf
  refine lv_aload_n hx hb dX12_ugly_9 rfl (lv_at hl 0 rfl) ?_
  refine ro_get (C := RX12) (N := 30) X hH 0 (by decide) rO rfl inBX12 11 (by decide) rfl bw1389 dX12_ugly_10 ?_
  refine lv_aload_n hx hb dX12_ugly_13 rfl (lv_at hl 0 rfl) ?_
  refine lv_iload_n hx hb dX12_ugly_14 rfl (lv_at hl 1 rfl) ?_
  refine lv_iload_n hx hb dX12_ugly_15 rfl (lv_at hl 2 rfl) ?_
  refine lv_iload_n hx hb dX12_ugly_16 rfl (lv_at hl 3 rfl) ?_
  obtain ⟨q17, hq17, hf⟩ := bd_s hf
  refine cGi (cVrun (rest := [.ref (G.2.2.1 307)]) X (c_X12_formAt l G w a1 a2 a3 q17 hq17) bw1614 bw1616 bw70 bw105 bw1617 cn_X12_formAt ⟨rfl, rfl, Nat.le_of_ble_eq_true rfl, Nat.le_of_ble_eq_true rfl⟩ (r_rec X hH) rA_g hH hS hl rfl (Nat.le_of_ble_eq_true rfl) dX12_ugly_17) hS (fun H locs hH hS => ?_)
  by_cases hc : (q17 < 0 ∨ 80 ≤ q17.toNatClampNeg)
  · cases (fo_t hc hf)
  have hf := fo_f hc hf
  refine ra_ld X hH 6 (by decide) (by decide) hc dX12_ugly_20 ?_
  subst hQ
  exact cEi X hH hS (so_s hf) dX12_ugly_21
def f_X12_isLetter (w : CW) (a1 : Int32) (a2 : Int32) : Option (Int32) := (Option.bind (f_X12_at w a1 a2) fun q3 => (some (f_X12_in q3 97 122)))
abbrev rm_X12_isLetter : Room := { frames := 2, cells := 0, slots := 0, locals := 22 }
theorem cn_X12_isLetter : CN yX12_isLetter 2 := ⟨by decide +kernel, by decide +kernel, by decide +kernel⟩
set_option maxHeartbeats 4000000 in
set_option maxRecDepth 100000 in
theorem c_X12_isLetter (l : Launch) (G : GX) (w : CW) (a1 : Int32) (a2 : Int32) (q : Int32) (hf : f_X12_isLetter w a1 a2 = some q) : MZ l G yX12_isLetter cX12_isLetter 3 (some .boolean) rm_X12_isLetter [.ref (G.2.2.1 300), .int a1, .int a2] (rA G) (rH G w) (rH G w) q := by
  refine cM_start (by decide +kernel) (Nat.le_of_ble_eq_true rfl) ?_
  intro p e s m below meth c ls X hH hl
  have hS : va_S (rA G) s.heap s.heap [] := va_S.rf
  have hx := X.1.1
  have hb := X.1.2.1
  generalize hargs : ([.ref (G.2.2.1 300), .int a1, .int a2] : List Value).toArray = args at X ⊢
  generalize hQ : MQ below (QZ (rA G) (rH G w) q) args s 0 0 (rA G) = Q
  have hl : lv_has ls 3 [(0, .ref (G.2.2.1 300)), (1, .int a1), (2, .int a2)] := hl
  unfold f_X12_isLetter at hf
  refine lv_aload_n hx hb dX12_isLetter_0 rfl (lv_at hl 0 rfl) ?_
  refine lv_iload_n hx hb dX12_isLetter_1 rfl (lv_at hl 1 rfl) ?_
  refine lv_iload_n hx hb dX12_isLetter_2 rfl (lv_at hl 2 rfl) ?_
  obtain ⟨q3, hq3, hf⟩ := bd_s hf
  refine cGi (cVrun (rest := []) X (c_X12_at l G w a1 a2 q3 hq3) bw1602 bw1604 bw67 bw105 bw1605 cn_X12_at ⟨rfl, rfl, Nat.le_of_ble_eq_true rfl, Nat.le_of_ble_eq_true rfl⟩ (r_rec X hH) rA_g hH hS hl rfl (Nat.le_of_ble_eq_true rfl) dX12_isLetter_3) hS (fun H locs hH hS => ?_)
  refine lv_bipush (v := 97) hx hb dX12_isLetter_6 (by decide) ?_
  refine lv_bipush (v := 122) hx hb dX12_isLetter_8 (by decide) ?_
  refine cGi (cSrun (rest := []) X (c_X12_in l G (rH G w) (rA G) rA_g q3 97 122 _ rfl) bw1477 bw1478 bw105 bw1479 cn_X12_in ⟨rfl, rfl, Nat.le_of_ble_eq_true rfl, Nat.le_of_ble_eq_true rfl⟩ rA_g hH hS hl rfl (Nat.le_of_ble_eq_true rfl) dX12_isLetter_10) hS (fun H locs hH hS => ?_)
  subst hQ
  exact cEzz X hH hS (so_s hf) (zb_X12_in q3 97 122) dX12_isLetter_13
def f_X12_goingOn (w : CW) (a1 : Int32) (a2 : Int32) (a3 : Int32) (a4 : Int32) : Option (Int32) := (Option.bind (f_X12_wide w a1 a2 a3) fun q4 => (if q4 = 0 then (some 1000000) else (Option.bind (f_X12_ugly w a1 a2 a3) fun q23 => (Option.bind (f_X12_isLetter w a1 (a2 + a3)) fun q40 => (Option.bind (f_X12_restOf w (a2 + a3) (a4 + q4) (if q40 = 0 then 0 else 1)) fun q51 => (some (q23 + q51)))))))
abbrev rm_X12_goingOn : Room := { frames := 4, cells := 0, slots := 0, locals := 72 }
theorem cn_X12_goingOn : CN yX12_goingOn 4 := ⟨by decide +kernel, by decide +kernel, by decide +kernel⟩
set_option maxHeartbeats 4000000 in
set_option maxRecDepth 100000 in
theorem c_X12_goingOn (l : Launch) (G : GX) (w : CW) (a1 : Int32) (a2 : Int32) (a3 : Int32) (a4 : Int32) (q : Int32) (hf : f_X12_goingOn w a1 a2 a3 a4 = some q) : MI l G yX12_goingOn cX12_goingOn 6 (some .int) rm_X12_goingOn [.ref (G.2.2.1 300), .int a1, .int a2, .int a3, .int a4] (rA G) (rH G w) (rH G w) q := by
  refine cM_start (by decide +kernel) (Nat.le_of_ble_eq_true rfl) ?_
  intro p e s m below meth c ls X hH hl
  have hS : va_S (rA G) s.heap s.heap [] := va_S.rf
  have hx := X.1.1
  have hb := X.1.2.1
  generalize hargs : ([.ref (G.2.2.1 300), .int a1, .int a2, .int a3, .int a4] : List Value).toArray = args at X ⊢
  generalize hQ : MQ below (QI (rA G) (rH G w) q) args s 0 0 (rA G) = Q
  have hl : lv_has ls 6 [(0, .ref (G.2.2.1 300)), (1, .int a1), (2, .int a2), (3, .int a3), (4, .int a4)] := hl
  unfold f_X12_goingOn at hf
  refine lv_aload_n hx hb dX12_goingOn_0 rfl (lv_at hl 0 rfl) ?_
  refine lv_iload_n hx hb dX12_goingOn_1 rfl (lv_at hl 1 rfl) ?_
  refine lv_iload_n hx hb dX12_goingOn_2 rfl (lv_at hl 2 rfl) ?_
  refine lv_iload_n hx hb dX12_goingOn_3 rfl (lv_at hl 3 rfl) ?_
  obtain ⟨q4, hq4, hf⟩ := bd_s hf
  refine cGi (cVrun (rest := []) X (c_X12_wide l G w a1 a2 a3 q4 hq4) bw1610 bw1612 bw69 bw105 bw1613 cn_X12_wide ⟨rfl, rfl, Nat.le_of_ble_eq_true rfl, Nat.le_of_ble_eq_true rfl⟩ (r_rec X hH) rA_g hH hS hl rfl (Nat.le_of_ble_eq_true rfl) dX12_goingOn_4) hS (fun H locs hH hS => ?_)
  refine lv_istore (lv' := [(5, .int q4), (0, .ref (G.2.2.1 300)), (1, .int a1), (2, .int a2), (3, .int a3), (4, .int a4)]) hx hb dX12_goingOn_7 hl (by decide) rfl (fun ls hl => ?_)
  refine lv_iload hx hb dX12_goingOn_9 (lv_at hl 0 rfl) ?_
  refine lv_if_ne (tgt := 19) hx hb dX12_goingOn_11 (by decide) (fun hc => ?_) (fun hc => ?_)
  rotate_left
  · have hf := fo_t hc hf
    refine lv_ldc (v := 1000000) hx hb X.1.2.2.2.1 (X.w bw1597) dX12_goingOn_14 ?_
    refine lv_goto (tgt := 55) hx hb dX12_goingOn_16 (by decide) ?_
    subst hQ
    exact cEi X hH hS (so_s hf) dX12_goingOn_55
  have hf := fo_f hc hf
  refine lv_aload_n hx hb dX12_goingOn_19 rfl (lv_at hl 1 rfl) ?_
  refine lv_iload_n hx hb dX12_goingOn_20 rfl (lv_at hl 2 rfl) ?_
  refine lv_iload_n hx hb dX12_goingOn_21 rfl (lv_at hl 3 rfl) ?_
  refine lv_iload_n hx hb dX12_goingOn_22 rfl (lv_at hl 4 rfl) ?_
  obtain ⟨q23, hq23, hf⟩ := bd_s hf
  refine cGi (cVrun (rest := []) X (c_X12_ugly l G w a1 a2 a3 q23 hq23) bw1618 bw1620 bw71 bw105 bw1621 cn_X12_ugly ⟨rfl, rfl, Nat.le_of_ble_eq_true rfl, Nat.le_of_ble_eq_true rfl⟩ (r_rec X hH) rA_g hH hS hl rfl (Nat.le_of_ble_eq_true rfl) dX12_goingOn_23) hS (fun H locs hH hS => ?_)
  refine lv_aload_n hx hb dX12_goingOn_26 rfl (lv_at hl 1 rfl) ?_
  refine lv_iload_n hx hb dX12_goingOn_27 rfl (lv_at hl 3 rfl) ?_
  refine lv_iload_n hx hb dX12_goingOn_28 rfl (lv_at hl 4 rfl) ?_
  refine lv_iadd hx hb dX12_goingOn_29 ?_
  refine lv_iload hx hb dX12_goingOn_30 (lv_at hl 5 rfl) ?_
  refine lv_iload hx hb dX12_goingOn_32 (lv_at hl 0 rfl) ?_
  refine lv_iadd hx hb dX12_goingOn_34 ?_
  refine lv_aload_n hx hb dX12_goingOn_35 rfl (lv_at hl 1 rfl) ?_
  refine lv_iload_n hx hb dX12_goingOn_36 rfl (lv_at hl 2 rfl) ?_
  refine lv_iload_n hx hb dX12_goingOn_37 rfl (lv_at hl 3 rfl) ?_
  refine lv_iload_n hx hb dX12_goingOn_38 rfl (lv_at hl 4 rfl) ?_
  refine lv_iadd hx hb dX12_goingOn_39 ?_
  obtain ⟨q40, hq40, hf⟩ := bd_s hf
  refine cGz (cVrun (rest := [.int (a4 + q4), .int (a2 + a3), .ref (G.2.2.1 300), .int q23]) X (c_X12_isLetter l G w a1 (a2 + a3) q40 hq40) bw1598 bw1600 bw66 bw105 bw1601 cn_X12_isLetter ⟨rfl, rfl, Nat.le_of_ble_eq_true rfl, Nat.le_of_ble_eq_true rfl⟩ (r_rec X hH) rA_g hH hS hl rfl (Nat.le_of_ble_eq_true rfl) dX12_goingOn_40) hS (fun hz40 H locs hH hS => ?_)
  have hJ : ∀ (H : Heap) (locs : List Loc), rH G w H → va_S (rA G) s.heap H locs → W p l e rm_X12_goingOn s m args below meth c H locs 0 0 Q (F0 m 51 ls [.int (if q40 = 0 then 0 else 1), .int (a4 + q4), .int (a2 + a3), .ref (G.2.2.1 300), .int q23]) := by
    intro H locs hH hS
    obtain ⟨q51, hq51, hf⟩ := bd_s hf
    refine cGi (cVrun (rest := [.int q23]) X (c_X12_restOf l G w (a2 + a3) (a4 + q4) (if q40 = 0 then 0 else 1) q51 hq51) bw1622 bw1624 bw72 bw105 bw1625 cn_X12_restOf ⟨rfl, rfl, Nat.le_of_ble_eq_true rfl, Nat.le_of_ble_eq_true rfl⟩ (r_rec X hH) rA_g hH hS hl rfl (Nat.le_of_ble_eq_true rfl) dX12_goingOn_51) hS (fun H locs hH hS => ?_)
    refine lv_iadd hx hb dX12_goingOn_54 ?_
    subst hQ
    exact cEi X hH hS (so_s hf) dX12_goingOn_55
  refine lv_if_eq (tgt := 50) hx hb dX12_goingOn_43 (by decide) (fun hc43 => ?_) (fun hc43 => ?_)
  · refine lv_iconst (v := 0) hx hb dX12_goingOn_50 (by decide) ?_
    exact W.eq (by rw [if_pos hc43] <;> rfl) (hJ _ _ hH hS)
  · refine lv_iconst (v := 1) hx hb dX12_goingOn_46 (by decide) ?_
    refine lv_goto (tgt := 51) hx hb dX12_goingOn_47 (by decide) ?_
    exact W.eq (by rw [if_neg hc43] <;> rfl) (hJ _ _ hH hS)
def f_X12_breaking (w : CW) (a1 : Int32) (a2 : Int32) (a3 : Int32) (a4 : Int32) (a5 : Int32) : Option (Int32) := (Option.bind (f_X12_wide w a1 a2 a3) fun q4 => (nmk (fun (z58_0 : Int32) => (if z58_0 = 0 then (some 1000000) else (Option.bind (f_X12_ugly w a1 a2 a3) fun q69 => (if ((5 : Int32) < 0 ∨ 8 ≤ (5 : Int32).toNatClampNeg) then none else (Option.bind (f_X12_restOf w (a2 + a3) 0 0) fun q85 => (some ((q69 + (w.1 3 (5 : Int32).toNatClampNeg)) + q85))))))) fun j58 => (nmk (fun (_ : Unit) => (j58 0)) fun j57 => (if q4 ≤ 0 then (j57 ()) else (if a5 = 1 then (Option.bind (f_X12_isLetter w a1 (a2 + a3)) fun q25 => (if q25 = 0 then (j57 ()) else (if ((46 : Int32) < 0 ∨ 3250 ≤ (46 : Int32).toNatClampNeg) then none else (if ((2 : Int32) < 0 ∨ 8 ≤ (2 : Int32).toNatClampNeg) then none else (if ((a4 + q4) + (w.1 0 (46 : Int32).toNatClampNeg)) = (w.1 3 (2 : Int32).toNatClampNeg) then (j58 1) else (j57 ())))))) else (j57 ()))))))
abbrev rm_X12_breaking : Room := { frames := 4, cells := 0, slots := 0, locals := 72 }
theorem cn_X12_breaking : CN yX12_breaking 5 := ⟨by decide +kernel, by decide +kernel, by decide +kernel⟩
set_option maxHeartbeats 4000000 in
set_option maxRecDepth 100000 in
theorem c_X12_breaking (l : Launch) (G : GX) (w : CW) (a1 : Int32) (a2 : Int32) (a3 : Int32) (a4 : Int32) (a5 : Int32) (q : Int32) (hf : f_X12_breaking w a1 a2 a3 a4 a5 = some q) : MI l G yX12_breaking cX12_breaking 8 (some .int) rm_X12_breaking [.ref (G.2.2.1 300), .int a1, .int a2, .int a3, .int a4, .int a5] (rA G) (rH G w) (rH G w) q := by
  refine cM_start (by decide +kernel) (Nat.le_of_ble_eq_true rfl) ?_
  intro p e s m below meth c ls X hH hl
  have hS : va_S (rA G) s.heap s.heap [] := va_S.rf
  have hx := X.1.1
  have hb := X.1.2.1
  generalize hargs : ([.ref (G.2.2.1 300), .int a1, .int a2, .int a3, .int a4, .int a5] : List Value).toArray = args at X ⊢
  generalize hQ : MQ below (QI (rA G) (rH G w) q) args s 0 0 (rA G) = Q
  have hl : lv_has ls 8 [(0, .ref (G.2.2.1 300)), (1, .int a1), (2, .int a2), (3, .int a3), (4, .int a4), (5, .int a5)] := hl
  unfold f_X12_breaking at hf
  refine lv_aload_n hx hb dX12_breaking_0 rfl (lv_at hl 0 rfl) ?_
  refine lv_iload_n hx hb dX12_breaking_1 rfl (lv_at hl 1 rfl) ?_
  refine lv_iload_n hx hb dX12_breaking_2 rfl (lv_at hl 2 rfl) ?_
  refine lv_iload_n hx hb dX12_breaking_3 rfl (lv_at hl 3 rfl) ?_
  obtain ⟨q4, hq4, hf⟩ := bd_s hf
  refine cGi (cVrun (rest := []) X (c_X12_wide l G w a1 a2 a3 q4 hq4) bw1610 bw1612 bw69 bw105 bw1613 cn_X12_wide ⟨rfl, rfl, Nat.le_of_ble_eq_true rfl, Nat.le_of_ble_eq_true rfl⟩ (r_rec X hH) rA_g hH hS hl rfl (Nat.le_of_ble_eq_true rfl) dX12_breaking_4) hS (fun H locs hH hS => ?_)
  refine lv_istore (lv' := [(6, .int q4), (0, .ref (G.2.2.1 300)), (1, .int a1), (2, .int a2), (3, .int a3), (4, .int a4), (5, .int a5)]) hx hb dX12_breaking_7 hl (by decide) rfl (fun ls hl => ?_)
  refine lv_iload hx hb dX12_breaking_9 (lv_at hl 0 rfl) ?_
  obtain ⟨j58, ej58, hf⟩ := nm_x hf
  have hj58 : ∀ (z58_0 : Int32) (H : Heap) (locs : List Loc) (ls : Array Slot), (z58_0 = 0 ∨ z58_0 = 1) → j58 z58_0 = some q → rH G w H → va_S (rA G) s.heap H locs → lv_has ls 8 [(0, .ref (G.2.2.1 300)), (1, .int a1), (2, .int a2), (3, .int a3)] → W p l e rm_X12_breaking s m args below meth c H locs 0 0 Q (F0 m 58 ls [.int z58_0]) := by
    intro z58_0 H locs ls hzz58_0 hf hH hS hl
    have hf := jb1 ej58 hf
    refine lv_istore (lv' := [(7, .int z58_0), (0, .ref (G.2.2.1 300)), (1, .int a1), (2, .int a2), (3, .int a3)]) hx hb dX12_breaking_58 hl (by decide) rfl (fun ls hl => ?_)
    refine lv_iload hx hb dX12_breaking_60 (lv_at hl 0 rfl) ?_
    refine lv_if_eq (tgt := 92) hx hb dX12_breaking_62 (by decide) (fun hc => ?_) (fun hc => ?_)
    · have hf := fo_t hc hf
      refine lv_ldc (v := 1000000) hx hb X.1.2.2.2.1 (X.w bw1597) dX12_breaking_92 ?_
      subst hQ
      exact cEi X hH hS (so_s hf) dX12_breaking_94
    have hf := fo_f hc hf
    refine lv_aload_n hx hb dX12_breaking_65 rfl (lv_at hl 1 rfl) ?_
    refine lv_iload_n hx hb dX12_breaking_66 rfl (lv_at hl 2 rfl) ?_
    refine lv_iload_n hx hb dX12_breaking_67 rfl (lv_at hl 3 rfl) ?_
    refine lv_iload_n hx hb dX12_breaking_68 rfl (lv_at hl 4 rfl) ?_
    obtain ⟨q69, hq69, hf⟩ := bd_s hf
    refine cGi (cVrun (rest := []) X (c_X12_ugly l G w a1 a2 a3 q69 hq69) bw1618 bw1620 bw71 bw105 bw1621 cn_X12_ugly ⟨rfl, rfl, Nat.le_of_ble_eq_true rfl, Nat.le_of_ble_eq_true rfl⟩ (r_rec X hH) rA_g hH hS hl rfl (Nat.le_of_ble_eq_true rfl) dX12_breaking_69) hS (fun H locs hH hS => ?_)
    refine lv_aload_n hx hb dX12_breaking_72 rfl (lv_at hl 1 rfl) ?_
    refine ro_get (C := RX12) (N := 30) X hH 0 (by decide) rO rfl inBX12 8 (by decide) rfl bw1386 dX12_breaking_73 ?_
    refine lv_iconst (v := 5) hx hb dX12_breaking_76 (by decide) ?_
    by_cases hc : ((5 : Int32) < 0 ∨ 8 ≤ (5 : Int32).toNatClampNeg)
    · cases (fo_t hc hf)
    have hf := fo_f hc hf
    refine ra_ld X hH 3 (by decide) (by decide) hc dX12_breaking_77 ?_
    refine lv_iadd hx hb dX12_breaking_78 ?_
    refine lv_aload_n hx hb dX12_breaking_79 rfl (lv_at hl 1 rfl) ?_
    refine lv_iload_n hx hb dX12_breaking_80 rfl (lv_at hl 3 rfl) ?_
    refine lv_iload_n hx hb dX12_breaking_81 rfl (lv_at hl 4 rfl) ?_
    refine lv_iadd hx hb dX12_breaking_82 ?_
    refine lv_iconst (v := 0) hx hb dX12_breaking_83 (by decide) ?_
    refine lv_iconst (v := 0) hx hb dX12_breaking_84 (by decide) ?_
    obtain ⟨q85, hq85, hf⟩ := bd_s hf
    refine cGi (cVrun (rest := [.int (q69 + (w.1 3 (5 : Int32).toNatClampNeg))]) X (c_X12_restOf l G w (a2 + a3) 0 0 q85 hq85) bw1622 bw1624 bw72 bw105 bw1625 cn_X12_restOf ⟨rfl, rfl, Nat.le_of_ble_eq_true rfl, Nat.le_of_ble_eq_true rfl⟩ (r_rec X hH) rA_g hH hS hl rfl (Nat.le_of_ble_eq_true rfl) dX12_breaking_85) hS (fun H locs hH hS => ?_)
    refine lv_iadd hx hb dX12_breaking_88 ?_
    refine lv_goto (tgt := 94) hx hb dX12_breaking_89 (by decide) ?_
    subst hQ
    exact cEi X hH hS (so_s hf) dX12_breaking_94
  obtain ⟨j57, ej57, hf⟩ := nm_x hf
  have hj57 : ∀ (u0 : Unit) (H : Heap) (locs : List Loc) (ls : Array Slot), j57 u0 = some q → rH G w H → va_S (rA G) s.heap H locs → lv_has ls 8 [(0, .ref (G.2.2.1 300)), (1, .int a1), (2, .int a2), (3, .int a3)] → W p l e rm_X12_breaking s m args below meth c H locs 0 0 Q (F0 m 57 ls []) := by
    intro u0 H locs ls hf hH hS hl
    have hf := jb1 ej57 hf
    refine lv_iconst (v := 0) hx hb dX12_breaking_57 (by decide) ?_
    exact hj58 _ _ _ _ zb0 hf hH hS (lv_sub hl [0, 1, 2, 3] rfl)
  refine lv_if_le (tgt := 57) hx hb dX12_breaking_11 (by decide) (fun hc => ?_) (fun hc => ?_)
  · have hf := fo_t hc hf
    exact hj57 () _ _ _ hf hH hS (lv_sub hl [1, 2, 3, 4] rfl)
  have hf := fo_f hc hf
  refine lv_iload hx hb dX12_breaking_14 (lv_at hl 6 rfl) ?_
  refine lv_iconst (v := 1) hx hb dX12_breaking_16 (by decide) ?_
  refine lv_icmp_ne (tgt := 57) hx hb dX12_breaking_17 (by decide) (fun hc => ?_) (fun hc => ?_)
  · have hf := fo_f hc hf
    exact hj57 () _ _ _ hf hH hS (lv_sub hl [1, 2, 3, 4] rfl)
  have hf := fo_t hc hf
  refine lv_aload_n hx hb dX12_breaking_20 rfl (lv_at hl 1 rfl) ?_
  refine lv_iload_n hx hb dX12_breaking_21 rfl (lv_at hl 2 rfl) ?_
  refine lv_iload_n hx hb dX12_breaking_22 rfl (lv_at hl 3 rfl) ?_
  refine lv_iload_n hx hb dX12_breaking_23 rfl (lv_at hl 4 rfl) ?_
  refine lv_iadd hx hb dX12_breaking_24 ?_
  obtain ⟨q25, hq25, hf⟩ := bd_s hf
  refine cGz (cVrun (rest := []) X (c_X12_isLetter l G w a1 (a2 + a3) q25 hq25) bw1598 bw1600 bw66 bw105 bw1601 cn_X12_isLetter ⟨rfl, rfl, Nat.le_of_ble_eq_true rfl, Nat.le_of_ble_eq_true rfl⟩ (r_rec X hH) rA_g hH hS hl rfl (Nat.le_of_ble_eq_true rfl) dX12_breaking_25) hS (fun hz25 H locs hH hS => ?_)
  refine lv_if_eq (tgt := 57) hx hb dX12_breaking_28 (by decide) (fun hc => ?_) (fun hc => ?_)
  · have hf := fo_t hc hf
    exact hj57 () _ _ _ hf hH hS (lv_sub hl [1, 2, 3, 4] rfl)
  have hf := fo_f hc hf
  refine lv_iload hx hb dX12_breaking_31 (lv_at hl 5 rfl) ?_
  refine lv_iload hx hb dX12_breaking_33 (lv_at hl 0 rfl) ?_
  refine lv_iadd hx hb dX12_breaking_35 ?_
  refine lv_aload_n hx hb dX12_breaking_36 rfl (lv_at hl 1 rfl) ?_
  refine ro_get (C := RX12) (N := 30) X hH 0 (by decide) rO rfl inBX12 1 (by decide) rfl bw1379 dX12_breaking_37 ?_
  refine lv_bipush (v := 46) hx hb dX12_breaking_40 (by decide) ?_
  by_cases hc : ((46 : Int32) < 0 ∨ 3250 ≤ (46 : Int32).toNatClampNeg)
  · cases (fo_t hc hf)
  have hf := fo_f hc hf
  refine ra_ld X hH 0 (by decide) (by decide) hc dX12_breaking_42 ?_
  refine lv_iadd hx hb dX12_breaking_43 ?_
  refine lv_aload_n hx hb dX12_breaking_44 rfl (lv_at hl 1 rfl) ?_
  refine ro_get (C := RX12) (N := 30) X hH 0 (by decide) rO rfl inBX12 8 (by decide) rfl bw1386 dX12_breaking_45 ?_
  refine lv_iconst (v := 2) hx hb dX12_breaking_48 (by decide) ?_
  by_cases hc : ((2 : Int32) < 0 ∨ 8 ≤ (2 : Int32).toNatClampNeg)
  · cases (fo_t hc hf)
  have hf := fo_f hc hf
  refine ra_ld X hH 3 (by decide) (by decide) hc dX12_breaking_49 ?_
  refine lv_icmp_ne (tgt := 57) hx hb dX12_breaking_50 (by decide) (fun hc => ?_) (fun hc => ?_)
  · have hf := fo_f hc hf
    exact hj57 () _ _ _ hf hH hS (lv_sub hl [1, 2, 3, 4] rfl)
  have hf := fo_t hc hf
  refine lv_iconst (v := 1) hx hb dX12_breaking_53 (by decide) ?_
  refine lv_goto (tgt := 58) hx hb dX12_breaking_54 (by decide) ?_
  exact hj58 _ _ _ _ zb1 hf hH hS (lv_sub hl [1, 2, 3, 4] rfl)
