def f_X12_loan (w : CW) (a1 : Int32) (a2 : Int32) (a3 : Int32) : Option (Int32 × CW) := (if (f_X12_in a1 1 9999) = 0 then (some ((-2), w)) else (if (f_X12_isDay a2) = 0 then (some ((-2), w)) else (if (f_X12_in a3 0 40) = 0 then (some ((-2), w)) else (if ((8 : Int32) < 0 ∨ 3250 ≤ (8 : Int32).toNatClampNeg) then none else (if (w.1 0 (8 : Int32).toNatClampNeg) = 6 then (some ((-4), w)) else (if ((8 : Int32) < 0 ∨ 3250 ≤ (8 : Int32).toNatClampNeg) then none else (nmk (w.1 0 (8 : Int32).toNatClampNeg) fun (x53 : Int32) => (if ((3160 + x53) < 0 ∨ 3250 ≤ (3160 + x53).toNatClampNeg) then none else (nmk (sC w 0 (3160 + x53).toNatClampNeg a1) fun w66 => (if ((3166 + x53) < 0 ∨ 3250 ≤ (3166 + x53).toNatClampNeg) then none else (nmk (sC w66 0 (3166 + x53).toNatClampNeg a2) fun w78 => (if ((3172 + x53) < 0 ∨ 3250 ≤ (3172 + x53).toNatClampNeg) then none else (nmk (sC w78 0 (3172 + x53).toNatClampNeg a3) fun w90 => (if ((8 : Int32) < 0 ∨ 3250 ≤ (8 : Int32).toNatClampNeg) then none else (if ((8 : Int32) < 0 ∨ 3250 ≤ (8 : Int32).toNatClampNeg) then none else (nmk (sC w90 0 (8 : Int32).toNatClampNeg ((w90.1 0 (8 : Int32).toNatClampNeg) + 1)) fun w101 => (some (x53, w101))))))))))))))))))
abbrev rm_X12_loan : Room := { frames := 3, cells := 0, slots := 0, locals := 42 }
theorem cn_X12_loan : CN yX12_loan 3 := ⟨by decide +kernel, by decide +kernel, by decide +kernel⟩
set_option maxHeartbeats 4000000 in
set_option maxRecDepth 100000 in
theorem c_X12_loan (l : Launch) (G : GX) (w : CW) (a1 : Int32) (a2 : Int32) (a3 : Int32) (q : Int32 × CW) (hf : f_X12_loan w a1 a2 a3 = some q) : MI l G yX12_loan cX12_loan 5 (some .int) rm_X12_loan [.ref (G.2.2.1 300), .int a1, .int a2, .int a3] (rA G) (rH G w) (rH G q.2) q.1 := by
  refine cM_start (by decide +kernel) (Nat.le_of_ble_eq_true rfl) ?_
  intro p e s m below meth c ls X hH hl
  have hS : va_S (rA G) s.heap s.heap [] := va_S.rf
  have hx := X.1.1
  have hb := X.1.2.1
  generalize hargs : ([.ref (G.2.2.1 300), .int a1, .int a2, .int a3] : List Value).toArray = args at X ⊢
  generalize hQ : MQ below (QI (rA G) (rH G q.2) q.1) args s 0 0 (rA G) = Q
  have hl : lv_has ls 5 [(0, .ref (G.2.2.1 300)), (1, .int a1), (2, .int a2), (3, .int a3)] := hl
  unfold f_X12_loan at hf
  refine lv_iload_n hx hb dX12_loan_0 rfl (lv_at hl 1 rfl) ?_
  refine lv_iconst (v := 1) hx hb dX12_loan_1 (by decide) ?_
  refine lv_sipush (v := 9999) hx hb dX12_loan_2 (by decide) ?_
  refine cGi (cSrun (rest := []) X (c_X12_in l G (rH G w) (rA G) rA_g a1 1 9999 _ rfl) bw1477 bw1478 bw105 bw1479 cn_X12_in ⟨rfl, rfl, Nat.le_of_ble_eq_true rfl, Nat.le_of_ble_eq_true rfl⟩ rA_g hH hS hl rfl (Nat.le_of_ble_eq_true rfl) dX12_loan_5) hS (fun H locs hH hS => ?_)
  refine lv_if_eq (tgt := 28) hx hb dX12_loan_8 (by decide) (fun hc => ?_) (fun hc => ?_)
  · have hf := fo_t hc hf
    refine lv_bipush (v := (-2)) hx hb dX12_loan_28 (by decide) ?_
    subst hQ
    exact cEi X (rH2 (so_s hf) hH) hS (pf1 (so_s hf)) dX12_loan_30
  have hf := fo_f hc hf
  refine lv_iload_n hx hb dX12_loan_11 rfl (lv_at hl 2 rfl) ?_
  refine cGi (cSrun (rest := []) X (c_X12_isDay l G (rH G w) (rA G) rA_g a2 _ rfl) bw1505 bw1506 bw105 bw1507 cn_X12_isDay ⟨rfl, rfl, Nat.le_of_ble_eq_true rfl, Nat.le_of_ble_eq_true rfl⟩ rA_g hH hS hl rfl (Nat.le_of_ble_eq_true rfl) dX12_loan_12) hS (fun H locs hH hS => ?_)
  refine lv_if_eq (tgt := 28) hx hb dX12_loan_15 (by decide) (fun hc => ?_) (fun hc => ?_)
  · have hf := fo_t hc hf
    refine lv_bipush (v := (-2)) hx hb dX12_loan_28 (by decide) ?_
    subst hQ
    exact cEi X (rH2 (so_s hf) hH) hS (pf1 (so_s hf)) dX12_loan_30
  have hf := fo_f hc hf
  refine lv_iload_n hx hb dX12_loan_18 rfl (lv_at hl 3 rfl) ?_
  refine lv_iconst (v := 0) hx hb dX12_loan_19 (by decide) ?_
  refine lv_bipush (v := 40) hx hb dX12_loan_20 (by decide) ?_
  refine cGi (cSrun (rest := []) X (c_X12_in l G (rH G w) (rA G) rA_g a3 0 40 _ rfl) bw1477 bw1478 bw105 bw1479 cn_X12_in ⟨rfl, rfl, Nat.le_of_ble_eq_true rfl, Nat.le_of_ble_eq_true rfl⟩ rA_g hH hS hl rfl (Nat.le_of_ble_eq_true rfl) dX12_loan_22) hS (fun H locs hH hS => ?_)
  refine lv_if_ne (tgt := 31) hx hb dX12_loan_25 (by decide) (fun hc => ?_) (fun hc => ?_)
  rotate_left
  · have hf := fo_t hc hf
    refine lv_bipush (v := (-2)) hx hb dX12_loan_28 (by decide) ?_
    subst hQ
    exact cEi X (rH2 (so_s hf) hH) hS (pf1 (so_s hf)) dX12_loan_30
  have hf := fo_f hc hf
  refine lv_aload_n hx hb dX12_loan_31 rfl (lv_at hl 0 rfl) ?_
  refine ro_get (C := RX12) (N := 30) X hH 0 (by decide) rO rfl inBX12 1 (by decide) rfl bw1379 dX12_loan_32 ?_
  refine lv_bipush (v := 8) hx hb dX12_loan_35 (by decide) ?_
  by_cases hc : ((8 : Int32) < 0 ∨ 3250 ≤ (8 : Int32).toNatClampNeg)
  · cases (fo_t hc hf)
  have hf := fo_f hc hf
  refine ra_ld X hH 0 (by decide) (by decide) hc dX12_loan_37 ?_
  refine lv_bipush (v := 6) hx hb dX12_loan_38 (by decide) ?_
  refine lv_icmp_ne (tgt := 46) hx hb dX12_loan_40 (by decide) (fun hc => ?_) (fun hc => ?_)
  rotate_left
  · have hf := fo_t hc hf
    refine lv_bipush (v := (-4)) hx hb dX12_loan_43 (by decide) ?_
    subst hQ
    exact cEi X (rH2 (so_s hf) hH) hS (pf1 (so_s hf)) dX12_loan_45
  have hf := fo_f hc hf
  refine lv_aload_n hx hb dX12_loan_46 rfl (lv_at hl 0 rfl) ?_
  refine ro_get (C := RX12) (N := 30) X hH 0 (by decide) rO rfl inBX12 1 (by decide) rfl bw1379 dX12_loan_47 ?_
  refine lv_bipush (v := 8) hx hb dX12_loan_50 (by decide) ?_
  by_cases hc : ((8 : Int32) < 0 ∨ 3250 ≤ (8 : Int32).toNatClampNeg)
  · cases (fo_t hc hf)
  have hf := fo_f hc hf
  refine ra_ld X hH 0 (by decide) (by decide) hc dX12_loan_52 ?_
  refine lv_topi (fun x53 ex53 => ?_)
  have hf := nm_s hf x53 ex53
  refine lv_istore (lv' := [(4, .int x53), (0, .ref (G.2.2.1 300)), (1, .int a1), (2, .int a2), (3, .int a3)]) hx hb dX12_loan_53 hl (by decide) rfl (fun ls hl => ?_)
  refine lv_aload_n hx hb dX12_loan_55 rfl (lv_at hl 1 rfl) ?_
  refine ro_get (C := RX12) (N := 30) X hH 0 (by decide) rO rfl inBX12 1 (by decide) rfl bw1379 dX12_loan_56 ?_
  refine lv_sipush (v := 3160) hx hb dX12_loan_59 (by decide) ?_
  refine lv_iload hx hb dX12_loan_62 (lv_at hl 0 rfl) ?_
  refine lv_iadd hx hb dX12_loan_64 ?_
  refine lv_iload_n hx hb dX12_loan_65 rfl (lv_at hl 2 rfl) ?_
  by_cases hc : ((3160 + x53) < 0 ∨ 3250 ≤ (3160 + x53).toNatClampNeg)
  · cases (fo_t hc hf)
  have hf := fo_f hc hf
  refine ra_st X hH hS 0 (by decide) (by decide) hc dX12_loan_66 (fun H locs hH hS => ?_)
  obtain ⟨w66, ew66⟩ : ∃ z : CW, z = (sC w 0 (3160 + x53).toNatClampNeg a1) := ⟨_, rfl⟩
  have hf := nm_s hf w66 ew66
  have hH : rH G w66 H := ew66 ▸ hH
  refine lv_aload_n hx hb dX12_loan_67 rfl (lv_at hl 1 rfl) ?_
  refine ro_get (C := RX12) (N := 30) X hH 0 (by decide) rO rfl inBX12 1 (by decide) rfl bw1379 dX12_loan_68 ?_
  refine lv_sipush (v := 3166) hx hb dX12_loan_71 (by decide) ?_
  refine lv_iload hx hb dX12_loan_74 (lv_at hl 0 rfl) ?_
  refine lv_iadd hx hb dX12_loan_76 ?_
  refine lv_iload_n hx hb dX12_loan_77 rfl (lv_at hl 3 rfl) ?_
  by_cases hc : ((3166 + x53) < 0 ∨ 3250 ≤ (3166 + x53).toNatClampNeg)
  · cases (fo_t hc hf)
  have hf := fo_f hc hf
  refine ra_st X hH hS 0 (by decide) (by decide) hc dX12_loan_78 (fun H locs hH hS => ?_)
  obtain ⟨w78, ew78⟩ : ∃ z : CW, z = (sC w66 0 (3166 + x53).toNatClampNeg a2) := ⟨_, rfl⟩
  have hf := nm_s hf w78 ew78
  have hH : rH G w78 H := ew78 ▸ hH
  refine lv_aload_n hx hb dX12_loan_79 rfl (lv_at hl 1 rfl) ?_
  refine ro_get (C := RX12) (N := 30) X hH 0 (by decide) rO rfl inBX12 1 (by decide) rfl bw1379 dX12_loan_80 ?_
  refine lv_sipush (v := 3172) hx hb dX12_loan_83 (by decide) ?_
  refine lv_iload hx hb dX12_loan_86 (lv_at hl 0 rfl) ?_
  refine lv_iadd hx hb dX12_loan_88 ?_
  refine lv_iload_n hx hb dX12_loan_89 rfl (lv_at hl 4 rfl) ?_
  by_cases hc : ((3172 + x53) < 0 ∨ 3250 ≤ (3172 + x53).toNatClampNeg)
  · cases (fo_t hc hf)
  have hf := fo_f hc hf
  refine ra_st X hH hS 0 (by decide) (by decide) hc dX12_loan_90 (fun H locs hH hS => ?_)
  obtain ⟨w90, ew90⟩ : ∃ z : CW, z = (sC w78 0 (3172 + x53).toNatClampNeg a3) := ⟨_, rfl⟩
  have hf := nm_s hf w90 ew90
  have hH : rH G w90 H := ew90 ▸ hH
  refine lv_aload_n hx hb dX12_loan_91 rfl (lv_at hl 1 rfl) ?_
  refine ro_get (C := RX12) (N := 30) X hH 0 (by decide) rO rfl inBX12 1 (by decide) rfl bw1379 dX12_loan_92 ?_
  refine lv_bipush (v := 8) hx hb dX12_loan_95 (by decide) ?_
  refine lv_dup2_11 hx hb dX12_loan_97 rfl rfl ?_
  by_cases hc : ((8 : Int32) < 0 ∨ 3250 ≤ (8 : Int32).toNatClampNeg)
  · cases (fo_t hc hf)
  have hf := fo_f hc hf
  refine ra_ld X hH 0 (by decide) (by decide) hc dX12_loan_98 ?_
  refine lv_iconst (v := 1) hx hb dX12_loan_99 (by decide) ?_
  refine lv_iadd hx hb dX12_loan_100 ?_
  by_cases hc : ((8 : Int32) < 0 ∨ 3250 ≤ (8 : Int32).toNatClampNeg)
  · cases (fo_t hc hf)
  have hf := fo_f hc hf
  refine ra_st X hH hS 0 (by decide) (by decide) hc dX12_loan_101 (fun H locs hH hS => ?_)
  obtain ⟨w101, ew101⟩ : ∃ z : CW, z = (sC w90 0 (8 : Int32).toNatClampNeg ((w90.1 0 (8 : Int32).toNatClampNeg) + 1)) := ⟨_, rfl⟩
  have hf := nm_s hf w101 ew101
  have hH : rH G w101 H := ew101 ▸ hH
  refine lv_iload hx hb dX12_loan_102 (lv_at hl 0 rfl) ?_
  subst hQ
  exact cEi X (rH2 (so_s hf) hH) hS (pf1 (so_s hf)) dX12_loan_104
def f_X12_paidOn_L5 (w : CW) (a1 : Int32) (a2 : Int32) : Nat → Int32 → Int32 → Option (Int32)
  | 0, _, _ => none
  | n5 + 1, v5_3, v5_4 => (if ((11 : Int32) < 0 ∨ 3250 ≤ (11 : Int32).toNatClampNeg) then none else (if (w.1 0 (11 : Int32).toNatClampNeg) ≤ v5_4 then (some v5_3) else (if ((3180 + v5_4) < 0 ∨ 3250 ≤ (3180 + v5_4).toNatClampNeg) then none else (nmk (fun (z63_0 : Int32) => (nmk (v5_3 + z63_0) fun (x64 : Int32) => (nmk (v5_4 + 1) fun (x65 : Int32) => (f_X12_paidOn_L5 w a1 a2 n5 x64 x65)))) fun j63 => (nmk (fun (_ : Unit) => (j63 0)) fun j62 => (if (w.1 0 (3180 + v5_4).toNatClampNeg) = a1 then (if ((3200 + v5_4) < 0 ∨ 3250 ≤ (3200 + v5_4).toNatClampNeg) then none else (if (w.1 0 (3200 + v5_4).toNatClampNeg) = a2 then (if ((3220 + v5_4) < 0 ∨ 3250 ≤ (3220 + v5_4).toNatClampNeg) then none else (j63 (w.1 0 (3220 + v5_4).toNatClampNeg))) else (j62 ()))) else (j62 ())))))))
def f_X12_paidOn (w : CW) (a1 : Int32) (a2 : Int32) : Option (Int32) := (f_X12_paidOn_L5 w a1 a2 FU 0 0)
abbrev rm_X12_paidOn : Room := { frames := 1, cells := 0, slots := 0, locals := 0 }
theorem cn_X12_paidOn : CN yX12_paidOn 2 := ⟨by decide +kernel, by decide +kernel, by decide +kernel⟩
set_option maxHeartbeats 4000000 in
set_option maxRecDepth 100000 in
theorem c_X12_paidOn (l : Launch) (G : GX) (w : CW) (a1 : Int32) (a2 : Int32) (q : Int32) (hf : f_X12_paidOn w a1 a2 = some q) : MI l G yX12_paidOn cX12_paidOn 5 (some .int) rm_X12_paidOn [.ref (G.2.2.1 300), .int a1, .int a2] (rA G) (rH G w) (rH G w) q := by
  refine cM_start (by decide +kernel) (Nat.le_of_ble_eq_true rfl) ?_
  intro p e s m below meth c ls X hH hl
  have hS : va_S (rA G) s.heap s.heap [] := va_S.rf
  have hx := X.1.1
  have hb := X.1.2.1
  generalize hargs : ([.ref (G.2.2.1 300), .int a1, .int a2] : List Value).toArray = args at X ⊢
  generalize hQ : MQ below (QI (rA G) (rH G w) q) args s 0 0 (rA G) = Q
  have hl : lv_has ls 5 [(0, .ref (G.2.2.1 300)), (1, .int a1), (2, .int a2)] := hl
  unfold f_X12_paidOn at hf
  refine lv_iconst (v := 0) hx hb dX12_paidOn_0 (by decide) ?_
  refine lv_istore_n (lv' := [(3, .int 0), (0, .ref (G.2.2.1 300)), (1, .int a1), (2, .int a2)]) hx hb dX12_paidOn_1 rfl hl (by decide) rfl (fun ls hl => ?_)
  refine lv_iconst (v := 0) hx hb dX12_paidOn_2 (by decide) ?_
  refine lv_istore (lv' := [(4, .int 0), (3, .int 0), (0, .ref (G.2.2.1 300)), (1, .int a1), (2, .int a2)]) hx hb dX12_paidOn_3 hl (by decide) rfl (fun ls hl => ?_)
  have hL5 : ∀ (n5 : Nat) (v5_3 : Int32) (v5_4 : Int32) (H : Heap) (locs : List Loc) (ls : Array Slot), f_X12_paidOn_L5 w a1 a2 n5 v5_3 v5_4 = some q → rH G w H → va_S (rA G) s.heap H locs → lv_has ls 5 [(4, .int v5_4), (3, .int v5_3), (0, .ref (G.2.2.1 300)), (1, .int a1), (2, .int a2)] → W p l e rm_X12_paidOn s m args below meth c H locs 0 0 Q (F0 m 5 ls []) := by
    intro n5
    induction n5 with
    | zero => intro v5_3 v5_4 H locs ls hf; rw [f_X12_paidOn_L5] at hf; cases hf
    | succ n5 ih5 =>
      intro v5_3 v5_4 H locs ls hf hH hS hl
      rw [f_X12_paidOn_L5] at hf
      refine lv_iload hx hb dX12_paidOn_5 (lv_at hl 0 rfl) ?_
      refine lv_aload_n hx hb dX12_paidOn_7 rfl (lv_at hl 2 rfl) ?_
      refine ro_get (C := RX12) (N := 30) X hH 0 (by decide) rO rfl inBX12 1 (by decide) rfl bw1379 dX12_paidOn_8 ?_
      refine lv_bipush (v := 11) hx hb dX12_paidOn_11 (by decide) ?_
      by_cases hc : ((11 : Int32) < 0 ∨ 3250 ≤ (11 : Int32).toNatClampNeg)
      · cases (fo_t hc hf)
      have hf := fo_f hc hf
      refine ra_ld X hH 0 (by decide) (by decide) hc dX12_paidOn_13 ?_
      refine lv_icmp_ge (tgt := 71) hx hb dX12_paidOn_14 (by decide) (fun hc => ?_) (fun hc => ?_)
      · have hf := fo_t hc hf
        refine lv_iload_n hx hb dX12_paidOn_71 rfl (lv_at hl 1 rfl) ?_
        subst hQ
        exact cEi X hH hS (so_s hf) dX12_paidOn_72
      have hf := fo_f hc hf
      refine lv_iload_n hx hb dX12_paidOn_17 rfl (lv_at hl 1 rfl) ?_
      refine lv_aload_n hx hb dX12_paidOn_18 rfl (lv_at hl 2 rfl) ?_
      refine ro_get (C := RX12) (N := 30) X hH 0 (by decide) rO rfl inBX12 1 (by decide) rfl bw1379 dX12_paidOn_19 ?_
      refine lv_sipush (v := 3180) hx hb dX12_paidOn_22 (by decide) ?_
      refine lv_iload hx hb dX12_paidOn_25 (lv_at hl 0 rfl) ?_
      refine lv_iadd hx hb dX12_paidOn_27 ?_
      by_cases hc : ((3180 + v5_4) < 0 ∨ 3250 ≤ (3180 + v5_4).toNatClampNeg)
      · cases (fo_t hc hf)
      have hf := fo_f hc hf
      refine ra_ld X hH 0 (by decide) (by decide) hc dX12_paidOn_28 ?_
      refine lv_iload_n hx hb dX12_paidOn_29 rfl (lv_at hl 3 rfl) ?_
      obtain ⟨j63, ej63, hf⟩ := nm_x hf
      have hj63 : ∀ (z63_0 : Int32) (H : Heap) (locs : List Loc) (ls : Array Slot), j63 z63_0 = some q → rH G w H → va_S (rA G) s.heap H locs → lv_has ls 5 [(4, .int v5_4), (0, .ref (G.2.2.1 300)), (1, .int a1), (2, .int a2)] → W p l e rm_X12_paidOn s m args below meth c H locs 0 0 Q (F0 m 63 ls [.int z63_0, .int v5_3]) := by
        intro z63_0 H locs ls hf hH hS hl
        have hf := jb1 ej63 hf
        refine lv_iadd hx hb dX12_paidOn_63 ?_
        refine lv_topi (fun x64 ex64 => ?_)
        have hf := nm_s hf x64 ex64
        refine lv_istore_n (lv' := [(3, .int x64), (4, .int v5_4), (0, .ref (G.2.2.1 300)), (1, .int a1), (2, .int a2)]) hx hb dX12_paidOn_64 rfl hl (by decide) rfl (fun ls hl => ?_)
        obtain ⟨x65, ex65⟩ : ∃ z : Int32, z = (v5_4 + 1) := ⟨_, rfl⟩
        have hf := nm_s hf x65 ex65
        refine lv_iinc (v := x65) (lv' := [(4, .int x65), (3, .int x64), (0, .ref (G.2.2.1 300)), (1, .int a1), (2, .int a2)]) hx hb dX12_paidOn_65 hl (k := 1) rfl (by rw [ex65]; rfl) (by decide) rfl (fun ls hl => ?_)
        refine lv_goto (tgt := 5) hx hb dX12_paidOn_68 (by decide) ?_
        exact ih5 _ _ _ _ _ hf hH hS (lv_sub hl [0, 1, 2, 3, 4] rfl)
      obtain ⟨j62, ej62, hf⟩ := nm_x hf
      have hj62 : ∀ (u0 : Unit) (H : Heap) (locs : List Loc) (ls : Array Slot), j62 u0 = some q → rH G w H → va_S (rA G) s.heap H locs → lv_has ls 5 [(4, .int v5_4), (0, .ref (G.2.2.1 300)), (1, .int a1), (2, .int a2)] → W p l e rm_X12_paidOn s m args below meth c H locs 0 0 Q (F0 m 62 ls [.int v5_3]) := by
        intro u0 H locs ls hf hH hS hl
        have hf := jb1 ej62 hf
        refine lv_iconst (v := 0) hx hb dX12_paidOn_62 (by decide) ?_
        exact hj63 _ _ _ _ hf hH hS (lv_sub hl [0, 1, 2, 3] rfl)
      refine lv_icmp_ne (tgt := 62) hx hb dX12_paidOn_30 (by decide) (fun hc => ?_) (fun hc => ?_)
      · have hf := fo_f hc hf
        exact hj62 () _ _ _ hf hH hS (lv_sub hl [0, 2, 3, 4] rfl)
      have hf := fo_t hc hf
      refine lv_aload_n hx hb dX12_paidOn_33 rfl (lv_at hl 2 rfl) ?_
      refine ro_get (C := RX12) (N := 30) X hH 0 (by decide) rO rfl inBX12 1 (by decide) rfl bw1379 dX12_paidOn_34 ?_
      refine lv_sipush (v := 3200) hx hb dX12_paidOn_37 (by decide) ?_
      refine lv_iload hx hb dX12_paidOn_40 (lv_at hl 0 rfl) ?_
      refine lv_iadd hx hb dX12_paidOn_42 ?_
      by_cases hc : ((3200 + v5_4) < 0 ∨ 3250 ≤ (3200 + v5_4).toNatClampNeg)
      · cases (fo_t hc hf)
      have hf := fo_f hc hf
      refine ra_ld X hH 0 (by decide) (by decide) hc dX12_paidOn_43 ?_
      refine lv_iload_n hx hb dX12_paidOn_44 rfl (lv_at hl 4 rfl) ?_
      refine lv_icmp_ne (tgt := 62) hx hb dX12_paidOn_45 (by decide) (fun hc => ?_) (fun hc => ?_)
      · have hf := fo_f hc hf
        exact hj62 () _ _ _ hf hH hS (lv_sub hl [0, 2, 3, 4] rfl)
      have hf := fo_t hc hf
      refine lv_aload_n hx hb dX12_paidOn_48 rfl (lv_at hl 2 rfl) ?_
      refine ro_get (C := RX12) (N := 30) X hH 0 (by decide) rO rfl inBX12 1 (by decide) rfl bw1379 dX12_paidOn_49 ?_
      refine lv_sipush (v := 3220) hx hb dX12_paidOn_52 (by decide) ?_
      refine lv_iload hx hb dX12_paidOn_55 (lv_at hl 0 rfl) ?_
      refine lv_iadd hx hb dX12_paidOn_57 ?_
      by_cases hc : ((3220 + v5_4) < 0 ∨ 3250 ≤ (3220 + v5_4).toNatClampNeg)
      · cases (fo_t hc hf)
      have hf := fo_f hc hf
      refine ra_ld X hH 0 (by decide) (by decide) hc dX12_paidOn_58 ?_
      refine lv_goto (tgt := 63) hx hb dX12_paidOn_59 (by decide) ?_
      exact hj63 _ _ _ _ hf hH hS (lv_sub hl [0, 2, 3, 4] rfl)
  exact hL5 _ _ _ _ _ _ hf hH hS (lv_sub hl [0, 1, 2, 3, 4] rfl)
def f_X12_pay (w : CW) (a1 : Int32) (a2 : Int32) (a3 : Int32) : Option (Int32 × CW) := (if ((8 : Int32) < 0 ∨ 3250 ≤ (8 : Int32).toNatClampNeg) then none else (if (f_X12_in a1 0 ((w.1 0 (8 : Int32).toNatClampNeg) - 1)) = 0 then (some ((-1), w)) else (if ((3166 + a1) < 0 ∨ 3250 ≤ (3166 + a1).toNatClampNeg) then none else (if (f_X12_in a2 (w.1 0 (3166 + a1).toNatClampNeg) 999) = 0 then (some ((-2), w)) else (if (f_X12_in a3 1 9999) = 0 then (some ((-2), w)) else (if ((11 : Int32) < 0 ∨ 3250 ≤ (11 : Int32).toNatClampNeg) then none else (if (w.1 0 (11 : Int32).toNatClampNeg) = 20 then (some ((-4), w)) else (if ((11 : Int32) < 0 ∨ 3250 ≤ (11 : Int32).toNatClampNeg) then none else (if ((3180 + (w.1 0 (11 : Int32).toNatClampNeg)) < 0 ∨ 3250 ≤ (3180 + (w.1 0 (11 : Int32).toNatClampNeg)).toNatClampNeg) then none else (nmk (sC w 0 (3180 + (w.1 0 (11 : Int32).toNatClampNeg)).toNatClampNeg a1) fun w84 => (if ((11 : Int32) < 0 ∨ 3250 ≤ (11 : Int32).toNatClampNeg) then none else (if ((3200 + (w84.1 0 (11 : Int32).toNatClampNeg)) < 0 ∨ 3250 ≤ (3200 + (w84.1 0 (11 : Int32).toNatClampNeg)).toNatClampNeg) then none else (nmk (sC w84 0 (3200 + (w84.1 0 (11 : Int32).toNatClampNeg)).toNatClampNeg a2) fun w101 => (if ((11 : Int32) < 0 ∨ 3250 ≤ (11 : Int32).toNatClampNeg) then none else (if ((3220 + (w101.1 0 (11 : Int32).toNatClampNeg)) < 0 ∨ 3250 ≤ (3220 + (w101.1 0 (11 : Int32).toNatClampNeg)).toNatClampNeg) then none else (nmk (sC w101 0 (3220 + (w101.1 0 (11 : Int32).toNatClampNeg)).toNatClampNeg a3) fun w118 => (if ((11 : Int32) < 0 ∨ 3250 ≤ (11 : Int32).toNatClampNeg) then none else (if ((11 : Int32) < 0 ∨ 3250 ≤ (11 : Int32).toNatClampNeg) then none else (nmk (sC w118 0 (11 : Int32).toNatClampNeg ((w118.1 0 (11 : Int32).toNatClampNeg) + 1)) fun w129 => (Option.bind (f_X12_paidOn w129 a1 a2) fun q133 => (some (q133, w129))))))))))))))))))))))
abbrev rm_X12_pay : Room := { frames := 2, cells := 0, slots := 0, locals := 24 }
theorem cn_X12_pay : CN yX12_pay 3 := ⟨by decide +kernel, by decide +kernel, by decide +kernel⟩
set_option maxHeartbeats 4000000 in
set_option maxRecDepth 100000 in
theorem c_X12_pay (l : Launch) (G : GX) (w : CW) (a1 : Int32) (a2 : Int32) (a3 : Int32) (q : Int32 × CW) (hf : f_X12_pay w a1 a2 a3 = some q) : MI l G yX12_pay cX12_pay 4 (some .int) rm_X12_pay [.ref (G.2.2.1 300), .int a1, .int a2, .int a3] (rA G) (rH G w) (rH G q.2) q.1 := by
  refine cM_start (by decide +kernel) (Nat.le_of_ble_eq_true rfl) ?_
  intro p e s m below meth c ls X hH hl
  have hS : va_S (rA G) s.heap s.heap [] := va_S.rf
  have hx := X.1.1
  have hb := X.1.2.1
  generalize hargs : ([.ref (G.2.2.1 300), .int a1, .int a2, .int a3] : List Value).toArray = args at X ⊢
  generalize hQ : MQ below (QI (rA G) (rH G q.2) q.1) args s 0 0 (rA G) = Q
  have hl : lv_has ls 4 [(0, .ref (G.2.2.1 300)), (1, .int a1), (2, .int a2), (3, .int a3)] := hl
  unfold f_X12_pay at hf
  refine lv_iload_n hx hb dX12_pay_0 rfl (lv_at hl 1 rfl) ?_
  refine lv_iconst (v := 0) hx hb dX12_pay_1 (by decide) ?_
  refine lv_aload_n hx hb dX12_pay_2 rfl (lv_at hl 0 rfl) ?_
  refine ro_get (C := RX12) (N := 30) X hH 0 (by decide) rO rfl inBX12 1 (by decide) rfl bw1379 dX12_pay_3 ?_
  refine lv_bipush (v := 8) hx hb dX12_pay_6 (by decide) ?_
  by_cases hc : ((8 : Int32) < 0 ∨ 3250 ≤ (8 : Int32).toNatClampNeg)
  · cases (fo_t hc hf)
  have hf := fo_f hc hf
  refine ra_ld X hH 0 (by decide) (by decide) hc dX12_pay_8 ?_
  refine lv_iconst (v := 1) hx hb dX12_pay_9 (by decide) ?_
  refine lv_isub hx hb dX12_pay_10 ?_
  refine cGi (cSrun (rest := []) X (c_X12_in l G (rH G w) (rA G) rA_g a1 0 ((w.1 0 (8 : Int32).toNatClampNeg) - 1) _ rfl) bw1477 bw1478 bw105 bw1479 cn_X12_in ⟨rfl, rfl, Nat.le_of_ble_eq_true rfl, Nat.le_of_ble_eq_true rfl⟩ rA_g hH hS hl rfl (Nat.le_of_ble_eq_true rfl) dX12_pay_11) hS (fun H locs hH hS => ?_)
  refine lv_if_ne (tgt := 19) hx hb dX12_pay_14 (by decide) (fun hc => ?_) (fun hc => ?_)
  rotate_left
  · have hf := fo_t hc hf
    refine lv_iconst (v := (-1)) hx hb dX12_pay_17 (by decide) ?_
    subst hQ
    exact cEi X (rH2 (so_s hf) hH) hS (pf1 (so_s hf)) dX12_pay_18
  have hf := fo_f hc hf
  refine lv_iload_n hx hb dX12_pay_19 rfl (lv_at hl 2 rfl) ?_
  refine lv_aload_n hx hb dX12_pay_20 rfl (lv_at hl 0 rfl) ?_
  refine ro_get (C := RX12) (N := 30) X hH 0 (by decide) rO rfl inBX12 1 (by decide) rfl bw1379 dX12_pay_21 ?_
  refine lv_sipush (v := 3166) hx hb dX12_pay_24 (by decide) ?_
  refine lv_iload_n hx hb dX12_pay_27 rfl (lv_at hl 1 rfl) ?_
  refine lv_iadd hx hb dX12_pay_28 ?_
  by_cases hc : ((3166 + a1) < 0 ∨ 3250 ≤ (3166 + a1).toNatClampNeg)
  · cases (fo_t hc hf)
  have hf := fo_f hc hf
  refine ra_ld X hH 0 (by decide) (by decide) hc dX12_pay_29 ?_
  refine lv_sipush (v := 999) hx hb dX12_pay_30 (by decide) ?_
  refine cGi (cSrun (rest := []) X (c_X12_in l G (rH G w) (rA G) rA_g a2 (w.1 0 (3166 + a1).toNatClampNeg) 999 _ rfl) bw1477 bw1478 bw105 bw1479 cn_X12_in ⟨rfl, rfl, Nat.le_of_ble_eq_true rfl, Nat.le_of_ble_eq_true rfl⟩ rA_g hH hS hl rfl (Nat.le_of_ble_eq_true rfl) dX12_pay_33) hS (fun H locs hH hS => ?_)
  refine lv_if_eq (tgt := 50) hx hb dX12_pay_36 (by decide) (fun hc => ?_) (fun hc => ?_)
  · have hf := fo_t hc hf
    refine lv_bipush (v := (-2)) hx hb dX12_pay_50 (by decide) ?_
    subst hQ
    exact cEi X (rH2 (so_s hf) hH) hS (pf1 (so_s hf)) dX12_pay_52
  have hf := fo_f hc hf
  refine lv_iload_n hx hb dX12_pay_39 rfl (lv_at hl 3 rfl) ?_
  refine lv_iconst (v := 1) hx hb dX12_pay_40 (by decide) ?_
  refine lv_sipush (v := 9999) hx hb dX12_pay_41 (by decide) ?_
  refine cGi (cSrun (rest := []) X (c_X12_in l G (rH G w) (rA G) rA_g a3 1 9999 _ rfl) bw1477 bw1478 bw105 bw1479 cn_X12_in ⟨rfl, rfl, Nat.le_of_ble_eq_true rfl, Nat.le_of_ble_eq_true rfl⟩ rA_g hH hS hl rfl (Nat.le_of_ble_eq_true rfl) dX12_pay_44) hS (fun H locs hH hS => ?_)
  refine lv_if_ne (tgt := 53) hx hb dX12_pay_47 (by decide) (fun hc => ?_) (fun hc => ?_)
  rotate_left
  · have hf := fo_t hc hf
    refine lv_bipush (v := (-2)) hx hb dX12_pay_50 (by decide) ?_
    subst hQ
    exact cEi X (rH2 (so_s hf) hH) hS (pf1 (so_s hf)) dX12_pay_52
  have hf := fo_f hc hf
  refine lv_aload_n hx hb dX12_pay_53 rfl (lv_at hl 0 rfl) ?_
  refine ro_get (C := RX12) (N := 30) X hH 0 (by decide) rO rfl inBX12 1 (by decide) rfl bw1379 dX12_pay_54 ?_
  refine lv_bipush (v := 11) hx hb dX12_pay_57 (by decide) ?_
  by_cases hc : ((11 : Int32) < 0 ∨ 3250 ≤ (11 : Int32).toNatClampNeg)
  · cases (fo_t hc hf)
  have hf := fo_f hc hf
  refine ra_ld X hH 0 (by decide) (by decide) hc dX12_pay_59 ?_
  refine lv_bipush (v := 20) hx hb dX12_pay_60 (by decide) ?_
  refine lv_icmp_ne (tgt := 68) hx hb dX12_pay_62 (by decide) (fun hc => ?_) (fun hc => ?_)
  rotate_left
  · have hf := fo_t hc hf
    refine lv_bipush (v := (-4)) hx hb dX12_pay_65 (by decide) ?_
    subst hQ
    exact cEi X (rH2 (so_s hf) hH) hS (pf1 (so_s hf)) dX12_pay_67
  have hf := fo_f hc hf
  refine lv_aload_n hx hb dX12_pay_68 rfl (lv_at hl 0 rfl) ?_
  refine ro_get (C := RX12) (N := 30) X hH 0 (by decide) rO rfl inBX12 1 (by decide) rfl bw1379 dX12_pay_69 ?_
  refine lv_sipush (v := 3180) hx hb dX12_pay_72 (by decide) ?_
  refine lv_aload_n hx hb dX12_pay_75 rfl (lv_at hl 0 rfl) ?_
  refine ro_get (C := RX12) (N := 30) X hH 0 (by decide) rO rfl inBX12 1 (by decide) rfl bw1379 dX12_pay_76 ?_
  refine lv_bipush (v := 11) hx hb dX12_pay_79 (by decide) ?_
  by_cases hc : ((11 : Int32) < 0 ∨ 3250 ≤ (11 : Int32).toNatClampNeg)
  · cases (fo_t hc hf)
  have hf := fo_f hc hf
  refine ra_ld X hH 0 (by decide) (by decide) hc dX12_pay_81 ?_
  refine lv_iadd hx hb dX12_pay_82 ?_
  refine lv_iload_n hx hb dX12_pay_83 rfl (lv_at hl 1 rfl) ?_
  by_cases hc : ((3180 + (w.1 0 (11 : Int32).toNatClampNeg)) < 0 ∨ 3250 ≤ (3180 + (w.1 0 (11 : Int32).toNatClampNeg)).toNatClampNeg)
  · cases (fo_t hc hf)
  have hf := fo_f hc hf
  refine ra_st X hH hS 0 (by decide) (by decide) hc dX12_pay_84 (fun H locs hH hS => ?_)
  obtain ⟨w84, ew84⟩ : ∃ z : CW, z = (sC w 0 (3180 + (w.1 0 (11 : Int32).toNatClampNeg)).toNatClampNeg a1) := ⟨_, rfl⟩
  have hf := nm_s hf w84 ew84
  have hH : rH G w84 H := ew84 ▸ hH
  refine lv_aload_n hx hb dX12_pay_85 rfl (lv_at hl 0 rfl) ?_
  refine ro_get (C := RX12) (N := 30) X hH 0 (by decide) rO rfl inBX12 1 (by decide) rfl bw1379 dX12_pay_86 ?_
  refine lv_sipush (v := 3200) hx hb dX12_pay_89 (by decide) ?_
  refine lv_aload_n hx hb dX12_pay_92 rfl (lv_at hl 0 rfl) ?_
  refine ro_get (C := RX12) (N := 30) X hH 0 (by decide) rO rfl inBX12 1 (by decide) rfl bw1379 dX12_pay_93 ?_
  refine lv_bipush (v := 11) hx hb dX12_pay_96 (by decide) ?_
  by_cases hc : ((11 : Int32) < 0 ∨ 3250 ≤ (11 : Int32).toNatClampNeg)
  · cases (fo_t hc hf)
  have hf := fo_f hc hf
  refine ra_ld X hH 0 (by decide) (by decide) hc dX12_pay_98 ?_
  refine lv_iadd hx hb dX12_pay_99 ?_
  refine lv_iload_n hx hb dX12_pay_100 rfl (lv_at hl 2 rfl) ?_
  by_cases hc : ((3200 + (w84.1 0 (11 : Int32).toNatClampNeg)) < 0 ∨ 3250 ≤ (3200 + (w84.1 0 (11 : Int32).toNatClampNeg)).toNatClampNeg)
  · cases (fo_t hc hf)
  have hf := fo_f hc hf
  refine ra_st X hH hS 0 (by decide) (by decide) hc dX12_pay_101 (fun H locs hH hS => ?_)
  obtain ⟨w101, ew101⟩ : ∃ z : CW, z = (sC w84 0 (3200 + (w84.1 0 (11 : Int32).toNatClampNeg)).toNatClampNeg a2) := ⟨_, rfl⟩
  have hf := nm_s hf w101 ew101
  have hH : rH G w101 H := ew101 ▸ hH
  refine lv_aload_n hx hb dX12_pay_102 rfl (lv_at hl 0 rfl) ?_
  refine ro_get (C := RX12) (N := 30) X hH 0 (by decide) rO rfl inBX12 1 (by decide) rfl bw1379 dX12_pay_103 ?_
  refine lv_sipush (v := 3220) hx hb dX12_pay_106 (by decide) ?_
  refine lv_aload_n hx hb dX12_pay_109 rfl (lv_at hl 0 rfl) ?_
  refine ro_get (C := RX12) (N := 30) X hH 0 (by decide) rO rfl inBX12 1 (by decide) rfl bw1379 dX12_pay_110 ?_
  refine lv_bipush (v := 11) hx hb dX12_pay_113 (by decide) ?_
  by_cases hc : ((11 : Int32) < 0 ∨ 3250 ≤ (11 : Int32).toNatClampNeg)
  · cases (fo_t hc hf)
  have hf := fo_f hc hf
  refine ra_ld X hH 0 (by decide) (by decide) hc dX12_pay_115 ?_
  refine lv_iadd hx hb dX12_pay_116 ?_
  refine lv_iload_n hx hb dX12_pay_117 rfl (lv_at hl 3 rfl) ?_
  by_cases hc : ((3220 + (w101.1 0 (11 : Int32).toNatClampNeg)) < 0 ∨ 3250 ≤ (3220 + (w101.1 0 (11 : Int32).toNatClampNeg)).toNatClampNeg)
  · cases (fo_t hc hf)
  have hf := fo_f hc hf
  refine ra_st X hH hS 0 (by decide) (by decide) hc dX12_pay_118 (fun H locs hH hS => ?_)
  obtain ⟨w118, ew118⟩ : ∃ z : CW, z = (sC w101 0 (3220 + (w101.1 0 (11 : Int32).toNatClampNeg)).toNatClampNeg a3) := ⟨_, rfl⟩
  have hf := nm_s hf w118 ew118
  have hH : rH G w118 H := ew118 ▸ hH
  refine lv_aload_n hx hb dX12_pay_119 rfl (lv_at hl 0 rfl) ?_
  refine ro_get (C := RX12) (N := 30) X hH 0 (by decide) rO rfl inBX12 1 (by decide) rfl bw1379 dX12_pay_120 ?_
  refine lv_bipush (v := 11) hx hb dX12_pay_123 (by decide) ?_
  refine lv_dup2_11 hx hb dX12_pay_125 rfl rfl ?_
  by_cases hc : ((11 : Int32) < 0 ∨ 3250 ≤ (11 : Int32).toNatClampNeg)
  · cases (fo_t hc hf)
  have hf := fo_f hc hf
  refine ra_ld X hH 0 (by decide) (by decide) hc dX12_pay_126 ?_
  refine lv_iconst (v := 1) hx hb dX12_pay_127 (by decide) ?_
  refine lv_iadd hx hb dX12_pay_128 ?_
  by_cases hc : ((11 : Int32) < 0 ∨ 3250 ≤ (11 : Int32).toNatClampNeg)
  · cases (fo_t hc hf)
  have hf := fo_f hc hf
  refine ra_st X hH hS 0 (by decide) (by decide) hc dX12_pay_129 (fun H locs hH hS => ?_)
  obtain ⟨w129, ew129⟩ : ∃ z : CW, z = (sC w118 0 (11 : Int32).toNatClampNeg ((w118.1 0 (11 : Int32).toNatClampNeg) + 1)) := ⟨_, rfl⟩
  have hf := nm_s hf w129 ew129
  have hH : rH G w129 H := ew129 ▸ hH
  refine lv_aload_n hx hb dX12_pay_130 rfl (lv_at hl 0 rfl) ?_
  refine lv_iload_n hx hb dX12_pay_131 rfl (lv_at hl 1 rfl) ?_
  refine lv_iload_n hx hb dX12_pay_132 rfl (lv_at hl 2 rfl) ?_
  obtain ⟨q133, hq133, hf⟩ := bd_s hf
  refine cGi (cVrun (rest := []) X (c_X12_paidOn l G w129 a1 a2 q133 hq133) bw1754 bw1756 bw84 bw105 bw1757 cn_X12_paidOn ⟨rfl, rfl, Nat.le_of_ble_eq_true rfl, Nat.le_of_ble_eq_true rfl⟩ (r_rec X hH) rA_g hH hS hl rfl (Nat.le_of_ble_eq_true rfl) dX12_pay_133) hS (fun H locs hH hS => ?_)
  subst hQ
  exact cEi X (rH2 (so_s hf) hH) hS (pf1 (so_s hf)) dX12_pay_136
def f_X12_owe_L70 (w : CW) (a1 : Int32) (a2 : Int32) : Nat → Int32 → Int32 → Option (Int32)
  | 0, _, _ => none
  | n70 + 1, v70_3, v70_4 => (if a2 < v70_4 then (some v70_3) else (Option.bind (f_X12_paidOn w a1 v70_4) fun q81 => (nmk (v70_3 - q81) fun (x85 : Int32) => (nmk (if 0 ≤ x85 then x85 else 0) fun (x95 : Int32) => (if ((3166 + a1) < 0 ∨ 3250 ≤ (3166 + a1).toNatClampNeg) then none else (nmk (fun (z136_0 : Int32) => (nmk (fun (z163_0 : Int32) => (nmk (x95 + z163_0) fun (x164 : Int32) => (nmk (v70_4 + 1) fun (x165 : Int32) => (f_X12_owe_L70 w a1 a2 n70 x164 x165)))) fun j163 => (if z136_0 = 0 then (j163 0) else (if ((3172 + a1) < 0 ∨ 3250 ≤ (3172 + a1).toNatClampNeg) then none else (j163 ((x95 * (w.1 0 (3172 + a1).toNatClampNeg)) / 100)))))) fun j136 => (nmk (fun (_ : Unit) => (j136 0)) fun j135 => (if v70_4 ≤ (w.1 0 (3166 + a1).toNatClampNeg) then (j135 ()) else (if ((3166 + a1) < 0 ∨ 3250 ≤ (3166 + a1).toNatClampNeg) then none else (if ((v70_4 - (w.1 0 (3166 + a1).toNatClampNeg)) - (v70_4 - (w.1 0 (3166 + a1).toNatClampNeg)) / 360 * 360) = 0 then (j136 1) else (j135 ())))))))))))
def f_X12_owe (w : CW) (a1 : Int32) (a2 : Int32) : Option (Int32) := (if ((8 : Int32) < 0 ∨ 3250 ≤ (8 : Int32).toNatClampNeg) then none else (if (f_X12_in a1 0 ((w.1 0 (8 : Int32).toNatClampNeg) - 1)) = 0 then (some (-1)) else (if (f_X12_isDay a2) = 0 then (some (-2)) else (if ((3166 + a1) < 0 ∨ 3250 ≤ (3166 + a1).toNatClampNeg) then none else (nmk (fun (z57_0 : Int32) => (if ((3166 + a1) < 0 ∨ 3250 ≤ (3166 + a1).toNatClampNeg) then none else (nmk (w.1 0 (3166 + a1).toNatClampNeg) fun (x68 : Int32) => (f_X12_owe_L70 w a1 a2 FU z57_0 x68)))) fun j57 => (if (w.1 0 (3166 + a1).toNatClampNeg) ≤ a2 then (if ((3160 + a1) < 0 ∨ 3250 ≤ (3160 + a1).toNatClampNeg) then none else (j57 (w.1 0 (3160 + a1).toNatClampNeg))) else (j57 0)))))))
abbrev rm_X12_owe : Room := { frames := 3, cells := 0, slots := 0, locals := 42 }
theorem cn_X12_owe : CN yX12_owe 2 := ⟨by decide +kernel, by decide +kernel, by decide +kernel⟩
set_option maxHeartbeats 4000000 in
set_option maxRecDepth 100000 in
theorem c_X12_owe (l : Launch) (G : GX) (w : CW) (a1 : Int32) (a2 : Int32) (q : Int32) (hf : f_X12_owe w a1 a2 = some q) : MI l G yX12_owe cX12_owe 6 (some .int) rm_X12_owe [.ref (G.2.2.1 300), .int a1, .int a2] (rA G) (rH G w) (rH G w) q := by
  refine cM_start (by decide +kernel) (Nat.le_of_ble_eq_true rfl) ?_
  intro p e s m below meth c ls X hH hl
  have hS : va_S (rA G) s.heap s.heap [] := va_S.rf
  have hx := X.1.1
  have hb := X.1.2.1
  generalize hargs : ([.ref (G.2.2.1 300), .int a1, .int a2] : List Value).toArray = args at X ⊢
  generalize hQ : MQ below (QI (rA G) (rH G w) q) args s 0 0 (rA G) = Q
  have hl : lv_has ls 6 [(0, .ref (G.2.2.1 300)), (1, .int a1), (2, .int a2)] := hl
  unfold f_X12_owe at hf
  refine lv_iload_n hx hb dX12_owe_0 rfl (lv_at hl 1 rfl) ?_
  refine lv_iconst (v := 0) hx hb dX12_owe_1 (by decide) ?_
  refine lv_aload_n hx hb dX12_owe_2 rfl (lv_at hl 0 rfl) ?_
  refine ro_get (C := RX12) (N := 30) X hH 0 (by decide) rO rfl inBX12 1 (by decide) rfl bw1379 dX12_owe_3 ?_
  refine lv_bipush (v := 8) hx hb dX12_owe_6 (by decide) ?_
  by_cases hc : ((8 : Int32) < 0 ∨ 3250 ≤ (8 : Int32).toNatClampNeg)
  · cases (fo_t hc hf)
  have hf := fo_f hc hf
  refine ra_ld X hH 0 (by decide) (by decide) hc dX12_owe_8 ?_
  refine lv_iconst (v := 1) hx hb dX12_owe_9 (by decide) ?_
  refine lv_isub hx hb dX12_owe_10 ?_
  refine cGi (cSrun (rest := []) X (c_X12_in l G (rH G w) (rA G) rA_g a1 0 ((w.1 0 (8 : Int32).toNatClampNeg) - 1) _ rfl) bw1477 bw1478 bw105 bw1479 cn_X12_in ⟨rfl, rfl, Nat.le_of_ble_eq_true rfl, Nat.le_of_ble_eq_true rfl⟩ rA_g hH hS hl rfl (Nat.le_of_ble_eq_true rfl) dX12_owe_11) hS (fun H locs hH hS => ?_)
  refine lv_if_ne (tgt := 19) hx hb dX12_owe_14 (by decide) (fun hc => ?_) (fun hc => ?_)
  rotate_left
  · have hf := fo_t hc hf
    refine lv_iconst (v := (-1)) hx hb dX12_owe_17 (by decide) ?_
    subst hQ
    exact cEi X hH hS (so_s hf) dX12_owe_18
  have hf := fo_f hc hf
  refine lv_iload_n hx hb dX12_owe_19 rfl (lv_at hl 2 rfl) ?_
  refine cGi (cSrun (rest := []) X (c_X12_isDay l G (rH G w) (rA G) rA_g a2 _ rfl) bw1505 bw1506 bw105 bw1507 cn_X12_isDay ⟨rfl, rfl, Nat.le_of_ble_eq_true rfl, Nat.le_of_ble_eq_true rfl⟩ rA_g hH hS hl rfl (Nat.le_of_ble_eq_true rfl) dX12_owe_20) hS (fun H locs hH hS => ?_)
  refine lv_if_ne (tgt := 29) hx hb dX12_owe_23 (by decide) (fun hc => ?_) (fun hc => ?_)
  rotate_left
  · have hf := fo_t hc hf
    refine lv_bipush (v := (-2)) hx hb dX12_owe_26 (by decide) ?_
    subst hQ
    exact cEi X hH hS (so_s hf) dX12_owe_28
  have hf := fo_f hc hf
  refine lv_iload_n hx hb dX12_owe_29 rfl (lv_at hl 2 rfl) ?_
  refine lv_aload_n hx hb dX12_owe_30 rfl (lv_at hl 0 rfl) ?_
  refine ro_get (C := RX12) (N := 30) X hH 0 (by decide) rO rfl inBX12 1 (by decide) rfl bw1379 dX12_owe_31 ?_
  refine lv_sipush (v := 3166) hx hb dX12_owe_34 (by decide) ?_
  refine lv_iload_n hx hb dX12_owe_37 rfl (lv_at hl 1 rfl) ?_
  refine lv_iadd hx hb dX12_owe_38 ?_
  by_cases hc : ((3166 + a1) < 0 ∨ 3250 ≤ (3166 + a1).toNatClampNeg)
  · cases (fo_t hc hf)
  have hf := fo_f hc hf
  refine ra_ld X hH 0 (by decide) (by decide) hc dX12_owe_39 ?_
  obtain ⟨j57, ej57, hf⟩ := nm_x hf
  have hj57 : ∀ (z57_0 : Int32) (H : Heap) (locs : List Loc) (ls : Array Slot), j57 z57_0 = some q → rH G w H → va_S (rA G) s.heap H locs → lv_has ls 6 [(0, .ref (G.2.2.1 300)), (1, .int a1), (2, .int a2)] → W p l e rm_X12_owe s m args below meth c H locs 0 0 Q (F0 m 57 ls [.int z57_0]) := by
    intro z57_0 H locs ls hf hH hS hl
    have hf := jb1 ej57 hf
    refine lv_istore_n (lv' := [(3, .int z57_0), (0, .ref (G.2.2.1 300)), (1, .int a1), (2, .int a2)]) hx hb dX12_owe_57 rfl hl (by decide) rfl (fun ls hl => ?_)
    refine lv_aload_n hx hb dX12_owe_58 rfl (lv_at hl 1 rfl) ?_
    refine ro_get (C := RX12) (N := 30) X hH 0 (by decide) rO rfl inBX12 1 (by decide) rfl bw1379 dX12_owe_59 ?_
    refine lv_sipush (v := 3166) hx hb dX12_owe_62 (by decide) ?_
    refine lv_iload_n hx hb dX12_owe_65 rfl (lv_at hl 2 rfl) ?_
    refine lv_iadd hx hb dX12_owe_66 ?_
    by_cases hc : ((3166 + a1) < 0 ∨ 3250 ≤ (3166 + a1).toNatClampNeg)
    · cases (fo_t hc hf)
    have hf := fo_f hc hf
    refine ra_ld X hH 0 (by decide) (by decide) hc dX12_owe_67 ?_
    refine lv_topi (fun x68 ex68 => ?_)
    have hf := nm_s hf x68 ex68
    refine lv_istore (lv' := [(4, .int x68), (3, .int z57_0), (0, .ref (G.2.2.1 300)), (1, .int a1), (2, .int a2)]) hx hb dX12_owe_68 hl (by decide) rfl (fun ls hl => ?_)
    have hL70 : ∀ (n70 : Nat) (v70_3 : Int32) (v70_4 : Int32) (H : Heap) (locs : List Loc) (ls : Array Slot), f_X12_owe_L70 w a1 a2 n70 v70_3 v70_4 = some q → rH G w H → va_S (rA G) s.heap H locs → lv_has ls 6 [(4, .int v70_4), (3, .int v70_3), (0, .ref (G.2.2.1 300)), (1, .int a1), (2, .int a2)] → W p l e rm_X12_owe s m args below meth c H locs 0 0 Q (F0 m 70 ls []) := by
      intro n70
      induction n70 with
      | zero => intro v70_3 v70_4 H locs ls hf; rw [f_X12_owe_L70] at hf; cases hf
      | succ n70 ih70 =>
        intro v70_3 v70_4 H locs ls hf hH hS hl
        rw [f_X12_owe_L70] at hf
        refine lv_iload hx hb dX12_owe_70 (lv_at hl 0 rfl) ?_
        refine lv_iload_n hx hb dX12_owe_72 rfl (lv_at hl 4 rfl) ?_
        refine lv_icmp_gt (tgt := 171) hx hb dX12_owe_73 (by decide) (fun hc => ?_) (fun hc => ?_)
        · have hf := fo_t hc hf
          refine lv_iload_n hx hb dX12_owe_171 rfl (lv_at hl 1 rfl) ?_
          subst hQ
          exact cEi X hH hS (so_s hf) dX12_owe_172
        have hf := fo_f hc hf
        refine lv_iload_n hx hb dX12_owe_76 rfl (lv_at hl 1 rfl) ?_
        refine lv_aload_n hx hb dX12_owe_77 rfl (lv_at hl 2 rfl) ?_
        refine lv_iload_n hx hb dX12_owe_78 rfl (lv_at hl 3 rfl) ?_
        refine lv_iload hx hb dX12_owe_79 (lv_at hl 0 rfl) ?_
        obtain ⟨q81, hq81, hf⟩ := bd_s hf
        refine cGi (cVrun (rest := [.int v70_3]) X (c_X12_paidOn l G w a1 v70_4 q81 hq81) bw1754 bw1756 bw84 bw105 bw1757 cn_X12_paidOn ⟨rfl, rfl, Nat.le_of_ble_eq_true rfl, Nat.le_of_ble_eq_true rfl⟩ (r_rec X hH) rA_g hH hS hl rfl (Nat.le_of_ble_eq_true rfl) dX12_owe_81) hS (fun H locs hH hS => ?_)
        refine lv_isub hx hb dX12_owe_84 ?_
        refine lv_topi (fun x85 ex85 => ?_)
        have hf := nm_s hf x85 ex85
        refine lv_istore_n (lv' := [(3, .int x85), (4, .int v70_4), (0, .ref (G.2.2.1 300)), (1, .int a1), (2, .int a2)]) hx hb dX12_owe_85 rfl hl (by decide) rfl (fun ls hl => ?_)
        refine lv_iload_n hx hb dX12_owe_86 rfl (lv_at hl 0 rfl) ?_
        have hJ : ∀ (H : Heap) (locs : List Loc), rH G w H → va_S (rA G) s.heap H locs → W p l e rm_X12_owe s m args below meth c H locs 0 0 Q (F0 m 95 ls [.int (if 0 ≤ x85 then x85 else 0)]) := by
          intro H locs hH hS
          refine lv_topi (fun x95 ex95 => ?_)
          have hf := nm_s hf x95 ex95
          refine lv_istore_n (lv' := [(3, .int x95), (4, .int v70_4), (0, .ref (G.2.2.1 300)), (1, .int a1), (2, .int a2)]) hx hb dX12_owe_95 rfl hl (by decide) rfl (fun ls hl => ?_)
          refine lv_iload hx hb dX12_owe_96 (lv_at hl 1 rfl) ?_
          refine lv_aload_n hx hb dX12_owe_98 rfl (lv_at hl 2 rfl) ?_
          refine ro_get (C := RX12) (N := 30) X hH 0 (by decide) rO rfl inBX12 1 (by decide) rfl bw1379 dX12_owe_99 ?_
          refine lv_sipush (v := 3166) hx hb dX12_owe_102 (by decide) ?_
          refine lv_iload_n hx hb dX12_owe_105 rfl (lv_at hl 3 rfl) ?_
          refine lv_iadd hx hb dX12_owe_106 ?_
          by_cases hc : ((3166 + a1) < 0 ∨ 3250 ≤ (3166 + a1).toNatClampNeg)
          · cases (fo_t hc hf)
          have hf := fo_f hc hf
          refine ra_ld X hH 0 (by decide) (by decide) hc dX12_owe_107 ?_
          obtain ⟨j136, ej136, hf⟩ := nm_x hf
          have hj136 : ∀ (z136_0 : Int32) (H : Heap) (locs : List Loc) (ls : Array Slot), (z136_0 = 0 ∨ z136_0 = 1) → j136 z136_0 = some q → rH G w H → va_S (rA G) s.heap H locs → lv_has ls 6 [(3, .int x95), (4, .int v70_4), (0, .ref (G.2.2.1 300)), (1, .int a1), (2, .int a2)] → W p l e rm_X12_owe s m args below meth c H locs 0 0 Q (F0 m 136 ls [.int z136_0]) := by
            intro z136_0 H locs ls hzz136_0 hf hH hS hl
            have hf := jb1 ej136 hf
            refine lv_istore (lv' := [(5, .int z136_0), (3, .int x95), (4, .int v70_4), (0, .ref (G.2.2.1 300)), (1, .int a1), (2, .int a2)]) hx hb dX12_owe_136 hl (by decide) rfl (fun ls hl => ?_)
            refine lv_iload_n hx hb dX12_owe_138 rfl (lv_at hl 1 rfl) ?_
            refine lv_iload hx hb dX12_owe_139 (lv_at hl 0 rfl) ?_
            obtain ⟨j163, ej163, hf⟩ := nm_x hf
            have hj163 : ∀ (z163_0 : Int32) (H : Heap) (locs : List Loc) (ls : Array Slot), j163 z163_0 = some q → rH G w H → va_S (rA G) s.heap H locs → lv_has ls 6 [(4, .int v70_4), (0, .ref (G.2.2.1 300)), (1, .int a1), (2, .int a2)] → W p l e rm_X12_owe s m args below meth c H locs 0 0 Q (F0 m 163 ls [.int z163_0, .int x95]) := by
              intro z163_0 H locs ls hf hH hS hl
              have hf := jb1 ej163 hf
              refine lv_iadd hx hb dX12_owe_163 ?_
              refine lv_topi (fun x164 ex164 => ?_)
              have hf := nm_s hf x164 ex164
              refine lv_istore_n (lv' := [(3, .int x164), (4, .int v70_4), (0, .ref (G.2.2.1 300)), (1, .int a1), (2, .int a2)]) hx hb dX12_owe_164 rfl hl (by decide) rfl (fun ls hl => ?_)
              obtain ⟨x165, ex165⟩ : ∃ z : Int32, z = (v70_4 + 1) := ⟨_, rfl⟩
              have hf := nm_s hf x165 ex165
              refine lv_iinc (v := x165) (lv' := [(4, .int x165), (3, .int x164), (0, .ref (G.2.2.1 300)), (1, .int a1), (2, .int a2)]) hx hb dX12_owe_165 hl (k := 1) rfl (by rw [ex165]; rfl) (by decide) rfl (fun ls hl => ?_)
              refine lv_goto (tgt := 70) hx hb dX12_owe_168 (by decide) ?_
              exact ih70 _ _ _ _ _ hf hH hS (lv_sub hl [0, 1, 2, 3, 4] rfl)
            refine lv_if_eq (tgt := 162) hx hb dX12_owe_141 (by decide) (fun hc => ?_) (fun hc => ?_)
            · have hf := fo_t hc hf
              refine lv_iconst (v := 0) hx hb dX12_owe_162 (by decide) ?_
              exact hj163 _ _ _ _ hf hH hS (lv_sub hl [2, 3, 4, 5] rfl)
            have hf := fo_f hc hf
            refine lv_iload_n hx hb dX12_owe_144 rfl (lv_at hl 1 rfl) ?_
            refine lv_aload_n hx hb dX12_owe_145 rfl (lv_at hl 3 rfl) ?_
            refine ro_get (C := RX12) (N := 30) X hH 0 (by decide) rO rfl inBX12 1 (by decide) rfl bw1379 dX12_owe_146 ?_
            refine lv_sipush (v := 3172) hx hb dX12_owe_149 (by decide) ?_
            refine lv_iload_n hx hb dX12_owe_152 rfl (lv_at hl 4 rfl) ?_
            refine lv_iadd hx hb dX12_owe_153 ?_
            by_cases hc : ((3172 + a1) < 0 ∨ 3250 ≤ (3172 + a1).toNatClampNeg)
            · cases (fo_t hc hf)
            have hf := fo_f hc hf
            refine ra_ld X hH 0 (by decide) (by decide) hc dX12_owe_154 ?_
            refine lv_imul hx hb dX12_owe_155 ?_
            refine lv_bipush (v := 100) hx hb dX12_owe_156 (by decide) ?_
            refine lv_idiv hx hb dX12_owe_158 (by decide) ?_
            refine lv_goto (tgt := 163) hx hb dX12_owe_159 (by decide) ?_
            exact hj163 _ _ _ _ hf hH hS (lv_sub hl [2, 3, 4, 5] rfl)
          obtain ⟨j135, ej135, hf⟩ := nm_x hf
          have hj135 : ∀ (u0 : Unit) (H : Heap) (locs : List Loc) (ls : Array Slot), j135 u0 = some q → rH G w H → va_S (rA G) s.heap H locs → lv_has ls 6 [(3, .int x95), (4, .int v70_4), (0, .ref (G.2.2.1 300)), (1, .int a1), (2, .int a2)] → W p l e rm_X12_owe s m args below meth c H locs 0 0 Q (F0 m 135 ls []) := by
            intro u0 H locs ls hf hH hS hl
            have hf := jb1 ej135 hf
            refine lv_iconst (v := 0) hx hb dX12_owe_135 (by decide) ?_
            exact hj136 _ _ _ _ zb0 hf hH hS (lv_sub hl [0, 1, 2, 3, 4] rfl)
          refine lv_icmp_le (tgt := 135) hx hb dX12_owe_108 (by decide) (fun hc => ?_) (fun hc => ?_)
          · have hf := fo_t hc hf
            exact hj135 () _ _ _ hf hH hS (lv_sub hl [0, 1, 2, 3, 4] rfl)
          have hf := fo_f hc hf
          refine lv_iload hx hb dX12_owe_111 (lv_at hl 1 rfl) ?_
          refine lv_aload_n hx hb dX12_owe_113 rfl (lv_at hl 2 rfl) ?_
          refine ro_get (C := RX12) (N := 30) X hH 0 (by decide) rO rfl inBX12 1 (by decide) rfl bw1379 dX12_owe_114 ?_
          refine lv_sipush (v := 3166) hx hb dX12_owe_117 (by decide) ?_
          refine lv_iload_n hx hb dX12_owe_120 rfl (lv_at hl 3 rfl) ?_
          refine lv_iadd hx hb dX12_owe_121 ?_
          by_cases hc : ((3166 + a1) < 0 ∨ 3250 ≤ (3166 + a1).toNatClampNeg)
          · cases (fo_t hc hf)
          have hf := fo_f hc hf
          refine ra_ld X hH 0 (by decide) (by decide) hc dX12_owe_122 ?_
          refine lv_isub hx hb dX12_owe_123 ?_
          refine lv_sipush (v := 360) hx hb dX12_owe_124 (by decide) ?_
          refine lv_irem hx hb dX12_owe_127 (by decide) ?_
          refine lv_if_ne (tgt := 135) hx hb dX12_owe_128 (by decide) (fun hc => ?_) (fun hc => ?_)
          · have hf := fo_f hc hf
            exact hj135 () _ _ _ hf hH hS (lv_sub hl [0, 1, 2, 3, 4] rfl)
          have hf := fo_t hc hf
          refine lv_iconst (v := 1) hx hb dX12_owe_131 (by decide) ?_
          refine lv_goto (tgt := 136) hx hb dX12_owe_132 (by decide) ?_
          exact hj136 _ _ _ _ zb1 hf hH hS (lv_sub hl [0, 1, 2, 3, 4] rfl)
        refine lv_if_ge (tgt := 94) hx hb dX12_owe_87 (by decide) (fun hc87 => ?_) (fun hc87 => ?_)
        · refine lv_iload_n hx hb dX12_owe_94 rfl (lv_at hl 0 rfl) ?_
          exact W.eq (by rw [if_pos hc87] <;> rfl) (hJ _ _ hH hS)
        · refine lv_iconst (v := 0) hx hb dX12_owe_90 (by decide) ?_
          refine lv_goto (tgt := 95) hx hb dX12_owe_91 (by decide) ?_
          exact W.eq (by rw [if_neg hc87] <;> rfl) (hJ _ _ hH hS)
    exact hL70 _ _ _ _ _ _ hf hH hS (lv_sub hl [0, 1, 2, 3, 4] rfl)
  refine lv_icmp_ge (tgt := 47) hx hb dX12_owe_40 (by decide) (fun hc => ?_) (fun hc => ?_)
  rotate_left
  · have hf := fo_f hc hf
    refine lv_iconst (v := 0) hx hb dX12_owe_43 (by decide) ?_
    refine lv_goto (tgt := 57) hx hb dX12_owe_44 (by decide) ?_
    exact hj57 _ _ _ _ hf hH hS (lv_sub hl [0, 1, 2] rfl)
  have hf := fo_t hc hf
  refine lv_aload_n hx hb dX12_owe_47 rfl (lv_at hl 0 rfl) ?_
  refine ro_get (C := RX12) (N := 30) X hH 0 (by decide) rO rfl inBX12 1 (by decide) rfl bw1379 dX12_owe_48 ?_
  refine lv_sipush (v := 3160) hx hb dX12_owe_51 (by decide) ?_
  refine lv_iload_n hx hb dX12_owe_54 rfl (lv_at hl 1 rfl) ?_
  refine lv_iadd hx hb dX12_owe_55 ?_
  by_cases hc : ((3160 + a1) < 0 ∨ 3250 ≤ (3160 + a1).toNatClampNeg)
  · cases (fo_t hc hf)
  have hf := fo_f hc hf
  refine ra_ld X hH 0 (by decide) (by decide) hc dX12_owe_56 ?_
  exact hj57 _ _ _ _ hf hH hS (lv_sub hl [0, 1, 2] rfl)
def f_X12_thing (w : CW) (a1 : Int32) (a2 : Int32) : Option (Int32 × CW) := (if (f_X12_in a1 0 7) = 0 then (some ((-1), w)) else (if (f_X12_in a2 0 9999) = 0 then (some ((-2), w)) else (if ((3240 + a1) < 0 ∨ 3250 ≤ (3240 + a1).toNatClampNeg) then none else (nmk (w.1 0 (3240 + a1).toNatClampNeg) fun (x36 : Int32) => (if ((3240 + a1) < 0 ∨ 3250 ≤ (3240 + a1).toNatClampNeg) then none else (nmk (sC w 0 (3240 + a1).toNatClampNeg a2) fun w47 => (some (x36, w47))))))))
abbrev rm_X12_thing : Room := { frames := 2, cells := 0, slots := 0, locals := 22 }
theorem cn_X12_thing : CN yX12_thing 2 := ⟨by decide +kernel, by decide +kernel, by decide +kernel⟩
set_option maxHeartbeats 4000000 in
set_option maxRecDepth 100000 in
theorem c_X12_thing (l : Launch) (G : GX) (w : CW) (a1 : Int32) (a2 : Int32) (q : Int32 × CW) (hf : f_X12_thing w a1 a2 = some q) : MI l G yX12_thing cX12_thing 4 (some .int) rm_X12_thing [.ref (G.2.2.1 300), .int a1, .int a2] (rA G) (rH G w) (rH G q.2) q.1 := by
  refine cM_start (by decide +kernel) (Nat.le_of_ble_eq_true rfl) ?_
  intro p e s m below meth c ls X hH hl
  have hS : va_S (rA G) s.heap s.heap [] := va_S.rf
  have hx := X.1.1
  have hb := X.1.2.1
  generalize hargs : ([.ref (G.2.2.1 300), .int a1, .int a2] : List Value).toArray = args at X ⊢
  generalize hQ : MQ below (QI (rA G) (rH G q.2) q.1) args s 0 0 (rA G) = Q
  have hl : lv_has ls 4 [(0, .ref (G.2.2.1 300)), (1, .int a1), (2, .int a2)] := hl
  unfold f_X12_thing at hf
  refine lv_iload_n hx hb dX12_thing_0 rfl (lv_at hl 1 rfl) ?_
  refine lv_iconst (v := 0) hx hb dX12_thing_1 (by decide) ?_
  refine lv_bipush (v := 7) hx hb dX12_thing_2 (by decide) ?_
  refine cGi (cSrun (rest := []) X (c_X12_in l G (rH G w) (rA G) rA_g a1 0 7 _ rfl) bw1477 bw1478 bw105 bw1479 cn_X12_in ⟨rfl, rfl, Nat.le_of_ble_eq_true rfl, Nat.le_of_ble_eq_true rfl⟩ rA_g hH hS hl rfl (Nat.le_of_ble_eq_true rfl) dX12_thing_4) hS (fun H locs hH hS => ?_)
  refine lv_if_ne (tgt := 12) hx hb dX12_thing_7 (by decide) (fun hc => ?_) (fun hc => ?_)
  rotate_left
  · have hf := fo_t hc hf
    refine lv_iconst (v := (-1)) hx hb dX12_thing_10 (by decide) ?_
    subst hQ
    exact cEi X (rH2 (so_s hf) hH) hS (pf1 (so_s hf)) dX12_thing_11
  have hf := fo_f hc hf
  refine lv_iload_n hx hb dX12_thing_12 rfl (lv_at hl 2 rfl) ?_
  refine lv_iconst (v := 0) hx hb dX12_thing_13 (by decide) ?_
  refine lv_sipush (v := 9999) hx hb dX12_thing_14 (by decide) ?_
  refine cGi (cSrun (rest := []) X (c_X12_in l G (rH G w) (rA G) rA_g a2 0 9999 _ rfl) bw1477 bw1478 bw105 bw1479 cn_X12_in ⟨rfl, rfl, Nat.le_of_ble_eq_true rfl, Nat.le_of_ble_eq_true rfl⟩ rA_g hH hS hl rfl (Nat.le_of_ble_eq_true rfl) dX12_thing_17) hS (fun H locs hH hS => ?_)
  refine lv_if_ne (tgt := 26) hx hb dX12_thing_20 (by decide) (fun hc => ?_) (fun hc => ?_)
  rotate_left
  · have hf := fo_t hc hf
    refine lv_bipush (v := (-2)) hx hb dX12_thing_23 (by decide) ?_
    subst hQ
    exact cEi X (rH2 (so_s hf) hH) hS (pf1 (so_s hf)) dX12_thing_25
  have hf := fo_f hc hf
  refine lv_aload_n hx hb dX12_thing_26 rfl (lv_at hl 0 rfl) ?_
  refine ro_get (C := RX12) (N := 30) X hH 0 (by decide) rO rfl inBX12 1 (by decide) rfl bw1379 dX12_thing_27 ?_
  refine lv_sipush (v := 3240) hx hb dX12_thing_30 (by decide) ?_
  refine lv_iload_n hx hb dX12_thing_33 rfl (lv_at hl 1 rfl) ?_
  refine lv_iadd hx hb dX12_thing_34 ?_
  by_cases hc : ((3240 + a1) < 0 ∨ 3250 ≤ (3240 + a1).toNatClampNeg)
  · cases (fo_t hc hf)
  have hf := fo_f hc hf
  refine ra_ld X hH 0 (by decide) (by decide) hc dX12_thing_35 ?_
  refine lv_topi (fun x36 ex36 => ?_)
  have hf := nm_s hf x36 ex36
  refine lv_istore_n (lv' := [(3, .int x36), (0, .ref (G.2.2.1 300)), (1, .int a1), (2, .int a2)]) hx hb dX12_thing_36 rfl hl (by decide) rfl (fun ls hl => ?_)
  refine lv_aload_n hx hb dX12_thing_37 rfl (lv_at hl 1 rfl) ?_
  refine ro_get (C := RX12) (N := 30) X hH 0 (by decide) rO rfl inBX12 1 (by decide) rfl bw1379 dX12_thing_38 ?_
  refine lv_sipush (v := 3240) hx hb dX12_thing_41 (by decide) ?_
  refine lv_iload_n hx hb dX12_thing_44 rfl (lv_at hl 2 rfl) ?_
  refine lv_iadd hx hb dX12_thing_45 ?_
  refine lv_iload_n hx hb dX12_thing_46 rfl (lv_at hl 3 rfl) ?_
  by_cases hc : ((3240 + a1) < 0 ∨ 3250 ≤ (3240 + a1).toNatClampNeg)
  · cases (fo_t hc hf)
  have hf := fo_f hc hf
  refine ra_st X hH hS 0 (by decide) (by decide) hc dX12_thing_47 (fun H locs hH hS => ?_)
  obtain ⟨w47, ew47⟩ : ∃ z : CW, z = (sC w 0 (3240 + a1).toNatClampNeg a2) := ⟨_, rfl⟩
  have hf := nm_s hf w47 ew47
  have hH : rH G w47 H := ew47 ▸ hH
  refine lv_iload_n hx hb dX12_thing_48 rfl (lv_at hl 0 rfl) ?_
  subst hQ
  exact cEi X (rH2 (so_s hf) hH) hS (pf1 (so_s hf)) dX12_thing_49
def f_X12_count1_L4 (a0 : Int32) : Nat → Int32 → Int32 → Option (Int32)
  | 0, _, _ => none
  | n4 + 1, v4_1, v4_2 => (if 10 ≤ v4_2 then (some v4_1) else (nmk (v4_1 + ((a0 >>> (v4_2 &&& 31)) &&& 1)) fun (x17 : Int32) => (nmk (v4_2 + 1) fun (x18 : Int32) => (f_X12_count1_L4 a0 n4 x17 x18))))
def f_X12_count1 (a0 : Int32) : Option (Int32) := (f_X12_count1_L4 a0 FU 0 0)
abbrev rm_X12_count1 : Room := { frames := 1, cells := 0, slots := 0, locals := 0 }
theorem cn_X12_count1 : CN yX12_count1 1 := ⟨by decide +kernel, by decide +kernel, by decide +kernel⟩
set_option maxHeartbeats 4000000 in
set_option maxRecDepth 100000 in
theorem c_X12_count1 (l : Launch) (G : GX) (P : Heap → Prop) (A : Nat → Prop) (hAG : ∀ q, A q → gA G q) (a0 : Int32) (q : Int32) (hf : f_X12_count1 a0 = some q) : MI l G yX12_count1 cX12_count1 3 (some .int) rm_X12_count1 [.int a0] A P P q := by
  refine cM_start (by decide +kernel) (Nat.le_of_ble_eq_true rfl) ?_
  intro p e s m below meth c ls X hH hl
  have hS : va_S A s.heap s.heap [] := va_S.rf
  have hx := X.1.1
  have hb := X.1.2.1
  generalize hargs : ([.int a0] : List Value).toArray = args at X ⊢
  generalize hQ : MQ below (QI A P q) args s 0 0 A = Q
  have hl : lv_has ls 3 [(0, .int a0)] := hl
  unfold f_X12_count1 at hf
  refine lv_iconst (v := 0) hx hb dX12_count1_0 (by decide) ?_
  refine lv_istore_n (lv' := [(1, .int 0), (0, .int a0)]) hx hb dX12_count1_1 rfl hl (by decide) rfl (fun ls hl => ?_)
  refine lv_iconst (v := 0) hx hb dX12_count1_2 (by decide) ?_
  refine lv_istore_n (lv' := [(2, .int 0), (1, .int 0), (0, .int a0)]) hx hb dX12_count1_3 rfl hl (by decide) rfl (fun ls hl => ?_)
  have hL4 : ∀ (n4 : Nat) (v4_1 : Int32) (v4_2 : Int32) (H : Heap) (locs : List Loc) (ls : Array Slot), f_X12_count1_L4 a0 n4 v4_1 v4_2 = some q → P H → va_S A s.heap H locs → lv_has ls 3 [(2, .int v4_2), (1, .int v4_1), (0, .int a0)] → W p l e rm_X12_count1 s m args below meth c H locs 0 0 Q (F0 m 4 ls []) := by
    intro n4
    induction n4 with
    | zero => intro v4_1 v4_2 H locs ls hf; rw [f_X12_count1_L4] at hf; cases hf
    | succ n4 ih4 =>
      intro v4_1 v4_2 H locs ls hf hH hS hl
      rw [f_X12_count1_L4] at hf
      refine lv_iload_n hx hb dX12_count1_4 rfl (lv_at hl 0 rfl) ?_
      refine lv_bipush (v := 10) hx hb dX12_count1_5 (by decide) ?_
      refine lv_icmp_ge (tgt := 24) hx hb dX12_count1_7 (by decide) (fun hc => ?_) (fun hc => ?_)
      · have hf := fo_t hc hf
        refine lv_iload_n hx hb dX12_count1_24 rfl (lv_at hl 1 rfl) ?_
        subst hQ
        exact cEi X hH hS (so_s hf) dX12_count1_25
      have hf := fo_f hc hf
      refine lv_iload_n hx hb dX12_count1_10 rfl (lv_at hl 1 rfl) ?_
      refine lv_iload_n hx hb dX12_count1_11 rfl (lv_at hl 2 rfl) ?_
      refine lv_iload_n hx hb dX12_count1_12 rfl (lv_at hl 0 rfl) ?_
      refine lv_ishr hx hb dX12_count1_13 ?_
      refine lv_iconst (v := 1) hx hb dX12_count1_14 (by decide) ?_
      refine lv_iand hx hb dX12_count1_15 ?_
      refine lv_iadd hx hb dX12_count1_16 ?_
      refine lv_topi (fun x17 ex17 => ?_)
      have hf := nm_s hf x17 ex17
      refine lv_istore_n (lv' := [(1, .int x17), (2, .int v4_2), (0, .int a0)]) hx hb dX12_count1_17 rfl hl (by decide) rfl (fun ls hl => ?_)
      obtain ⟨x18, ex18⟩ : ∃ z : Int32, z = (v4_2 + 1) := ⟨_, rfl⟩
      have hf := nm_s hf x18 ex18
      refine lv_iinc (v := x18) (lv' := [(2, .int x18), (1, .int x17), (0, .int a0)]) hx hb dX12_count1_18 hl (k := 1) rfl (by rw [ex18]; rfl) (by decide) rfl (fun ls hl => ?_)
      refine lv_goto (tgt := 4) hx hb dX12_count1_21 (by decide) ?_
      exact ih4 _ _ _ _ _ hf hH hS (lv_sub hl [0, 1, 2] rfl)
  exact hL4 _ _ _ _ _ _ hf hH hS (lv_sub hl [0, 1, 2] rfl)
def f_X12_suit_L36 (w : CW) (v22_4 : Int32) (j80 : Int32 → Option (Int32)) : Nat → Int32 → Int32 → Option (Int32)
  | 0, _, _ => none
  | n36 + 1, v36_5, v36_6 => (if 8 ≤ v36_6 then (j80 v36_5) else (nmk (fun (z71_0 : Int32) => (nmk (v36_5 + z71_0) fun (x72 : Int32) => (nmk (v36_6 + 1) fun (x74 : Int32) => (f_X12_suit_L36 w v22_4 j80 n36 x72 x74)))) fun j71 => (if ((v22_4 >>> (v36_6 &&& 31)) &&& 1) = 1 then (if ((3240 + v36_6) < 0 ∨ 3250 ≤ (3240 + v36_6).toNatClampNeg) then none else (j71 (w.1 0 (3240 + v36_6).toNatClampNeg))) else (j71 0))))
def f_X12_suit_L22 (w : CW) (a1 : Int32) : Nat → Int32 → Int32 → Int32 → Option (Int32)
  | 0, _, _, _ => none
  | n22 + 1, v22_2, v22_3, v22_4 => (if 256 ≤ v22_4 then (some v22_2) else (nmk (fun (y80_5 : Int32) => (nmk (fun (y122_2 : Int32) (y122_3 : Int32) => (nmk (v22_4 + 1) fun (x122 : Int32) => (f_X12_suit_L22 w a1 n22 y122_2 y122_3 x122))) fun j122 => (if y80_5 < a1 then (j122 v22_2 v22_3) else (nmk (fun (_ : Unit) => (j122 v22_4 y80_5)) fun j116 => (if v22_2 = (-5) then (j116 ()) else (if y80_5 < v22_3 then (j116 ()) else (if y80_5 = v22_3 then (Option.bind (f_X12_count1 v22_4) fun q106 => (Option.bind (f_X12_count1 v22_2) fun q110 => (if q110 ≤ q106 then (j122 v22_2 v22_3) else (j116 ())))) else (j122 v22_2 v22_3)))))))) fun j80 => (f_X12_suit_L36 w v22_4 j80 FU 0 0)))
def f_X12_suit (w : CW) (a1 : Int32) : Option (Int32) := (if (f_X12_in a1 0 99999) = 0 then (some (-2)) else (f_X12_suit_L22 w a1 FU (-5) 0 0))
abbrev rm_X12_suit : Room := { frames := 2, cells := 0, slots := 0, locals := 22 }
theorem cn_X12_suit : CN yX12_suit 1 := ⟨by decide +kernel, by decide +kernel, by decide +kernel⟩
set_option maxHeartbeats 4000000 in
set_option maxRecDepth 100000 in
theorem c_X12_suit (l : Launch) (G : GX) (w : CW) (a1 : Int32) (q : Int32) (hf : f_X12_suit w a1 = some q) : MI l G yX12_suit cX12_suit 7 (some .int) rm_X12_suit [.ref (G.2.2.1 300), .int a1] (rA G) (rH G w) (rH G w) q := by
  refine cM_start (by decide +kernel) (Nat.le_of_ble_eq_true rfl) ?_
  intro p e s m below meth c ls X hH hl
  have hS : va_S (rA G) s.heap s.heap [] := va_S.rf
  have hx := X.1.1
  have hb := X.1.2.1
  generalize hargs : ([.ref (G.2.2.1 300), .int a1] : List Value).toArray = args at X ⊢
  generalize hQ : MQ below (QI (rA G) (rH G w) q) args s 0 0 (rA G) = Q
  have hl : lv_has ls 7 [(0, .ref (G.2.2.1 300)), (1, .int a1)] := hl
  unfold f_X12_suit at hf
  refine lv_iload_n hx hb dX12_suit_0 rfl (lv_at hl 1 rfl) ?_
  refine lv_iconst (v := 0) hx hb dX12_suit_1 (by decide) ?_
  refine lv_ldcw (v := 99999) hx hb X.1.2.2.2.1 (X.w bw1770) dX12_suit_2 ?_
  refine cGi (cSrun (rest := []) X (c_X12_in l G (rH G w) (rA G) rA_g a1 0 99999 _ rfl) bw1477 bw1478 bw105 bw1479 cn_X12_in ⟨rfl, rfl, Nat.le_of_ble_eq_true rfl, Nat.le_of_ble_eq_true rfl⟩ rA_g hH hS hl rfl (Nat.le_of_ble_eq_true rfl) dX12_suit_5) hS (fun H locs hH hS => ?_)
  refine lv_if_ne (tgt := 14) hx hb dX12_suit_8 (by decide) (fun hc => ?_) (fun hc => ?_)
  rotate_left
  · have hf := fo_t hc hf
    refine lv_bipush (v := (-2)) hx hb dX12_suit_11 (by decide) ?_
    subst hQ
    exact cEi X hH hS (so_s hf) dX12_suit_13
  have hf := fo_f hc hf
  refine lv_bipush (v := (-5)) hx hb dX12_suit_14 (by decide) ?_
  refine lv_istore_n (lv' := [(2, .int (-5)), (0, .ref (G.2.2.1 300)), (1, .int a1)]) hx hb dX12_suit_16 rfl hl (by decide) rfl (fun ls hl => ?_)
  refine lv_iconst (v := 0) hx hb dX12_suit_17 (by decide) ?_
  refine lv_istore_n (lv' := [(3, .int 0), (2, .int (-5)), (0, .ref (G.2.2.1 300)), (1, .int a1)]) hx hb dX12_suit_18 rfl hl (by decide) rfl (fun ls hl => ?_)
  refine lv_iconst (v := 0) hx hb dX12_suit_19 (by decide) ?_
  refine lv_istore (lv' := [(4, .int 0), (3, .int 0), (2, .int (-5)), (0, .ref (G.2.2.1 300)), (1, .int a1)]) hx hb dX12_suit_20 hl (by decide) rfl (fun ls hl => ?_)
  have hL22 : ∀ (n22 : Nat) (v22_2 : Int32) (v22_3 : Int32) (v22_4 : Int32) (H : Heap) (locs : List Loc) (ls : Array Slot), f_X12_suit_L22 w a1 n22 v22_2 v22_3 v22_4 = some q → rH G w H → va_S (rA G) s.heap H locs → lv_has ls 7 [(4, .int v22_4), (3, .int v22_3), (2, .int v22_2), (0, .ref (G.2.2.1 300)), (1, .int a1)] → W p l e rm_X12_suit s m args below meth c H locs 0 0 Q (F0 m 22 ls []) := by
    intro n22
    induction n22 with
    | zero => intro v22_2 v22_3 v22_4 H locs ls hf; rw [f_X12_suit_L22] at hf; cases hf
    | succ n22 ih22 =>
      intro v22_2 v22_3 v22_4 H locs ls hf hH hS hl
      rw [f_X12_suit_L22] at hf
      refine lv_iload hx hb dX12_suit_22 (lv_at hl 0 rfl) ?_
      refine lv_sipush (v := 256) hx hb dX12_suit_24 (by decide) ?_
      refine lv_icmp_ge (tgt := 128) hx hb dX12_suit_27 (by decide) (fun hc => ?_) (fun hc => ?_)
      · have hf := fo_t hc hf
        refine lv_iload_n hx hb dX12_suit_128 rfl (lv_at hl 2 rfl) ?_
        subst hQ
        exact cEi X hH hS (so_s hf) dX12_suit_129
      have hf := fo_f hc hf
      refine lv_iconst (v := 0) hx hb dX12_suit_30 (by decide) ?_
      refine lv_istore (lv' := [(5, .int 0), (4, .int v22_4), (3, .int v22_3), (2, .int v22_2), (0, .ref (G.2.2.1 300)), (1, .int a1)]) hx hb dX12_suit_31 hl (by decide) rfl (fun ls hl => ?_)
      refine lv_iconst (v := 0) hx hb dX12_suit_33 (by decide) ?_
      refine lv_istore (lv' := [(6, .int 0), (5, .int 0), (4, .int v22_4), (3, .int v22_3), (2, .int v22_2), (0, .ref (G.2.2.1 300)), (1, .int a1)]) hx hb dX12_suit_34 hl (by decide) rfl (fun ls hl => ?_)
      obtain ⟨j80, ej80, hf⟩ := nm_x hf
      have hj80 : ∀ (y80_5 : Int32) (H : Heap) (locs : List Loc) (ls : Array Slot), j80 y80_5 = some q → rH G w H → va_S (rA G) s.heap H locs → lv_has ls 7 [(5, .int y80_5), (4, .int v22_4), (3, .int v22_3), (2, .int v22_2), (0, .ref (G.2.2.1 300)), (1, .int a1)] → W p l e rm_X12_suit s m args below meth c H locs 0 0 Q (F0 m 80 ls []) := by
        intro y80_5 H locs ls hf hH hS hl
        have hf := jb1 ej80 hf
        refine lv_iload hx hb dX12_suit_80 (lv_at hl 0 rfl) ?_
        refine lv_iload_n hx hb dX12_suit_82 rfl (lv_at hl 5 rfl) ?_
        obtain ⟨j122, ej122, hf⟩ := nm_x hf
        have hj122 : ∀ (y122_2 : Int32) (y122_3 : Int32) (H : Heap) (locs : List Loc) (ls : Array Slot), j122 y122_2 y122_3 = some q → rH G w H → va_S (rA G) s.heap H locs → lv_has ls 7 [(4, .int v22_4), (3, .int y122_3), (2, .int y122_2), (0, .ref (G.2.2.1 300)), (1, .int a1)] → W p l e rm_X12_suit s m args below meth c H locs 0 0 Q (F0 m 122 ls []) := by
          intro y122_2 y122_3 H locs ls hf hH hS hl
          have hf := jb2 ej122 hf
          obtain ⟨x122, ex122⟩ : ∃ z : Int32, z = (v22_4 + 1) := ⟨_, rfl⟩
          have hf := nm_s hf x122 ex122
          refine lv_iinc (v := x122) (lv' := [(4, .int x122), (3, .int y122_3), (2, .int y122_2), (0, .ref (G.2.2.1 300)), (1, .int a1)]) hx hb dX12_suit_122 hl (k := 0) rfl (by rw [ex122]; rfl) (by decide) rfl (fun ls hl => ?_)
          refine lv_goto (tgt := 22) hx hb dX12_suit_125 (by decide) ?_
          exact ih22 _ _ _ _ _ _ hf hH hS (lv_sub hl [0, 1, 2, 3, 4] rfl)
        refine lv_icmp_lt (tgt := 122) hx hb dX12_suit_83 (by decide) (fun hc => ?_) (fun hc => ?_)
        · have hf := fo_t hc hf
          exact hj122 _ _ _ _ _ hf hH hS (lv_sub hl [1, 2, 3, 4, 5] rfl)
        have hf := fo_f hc hf
        refine lv_iload_n hx hb dX12_suit_86 rfl (lv_at hl 3 rfl) ?_
        refine lv_bipush (v := (-5)) hx hb dX12_suit_87 (by decide) ?_
        obtain ⟨j116, ej116, hf⟩ := nm_x hf
        have hj116 : ∀ (u0 : Unit) (H : Heap) (locs : List Loc) (ls : Array Slot), j116 u0 = some q → rH G w H → va_S (rA G) s.heap H locs → lv_has ls 7 [(5, .int y80_5), (4, .int v22_4), (0, .ref (G.2.2.1 300)), (1, .int a1)] → W p l e rm_X12_suit s m args below meth c H locs 0 0 Q (F0 m 116 ls []) := by
          intro u0 H locs ls hf hH hS hl
          have hf := jb1 ej116 hf
          refine lv_iload hx hb dX12_suit_116 (lv_at hl 1 rfl) ?_
          refine lv_istore_n (lv' := [(2, .int v22_4), (5, .int y80_5), (4, .int v22_4), (0, .ref (G.2.2.1 300)), (1, .int a1)]) hx hb dX12_suit_118 rfl hl (by decide) rfl (fun ls hl => ?_)
          refine lv_iload hx hb dX12_suit_119 (lv_at hl 1 rfl) ?_
          refine lv_istore_n (lv' := [(3, .int y80_5), (2, .int v22_4), (5, .int y80_5), (4, .int v22_4), (0, .ref (G.2.2.1 300)), (1, .int a1)]) hx hb dX12_suit_121 rfl hl (by decide) rfl (fun ls hl => ?_)
          exact hj122 _ _ _ _ _ hf hH hS (lv_sub hl [3, 0, 1, 4, 5] rfl)
        refine lv_icmp_eq (tgt := 116) hx hb dX12_suit_89 (by decide) (fun hc => ?_) (fun hc => ?_)
        · have hf := fo_t hc hf
          exact hj116 () _ _ _ hf hH hS (lv_sub hl [0, 1, 4, 5] rfl)
        have hf := fo_f hc hf
        refine lv_iload hx hb dX12_suit_92 (lv_at hl 0 rfl) ?_
        refine lv_iload_n hx hb dX12_suit_94 rfl (lv_at hl 2 rfl) ?_
        refine lv_icmp_lt (tgt := 116) hx hb dX12_suit_95 (by decide) (fun hc => ?_) (fun hc => ?_)
        · have hf := fo_t hc hf
          exact hj116 () _ _ _ hf hH hS (lv_sub hl [0, 1, 4, 5] rfl)
        have hf := fo_f hc hf
        refine lv_iload hx hb dX12_suit_98 (lv_at hl 0 rfl) ?_
        refine lv_iload_n hx hb dX12_suit_100 rfl (lv_at hl 2 rfl) ?_
        refine lv_icmp_ne (tgt := 122) hx hb dX12_suit_101 (by decide) (fun hc => ?_) (fun hc => ?_)
        · have hf := fo_f hc hf
          exact hj122 _ _ _ _ _ hf hH hS (lv_sub hl [1, 2, 3, 4, 5] rfl)
        have hf := fo_t hc hf
        refine lv_iload hx hb dX12_suit_104 (lv_at hl 1 rfl) ?_
        obtain ⟨q106, hq106, hf⟩ := bd_s hf
        refine cGi (cSrun (rest := []) X (c_X12_count1 l G (rH G w) (rA G) rA_g v22_4 q106 hq106) bw1771 bw1772 bw105 bw1773 cn_X12_count1 ⟨rfl, rfl, Nat.le_of_ble_eq_true rfl, Nat.le_of_ble_eq_true rfl⟩ rA_g hH hS hl rfl (Nat.le_of_ble_eq_true rfl) dX12_suit_106) hS (fun H locs hH hS => ?_)
        refine lv_iload_n hx hb dX12_suit_109 rfl (lv_at hl 3 rfl) ?_
        obtain ⟨q110, hq110, hf⟩ := bd_s hf
        refine cGi (cSrun (rest := [.int q106]) X (c_X12_count1 l G (rH G w) (rA G) rA_g v22_2 q110 hq110) bw1771 bw1772 bw105 bw1773 cn_X12_count1 ⟨rfl, rfl, Nat.le_of_ble_eq_true rfl, Nat.le_of_ble_eq_true rfl⟩ rA_g hH hS hl rfl (Nat.le_of_ble_eq_true rfl) dX12_suit_110) hS (fun H locs hH hS => ?_)
        refine lv_icmp_ge (tgt := 122) hx hb dX12_suit_113 (by decide) (fun hc => ?_) (fun hc => ?_)
        · have hf := fo_t hc hf
          exact hj122 _ _ _ _ _ hf hH hS (lv_sub hl [1, 2, 3, 4, 5] rfl)
        have hf := fo_f hc hf
        exact hj116 () _ _ _ hf hH hS (lv_sub hl [0, 1, 4, 5] rfl)
      have hL36 : ∀ (n36 : Nat) (v36_5 : Int32) (v36_6 : Int32) (H : Heap) (locs : List Loc) (ls : Array Slot), f_X12_suit_L36 w v22_4 j80 n36 v36_5 v36_6 = some q → rH G w H → va_S (rA G) s.heap H locs → lv_has ls 7 [(6, .int v36_6), (5, .int v36_5), (4, .int v22_4), (3, .int v22_3), (2, .int v22_2), (0, .ref (G.2.2.1 300)), (1, .int a1)] → W p l e rm_X12_suit s m args below meth c H locs 0 0 Q (F0 m 36 ls []) := by
        intro n36
        induction n36 with
        | zero => intro v36_5 v36_6 H locs ls hf; rw [f_X12_suit_L36] at hf; cases hf
        | succ n36 ih36 =>
          intro v36_5 v36_6 H locs ls hf hH hS hl
          rw [f_X12_suit_L36] at hf
          refine lv_iload hx hb dX12_suit_36 (lv_at hl 0 rfl) ?_
          refine lv_bipush (v := 8) hx hb dX12_suit_38 (by decide) ?_
          refine lv_icmp_ge (tgt := 80) hx hb dX12_suit_40 (by decide) (fun hc => ?_) (fun hc => ?_)
          · have hf := fo_t hc hf
            exact hj80 _ _ _ _ hf hH hS (lv_sub hl [1, 2, 3, 4, 5, 6] rfl)
          have hf := fo_f hc hf
          refine lv_iload hx hb dX12_suit_43 (lv_at hl 1 rfl) ?_
          refine lv_iload hx hb dX12_suit_45 (lv_at hl 2 rfl) ?_
          refine lv_iload hx hb dX12_suit_47 (lv_at hl 0 rfl) ?_
          refine lv_ishr hx hb dX12_suit_49 ?_
          refine lv_iconst (v := 1) hx hb dX12_suit_50 (by decide) ?_
          refine lv_iand hx hb dX12_suit_51 ?_
          refine lv_iconst (v := 1) hx hb dX12_suit_52 (by decide) ?_
          obtain ⟨j71, ej71, hf⟩ := nm_x hf
          have hj71 : ∀ (z71_0 : Int32) (H : Heap) (locs : List Loc) (ls : Array Slot), j71 z71_0 = some q → rH G w H → va_S (rA G) s.heap H locs → lv_has ls 7 [(6, .int v36_6), (4, .int v22_4), (3, .int v22_3), (2, .int v22_2), (0, .ref (G.2.2.1 300)), (1, .int a1)] → W p l e rm_X12_suit s m args below meth c H locs 0 0 Q (F0 m 71 ls [.int z71_0, .int v36_5]) := by
            intro z71_0 H locs ls hf hH hS hl
            have hf := jb1 ej71 hf
            refine lv_iadd hx hb dX12_suit_71 ?_
            refine lv_topi (fun x72 ex72 => ?_)
            have hf := nm_s hf x72 ex72
            refine lv_istore (lv' := [(5, .int x72), (6, .int v36_6), (4, .int v22_4), (3, .int v22_3), (2, .int v22_2), (0, .ref (G.2.2.1 300)), (1, .int a1)]) hx hb dX12_suit_72 hl (by decide) rfl (fun ls hl => ?_)
            obtain ⟨x74, ex74⟩ : ∃ z : Int32, z = (v36_6 + 1) := ⟨_, rfl⟩
            have hf := nm_s hf x74 ex74
            refine lv_iinc (v := x74) (lv' := [(6, .int x74), (5, .int x72), (4, .int v22_4), (3, .int v22_3), (2, .int v22_2), (0, .ref (G.2.2.1 300)), (1, .int a1)]) hx hb dX12_suit_74 hl (k := 1) rfl (by rw [ex74]; rfl) (by decide) rfl (fun ls hl => ?_)
            refine lv_goto (tgt := 36) hx hb dX12_suit_77 (by decide) ?_
            exact ih36 _ _ _ _ _ hf hH hS (lv_sub hl [0, 1, 2, 3, 4, 5, 6] rfl)
          refine lv_icmp_ne (tgt := 70) hx hb dX12_suit_53 (by decide) (fun hc => ?_) (fun hc => ?_)
          · have hf := fo_f hc hf
            refine lv_iconst (v := 0) hx hb dX12_suit_70 (by decide) ?_
            exact hj71 _ _ _ _ hf hH hS (lv_sub hl [0, 2, 3, 4, 5, 6] rfl)
          have hf := fo_t hc hf
          refine lv_aload_n hx hb dX12_suit_56 rfl (lv_at hl 5 rfl) ?_
          refine ro_get (C := RX12) (N := 30) X hH 0 (by decide) rO rfl inBX12 1 (by decide) rfl bw1379 dX12_suit_57 ?_
          refine lv_sipush (v := 3240) hx hb dX12_suit_60 (by decide) ?_
          refine lv_iload hx hb dX12_suit_63 (lv_at hl 0 rfl) ?_
          refine lv_iadd hx hb dX12_suit_65 ?_
          by_cases hc : ((3240 + v36_6) < 0 ∨ 3250 ≤ (3240 + v36_6).toNatClampNeg)
          · cases (fo_t hc hf)
          have hf := fo_f hc hf
          refine ra_ld X hH 0 (by decide) (by decide) hc dX12_suit_66 ?_
          refine lv_goto (tgt := 71) hx hb dX12_suit_67 (by decide) ?_
          exact hj71 _ _ _ _ hf hH hS (lv_sub hl [0, 2, 3, 4, 5, 6] rfl)
      exact hL36 _ _ _ _ _ _ hf hH hS (lv_sub hl [0, 1, 2, 3, 4, 5, 6] rfl)
  exact hL22 _ _ _ _ _ _ _ hf hH hS (lv_sub hl [0, 1, 2, 3, 4] rfl)
def f_X12_image_L2 (j27 : CW → Option (Int32 × CW)) : Nat → Int32 → CW → Option (Int32 × CW)
  | 0, _, _ => none
  | n2 + 1, v2_1, w2_ => (if 3250 ≤ v2_1 then (j27 w2_) else (if (v2_1 < 0 ∨ 3250 ≤ v2_1.toNatClampNeg) then none else (if (v2_1 < 0 ∨ 3250 ≤ v2_1.toNatClampNeg) then none else (nmk (sC w2_ 1 v2_1.toNatClampNeg (w2_.1 0 v2_1.toNatClampNeg)) fun w20 => (nmk (v2_1 + 1) fun (x21 : Int32) => (f_X12_image_L2 j27 n2 x21 w20))))))
def f_X12_image (w : CW) : Option (Int32 × CW) := (nmk (fun (w27_ : CW) => (nmk (sS w27_ 3 1) fun w29 => (if ((0 : Int32) < 0 ∨ 3250 ≤ (0 : Int32).toNatClampNeg) then none else (some ((w29.1 0 (0 : Int32).toNatClampNeg), w29))))) fun j27 => (f_X12_image_L2 j27 FU 0 w))
abbrev rm_X12_image : Room := { frames := 1, cells := 0, slots := 0, locals := 0 }
theorem cn_X12_image : CN yX12_image 0 := ⟨by decide +kernel, by decide +kernel, by decide +kernel⟩
set_option maxHeartbeats 4000000 in
set_option maxRecDepth 100000 in
theorem c_X12_image (l : Launch) (G : GX) (w : CW) (q : Int32 × CW) (hf : f_X12_image w = some q) : MI l G yX12_image cX12_image 2 (some .int) rm_X12_image [.ref (G.2.2.1 300)] (rA G) (rH G w) (rH G q.2) q.1 := by
  refine cM_start (by decide +kernel) (Nat.le_of_ble_eq_true rfl) ?_
  intro p e s m below meth c ls X hH hl
  have hS : va_S (rA G) s.heap s.heap [] := va_S.rf
  have hx := X.1.1
  have hb := X.1.2.1
  generalize hargs : ([.ref (G.2.2.1 300)] : List Value).toArray = args at X ⊢
  generalize hQ : MQ below (QI (rA G) (rH G q.2) q.1) args s 0 0 (rA G) = Q
  have hl : lv_has ls 2 [(0, .ref (G.2.2.1 300))] := hl
  unfold f_X12_image at hf
  refine lv_iconst (v := 0) hx hb dX12_image_0 (by decide) ?_
  refine lv_istore_n (lv' := [(1, .int 0), (0, .ref (G.2.2.1 300))]) hx hb dX12_image_1 rfl hl (by decide) rfl (fun ls hl => ?_)
  obtain ⟨j27, ej27, hf⟩ := nm_x hf
  have hj27 : ∀ (w27_ : CW) (H : Heap) (locs : List Loc) (ls : Array Slot), j27 w27_ = some q → rH G w27_ H → va_S (rA G) s.heap H locs → lv_has ls 2 [(0, .ref (G.2.2.1 300))] → W p l e rm_X12_image s m args below meth c H locs 0 0 Q (F0 m 27 ls []) := by
    intro w27_ H locs ls hf hH hS hl
    have hf := jb1 ej27 hf
    refine lv_aload_n hx hb dX12_image_27 rfl (lv_at hl 0 rfl) ?_
    refine lv_iconst (v := 1) hx hb dX12_image_28 (by decide) ?_
    refine ro_put (C := RX12) (N := 30) X hH hS 0 (by decide) rO rfl inBX12 tyX12 tyX12_ok nmX12 3 (by decide) bw1381 rfl (nz zb1) (fz zb1) (by simp) (sS w27_ 3 1) rfl rE_sS dX12_image_29 (fun H locs hH hS => ?_)
    obtain ⟨w29, ew29⟩ : ∃ z : CW, z = (sS w27_ 3 1) := ⟨_, rfl⟩
    have hf := nm_s hf w29 ew29
    have hH : rH G w29 H := ew29 ▸ hH
    refine lv_aload_n hx hb dX12_image_32 rfl (lv_at hl 0 rfl) ?_
    refine ro_get (C := RX12) (N := 30) X hH 0 (by decide) rO rfl inBX12 1 (by decide) rfl bw1379 dX12_image_33 ?_
    refine lv_iconst (v := 0) hx hb dX12_image_36 (by decide) ?_
    by_cases hc : ((0 : Int32) < 0 ∨ 3250 ≤ (0 : Int32).toNatClampNeg)
    · cases (fo_t hc hf)
    have hf := fo_f hc hf
    refine ra_ld X hH 0 (by decide) (by decide) hc dX12_image_37 ?_
    subst hQ
    exact cEi X (rH2 (so_s hf) hH) hS (pf1 (so_s hf)) dX12_image_38
  have hL2 : ∀ (n2 : Nat) (v2_1 : Int32) (w2_ : CW) (H : Heap) (locs : List Loc) (ls : Array Slot), f_X12_image_L2 j27 n2 v2_1 w2_ = some q → rH G w2_ H → va_S (rA G) s.heap H locs → lv_has ls 2 [(1, .int v2_1), (0, .ref (G.2.2.1 300))] → W p l e rm_X12_image s m args below meth c H locs 0 0 Q (F0 m 2 ls []) := by
    intro n2
    induction n2 with
    | zero => intro v2_1 w2_ H locs ls hf; rw [f_X12_image_L2] at hf; cases hf
    | succ n2 ih2 =>
      intro v2_1 w2_ H locs ls hf hH hS hl
      rw [f_X12_image_L2] at hf
      refine lv_iload_n hx hb dX12_image_2 rfl (lv_at hl 0 rfl) ?_
      refine lv_sipush (v := 3250) hx hb dX12_image_3 (by decide) ?_
      refine lv_icmp_ge (tgt := 27) hx hb dX12_image_6 (by decide) (fun hc => ?_) (fun hc => ?_)
      · have hf := fo_t hc hf
        exact hj27 _ _ _ _ hf hH hS (lv_sub hl [1] rfl)
      have hf := fo_f hc hf
      refine lv_aload_n hx hb dX12_image_9 rfl (lv_at hl 1 rfl) ?_
      refine ro_get (C := RX12) (N := 30) X hH 0 (by decide) rO rfl inBX12 2 (by decide) rfl bw1380 dX12_image_10 ?_
      refine lv_iload_n hx hb dX12_image_13 rfl (lv_at hl 0 rfl) ?_
      refine lv_aload_n hx hb dX12_image_14 rfl (lv_at hl 1 rfl) ?_
      refine ro_get (C := RX12) (N := 30) X hH 0 (by decide) rO rfl inBX12 1 (by decide) rfl bw1379 dX12_image_15 ?_
      refine lv_iload_n hx hb dX12_image_18 rfl (lv_at hl 0 rfl) ?_
      by_cases hc : (v2_1 < 0 ∨ 3250 ≤ v2_1.toNatClampNeg)
      · cases (fo_t hc hf)
      have hf := fo_f hc hf
      refine ra_ld X hH 0 (by decide) (by decide) hc dX12_image_19 ?_
      by_cases hc : (v2_1 < 0 ∨ 3250 ≤ v2_1.toNatClampNeg)
      · cases (fo_t hc hf)
      have hf := fo_f hc hf
      refine ra_st X hH hS 1 (by decide) (by decide) hc dX12_image_20 (fun H locs hH hS => ?_)
      obtain ⟨w20, ew20⟩ : ∃ z : CW, z = (sC w2_ 1 v2_1.toNatClampNeg (w2_.1 0 v2_1.toNatClampNeg)) := ⟨_, rfl⟩
      have hf := nm_s hf w20 ew20
      have hH : rH G w20 H := ew20 ▸ hH
      obtain ⟨x21, ex21⟩ : ∃ z : Int32, z = (v2_1 + 1) := ⟨_, rfl⟩
      have hf := nm_s hf x21 ex21
      refine lv_iinc (v := x21) (lv' := [(1, .int x21), (0, .ref (G.2.2.1 300))]) hx hb dX12_image_21 hl (k := 0) rfl (by rw [ex21]; rfl) (by decide) rfl (fun ls hl => ?_)
      refine lv_goto (tgt := 2) hx hb dX12_image_24 (by decide) ?_
      exact ih2 _ _ _ _ _ hf hH hS (lv_sub hl [0, 1] rfl)
  exact hL2 _ _ _ _ _ _ hf hH hS (lv_sub hl [0, 1] rfl)
def f_X12_undo_L12 (j37 : CW → Option (Int32 × CW)) : Nat → Int32 → CW → Option (Int32 × CW)
  | 0, _, _ => none
  | n12 + 1, v12_1, w12_ => (if 3250 ≤ v12_1 then (j37 w12_) else (if (v12_1 < 0 ∨ 3250 ≤ v12_1.toNatClampNeg) then none else (if (v12_1 < 0 ∨ 3250 ≤ v12_1.toNatClampNeg) then none else (nmk (sC w12_ 0 v12_1.toNatClampNeg (w12_.1 1 v12_1.toNatClampNeg)) fun w30 => (nmk (v12_1 + 1) fun (x31 : Int32) => (f_X12_undo_L12 j37 n12 x31 w30))))))
def f_X12_undo (w : CW) : Option (Int32 × CW) := (if (w.2.2 3) = 0 then (some ((-3), w)) else (nmk (fun (w37_ : CW) => (if ((0 : Int32) < 0 ∨ 3250 ≤ (0 : Int32).toNatClampNeg) then none else (some ((w37_.1 0 (0 : Int32).toNatClampNeg), w37_)))) fun j37 => (f_X12_undo_L12 j37 FU 0 w)))
abbrev rm_X12_undo : Room := { frames := 1, cells := 0, slots := 0, locals := 0 }
theorem cn_X12_undo : CN yX12_undo 0 := ⟨by decide +kernel, by decide +kernel, by decide +kernel⟩
set_option maxHeartbeats 4000000 in
set_option maxRecDepth 100000 in
theorem c_X12_undo (l : Launch) (G : GX) (w : CW) (q : Int32 × CW) (hf : f_X12_undo w = some q) : MI l G yX12_undo cX12_undo 2 (some .int) rm_X12_undo [.ref (G.2.2.1 300)] (rA G) (rH G w) (rH G q.2) q.1 := by
  refine cM_start (by decide +kernel) (Nat.le_of_ble_eq_true rfl) ?_
  intro p e s m below meth c ls X hH hl
  have hS : va_S (rA G) s.heap s.heap [] := va_S.rf
  have hx := X.1.1
  have hb := X.1.2.1
  generalize hargs : ([.ref (G.2.2.1 300)] : List Value).toArray = args at X ⊢
  generalize hQ : MQ below (QI (rA G) (rH G q.2) q.1) args s 0 0 (rA G) = Q
  have hl : lv_has ls 2 [(0, .ref (G.2.2.1 300))] := hl
  unfold f_X12_undo at hf
  refine lv_aload_n hx hb dX12_undo_0 rfl (lv_at hl 0 rfl) ?_
  refine ro_get (C := RX12) (N := 30) X hH 0 (by decide) rO rfl inBX12 3 (by decide) rfl bw1381 dX12_undo_1 ?_
  refine lv_if_ne (tgt := 10) hx hb dX12_undo_4 (by decide) (fun hc => ?_) (fun hc => ?_)
  rotate_left
  · have hf := fo_t hc hf
    refine lv_bipush (v := (-3)) hx hb dX12_undo_7 (by decide) ?_
    subst hQ
    exact cEi X (rH2 (so_s hf) hH) hS (pf1 (so_s hf)) dX12_undo_9
  have hf := fo_f hc hf
  refine lv_iconst (v := 0) hx hb dX12_undo_10 (by decide) ?_
  refine lv_istore_n (lv' := [(1, .int 0), (0, .ref (G.2.2.1 300))]) hx hb dX12_undo_11 rfl hl (by decide) rfl (fun ls hl => ?_)
  obtain ⟨j37, ej37, hf⟩ := nm_x hf
  have hj37 : ∀ (w37_ : CW) (H : Heap) (locs : List Loc) (ls : Array Slot), j37 w37_ = some q → rH G w37_ H → va_S (rA G) s.heap H locs → lv_has ls 2 [(0, .ref (G.2.2.1 300))] → W p l e rm_X12_undo s m args below meth c H locs 0 0 Q (F0 m 37 ls []) := by
    intro w37_ H locs ls hf hH hS hl
    have hf := jb1 ej37 hf
    refine lv_aload_n hx hb dX12_undo_37 rfl (lv_at hl 0 rfl) ?_
    refine ro_get (C := RX12) (N := 30) X hH 0 (by decide) rO rfl inBX12 1 (by decide) rfl bw1379 dX12_undo_38 ?_
    refine lv_iconst (v := 0) hx hb dX12_undo_41 (by decide) ?_
    by_cases hc : ((0 : Int32) < 0 ∨ 3250 ≤ (0 : Int32).toNatClampNeg)
    · cases (fo_t hc hf)
    have hf := fo_f hc hf
    refine ra_ld X hH 0 (by decide) (by decide) hc dX12_undo_42 ?_
    subst hQ
    exact cEi X (rH2 (so_s hf) hH) hS (pf1 (so_s hf)) dX12_undo_43
  have hL12 : ∀ (n12 : Nat) (v12_1 : Int32) (w12_ : CW) (H : Heap) (locs : List Loc) (ls : Array Slot), f_X12_undo_L12 j37 n12 v12_1 w12_ = some q → rH G w12_ H → va_S (rA G) s.heap H locs → lv_has ls 2 [(1, .int v12_1), (0, .ref (G.2.2.1 300))] → W p l e rm_X12_undo s m args below meth c H locs 0 0 Q (F0 m 12 ls []) := by
    intro n12
    induction n12 with
    | zero => intro v12_1 w12_ H locs ls hf; rw [f_X12_undo_L12] at hf; cases hf
    | succ n12 ih12 =>
      intro v12_1 w12_ H locs ls hf hH hS hl
      rw [f_X12_undo_L12] at hf
      refine lv_iload_n hx hb dX12_undo_12 rfl (lv_at hl 0 rfl) ?_
      refine lv_sipush (v := 3250) hx hb dX12_undo_13 (by decide) ?_
      refine lv_icmp_ge (tgt := 37) hx hb dX12_undo_16 (by decide) (fun hc => ?_) (fun hc => ?_)
      · have hf := fo_t hc hf
        exact hj37 _ _ _ _ hf hH hS (lv_sub hl [1] rfl)
      have hf := fo_f hc hf
      refine lv_aload_n hx hb dX12_undo_19 rfl (lv_at hl 1 rfl) ?_
      refine ro_get (C := RX12) (N := 30) X hH 0 (by decide) rO rfl inBX12 1 (by decide) rfl bw1379 dX12_undo_20 ?_
      refine lv_iload_n hx hb dX12_undo_23 rfl (lv_at hl 0 rfl) ?_
      refine lv_aload_n hx hb dX12_undo_24 rfl (lv_at hl 1 rfl) ?_
      refine ro_get (C := RX12) (N := 30) X hH 0 (by decide) rO rfl inBX12 2 (by decide) rfl bw1380 dX12_undo_25 ?_
      refine lv_iload_n hx hb dX12_undo_28 rfl (lv_at hl 0 rfl) ?_
      by_cases hc : (v12_1 < 0 ∨ 3250 ≤ v12_1.toNatClampNeg)
      · cases (fo_t hc hf)
      have hf := fo_f hc hf
      refine ra_ld X hH 1 (by decide) (by decide) hc dX12_undo_29 ?_
      by_cases hc : (v12_1 < 0 ∨ 3250 ≤ v12_1.toNatClampNeg)
      · cases (fo_t hc hf)
      have hf := fo_f hc hf
      refine ra_st X hH hS 0 (by decide) (by decide) hc dX12_undo_30 (fun H locs hH hS => ?_)
      obtain ⟨w30, ew30⟩ : ∃ z : CW, z = (sC w12_ 0 v12_1.toNatClampNeg (w12_.1 1 v12_1.toNatClampNeg)) := ⟨_, rfl⟩
      have hf := nm_s hf w30 ew30
      have hH : rH G w30 H := ew30 ▸ hH
      obtain ⟨x31, ex31⟩ : ∃ z : Int32, z = (v12_1 + 1) := ⟨_, rfl⟩
      have hf := nm_s hf x31 ex31
      refine lv_iinc (v := x31) (lv' := [(1, .int x31), (0, .ref (G.2.2.1 300))]) hx hb dX12_undo_31 hl (k := 0) rfl (by rw [ex31]; rfl) (by decide) rfl (fun ls hl => ?_)
      refine lv_goto (tgt := 12) hx hb dX12_undo_34 (by decide) ?_
      exact ih12 _ _ _ _ _ hf hH hS (lv_sub hl [0, 1] rfl)
  exact hL12 _ _ _ _ _ _ hf hH hS (lv_sub hl [0, 1] rfl)
def f_X12_count (w : CW) (a1 : Int32) : Option (Int32) := (if a1 = 0 then (if ((1 : Int32) < 0 ∨ 3250 ≤ (1 : Int32).toNatClampNeg) then none else (some (w.1 0 (1 : Int32).toNatClampNeg))) else (if a1 = 1 then (if ((2 : Int32) < 0 ∨ 3250 ≤ (2 : Int32).toNatClampNeg) then none else (some (w.1 0 (2 : Int32).toNatClampNeg))) else (if a1 = 2 then (if ((3 : Int32) < 0 ∨ 3250 ≤ (3 : Int32).toNatClampNeg) then none else (some (w.1 0 (3 : Int32).toNatClampNeg))) else (if a1 = 3 then (Option.bind (f_X12_standing w) fun q82 => (some q82)) else (if a1 = 4 then (if ((4 : Int32) < 0 ∨ 3250 ≤ (4 : Int32).toNatClampNeg) then none else (some (w.1 0 (4 : Int32).toNatClampNeg))) else (if a1 = 5 then (if ((5 : Int32) < 0 ∨ 3250 ≤ (5 : Int32).toNatClampNeg) then none else (some (w.1 0 (5 : Int32).toNatClampNeg))) else (if a1 = 6 then (if ((6 : Int32) < 0 ∨ 3250 ≤ (6 : Int32).toNatClampNeg) then none else (some (w.1 0 (6 : Int32).toNatClampNeg))) else (if a1 = 7 then (if ((7 : Int32) < 0 ∨ 3250 ≤ (7 : Int32).toNatClampNeg) then none else (some (w.1 0 (7 : Int32).toNatClampNeg))) else (if a1 = 8 then (if ((8 : Int32) < 0 ∨ 3250 ≤ (8 : Int32).toNatClampNeg) then none else (some (w.1 0 (8 : Int32).toNatClampNeg))) else (if a1 = 9 then (if ((0 : Int32) < 0 ∨ 3250 ≤ (0 : Int32).toNatClampNeg) then none else (some (w.1 0 (0 : Int32).toNatClampNeg))) else (if a1 = 10 then (if ((9 : Int32) < 0 ∨ 3250 ≤ (9 : Int32).toNatClampNeg) then none else (some (w.1 0 (9 : Int32).toNatClampNeg))) else (some (-1)))))))))))))
abbrev rm_X12_count : Room := { frames := 2, cells := 0, slots := 0, locals := 22 }
theorem cn_X12_count : CN yX12_count 1 := ⟨by decide +kernel, by decide +kernel, by decide +kernel⟩
set_option maxHeartbeats 4000000 in
set_option maxRecDepth 100000 in
theorem c_X12_count (l : Launch) (G : GX) (w : CW) (a1 : Int32) (q : Int32) (hf : f_X12_count w a1 = some q) : MI l G yX12_count cX12_count 2 (some .int) rm_X12_count [.ref (G.2.2.1 300), .int a1] (rA G) (rH G w) (rH G w) q := by
  refine cM_start (by decide +kernel) (Nat.le_of_ble_eq_true rfl) ?_
  intro p e s m below meth c ls X hH hl
  have hS : va_S (rA G) s.heap s.heap [] := va_S.rf
  have hx := X.1.1
  have hb := X.1.2.1
  generalize hargs : ([.ref (G.2.2.1 300), .int a1] : List Value).toArray = args at X ⊢
  generalize hQ : MQ below (QI (rA G) (rH G w) q) args s 0 0 (rA G) = Q
  have hl : lv_has ls 2 [(0, .ref (G.2.2.1 300)), (1, .int a1)] := hl
  unfold f_X12_count at hf
  refine lv_iload_n hx hb dX12_count_0 rfl (lv_at hl 1 rfl) ?_
  by_cases hc0 : a1 = 0
  · have hf := fo_t hc0 hf
    refine lv_tableIn (tgt := 60) hx hb dX12_count_1 (by rw [hc0]; decide) (by rw [hc0]; decide) (by rw [hc0]; rfl) (by decide) ?_
    refine lv_aload_n hx hb dX12_count_60 rfl (lv_at hl 0 rfl) ?_
    refine ro_get (C := RX12) (N := 30) X hH 0 (by decide) rO rfl inBX12 1 (by decide) rfl bw1379 dX12_count_61 ?_
    refine lv_iconst (v := 1) hx hb dX12_count_64 (by decide) ?_
    by_cases hc : ((1 : Int32) < 0 ∨ 3250 ≤ (1 : Int32).toNatClampNeg)
    · cases (fo_t hc hf)
    have hf := fo_f hc hf
    refine ra_ld X hH 0 (by decide) (by decide) hc dX12_count_65 ?_
    subst hQ
    exact cEi X hH hS (so_s hf) dX12_count_66
  have hf := fo_f hc0 hf
  by_cases hc1 : a1 = 1
  · have hf := fo_t hc1 hf
    refine lv_tableIn (tgt := 67) hx hb dX12_count_1 (by rw [hc1]; decide) (by rw [hc1]; decide) (by rw [hc1]; rfl) (by decide) ?_
    refine lv_aload_n hx hb dX12_count_67 rfl (lv_at hl 0 rfl) ?_
    refine ro_get (C := RX12) (N := 30) X hH 0 (by decide) rO rfl inBX12 1 (by decide) rfl bw1379 dX12_count_68 ?_
    refine lv_iconst (v := 2) hx hb dX12_count_71 (by decide) ?_
    by_cases hc : ((2 : Int32) < 0 ∨ 3250 ≤ (2 : Int32).toNatClampNeg)
    · cases (fo_t hc hf)
    have hf := fo_f hc hf
    refine ra_ld X hH 0 (by decide) (by decide) hc dX12_count_72 ?_
    subst hQ
    exact cEi X hH hS (so_s hf) dX12_count_73
  have hf := fo_f hc1 hf
  by_cases hc2 : a1 = 2
  · have hf := fo_t hc2 hf
    refine lv_tableIn (tgt := 74) hx hb dX12_count_1 (by rw [hc2]; decide) (by rw [hc2]; decide) (by rw [hc2]; rfl) (by decide) ?_
    refine lv_aload_n hx hb dX12_count_74 rfl (lv_at hl 0 rfl) ?_
    refine ro_get (C := RX12) (N := 30) X hH 0 (by decide) rO rfl inBX12 1 (by decide) rfl bw1379 dX12_count_75 ?_
    refine lv_iconst (v := 3) hx hb dX12_count_78 (by decide) ?_
    by_cases hc : ((3 : Int32) < 0 ∨ 3250 ≤ (3 : Int32).toNatClampNeg)
    · cases (fo_t hc hf)
    have hf := fo_f hc hf
    refine ra_ld X hH 0 (by decide) (by decide) hc dX12_count_79 ?_
    subst hQ
    exact cEi X hH hS (so_s hf) dX12_count_80
  have hf := fo_f hc2 hf
  by_cases hc3 : a1 = 3
  · have hf := fo_t hc3 hf
    refine lv_tableIn (tgt := 81) hx hb dX12_count_1 (by rw [hc3]; decide) (by rw [hc3]; decide) (by rw [hc3]; rfl) (by decide) ?_
    refine lv_aload_n hx hb dX12_count_81 rfl (lv_at hl 0 rfl) ?_
    obtain ⟨q82, hq82, hf⟩ := bd_s hf
    refine cGi (cVrun (rest := []) X (c_X12_standing l G w q82 hq82) bw1480 bw1482 bw49 bw105 bw1483 cn_X12_standing ⟨rfl, rfl, Nat.le_of_ble_eq_true rfl, Nat.le_of_ble_eq_true rfl⟩ (r_rec X hH) rA_g hH hS hl rfl (Nat.le_of_ble_eq_true rfl) dX12_count_82) hS (fun H locs hH hS => ?_)
    subst hQ
    exact cEi X hH hS (so_s hf) dX12_count_85
  have hf := fo_f hc3 hf
  by_cases hc4 : a1 = 4
  · have hf := fo_t hc4 hf
    refine lv_tableIn (tgt := 86) hx hb dX12_count_1 (by rw [hc4]; decide) (by rw [hc4]; decide) (by rw [hc4]; rfl) (by decide) ?_
    refine lv_aload_n hx hb dX12_count_86 rfl (lv_at hl 0 rfl) ?_
    refine ro_get (C := RX12) (N := 30) X hH 0 (by decide) rO rfl inBX12 1 (by decide) rfl bw1379 dX12_count_87 ?_
    refine lv_iconst (v := 4) hx hb dX12_count_90 (by decide) ?_
    by_cases hc : ((4 : Int32) < 0 ∨ 3250 ≤ (4 : Int32).toNatClampNeg)
    · cases (fo_t hc hf)
    have hf := fo_f hc hf
    refine ra_ld X hH 0 (by decide) (by decide) hc dX12_count_91 ?_
    subst hQ
    exact cEi X hH hS (so_s hf) dX12_count_92
  have hf := fo_f hc4 hf
  by_cases hc5 : a1 = 5
  · have hf := fo_t hc5 hf
    refine lv_tableIn (tgt := 93) hx hb dX12_count_1 (by rw [hc5]; decide) (by rw [hc5]; decide) (by rw [hc5]; rfl) (by decide) ?_
    refine lv_aload_n hx hb dX12_count_93 rfl (lv_at hl 0 rfl) ?_
    refine ro_get (C := RX12) (N := 30) X hH 0 (by decide) rO rfl inBX12 1 (by decide) rfl bw1379 dX12_count_94 ?_
    refine lv_iconst (v := 5) hx hb dX12_count_97 (by decide) ?_
    by_cases hc : ((5 : Int32) < 0 ∨ 3250 ≤ (5 : Int32).toNatClampNeg)
    · cases (fo_t hc hf)
    have hf := fo_f hc hf
    refine ra_ld X hH 0 (by decide) (by decide) hc dX12_count_98 ?_
    subst hQ
    exact cEi X hH hS (so_s hf) dX12_count_99
  have hf := fo_f hc5 hf
  by_cases hc6 : a1 = 6
  · have hf := fo_t hc6 hf
    refine lv_tableIn (tgt := 100) hx hb dX12_count_1 (by rw [hc6]; decide) (by rw [hc6]; decide) (by rw [hc6]; rfl) (by decide) ?_
    refine lv_aload_n hx hb dX12_count_100 rfl (lv_at hl 0 rfl) ?_
    refine ro_get (C := RX12) (N := 30) X hH 0 (by decide) rO rfl inBX12 1 (by decide) rfl bw1379 dX12_count_101 ?_
    refine lv_bipush (v := 6) hx hb dX12_count_104 (by decide) ?_
    by_cases hc : ((6 : Int32) < 0 ∨ 3250 ≤ (6 : Int32).toNatClampNeg)
    · cases (fo_t hc hf)
    have hf := fo_f hc hf
    refine ra_ld X hH 0 (by decide) (by decide) hc dX12_count_106 ?_
    subst hQ
    exact cEi X hH hS (so_s hf) dX12_count_107
  have hf := fo_f hc6 hf
  by_cases hc7 : a1 = 7
  · have hf := fo_t hc7 hf
    refine lv_tableIn (tgt := 108) hx hb dX12_count_1 (by rw [hc7]; decide) (by rw [hc7]; decide) (by rw [hc7]; rfl) (by decide) ?_
    refine lv_aload_n hx hb dX12_count_108 rfl (lv_at hl 0 rfl) ?_
    refine ro_get (C := RX12) (N := 30) X hH 0 (by decide) rO rfl inBX12 1 (by decide) rfl bw1379 dX12_count_109 ?_
    refine lv_bipush (v := 7) hx hb dX12_count_112 (by decide) ?_
    by_cases hc : ((7 : Int32) < 0 ∨ 3250 ≤ (7 : Int32).toNatClampNeg)
    · cases (fo_t hc hf)
    have hf := fo_f hc hf
    refine ra_ld X hH 0 (by decide) (by decide) hc dX12_count_114 ?_
    subst hQ
    exact cEi X hH hS (so_s hf) dX12_count_115
  have hf := fo_f hc7 hf
  by_cases hc8 : a1 = 8
  · have hf := fo_t hc8 hf
    refine lv_tableIn (tgt := 116) hx hb dX12_count_1 (by rw [hc8]; decide) (by rw [hc8]; decide) (by rw [hc8]; rfl) (by decide) ?_
    refine lv_aload_n hx hb dX12_count_116 rfl (lv_at hl 0 rfl) ?_
    refine ro_get (C := RX12) (N := 30) X hH 0 (by decide) rO rfl inBX12 1 (by decide) rfl bw1379 dX12_count_117 ?_
    refine lv_bipush (v := 8) hx hb dX12_count_120 (by decide) ?_
    by_cases hc : ((8 : Int32) < 0 ∨ 3250 ≤ (8 : Int32).toNatClampNeg)
    · cases (fo_t hc hf)
    have hf := fo_f hc hf
    refine ra_ld X hH 0 (by decide) (by decide) hc dX12_count_122 ?_
    subst hQ
    exact cEi X hH hS (so_s hf) dX12_count_123
  have hf := fo_f hc8 hf
  by_cases hc9 : a1 = 9
  · have hf := fo_t hc9 hf
    refine lv_tableIn (tgt := 124) hx hb dX12_count_1 (by rw [hc9]; decide) (by rw [hc9]; decide) (by rw [hc9]; rfl) (by decide) ?_
    refine lv_aload_n hx hb dX12_count_124 rfl (lv_at hl 0 rfl) ?_
    refine ro_get (C := RX12) (N := 30) X hH 0 (by decide) rO rfl inBX12 1 (by decide) rfl bw1379 dX12_count_125 ?_
    refine lv_iconst (v := 0) hx hb dX12_count_128 (by decide) ?_
    by_cases hc : ((0 : Int32) < 0 ∨ 3250 ≤ (0 : Int32).toNatClampNeg)
    · cases (fo_t hc hf)
    have hf := fo_f hc hf
    refine ra_ld X hH 0 (by decide) (by decide) hc dX12_count_129 ?_
    subst hQ
    exact cEi X hH hS (so_s hf) dX12_count_130
  have hf := fo_f hc9 hf
  by_cases hc10 : a1 = 10
  · have hf := fo_t hc10 hf
    refine lv_tableIn (tgt := 131) hx hb dX12_count_1 (by rw [hc10]; decide) (by rw [hc10]; decide) (by rw [hc10]; rfl) (by decide) ?_
    refine lv_aload_n hx hb dX12_count_131 rfl (lv_at hl 0 rfl) ?_
    refine ro_get (C := RX12) (N := 30) X hH 0 (by decide) rO rfl inBX12 1 (by decide) rfl bw1379 dX12_count_132 ?_
    refine lv_bipush (v := 9) hx hb dX12_count_135 (by decide) ?_
    by_cases hc : ((9 : Int32) < 0 ∨ 3250 ≤ (9 : Int32).toNatClampNeg)
    · cases (fo_t hc hf)
    have hf := fo_f hc hf
    refine ra_ld X hH 0 (by decide) (by decide) hc dX12_count_137 ?_
    subst hQ
    exact cEi X hH hS (so_s hf) dX12_count_138
  have hf := fo_f hc10 hf
  refine lv_tableOut (tgt := 139) hx hb dX12_count_1 (sw_out (ks := [0, 1, 2, 3, 4, 5, 6, 7, 8, 9, 10]) (by intro k hk; simp only [List.mem_cons, List.not_mem_nil, or_false] at hk; rcases hk with rfl | rfl | rfl | rfl | rfl | rfl | rfl | rfl | rfl | rfl | rfl <;> assumption) (sw_all 0 [0, 1, 2, 3, 4, 5, 6, 7, 8, 9, 10] (by decide))) (by decide) ?_
  refine lv_iconst (v := (-1)) hx hb dX12_count_139 (by decide) ?_
  subst hQ
  exact cEi X hH hS (so_s hf) dX12_count_140
