def f_X12_costs (w : CW) (a1 : Int32) : Option (Int32) := (if ((2920 + a1) < 0 ∨ 3250 ≤ (2920 + a1).toNatClampNeg) then none else (if (w.1 0 (2920 + a1).toNatClampNeg) = 1 then (some 20) else (if (w.1 0 (2920 + a1).toNatClampNeg) = 2 then (some 60) else (if (w.1 0 (2920 + a1).toNatClampNeg) = 3 then (if ((3000 + a1) < 0 ∨ 3250 ≤ (3000 + a1).toNatClampNeg) then none else (some (10 + ((w.1 0 (3000 + a1).toNatClampNeg) - (w.1 0 (3000 + a1).toNatClampNeg) / 7 * 7)))) else (if (w.1 0 (2920 + a1).toNatClampNeg) = 4 then (some 0) else (if (w.1 0 (2920 + a1).toNatClampNeg) = 5 then (if ((2960 + a1) < 0 ∨ 3250 ≤ (2960 + a1).toNatClampNeg) then none else (some (60 + (3 * (w.1 0 (2960 + a1).toNatClampNeg))))) else (if (w.1 0 (2920 + a1).toNatClampNeg) = 6 then (some 15) else (some 10))))))))
abbrev rm_X12_costs : Room := { frames := 1, cells := 0, slots := 0, locals := 0 }
theorem cn_X12_costs : CN yX12_costs 1 := ⟨by decide +kernel, by decide +kernel, by decide +kernel⟩
set_option maxHeartbeats 4000000 in
set_option maxRecDepth 100000 in
theorem c_X12_costs (l : Launch) (G : GX) (w : CW) (a1 : Int32) (q : Int32) (hf : f_X12_costs w a1 = some q) : MI l G yX12_costs cX12_costs 2 (some .int) rm_X12_costs [.ref (G.2.2.1 300), .int a1] (rA G) (rH G w) (rH G w) q := by
  refine cM_start (by decide +kernel) (Nat.le_of_ble_eq_true rfl) ?_
  intro p e s m below meth c ls X hH hl
  have hS : va_S (rA G) s.heap s.heap [] := va_S.rf
  have hx := X.1.1
  have hb := X.1.2.1
  generalize hargs : ([.ref (G.2.2.1 300), .int a1] : List Value).toArray = args at X ⊢
  generalize hQ : MQ below (QI (rA G) (rH G w) q) args s 0 0 (rA G) = Q
  have hl : lv_has ls 2 [(0, .ref (G.2.2.1 300)), (1, .int a1)] := hl
  unfold f_X12_costs at hf
  refine lv_aload_n hx hb dX12_costs_0 rfl (lv_at hl 0 rfl) ?_
  refine ro_get (C := RX12) (N := 30) X hH 0 (by decide) rO rfl inBX12 1 (by decide) rfl bw1379 dX12_costs_1 ?_
  refine lv_sipush (v := 2920) hx hb dX12_costs_4 (by decide) ?_
  refine lv_iload_n hx hb dX12_costs_7 rfl (lv_at hl 1 rfl) ?_
  refine lv_iadd hx hb dX12_costs_8 ?_
  by_cases hc : ((2920 + a1) < 0 ∨ 3250 ≤ (2920 + a1).toNatClampNeg)
  · cases (fo_t hc hf)
  have hf := fo_f hc hf
  refine ra_ld X hH 0 (by decide) (by decide) hc dX12_costs_9 ?_
  by_cases hc1 : (w.1 0 (2920 + a1).toNatClampNeg) = 1
  · have hf := fo_t hc1 hf
    refine lv_tableIn (tgt := 48) hx hb dX12_costs_10 (by rw [hc1]; decide) (by rw [hc1]; decide) (by rw [hc1]; rfl) (by decide) ?_
    refine lv_bipush (v := 20) hx hb dX12_costs_48 (by decide) ?_
    subst hQ
    exact cEi X hH hS (so_s hf) dX12_costs_50
  have hf := fo_f hc1 hf
  by_cases hc2 : (w.1 0 (2920 + a1).toNatClampNeg) = 2
  · have hf := fo_t hc2 hf
    refine lv_tableIn (tgt := 51) hx hb dX12_costs_10 (by rw [hc2]; decide) (by rw [hc2]; decide) (by rw [hc2]; rfl) (by decide) ?_
    refine lv_bipush (v := 60) hx hb dX12_costs_51 (by decide) ?_
    subst hQ
    exact cEi X hH hS (so_s hf) dX12_costs_53
  have hf := fo_f hc2 hf
  by_cases hc3 : (w.1 0 (2920 + a1).toNatClampNeg) = 3
  · have hf := fo_t hc3 hf
    refine lv_tableIn (tgt := 54) hx hb dX12_costs_10 (by rw [hc3]; decide) (by rw [hc3]; decide) (by rw [hc3]; rfl) (by decide) ?_
    refine lv_bipush (v := 10) hx hb dX12_costs_54 (by decide) ?_
    refine lv_aload_n hx hb dX12_costs_56 rfl (lv_at hl 0 rfl) ?_
    refine ro_get (C := RX12) (N := 30) X hH 0 (by decide) rO rfl inBX12 1 (by decide) rfl bw1379 dX12_costs_57 ?_
    refine lv_sipush (v := 3000) hx hb dX12_costs_60 (by decide) ?_
    refine lv_iload_n hx hb dX12_costs_63 rfl (lv_at hl 1 rfl) ?_
    refine lv_iadd hx hb dX12_costs_64 ?_
    by_cases hc : ((3000 + a1) < 0 ∨ 3250 ≤ (3000 + a1).toNatClampNeg)
    · cases (fo_t hc hf)
    have hf := fo_f hc hf
    refine ra_ld X hH 0 (by decide) (by decide) hc dX12_costs_65 ?_
    refine lv_bipush (v := 7) hx hb dX12_costs_66 (by decide) ?_
    refine lv_irem hx hb dX12_costs_68 (by decide) ?_
    refine lv_iadd hx hb dX12_costs_69 ?_
    subst hQ
    exact cEi X hH hS (so_s hf) dX12_costs_70
  have hf := fo_f hc3 hf
  by_cases hc4 : (w.1 0 (2920 + a1).toNatClampNeg) = 4
  · have hf := fo_t hc4 hf
    refine lv_tableIn (tgt := 71) hx hb dX12_costs_10 (by rw [hc4]; decide) (by rw [hc4]; decide) (by rw [hc4]; rfl) (by decide) ?_
    refine lv_iconst (v := 0) hx hb dX12_costs_71 (by decide) ?_
    subst hQ
    exact cEi X hH hS (so_s hf) dX12_costs_72
  have hf := fo_f hc4 hf
  by_cases hc5 : (w.1 0 (2920 + a1).toNatClampNeg) = 5
  · have hf := fo_t hc5 hf
    refine lv_tableIn (tgt := 73) hx hb dX12_costs_10 (by rw [hc5]; decide) (by rw [hc5]; decide) (by rw [hc5]; rfl) (by decide) ?_
    refine lv_bipush (v := 60) hx hb dX12_costs_73 (by decide) ?_
    refine lv_iconst (v := 3) hx hb dX12_costs_75 (by decide) ?_
    refine lv_aload_n hx hb dX12_costs_76 rfl (lv_at hl 0 rfl) ?_
    refine ro_get (C := RX12) (N := 30) X hH 0 (by decide) rO rfl inBX12 1 (by decide) rfl bw1379 dX12_costs_77 ?_
    refine lv_sipush (v := 2960) hx hb dX12_costs_80 (by decide) ?_
    refine lv_iload_n hx hb dX12_costs_83 rfl (lv_at hl 1 rfl) ?_
    refine lv_iadd hx hb dX12_costs_84 ?_
    by_cases hc : ((2960 + a1) < 0 ∨ 3250 ≤ (2960 + a1).toNatClampNeg)
    · cases (fo_t hc hf)
    have hf := fo_f hc hf
    refine ra_ld X hH 0 (by decide) (by decide) hc dX12_costs_85 ?_
    refine lv_imul hx hb dX12_costs_86 ?_
    refine lv_iadd hx hb dX12_costs_87 ?_
    subst hQ
    exact cEi X hH hS (so_s hf) dX12_costs_88
  have hf := fo_f hc5 hf
  by_cases hc6 : (w.1 0 (2920 + a1).toNatClampNeg) = 6
  · have hf := fo_t hc6 hf
    refine lv_tableIn (tgt := 89) hx hb dX12_costs_10 (by rw [hc6]; decide) (by rw [hc6]; decide) (by rw [hc6]; rfl) (by decide) ?_
    refine lv_bipush (v := 15) hx hb dX12_costs_89 (by decide) ?_
    subst hQ
    exact cEi X hH hS (so_s hf) dX12_costs_91
  have hf := fo_f hc6 hf
  refine lv_tableOut (tgt := 92) hx hb dX12_costs_10 (sw_out (ks := [1, 2, 3, 4, 5, 6]) (by intro k hk; simp only [List.mem_cons, List.not_mem_nil, or_false] at hk; rcases hk with rfl | rfl | rfl | rfl | rfl | rfl <;> assumption) (sw_all 1 [1, 2, 3, 4, 5, 6] (by decide))) (by decide) ?_
  refine lv_bipush (v := 10) hx hb dX12_costs_92 (by decide) ?_
  subst hQ
  exact cEi X hH hS (so_s hf) dX12_costs_94
def f_X12_shows (w : CW) (a1 : Int32) (a2 : Int32) : Option (Int32) := (if ((5 : Int32) < 0 ∨ 3250 ≤ (5 : Int32).toNatClampNeg) then none else (if (f_X12_in a1 0 ((w.1 0 (5 : Int32).toNatClampNeg) - 1)) = 0 then (some (-1)) else (if (f_X12_in a2 0 1) = 0 then (some (-1)) else (if a2 = 0 then (Option.bind (f_X12_costs w a1) fun q33 => (some q33)) else (if ((2960 + a1) < 0 ∨ 3250 ≤ (2960 + a1).toNatClampNeg) then none else (nmk (w.1 0 (2960 + a1).toNatClampNeg) fun (x47 : Int32) => (if ((2920 + a1) < 0 ∨ 3250 ≤ (2920 + a1).toNatClampNeg) then none else (if (w.1 0 (2920 + a1).toNatClampNeg) = 2 then (Option.bind (f_X12_costs w a1) fun q94 => (some (q94 - x47))) else (if (w.1 0 (2920 + a1).toNatClampNeg) = 4 then (some (-1)) else (if (w.1 0 (2920 + a1).toNatClampNeg) = 5 then (Option.bind (f_X12_costs w a1) fun q94 => (some (q94 - x47))) else (if (w.1 0 (2920 + a1).toNatClampNeg) = 6 then (some (100 + x47)) else (some x47))))))))))))
abbrev rm_X12_shows : Room := { frames := 2, cells := 0, slots := 0, locals := 22 }
theorem cn_X12_shows : CN yX12_shows 2 := ⟨by decide +kernel, by decide +kernel, by decide +kernel⟩
set_option maxHeartbeats 4000000 in
set_option maxRecDepth 100000 in
theorem c_X12_shows (l : Launch) (G : GX) (w : CW) (a1 : Int32) (a2 : Int32) (q : Int32) (hf : f_X12_shows w a1 a2 = some q) : MI l G yX12_shows cX12_shows 4 (some .int) rm_X12_shows [.ref (G.2.2.1 300), .int a1, .int a2] (rA G) (rH G w) (rH G w) q := by
  refine cM_start (by decide +kernel) (Nat.le_of_ble_eq_true rfl) ?_
  intro p e s m below meth c ls X hH hl
  have hS : va_S (rA G) s.heap s.heap [] := va_S.rf
  have hx := X.1.1
  have hb := X.1.2.1
  generalize hargs : ([.ref (G.2.2.1 300), .int a1, .int a2] : List Value).toArray = args at X ⊢
  generalize hQ : MQ below (QI (rA G) (rH G w) q) args s 0 0 (rA G) = Q
  have hl : lv_has ls 4 [(0, .ref (G.2.2.1 300)), (1, .int a1), (2, .int a2)] := hl
  unfold f_X12_shows at hf
  refine lv_iload_n hx hb dX12_shows_0 rfl (lv_at hl 1 rfl) ?_
  refine lv_iconst (v := 0) hx hb dX12_shows_1 (by decide) ?_
  refine lv_aload_n hx hb dX12_shows_2 rfl (lv_at hl 0 rfl) ?_
  refine ro_get (C := RX12) (N := 30) X hH 0 (by decide) rO rfl inBX12 1 (by decide) rfl bw1379 dX12_shows_3 ?_
  refine lv_iconst (v := 5) hx hb dX12_shows_6 (by decide) ?_
  by_cases hc : ((5 : Int32) < 0 ∨ 3250 ≤ (5 : Int32).toNatClampNeg)
  · cases (fo_t hc hf)
  have hf := fo_f hc hf
  refine ra_ld X hH 0 (by decide) (by decide) hc dX12_shows_7 ?_
  refine lv_iconst (v := 1) hx hb dX12_shows_8 (by decide) ?_
  refine lv_isub hx hb dX12_shows_9 ?_
  refine cGi (cSrun (rest := []) X (c_X12_in l G (rH G w) (rA G) rA_g a1 0 ((w.1 0 (5 : Int32).toNatClampNeg) - 1) _ rfl) bw1477 bw1478 bw105 bw1479 cn_X12_in ⟨rfl, rfl, Nat.le_of_ble_eq_true rfl, Nat.le_of_ble_eq_true rfl⟩ rA_g hH hS hl rfl (Nat.le_of_ble_eq_true rfl) dX12_shows_10) hS (fun H locs hH hS => ?_)
  refine lv_if_eq (tgt := 25) hx hb dX12_shows_13 (by decide) (fun hc => ?_) (fun hc => ?_)
  · have hf := fo_t hc hf
    refine lv_iconst (v := (-1)) hx hb dX12_shows_25 (by decide) ?_
    subst hQ
    exact cEi X hH hS (so_s hf) dX12_shows_26
  have hf := fo_f hc hf
  refine lv_iload_n hx hb dX12_shows_16 rfl (lv_at hl 2 rfl) ?_
  refine lv_iconst (v := 0) hx hb dX12_shows_17 (by decide) ?_
  refine lv_iconst (v := 1) hx hb dX12_shows_18 (by decide) ?_
  refine cGi (cSrun (rest := []) X (c_X12_in l G (rH G w) (rA G) rA_g a2 0 1 _ rfl) bw1477 bw1478 bw105 bw1479 cn_X12_in ⟨rfl, rfl, Nat.le_of_ble_eq_true rfl, Nat.le_of_ble_eq_true rfl⟩ rA_g hH hS hl rfl (Nat.le_of_ble_eq_true rfl) dX12_shows_19) hS (fun H locs hH hS => ?_)
  refine lv_if_ne (tgt := 27) hx hb dX12_shows_22 (by decide) (fun hc => ?_) (fun hc => ?_)
  rotate_left
  · have hf := fo_t hc hf
    refine lv_iconst (v := (-1)) hx hb dX12_shows_25 (by decide) ?_
    subst hQ
    exact cEi X hH hS (so_s hf) dX12_shows_26
  have hf := fo_f hc hf
  refine lv_iload_n hx hb dX12_shows_27 rfl (lv_at hl 2 rfl) ?_
  refine lv_if_ne (tgt := 37) hx hb dX12_shows_28 (by decide) (fun hc => ?_) (fun hc => ?_)
  rotate_left
  · have hf := fo_t hc hf
    refine lv_aload_n hx hb dX12_shows_31 rfl (lv_at hl 0 rfl) ?_
    refine lv_iload_n hx hb dX12_shows_32 rfl (lv_at hl 1 rfl) ?_
    obtain ⟨q33, hq33, hf⟩ := bd_s hf
    refine cGi (cVrun (rest := []) X (c_X12_costs l G w a1 q33 hq33) bw1694 bw1696 bw80 bw105 bw1697 cn_X12_costs ⟨rfl, rfl, Nat.le_of_ble_eq_true rfl, Nat.le_of_ble_eq_true rfl⟩ (r_rec X hH) rA_g hH hS hl rfl (Nat.le_of_ble_eq_true rfl) dX12_shows_33) hS (fun H locs hH hS => ?_)
    subst hQ
    exact cEi X hH hS (so_s hf) dX12_shows_36
  have hf := fo_f hc hf
  refine lv_aload_n hx hb dX12_shows_37 rfl (lv_at hl 0 rfl) ?_
  refine ro_get (C := RX12) (N := 30) X hH 0 (by decide) rO rfl inBX12 1 (by decide) rfl bw1379 dX12_shows_38 ?_
  refine lv_sipush (v := 2960) hx hb dX12_shows_41 (by decide) ?_
  refine lv_iload_n hx hb dX12_shows_44 rfl (lv_at hl 1 rfl) ?_
  refine lv_iadd hx hb dX12_shows_45 ?_
  by_cases hc : ((2960 + a1) < 0 ∨ 3250 ≤ (2960 + a1).toNatClampNeg)
  · cases (fo_t hc hf)
  have hf := fo_f hc hf
  refine ra_ld X hH 0 (by decide) (by decide) hc dX12_shows_46 ?_
  refine lv_topi (fun x47 ex47 => ?_)
  have hf := nm_s hf x47 ex47
  refine lv_istore_n (lv' := [(3, .int x47), (0, .ref (G.2.2.1 300)), (1, .int a1), (2, .int a2)]) hx hb dX12_shows_47 rfl hl (by decide) rfl (fun ls hl => ?_)
  refine lv_aload_n hx hb dX12_shows_48 rfl (lv_at hl 1 rfl) ?_
  refine ro_get (C := RX12) (N := 30) X hH 0 (by decide) rO rfl inBX12 1 (by decide) rfl bw1379 dX12_shows_49 ?_
  refine lv_sipush (v := 2920) hx hb dX12_shows_52 (by decide) ?_
  refine lv_iload_n hx hb dX12_shows_55 rfl (lv_at hl 2 rfl) ?_
  refine lv_iadd hx hb dX12_shows_56 ?_
  by_cases hc : ((2920 + a1) < 0 ∨ 3250 ≤ (2920 + a1).toNatClampNeg)
  · cases (fo_t hc hf)
  have hf := fo_f hc hf
  refine ra_ld X hH 0 (by decide) (by decide) hc dX12_shows_57 ?_
  by_cases hc2 : (w.1 0 (2920 + a1).toNatClampNeg) = 2
  · have hf := fo_t hc2 hf
    refine lv_tableIn (tgt := 92) hx hb dX12_shows_58 (by rw [hc2]; decide) (by rw [hc2]; decide) (by rw [hc2]; rfl) (by decide) ?_
    refine lv_aload_n hx hb dX12_shows_92 rfl (lv_at hl 1 rfl) ?_
    refine lv_iload_n hx hb dX12_shows_93 rfl (lv_at hl 2 rfl) ?_
    obtain ⟨q94, hq94, hf⟩ := bd_s hf
    refine cGi (cVrun (rest := []) X (c_X12_costs l G w a1 q94 hq94) bw1694 bw1696 bw80 bw105 bw1697 cn_X12_costs ⟨rfl, rfl, Nat.le_of_ble_eq_true rfl, Nat.le_of_ble_eq_true rfl⟩ (r_rec X hH) rA_g hH hS hl rfl (Nat.le_of_ble_eq_true rfl) dX12_shows_94) hS (fun H locs hH hS => ?_)
    refine lv_iload_n hx hb dX12_shows_97 rfl (lv_at hl 0 rfl) ?_
    refine lv_isub hx hb dX12_shows_98 ?_
    subst hQ
    exact cEi X hH hS (so_s hf) dX12_shows_99
  have hf := fo_f hc2 hf
  by_cases hc4 : (w.1 0 (2920 + a1).toNatClampNeg) = 4
  · have hf := fo_t hc4 hf
    refine lv_tableIn (tgt := 100) hx hb dX12_shows_58 (by rw [hc4]; decide) (by rw [hc4]; decide) (by rw [hc4]; rfl) (by decide) ?_
    refine lv_iconst (v := (-1)) hx hb dX12_shows_100 (by decide) ?_
    subst hQ
    exact cEi X hH hS (so_s hf) dX12_shows_101
  have hf := fo_f hc4 hf
  by_cases hc5 : (w.1 0 (2920 + a1).toNatClampNeg) = 5
  · have hf := fo_t hc5 hf
    refine lv_tableIn (tgt := 92) hx hb dX12_shows_58 (by rw [hc5]; decide) (by rw [hc5]; decide) (by rw [hc5]; rfl) (by decide) ?_
    refine lv_aload_n hx hb dX12_shows_92 rfl (lv_at hl 1 rfl) ?_
    refine lv_iload_n hx hb dX12_shows_93 rfl (lv_at hl 2 rfl) ?_
    obtain ⟨q94, hq94, hf⟩ := bd_s hf
    refine cGi (cVrun (rest := []) X (c_X12_costs l G w a1 q94 hq94) bw1694 bw1696 bw80 bw105 bw1697 cn_X12_costs ⟨rfl, rfl, Nat.le_of_ble_eq_true rfl, Nat.le_of_ble_eq_true rfl⟩ (r_rec X hH) rA_g hH hS hl rfl (Nat.le_of_ble_eq_true rfl) dX12_shows_94) hS (fun H locs hH hS => ?_)
    refine lv_iload_n hx hb dX12_shows_97 rfl (lv_at hl 0 rfl) ?_
    refine lv_isub hx hb dX12_shows_98 ?_
    subst hQ
    exact cEi X hH hS (so_s hf) dX12_shows_99
  have hf := fo_f hc5 hf
  by_cases hc6 : (w.1 0 (2920 + a1).toNatClampNeg) = 6
  · have hf := fo_t hc6 hf
    refine lv_tableIn (tgt := 102) hx hb dX12_shows_58 (by rw [hc6]; decide) (by rw [hc6]; decide) (by rw [hc6]; rfl) (by decide) ?_
    refine lv_bipush (v := 100) hx hb dX12_shows_102 (by decide) ?_
    refine lv_iload_n hx hb dX12_shows_104 rfl (lv_at hl 0 rfl) ?_
    refine lv_iadd hx hb dX12_shows_105 ?_
    subst hQ
    exact cEi X hH hS (so_s hf) dX12_shows_106
  have hf := fo_f hc6 hf
  by_cases hc3 : (w.1 0 (2920 + a1).toNatClampNeg) = 3
  · refine lv_tableIn (tgt := 107) hx hb dX12_shows_58 (by rw [hc3]; decide) (by rw [hc3]; decide) (by rw [hc3]; rfl) (by decide) ?_
    refine lv_iload_n hx hb dX12_shows_107 rfl (lv_at hl 0 rfl) ?_
    subst hQ
    exact cEi X hH hS (so_s hf) dX12_shows_108
  refine lv_tableOut (tgt := 107) hx hb dX12_shows_58 (sw_out (ks := [2, 3, 4, 5, 6]) (by intro k hk; simp only [List.mem_cons, List.not_mem_nil, or_false] at hk; rcases hk with rfl | rfl | rfl | rfl | rfl <;> assumption) (sw_all 2 [2, 3, 4, 5, 6] (by decide))) (by decide) ?_
  refine lv_iload_n hx hb dX12_shows_107 rfl (lv_at hl 0 rfl) ?_
  subst hQ
  exact cEi X hH hS (so_s hf) dX12_shows_108
def f_X12_as (w : CW) (a1 : Int32) (a2 : Int32) : Option (Int32) := (if ((5 : Int32) < 0 ∨ 3250 ≤ (5 : Int32).toNatClampNeg) then none else (if (f_X12_in a1 0 ((w.1 0 (5 : Int32).toNatClampNeg) - 1)) = 0 then (some (-1)) else (if (f_X12_in a2 0 6) = 0 then (some (-1)) else (if ((2920 + a1) < 0 ∨ 3250 ≤ (2920 + a1).toNatClampNeg) then none else (nmk (w.1 0 (2920 + a1).toNatClampNeg) fun (x38 : Int32) => (nmk (if a2 = 0 then 1 else (if a2 = x38 then 1 else (if a2 = 2 then (if x38 = 5 then 1 else (if a2 = 1 then (if x38 = 6 then 1 else 0) else 0)) else (if a2 = 1 then (if x38 = 6 then 1 else 0) else 0)))) fun (x74 : Int32) => (if x74 = 0 then (some (-6)) else (if ((2960 + a1) < 0 ∨ 3250 ≤ (2960 + a1).toNatClampNeg) then none else (some (w.1 0 (2960 + a1).toNatClampNeg))))))))))
abbrev rm_X12_as : Room := { frames := 2, cells := 0, slots := 0, locals := 22 }
theorem cn_X12_as : CN yX12_as 2 := ⟨by decide +kernel, by decide +kernel, by decide +kernel⟩
set_option maxHeartbeats 4000000 in
set_option maxRecDepth 100000 in
theorem c_X12_as (l : Launch) (G : GX) (w : CW) (a1 : Int32) (a2 : Int32) (q : Int32) (hf : f_X12_as w a1 a2 = some q) : MI l G yX12_as cX12_as 5 (some .int) rm_X12_as [.ref (G.2.2.1 300), .int a1, .int a2] (rA G) (rH G w) (rH G w) q := by
  refine cM_start (by decide +kernel) (Nat.le_of_ble_eq_true rfl) ?_
  intro p e s m below meth c ls X hH hl
  have hS : va_S (rA G) s.heap s.heap [] := va_S.rf
  have hx := X.1.1
  have hb := X.1.2.1
  generalize hargs : ([.ref (G.2.2.1 300), .int a1, .int a2] : List Value).toArray = args at X ⊢
  generalize hQ : MQ below (QI (rA G) (rH G w) q) args s 0 0 (rA G) = Q
  have hl : lv_has ls 5 [(0, .ref (G.2.2.1 300)), (1, .int a1), (2, .int a2)] := hl
  unfold f_X12_as at hf
  refine lv_iload_n hx hb dX12_as_0 rfl (lv_at hl 1 rfl) ?_
  refine lv_iconst (v := 0) hx hb dX12_as_1 (by decide) ?_
  refine lv_aload_n hx hb dX12_as_2 rfl (lv_at hl 0 rfl) ?_
  refine ro_get (C := RX12) (N := 30) X hH 0 (by decide) rO rfl inBX12 1 (by decide) rfl bw1379 dX12_as_3 ?_
  refine lv_iconst (v := 5) hx hb dX12_as_6 (by decide) ?_
  by_cases hc : ((5 : Int32) < 0 ∨ 3250 ≤ (5 : Int32).toNatClampNeg)
  · cases (fo_t hc hf)
  have hf := fo_f hc hf
  refine ra_ld X hH 0 (by decide) (by decide) hc dX12_as_7 ?_
  refine lv_iconst (v := 1) hx hb dX12_as_8 (by decide) ?_
  refine lv_isub hx hb dX12_as_9 ?_
  refine cGi (cSrun (rest := []) X (c_X12_in l G (rH G w) (rA G) rA_g a1 0 ((w.1 0 (5 : Int32).toNatClampNeg) - 1) _ rfl) bw1477 bw1478 bw105 bw1479 cn_X12_in ⟨rfl, rfl, Nat.le_of_ble_eq_true rfl, Nat.le_of_ble_eq_true rfl⟩ rA_g hH hS hl rfl (Nat.le_of_ble_eq_true rfl) dX12_as_10) hS (fun H locs hH hS => ?_)
  refine lv_if_eq (tgt := 26) hx hb dX12_as_13 (by decide) (fun hc => ?_) (fun hc => ?_)
  · have hf := fo_t hc hf
    refine lv_iconst (v := (-1)) hx hb dX12_as_26 (by decide) ?_
    subst hQ
    exact cEi X hH hS (so_s hf) dX12_as_27
  have hf := fo_f hc hf
  refine lv_iload_n hx hb dX12_as_16 rfl (lv_at hl 2 rfl) ?_
  refine lv_iconst (v := 0) hx hb dX12_as_17 (by decide) ?_
  refine lv_bipush (v := 6) hx hb dX12_as_18 (by decide) ?_
  refine cGi (cSrun (rest := []) X (c_X12_in l G (rH G w) (rA G) rA_g a2 0 6 _ rfl) bw1477 bw1478 bw105 bw1479 cn_X12_in ⟨rfl, rfl, Nat.le_of_ble_eq_true rfl, Nat.le_of_ble_eq_true rfl⟩ rA_g hH hS hl rfl (Nat.le_of_ble_eq_true rfl) dX12_as_20) hS (fun H locs hH hS => ?_)
  refine lv_if_ne (tgt := 28) hx hb dX12_as_23 (by decide) (fun hc => ?_) (fun hc => ?_)
  rotate_left
  · have hf := fo_t hc hf
    refine lv_iconst (v := (-1)) hx hb dX12_as_26 (by decide) ?_
    subst hQ
    exact cEi X hH hS (so_s hf) dX12_as_27
  have hf := fo_f hc hf
  refine lv_aload_n hx hb dX12_as_28 rfl (lv_at hl 0 rfl) ?_
  refine ro_get (C := RX12) (N := 30) X hH 0 (by decide) rO rfl inBX12 1 (by decide) rfl bw1379 dX12_as_29 ?_
  refine lv_sipush (v := 2920) hx hb dX12_as_32 (by decide) ?_
  refine lv_iload_n hx hb dX12_as_35 rfl (lv_at hl 1 rfl) ?_
  refine lv_iadd hx hb dX12_as_36 ?_
  by_cases hc : ((2920 + a1) < 0 ∨ 3250 ≤ (2920 + a1).toNatClampNeg)
  · cases (fo_t hc hf)
  have hf := fo_f hc hf
  refine ra_ld X hH 0 (by decide) (by decide) hc dX12_as_37 ?_
  refine lv_topi (fun x38 ex38 => ?_)
  have hf := nm_s hf x38 ex38
  refine lv_istore_n (lv' := [(3, .int x38), (0, .ref (G.2.2.1 300)), (1, .int a1), (2, .int a2)]) hx hb dX12_as_38 rfl hl (by decide) rfl (fun ls hl => ?_)
  refine lv_iload_n hx hb dX12_as_39 rfl (lv_at hl 3 rfl) ?_
  have hJ : ∀ (H : Heap) (locs : List Loc), rH G w H → va_S (rA G) s.heap H locs → W p l e rm_X12_as s m args below meth c H locs 0 0 Q (F0 m 74 ls [.int (if a2 = 0 then 1 else (if a2 = x38 then 1 else (if a2 = 2 then (if x38 = 5 then 1 else (if a2 = 1 then (if x38 = 6 then 1 else 0) else 0)) else (if a2 = 1 then (if x38 = 6 then 1 else 0) else 0))))]) := by
    intro H locs hH hS
    refine lv_topi (fun x74 ex74 => ?_)
    have hf := nm_s hf x74 ex74
    refine lv_istore (lv' := [(4, .int x74), (3, .int x38), (0, .ref (G.2.2.1 300)), (1, .int a1), (2, .int a2)]) hx hb dX12_as_74 hl (by decide) rfl (fun ls hl => ?_)
    refine lv_iload hx hb dX12_as_76 (lv_at hl 0 rfl) ?_
    refine lv_if_eq (tgt := 94) hx hb dX12_as_78 (by decide) (fun hc => ?_) (fun hc => ?_)
    · have hf := fo_t hc hf
      refine lv_bipush (v := (-6)) hx hb dX12_as_94 (by decide) ?_
      subst hQ
      exact cEi X hH hS (so_s hf) dX12_as_96
    have hf := fo_f hc hf
    refine lv_aload_n hx hb dX12_as_81 rfl (lv_at hl 2 rfl) ?_
    refine ro_get (C := RX12) (N := 30) X hH 0 (by decide) rO rfl inBX12 1 (by decide) rfl bw1379 dX12_as_82 ?_
    refine lv_sipush (v := 2960) hx hb dX12_as_85 (by decide) ?_
    refine lv_iload_n hx hb dX12_as_88 rfl (lv_at hl 3 rfl) ?_
    refine lv_iadd hx hb dX12_as_89 ?_
    by_cases hc : ((2960 + a1) < 0 ∨ 3250 ≤ (2960 + a1).toNatClampNeg)
    · cases (fo_t hc hf)
    have hf := fo_f hc hf
    refine ra_ld X hH 0 (by decide) (by decide) hc dX12_as_90 ?_
    refine lv_goto (tgt := 96) hx hb dX12_as_91 (by decide) ?_
    subst hQ
    exact cEi X hH hS (so_s hf) dX12_as_96
  refine lv_if_eq (tgt := 69) hx hb dX12_as_40 (by decide) (fun hc40 => ?_) (fun hc40 => ?_)
  · refine lv_iconst (v := 1) hx hb dX12_as_69 (by decide) ?_
    refine lv_goto (tgt := 74) hx hb dX12_as_70 (by decide) ?_
    exact W.eq (by rw [if_pos hc40] <;> rfl) (hJ _ _ hH hS)
  · refine lv_iload_n hx hb dX12_as_43 rfl (lv_at hl 3 rfl) ?_
    refine lv_iload_n hx hb dX12_as_44 rfl (lv_at hl 0 rfl) ?_
    refine lv_icmp_eq (tgt := 69) hx hb dX12_as_45 (by decide) (fun hc45 => ?_) (fun hc45 => ?_)
    · refine lv_iconst (v := 1) hx hb dX12_as_69 (by decide) ?_
      refine lv_goto (tgt := 74) hx hb dX12_as_70 (by decide) ?_
      exact W.eq (by rw [if_neg hc40, if_pos hc45] <;> rfl) (hJ _ _ hH hS)
    · refine lv_iload_n hx hb dX12_as_48 rfl (lv_at hl 3 rfl) ?_
      refine lv_iconst (v := 2) hx hb dX12_as_49 (by decide) ?_
      refine lv_icmp_ne (tgt := 58) hx hb dX12_as_50 (by decide) (fun hc50 => ?_) (fun hc50 => ?_)
      · refine lv_iload_n hx hb dX12_as_58 rfl (lv_at hl 3 rfl) ?_
        refine lv_iconst (v := 1) hx hb dX12_as_59 (by decide) ?_
        refine lv_icmp_ne (tgt := 73) hx hb dX12_as_60 (by decide) (fun hc60 => ?_) (fun hc60 => ?_)
        · refine lv_iconst (v := 0) hx hb dX12_as_73 (by decide) ?_
          exact W.eq (by rw [if_neg hc40, if_neg hc45, if_neg hc50, if_neg hc60] <;> rfl) (hJ _ _ hH hS)
        · refine lv_iload_n hx hb dX12_as_63 rfl (lv_at hl 0 rfl) ?_
          refine lv_bipush (v := 6) hx hb dX12_as_64 (by decide) ?_
          refine lv_icmp_ne (tgt := 73) hx hb dX12_as_66 (by decide) (fun hc66 => ?_) (fun hc66 => ?_)
          · refine lv_iconst (v := 0) hx hb dX12_as_73 (by decide) ?_
            exact W.eq (by rw [if_neg hc40, if_neg hc45, if_neg hc50, if_pos hc60, if_neg hc66] <;> rfl) (hJ _ _ hH hS)
          · refine lv_iconst (v := 1) hx hb dX12_as_69 (by decide) ?_
            refine lv_goto (tgt := 74) hx hb dX12_as_70 (by decide) ?_
            exact W.eq (by rw [if_neg hc40, if_neg hc45, if_neg hc50, if_pos hc60, if_pos hc66] <;> rfl) (hJ _ _ hH hS)
      · refine lv_iload_n hx hb dX12_as_53 rfl (lv_at hl 0 rfl) ?_
        refine lv_iconst (v := 5) hx hb dX12_as_54 (by decide) ?_
        refine lv_icmp_eq (tgt := 69) hx hb dX12_as_55 (by decide) (fun hc55 => ?_) (fun hc55 => ?_)
        · refine lv_iconst (v := 1) hx hb dX12_as_69 (by decide) ?_
          refine lv_goto (tgt := 74) hx hb dX12_as_70 (by decide) ?_
          exact W.eq (by rw [if_neg hc40, if_neg hc45, if_pos hc50, if_pos hc55] <;> rfl) (hJ _ _ hH hS)
        · refine lv_iload_n hx hb dX12_as_58 rfl (lv_at hl 3 rfl) ?_
          refine lv_iconst (v := 1) hx hb dX12_as_59 (by decide) ?_
          refine lv_icmp_ne (tgt := 73) hx hb dX12_as_60 (by decide) (fun hc60 => ?_) (fun hc60 => ?_)
          · refine lv_iconst (v := 0) hx hb dX12_as_73 (by decide) ?_
            exact W.eq (by rw [if_neg hc40, if_neg hc45, if_pos hc50, if_neg hc55, if_neg hc60] <;> rfl) (hJ _ _ hH hS)
          · refine lv_iload_n hx hb dX12_as_63 rfl (lv_at hl 0 rfl) ?_
            refine lv_bipush (v := 6) hx hb dX12_as_64 (by decide) ?_
            refine lv_icmp_ne (tgt := 73) hx hb dX12_as_66 (by decide) (fun hc66 => ?_) (fun hc66 => ?_)
            · refine lv_iconst (v := 0) hx hb dX12_as_73 (by decide) ?_
              exact W.eq (by rw [if_neg hc40, if_neg hc45, if_pos hc50, if_neg hc55, if_pos hc60, if_neg hc66] <;> rfl) (hJ _ _ hH hS)
            · refine lv_iconst (v := 1) hx hb dX12_as_69 (by decide) ?_
              refine lv_goto (tgt := 74) hx hb dX12_as_70 (by decide) ?_
              exact W.eq (by rw [if_neg hc40, if_neg hc45, if_pos hc50, if_neg hc55, if_pos hc60, if_pos hc66] <;> rfl) (hJ _ _ hH hS)
def f_X12_copies_L44 (w : CW) (a1 : Int32) (v18_3 : Int32) (v31_5 : Int32) (j148 : Int32 → Option (Int32)) : Nat → Int32 → Int32 → Option (Int32)
  | 0, _, _ => none
  | n44 + 1, v44_6, v44_7 => (if ((5 : Int32) < 0 ∨ 3250 ≤ (5 : Int32).toNatClampNeg) then none else (if (w.1 0 (5 : Int32).toNatClampNeg) ≤ v44_7 then (j148 v44_6) else (if ((2920 + v44_7) < 0 ∨ 3250 ≤ (2920 + v44_7).toNatClampNeg) then none else (nmk (fun (z106_0 : Int32) => (nmk (fun (z139_0 : Int32) => (nmk (v44_6 + z139_0) fun (x140 : Int32) => (nmk (v44_7 + 1) fun (x142 : Int32) => (f_X12_copies_L44 w a1 v18_3 v31_5 j148 n44 x140 x142)))) fun j139 => (nmk (fun (_ : Unit) => (j139 0)) fun j138 => (if z106_0 = 0 then (j138 ()) else (if ((3040 + v44_7) < 0 ∨ 3250 ≤ (3040 + v44_7).toNatClampNeg) then none else (if ((a1 >>> ((w.1 0 (3040 + v44_7).toNatClampNeg) &&& 31)) &&& 1) = 1 then (j139 1) else (j138 ()))))))) fun j106 => (nmk (fun (_ : Unit) => (j106 0)) fun j105 => (if (w.1 0 (2920 + v44_7).toNatClampNeg) = 4 then (j105 ()) else (if ((3000 + v44_7) < 0 ∨ 3250 ≤ (3000 + v44_7).toNatClampNeg) then none else (if (w.1 0 (3000 + v44_7).toNatClampNeg) = v18_3 then (if ((2960 + v44_7) < 0 ∨ 3250 ≤ (2960 + v44_7).toNatClampNeg) then none else (if (w.1 0 (2960 + v44_7).toNatClampNeg) = v31_5 then (j106 1) else (j105 ()))) else (j105 ())))))))))
def f_X12_copies_L31 (w : CW) (a1 : Int32) (v18_3 : Int32) (j170 : Int32 → Option (Int32)) : Nat → Int32 → Int32 → Option (Int32)
  | 0, _, _ => none
  | n31 + 1, v31_4, v31_5 => (if 30 ≤ v31_5 then (j170 v31_4) else (nmk (fun (y148_6 : Int32) => (nmk (if y148_6 ≤ v31_4 then v31_4 else y148_6) fun (x162 : Int32) => (nmk (v31_5 + 1) fun (x164 : Int32) => (f_X12_copies_L31 w a1 v18_3 j170 n31 x162 x164)))) fun j148 => (f_X12_copies_L44 w a1 v18_3 v31_5 j148 FU 0 0)))
def f_X12_copies_L18 (w : CW) (a1 : Int32) : Nat → Int32 → Int32 → Option (Int32)
  | 0, _, _ => none
  | n18 + 1, v18_2, v18_3 => (if 256 ≤ v18_3 then (some v18_2) else (nmk (fun (y170_4 : Int32) => (nmk (v18_2 + y170_4) fun (x174 : Int32) => (nmk (v18_3 + 1) fun (x175 : Int32) => (f_X12_copies_L18 w a1 n18 x174 x175)))) fun j170 => (f_X12_copies_L31 w a1 v18_3 j170 FU 0 0)))
def f_X12_copies (w : CW) (a1 : Int32) : Option (Int32) := (if (f_X12_in a1 0 1023) = 0 then (some (-2)) else (f_X12_copies_L18 w a1 FU 0 0))
abbrev rm_X12_copies : Room := { frames := 2, cells := 0, slots := 0, locals := 22 }
theorem cn_X12_copies : CN yX12_copies 1 := ⟨by decide +kernel, by decide +kernel, by decide +kernel⟩
set_option maxHeartbeats 4000000 in
set_option maxRecDepth 100000 in
theorem c_X12_copies (l : Launch) (G : GX) (w : CW) (a1 : Int32) (q : Int32) (hf : f_X12_copies w a1 = some q) : MI l G yX12_copies cX12_copies 9 (some .int) rm_X12_copies [.ref (G.2.2.1 300), .int a1] (rA G) (rH G w) (rH G w) q := by
  refine cM_start (by decide +kernel) (Nat.le_of_ble_eq_true rfl) ?_
  intro p e s m below meth c ls X hH hl
  have hS : va_S (rA G) s.heap s.heap [] := va_S.rf
  have hx := X.1.1
  have hb := X.1.2.1
  generalize hargs : ([.ref (G.2.2.1 300), .int a1] : List Value).toArray = args at X ⊢
  generalize hQ : MQ below (QI (rA G) (rH G w) q) args s 0 0 (rA G) = Q
  have hl : lv_has ls 9 [(0, .ref (G.2.2.1 300)), (1, .int a1)] := hl
  unfold f_X12_copies at hf
  refine lv_iload_n hx hb dX12_copies_0 rfl (lv_at hl 1 rfl) ?_
  refine lv_iconst (v := 0) hx hb dX12_copies_1 (by decide) ?_
  refine lv_sipush (v := 1023) hx hb dX12_copies_2 (by decide) ?_
  refine cGi (cSrun (rest := []) X (c_X12_in l G (rH G w) (rA G) rA_g a1 0 1023 _ rfl) bw1477 bw1478 bw105 bw1479 cn_X12_in ⟨rfl, rfl, Nat.le_of_ble_eq_true rfl, Nat.le_of_ble_eq_true rfl⟩ rA_g hH hS hl rfl (Nat.le_of_ble_eq_true rfl) dX12_copies_5) hS (fun H locs hH hS => ?_)
  refine lv_if_ne (tgt := 14) hx hb dX12_copies_8 (by decide) (fun hc => ?_) (fun hc => ?_)
  rotate_left
  · have hf := fo_t hc hf
    refine lv_bipush (v := (-2)) hx hb dX12_copies_11 (by decide) ?_
    subst hQ
    exact cEi X hH hS (so_s hf) dX12_copies_13
  have hf := fo_f hc hf
  refine lv_iconst (v := 0) hx hb dX12_copies_14 (by decide) ?_
  refine lv_istore_n (lv' := [(2, .int 0), (0, .ref (G.2.2.1 300)), (1, .int a1)]) hx hb dX12_copies_15 rfl hl (by decide) rfl (fun ls hl => ?_)
  refine lv_iconst (v := 0) hx hb dX12_copies_16 (by decide) ?_
  refine lv_istore_n (lv' := [(3, .int 0), (2, .int 0), (0, .ref (G.2.2.1 300)), (1, .int a1)]) hx hb dX12_copies_17 rfl hl (by decide) rfl (fun ls hl => ?_)
  have hL18 : ∀ (n18 : Nat) (v18_2 : Int32) (v18_3 : Int32) (H : Heap) (locs : List Loc) (ls : Array Slot), f_X12_copies_L18 w a1 n18 v18_2 v18_3 = some q → rH G w H → va_S (rA G) s.heap H locs → lv_has ls 9 [(3, .int v18_3), (2, .int v18_2), (0, .ref (G.2.2.1 300)), (1, .int a1)] → W p l e rm_X12_copies s m args below meth c H locs 0 0 Q (F0 m 18 ls []) := by
    intro n18
    induction n18 with
    | zero => intro v18_2 v18_3 H locs ls hf; rw [f_X12_copies_L18] at hf; cases hf
    | succ n18 ih18 =>
      intro v18_2 v18_3 H locs ls hf hH hS hl
      rw [f_X12_copies_L18] at hf
      refine lv_iload_n hx hb dX12_copies_18 rfl (lv_at hl 0 rfl) ?_
      refine lv_sipush (v := 256) hx hb dX12_copies_19 (by decide) ?_
      refine lv_icmp_ge (tgt := 181) hx hb dX12_copies_22 (by decide) (fun hc => ?_) (fun hc => ?_)
      · have hf := fo_t hc hf
        refine lv_iload_n hx hb dX12_copies_181 rfl (lv_at hl 1 rfl) ?_
        subst hQ
        exact cEi X hH hS (so_s hf) dX12_copies_182
      have hf := fo_f hc hf
      refine lv_iconst (v := 0) hx hb dX12_copies_25 (by decide) ?_
      refine lv_istore (lv' := [(4, .int 0), (3, .int v18_3), (2, .int v18_2), (0, .ref (G.2.2.1 300)), (1, .int a1)]) hx hb dX12_copies_26 hl (by decide) rfl (fun ls hl => ?_)
      refine lv_iconst (v := 0) hx hb dX12_copies_28 (by decide) ?_
      refine lv_istore (lv' := [(5, .int 0), (4, .int 0), (3, .int v18_3), (2, .int v18_2), (0, .ref (G.2.2.1 300)), (1, .int a1)]) hx hb dX12_copies_29 hl (by decide) rfl (fun ls hl => ?_)
      obtain ⟨j170, ej170, hf⟩ := nm_x hf
      have hj170 : ∀ (y170_4 : Int32) (H : Heap) (locs : List Loc) (ls : Array Slot), j170 y170_4 = some q → rH G w H → va_S (rA G) s.heap H locs → lv_has ls 9 [(4, .int y170_4), (3, .int v18_3), (2, .int v18_2), (0, .ref (G.2.2.1 300)), (1, .int a1)] → W p l e rm_X12_copies s m args below meth c H locs 0 0 Q (F0 m 170 ls []) := by
        intro y170_4 H locs ls hf hH hS hl
        have hf := jb1 ej170 hf
        refine lv_iload_n hx hb dX12_copies_170 rfl (lv_at hl 2 rfl) ?_
        refine lv_iload hx hb dX12_copies_171 (lv_at hl 0 rfl) ?_
        refine lv_iadd hx hb dX12_copies_173 ?_
        refine lv_topi (fun x174 ex174 => ?_)
        have hf := nm_s hf x174 ex174
        refine lv_istore_n (lv' := [(2, .int x174), (4, .int y170_4), (3, .int v18_3), (0, .ref (G.2.2.1 300)), (1, .int a1)]) hx hb dX12_copies_174 rfl hl (by decide) rfl (fun ls hl => ?_)
        obtain ⟨x175, ex175⟩ : ∃ z : Int32, z = (v18_3 + 1) := ⟨_, rfl⟩
        have hf := nm_s hf x175 ex175
        refine lv_iinc (v := x175) (lv' := [(3, .int x175), (2, .int x174), (4, .int y170_4), (0, .ref (G.2.2.1 300)), (1, .int a1)]) hx hb dX12_copies_175 hl (k := 2) rfl (by rw [ex175]; rfl) (by decide) rfl (fun ls hl => ?_)
        refine lv_goto (tgt := 18) hx hb dX12_copies_178 (by decide) ?_
        exact ih18 _ _ _ _ _ hf hH hS (lv_sub hl [0, 1, 3, 4] rfl)
      have hL31 : ∀ (n31 : Nat) (v31_4 : Int32) (v31_5 : Int32) (H : Heap) (locs : List Loc) (ls : Array Slot), f_X12_copies_L31 w a1 v18_3 j170 n31 v31_4 v31_5 = some q → rH G w H → va_S (rA G) s.heap H locs → lv_has ls 9 [(5, .int v31_5), (4, .int v31_4), (3, .int v18_3), (2, .int v18_2), (0, .ref (G.2.2.1 300)), (1, .int a1)] → W p l e rm_X12_copies s m args below meth c H locs 0 0 Q (F0 m 31 ls []) := by
        intro n31
        induction n31 with
        | zero => intro v31_4 v31_5 H locs ls hf; rw [f_X12_copies_L31] at hf; cases hf
        | succ n31 ih31 =>
          intro v31_4 v31_5 H locs ls hf hH hS hl
          rw [f_X12_copies_L31] at hf
          refine lv_iload hx hb dX12_copies_31 (lv_at hl 0 rfl) ?_
          refine lv_bipush (v := 30) hx hb dX12_copies_33 (by decide) ?_
          refine lv_icmp_ge (tgt := 170) hx hb dX12_copies_35 (by decide) (fun hc => ?_) (fun hc => ?_)
          · have hf := fo_t hc hf
            exact hj170 _ _ _ _ hf hH hS (lv_sub hl [1, 2, 3, 4, 5] rfl)
          have hf := fo_f hc hf
          refine lv_iconst (v := 0) hx hb dX12_copies_38 (by decide) ?_
          refine lv_istore (lv' := [(6, .int 0), (5, .int v31_5), (4, .int v31_4), (3, .int v18_3), (2, .int v18_2), (0, .ref (G.2.2.1 300)), (1, .int a1)]) hx hb dX12_copies_39 hl (by decide) rfl (fun ls hl => ?_)
          refine lv_iconst (v := 0) hx hb dX12_copies_41 (by decide) ?_
          refine lv_istore (lv' := [(7, .int 0), (6, .int 0), (5, .int v31_5), (4, .int v31_4), (3, .int v18_3), (2, .int v18_2), (0, .ref (G.2.2.1 300)), (1, .int a1)]) hx hb dX12_copies_42 hl (by decide) rfl (fun ls hl => ?_)
          obtain ⟨j148, ej148, hf⟩ := nm_x hf
          have hj148 : ∀ (y148_6 : Int32) (H : Heap) (locs : List Loc) (ls : Array Slot), j148 y148_6 = some q → rH G w H → va_S (rA G) s.heap H locs → lv_has ls 9 [(6, .int y148_6), (5, .int v31_5), (4, .int v31_4), (3, .int v18_3), (2, .int v18_2), (0, .ref (G.2.2.1 300)), (1, .int a1)] → W p l e rm_X12_copies s m args below meth c H locs 0 0 Q (F0 m 148 ls []) := by
            intro y148_6 H locs ls hf hH hS hl
            have hf := jb1 ej148 hf
            refine lv_iload hx hb dX12_copies_148 (lv_at hl 0 rfl) ?_
            refine lv_iload hx hb dX12_copies_150 (lv_at hl 2 rfl) ?_
            have hJ : ∀ (H : Heap) (locs : List Loc), rH G w H → va_S (rA G) s.heap H locs → W p l e rm_X12_copies s m args below meth c H locs 0 0 Q (F0 m 162 ls [.int (if y148_6 ≤ v31_4 then v31_4 else y148_6)]) := by
              intro H locs hH hS
              refine lv_topi (fun x162 ex162 => ?_)
              have hf := nm_s hf x162 ex162
              refine lv_istore (lv' := [(4, .int x162), (6, .int y148_6), (5, .int v31_5), (3, .int v18_3), (2, .int v18_2), (0, .ref (G.2.2.1 300)), (1, .int a1)]) hx hb dX12_copies_162 hl (by decide) rfl (fun ls hl => ?_)
              obtain ⟨x164, ex164⟩ : ∃ z : Int32, z = (v31_5 + 1) := ⟨_, rfl⟩
              have hf := nm_s hf x164 ex164
              refine lv_iinc (v := x164) (lv' := [(5, .int x164), (4, .int x162), (6, .int y148_6), (3, .int v18_3), (2, .int v18_2), (0, .ref (G.2.2.1 300)), (1, .int a1)]) hx hb dX12_copies_164 hl (k := 2) rfl (by rw [ex164]; rfl) (by decide) rfl (fun ls hl => ?_)
              refine lv_goto (tgt := 31) hx hb dX12_copies_167 (by decide) ?_
              exact ih31 _ _ _ _ _ hf hH hS (lv_sub hl [0, 1, 3, 4, 5, 6] rfl)
            refine lv_icmp_le (tgt := 160) hx hb dX12_copies_152 (by decide) (fun hc152 => ?_) (fun hc152 => ?_)
            · refine lv_iload hx hb dX12_copies_160 (lv_at hl 2 rfl) ?_
              exact W.eq (by rw [if_pos hc152] <;> rfl) (hJ _ _ hH hS)
            · refine lv_iload hx hb dX12_copies_155 (lv_at hl 0 rfl) ?_
              refine lv_goto (tgt := 162) hx hb dX12_copies_157 (by decide) ?_
              exact W.eq (by rw [if_neg hc152] <;> rfl) (hJ _ _ hH hS)
          have hL44 : ∀ (n44 : Nat) (v44_6 : Int32) (v44_7 : Int32) (H : Heap) (locs : List Loc) (ls : Array Slot), f_X12_copies_L44 w a1 v18_3 v31_5 j148 n44 v44_6 v44_7 = some q → rH G w H → va_S (rA G) s.heap H locs → lv_has ls 9 [(7, .int v44_7), (6, .int v44_6), (5, .int v31_5), (4, .int v31_4), (3, .int v18_3), (2, .int v18_2), (0, .ref (G.2.2.1 300)), (1, .int a1)] → W p l e rm_X12_copies s m args below meth c H locs 0 0 Q (F0 m 44 ls []) := by
            intro n44
            induction n44 with
            | zero => intro v44_6 v44_7 H locs ls hf; rw [f_X12_copies_L44] at hf; cases hf
            | succ n44 ih44 =>
              intro v44_6 v44_7 H locs ls hf hH hS hl
              rw [f_X12_copies_L44] at hf
              refine lv_iload hx hb dX12_copies_44 (lv_at hl 0 rfl) ?_
              refine lv_aload_n hx hb dX12_copies_46 rfl (lv_at hl 6 rfl) ?_
              refine ro_get (C := RX12) (N := 30) X hH 0 (by decide) rO rfl inBX12 1 (by decide) rfl bw1379 dX12_copies_47 ?_
              refine lv_iconst (v := 5) hx hb dX12_copies_50 (by decide) ?_
              by_cases hc : ((5 : Int32) < 0 ∨ 3250 ≤ (5 : Int32).toNatClampNeg)
              · cases (fo_t hc hf)
              have hf := fo_f hc hf
              refine ra_ld X hH 0 (by decide) (by decide) hc dX12_copies_51 ?_
              refine lv_icmp_ge (tgt := 148) hx hb dX12_copies_52 (by decide) (fun hc => ?_) (fun hc => ?_)
              · have hf := fo_t hc hf
                exact hj148 _ _ _ _ hf hH hS (lv_sub hl [1, 2, 3, 4, 5, 6, 7] rfl)
              have hf := fo_f hc hf
              refine lv_aload_n hx hb dX12_copies_55 rfl (lv_at hl 6 rfl) ?_
              refine ro_get (C := RX12) (N := 30) X hH 0 (by decide) rO rfl inBX12 1 (by decide) rfl bw1379 dX12_copies_56 ?_
              refine lv_sipush (v := 2920) hx hb dX12_copies_59 (by decide) ?_
              refine lv_iload hx hb dX12_copies_62 (lv_at hl 0 rfl) ?_
              refine lv_iadd hx hb dX12_copies_64 ?_
              by_cases hc : ((2920 + v44_7) < 0 ∨ 3250 ≤ (2920 + v44_7).toNatClampNeg)
              · cases (fo_t hc hf)
              have hf := fo_f hc hf
              refine ra_ld X hH 0 (by decide) (by decide) hc dX12_copies_65 ?_
              refine lv_iconst (v := 4) hx hb dX12_copies_66 (by decide) ?_
              obtain ⟨j106, ej106, hf⟩ := nm_x hf
              have hj106 : ∀ (z106_0 : Int32) (H : Heap) (locs : List Loc) (ls : Array Slot), (z106_0 = 0 ∨ z106_0 = 1) → j106 z106_0 = some q → rH G w H → va_S (rA G) s.heap H locs → lv_has ls 9 [(7, .int v44_7), (6, .int v44_6), (5, .int v31_5), (4, .int v31_4), (3, .int v18_3), (2, .int v18_2), (0, .ref (G.2.2.1 300)), (1, .int a1)] → W p l e rm_X12_copies s m args below meth c H locs 0 0 Q (F0 m 106 ls [.int z106_0]) := by
                intro z106_0 H locs ls hzz106_0 hf hH hS hl
                have hf := jb1 ej106 hf
                refine lv_istore (lv' := [(8, .int z106_0), (7, .int v44_7), (6, .int v44_6), (5, .int v31_5), (4, .int v31_4), (3, .int v18_3), (2, .int v18_2), (0, .ref (G.2.2.1 300)), (1, .int a1)]) hx hb dX12_copies_106 hl (by decide) rfl (fun ls hl => ?_)
                refine lv_iload hx hb dX12_copies_108 (lv_at hl 2 rfl) ?_
                refine lv_iload hx hb dX12_copies_110 (lv_at hl 0 rfl) ?_
                obtain ⟨j139, ej139, hf⟩ := nm_x hf
                have hj139 : ∀ (z139_0 : Int32) (H : Heap) (locs : List Loc) (ls : Array Slot), (z139_0 = 0 ∨ z139_0 = 1) → j139 z139_0 = some q → rH G w H → va_S (rA G) s.heap H locs → lv_has ls 9 [(7, .int v44_7), (5, .int v31_5), (4, .int v31_4), (3, .int v18_3), (2, .int v18_2), (0, .ref (G.2.2.1 300)), (1, .int a1)] → W p l e rm_X12_copies s m args below meth c H locs 0 0 Q (F0 m 139 ls [.int z139_0, .int v44_6]) := by
                  intro z139_0 H locs ls hzz139_0 hf hH hS hl
                  have hf := jb1 ej139 hf
                  refine lv_iadd hx hb dX12_copies_139 ?_
                  refine lv_topi (fun x140 ex140 => ?_)
                  have hf := nm_s hf x140 ex140
                  refine lv_istore (lv' := [(6, .int x140), (7, .int v44_7), (5, .int v31_5), (4, .int v31_4), (3, .int v18_3), (2, .int v18_2), (0, .ref (G.2.2.1 300)), (1, .int a1)]) hx hb dX12_copies_140 hl (by decide) rfl (fun ls hl => ?_)
                  obtain ⟨x142, ex142⟩ : ∃ z : Int32, z = (v44_7 + 1) := ⟨_, rfl⟩
                  have hf := nm_s hf x142 ex142
                  refine lv_iinc (v := x142) (lv' := [(7, .int x142), (6, .int x140), (5, .int v31_5), (4, .int v31_4), (3, .int v18_3), (2, .int v18_2), (0, .ref (G.2.2.1 300)), (1, .int a1)]) hx hb dX12_copies_142 hl (k := 1) rfl (by rw [ex142]; rfl) (by decide) rfl (fun ls hl => ?_)
                  refine lv_goto (tgt := 44) hx hb dX12_copies_145 (by decide) ?_
                  exact ih44 _ _ _ _ _ hf hH hS (lv_sub hl [0, 1, 2, 3, 4, 5, 6, 7] rfl)
                obtain ⟨j138, ej138, hf⟩ := nm_x hf
                have hj138 : ∀ (u0 : Unit) (H : Heap) (locs : List Loc) (ls : Array Slot), j138 u0 = some q → rH G w H → va_S (rA G) s.heap H locs → lv_has ls 9 [(7, .int v44_7), (5, .int v31_5), (4, .int v31_4), (3, .int v18_3), (2, .int v18_2), (0, .ref (G.2.2.1 300)), (1, .int a1)] → W p l e rm_X12_copies s m args below meth c H locs 0 0 Q (F0 m 138 ls [.int v44_6]) := by
                  intro u0 H locs ls hf hH hS hl
                  have hf := jb1 ej138 hf
                  refine lv_iconst (v := 0) hx hb dX12_copies_138 (by decide) ?_
                  exact hj139 _ _ _ _ zb0 hf hH hS (lv_sub hl [0, 1, 2, 3, 4, 5, 6] rfl)
                refine lv_if_eq (tgt := 138) hx hb dX12_copies_112 (by decide) (fun hc => ?_) (fun hc => ?_)
                · have hf := fo_t hc hf
                  exact hj138 () _ _ _ hf hH hS (lv_sub hl [1, 3, 4, 5, 6, 7, 8] rfl)
                have hf := fo_f hc hf
                refine lv_iload_n hx hb dX12_copies_115 rfl (lv_at hl 8 rfl) ?_
                refine lv_aload_n hx hb dX12_copies_116 rfl (lv_at hl 7 rfl) ?_
                refine ro_get (C := RX12) (N := 30) X hH 0 (by decide) rO rfl inBX12 1 (by decide) rfl bw1379 dX12_copies_117 ?_
                refine lv_sipush (v := 3040) hx hb dX12_copies_120 (by decide) ?_
                refine lv_iload hx hb dX12_copies_123 (lv_at hl 1 rfl) ?_
                refine lv_iadd hx hb dX12_copies_125 ?_
                by_cases hc : ((3040 + v44_7) < 0 ∨ 3250 ≤ (3040 + v44_7).toNatClampNeg)
                · cases (fo_t hc hf)
                have hf := fo_f hc hf
                refine ra_ld X hH 0 (by decide) (by decide) hc dX12_copies_126 ?_
                refine lv_ishr hx hb dX12_copies_127 ?_
                refine lv_iconst (v := 1) hx hb dX12_copies_128 (by decide) ?_
                refine lv_iand hx hb dX12_copies_129 ?_
                refine lv_iconst (v := 1) hx hb dX12_copies_130 (by decide) ?_
                refine lv_icmp_ne (tgt := 138) hx hb dX12_copies_131 (by decide) (fun hc => ?_) (fun hc => ?_)
                · have hf := fo_f hc hf
                  exact hj138 () _ _ _ hf hH hS (lv_sub hl [1, 3, 4, 5, 6, 7, 8] rfl)
                have hf := fo_t hc hf
                refine lv_iconst (v := 1) hx hb dX12_copies_134 (by decide) ?_
                refine lv_goto (tgt := 139) hx hb dX12_copies_135 (by decide) ?_
                exact hj139 _ _ _ _ zb1 hf hH hS (lv_sub hl [1, 3, 4, 5, 6, 7, 8] rfl)
              obtain ⟨j105, ej105, hf⟩ := nm_x hf
              have hj105 : ∀ (u0 : Unit) (H : Heap) (locs : List Loc) (ls : Array Slot), j105 u0 = some q → rH G w H → va_S (rA G) s.heap H locs → lv_has ls 9 [(7, .int v44_7), (6, .int v44_6), (5, .int v31_5), (4, .int v31_4), (3, .int v18_3), (2, .int v18_2), (0, .ref (G.2.2.1 300)), (1, .int a1)] → W p l e rm_X12_copies s m args below meth c H locs 0 0 Q (F0 m 105 ls []) := by
                intro u0 H locs ls hf hH hS hl
                have hf := jb1 ej105 hf
                refine lv_iconst (v := 0) hx hb dX12_copies_105 (by decide) ?_
                exact hj106 _ _ _ _ zb0 hf hH hS (lv_sub hl [0, 1, 2, 3, 4, 5, 6, 7] rfl)
              refine lv_icmp_eq (tgt := 105) hx hb dX12_copies_67 (by decide) (fun hc => ?_) (fun hc => ?_)
              · have hf := fo_t hc hf
                exact hj105 () _ _ _ hf hH hS (lv_sub hl [0, 1, 2, 3, 4, 5, 6, 7] rfl)
              have hf := fo_f hc hf
              refine lv_aload_n hx hb dX12_copies_70 rfl (lv_at hl 6 rfl) ?_
              refine ro_get (C := RX12) (N := 30) X hH 0 (by decide) rO rfl inBX12 1 (by decide) rfl bw1379 dX12_copies_71 ?_
              refine lv_sipush (v := 3000) hx hb dX12_copies_74 (by decide) ?_
              refine lv_iload hx hb dX12_copies_77 (lv_at hl 0 rfl) ?_
              refine lv_iadd hx hb dX12_copies_79 ?_
              by_cases hc : ((3000 + v44_7) < 0 ∨ 3250 ≤ (3000 + v44_7).toNatClampNeg)
              · cases (fo_t hc hf)
              have hf := fo_f hc hf
              refine ra_ld X hH 0 (by decide) (by decide) hc dX12_copies_80 ?_
              refine lv_iload_n hx hb dX12_copies_81 rfl (lv_at hl 4 rfl) ?_
              refine lv_icmp_ne (tgt := 105) hx hb dX12_copies_82 (by decide) (fun hc => ?_) (fun hc => ?_)
              · have hf := fo_f hc hf
                exact hj105 () _ _ _ hf hH hS (lv_sub hl [0, 1, 2, 3, 4, 5, 6, 7] rfl)
              have hf := fo_t hc hf
              refine lv_aload_n hx hb dX12_copies_85 rfl (lv_at hl 6 rfl) ?_
              refine ro_get (C := RX12) (N := 30) X hH 0 (by decide) rO rfl inBX12 1 (by decide) rfl bw1379 dX12_copies_86 ?_
              refine lv_sipush (v := 2960) hx hb dX12_copies_89 (by decide) ?_
              refine lv_iload hx hb dX12_copies_92 (lv_at hl 0 rfl) ?_
              refine lv_iadd hx hb dX12_copies_94 ?_
              by_cases hc : ((2960 + v44_7) < 0 ∨ 3250 ≤ (2960 + v44_7).toNatClampNeg)
              · cases (fo_t hc hf)
              have hf := fo_f hc hf
              refine ra_ld X hH 0 (by decide) (by decide) hc dX12_copies_95 ?_
              refine lv_iload hx hb dX12_copies_96 (lv_at hl 2 rfl) ?_
              refine lv_icmp_ne (tgt := 105) hx hb dX12_copies_98 (by decide) (fun hc => ?_) (fun hc => ?_)
              · have hf := fo_f hc hf
                exact hj105 () _ _ _ hf hH hS (lv_sub hl [0, 1, 2, 3, 4, 5, 6, 7] rfl)
              have hf := fo_t hc hf
              refine lv_iconst (v := 1) hx hb dX12_copies_101 (by decide) ?_
              refine lv_goto (tgt := 106) hx hb dX12_copies_102 (by decide) ?_
              exact hj106 _ _ _ _ zb1 hf hH hS (lv_sub hl [0, 1, 2, 3, 4, 5, 6, 7] rfl)
          exact hL44 _ _ _ _ _ _ hf hH hS (lv_sub hl [0, 1, 2, 3, 4, 5, 6, 7] rfl)
      exact hL31 _ _ _ _ _ _ hf hH hS (lv_sub hl [0, 1, 2, 3, 4, 5] rfl)
  exact hL18 _ _ _ _ _ _ hf hH hS (lv_sub hl [0, 1, 2, 3] rfl)
def f_X12_state_L15 (w : CW) (a1 : Int32) (j49 : Unit → Option (Int32 × CW)) : Nat → Int32 → Option (Int32 × CW)
  | 0, _ => none
  | n15 + 1, v15_2 => (if ((6 : Int32) < 0 ∨ 3250 ≤ (6 : Int32).toNatClampNeg) then none else (if (w.1 0 (6 : Int32).toNatClampNeg) ≤ v15_2 then (j49 ()) else (if ((3080 + v15_2) < 0 ∨ 3250 ≤ (3080 + v15_2).toNatClampNeg) then none else (if (w.1 0 (3080 + v15_2).toNatClampNeg) = a1 then (some ((-3), w)) else (nmk (v15_2 + 1) fun (x43 : Int32) => (f_X12_state_L15 w a1 j49 n15 x43))))))
def f_X12_state (w : CW) (a1 : Int32) : Option (Int32 × CW) := (if (f_X12_in a1 0 65535) = 0 then (some ((-2), w)) else (nmk (fun (_ : Unit) => (if ((6 : Int32) < 0 ∨ 3250 ≤ (6 : Int32).toNatClampNeg) then none else (if (w.1 0 (6 : Int32).toNatClampNeg) = 7 then (some ((-4), w)) else (if ((6 : Int32) < 0 ∨ 3250 ≤ (6 : Int32).toNatClampNeg) then none else (if ((3080 + (w.1 0 (6 : Int32).toNatClampNeg)) < 0 ∨ 3250 ≤ (3080 + (w.1 0 (6 : Int32).toNatClampNeg)).toNatClampNeg) then none else (nmk (sC w 0 (3080 + (w.1 0 (6 : Int32).toNatClampNeg)).toNatClampNeg a1) fun w80 => (if ((6 : Int32) < 0 ∨ 3250 ≤ (6 : Int32).toNatClampNeg) then none else (if ((6 : Int32) < 0 ∨ 3250 ≤ (6 : Int32).toNatClampNeg) then none else (nmk (sC w80 0 (6 : Int32).toNatClampNeg ((w80.1 0 (6 : Int32).toNatClampNeg) + 1)) fun w91 => (if ((6 : Int32) < 0 ∨ 3250 ≤ (6 : Int32).toNatClampNeg) then none else (some (((w91.1 0 (6 : Int32).toNatClampNeg) - 1), w91)))))))))))) fun j49 => (f_X12_state_L15 w a1 j49 FU 0)))
abbrev rm_X12_state : Room := { frames := 2, cells := 0, slots := 0, locals := 22 }
theorem cn_X12_state : CN yX12_state 1 := ⟨by decide +kernel, by decide +kernel, by decide +kernel⟩
set_option maxHeartbeats 4000000 in
set_option maxRecDepth 100000 in
theorem c_X12_state (l : Launch) (G : GX) (w : CW) (a1 : Int32) (q : Int32 × CW) (hf : f_X12_state w a1 = some q) : MI l G yX12_state cX12_state 3 (some .int) rm_X12_state [.ref (G.2.2.1 300), .int a1] (rA G) (rH G w) (rH G q.2) q.1 := by
  refine cM_start (by decide +kernel) (Nat.le_of_ble_eq_true rfl) ?_
  intro p e s m below meth c ls X hH hl
  have hS : va_S (rA G) s.heap s.heap [] := va_S.rf
  have hx := X.1.1
  have hb := X.1.2.1
  generalize hargs : ([.ref (G.2.2.1 300), .int a1] : List Value).toArray = args at X ⊢
  generalize hQ : MQ below (QI (rA G) (rH G q.2) q.1) args s 0 0 (rA G) = Q
  have hl : lv_has ls 3 [(0, .ref (G.2.2.1 300)), (1, .int a1)] := hl
  unfold f_X12_state at hf
  refine lv_iload_n hx hb dX12_state_0 rfl (lv_at hl 1 rfl) ?_
  refine lv_iconst (v := 0) hx hb dX12_state_1 (by decide) ?_
  refine lv_ldc (v := 65535) hx hb X.1.2.2.2.1 (X.w bw1710) dX12_state_2 ?_
  refine cGi (cSrun (rest := []) X (c_X12_in l G (rH G w) (rA G) rA_g a1 0 65535 _ rfl) bw1477 bw1478 bw105 bw1479 cn_X12_in ⟨rfl, rfl, Nat.le_of_ble_eq_true rfl, Nat.le_of_ble_eq_true rfl⟩ rA_g hH hS hl rfl (Nat.le_of_ble_eq_true rfl) dX12_state_4) hS (fun H locs hH hS => ?_)
  refine lv_if_ne (tgt := 13) hx hb dX12_state_7 (by decide) (fun hc => ?_) (fun hc => ?_)
  rotate_left
  · have hf := fo_t hc hf
    refine lv_bipush (v := (-2)) hx hb dX12_state_10 (by decide) ?_
    subst hQ
    exact cEi X (rH2 (so_s hf) hH) hS (pf1 (so_s hf)) dX12_state_12
  have hf := fo_f hc hf
  refine lv_iconst (v := 0) hx hb dX12_state_13 (by decide) ?_
  refine lv_istore_n (lv' := [(2, .int 0), (0, .ref (G.2.2.1 300)), (1, .int a1)]) hx hb dX12_state_14 rfl hl (by decide) rfl (fun ls hl => ?_)
  obtain ⟨j49, ej49, hf⟩ := nm_x hf
  have hj49 : ∀ (u0 : Unit) (H : Heap) (locs : List Loc) (ls : Array Slot), j49 u0 = some q → rH G w H → va_S (rA G) s.heap H locs → lv_has ls 3 [(0, .ref (G.2.2.1 300)), (1, .int a1)] → W p l e rm_X12_state s m args below meth c H locs 0 0 Q (F0 m 49 ls []) := by
    intro u0 H locs ls hf hH hS hl
    have hf := jb1 ej49 hf
    refine lv_aload_n hx hb dX12_state_49 rfl (lv_at hl 0 rfl) ?_
    refine ro_get (C := RX12) (N := 30) X hH 0 (by decide) rO rfl inBX12 1 (by decide) rfl bw1379 dX12_state_50 ?_
    refine lv_bipush (v := 6) hx hb dX12_state_53 (by decide) ?_
    by_cases hc : ((6 : Int32) < 0 ∨ 3250 ≤ (6 : Int32).toNatClampNeg)
    · cases (fo_t hc hf)
    have hf := fo_f hc hf
    refine ra_ld X hH 0 (by decide) (by decide) hc dX12_state_55 ?_
    refine lv_bipush (v := 7) hx hb dX12_state_56 (by decide) ?_
    refine lv_icmp_ne (tgt := 64) hx hb dX12_state_58 (by decide) (fun hc => ?_) (fun hc => ?_)
    rotate_left
    · have hf := fo_t hc hf
      refine lv_bipush (v := (-4)) hx hb dX12_state_61 (by decide) ?_
      subst hQ
      exact cEi X (rH2 (so_s hf) hH) hS (pf1 (so_s hf)) dX12_state_63
    have hf := fo_f hc hf
    refine lv_aload_n hx hb dX12_state_64 rfl (lv_at hl 0 rfl) ?_
    refine ro_get (C := RX12) (N := 30) X hH 0 (by decide) rO rfl inBX12 1 (by decide) rfl bw1379 dX12_state_65 ?_
    refine lv_sipush (v := 3080) hx hb dX12_state_68 (by decide) ?_
    refine lv_aload_n hx hb dX12_state_71 rfl (lv_at hl 0 rfl) ?_
    refine ro_get (C := RX12) (N := 30) X hH 0 (by decide) rO rfl inBX12 1 (by decide) rfl bw1379 dX12_state_72 ?_
    refine lv_bipush (v := 6) hx hb dX12_state_75 (by decide) ?_
    by_cases hc : ((6 : Int32) < 0 ∨ 3250 ≤ (6 : Int32).toNatClampNeg)
    · cases (fo_t hc hf)
    have hf := fo_f hc hf
    refine ra_ld X hH 0 (by decide) (by decide) hc dX12_state_77 ?_
    refine lv_iadd hx hb dX12_state_78 ?_
    refine lv_iload_n hx hb dX12_state_79 rfl (lv_at hl 1 rfl) ?_
    by_cases hc : ((3080 + (w.1 0 (6 : Int32).toNatClampNeg)) < 0 ∨ 3250 ≤ (3080 + (w.1 0 (6 : Int32).toNatClampNeg)).toNatClampNeg)
    · cases (fo_t hc hf)
    have hf := fo_f hc hf
    refine ra_st X hH hS 0 (by decide) (by decide) hc dX12_state_80 (fun H locs hH hS => ?_)
    obtain ⟨w80, ew80⟩ : ∃ z : CW, z = (sC w 0 (3080 + (w.1 0 (6 : Int32).toNatClampNeg)).toNatClampNeg a1) := ⟨_, rfl⟩
    have hf := nm_s hf w80 ew80
    have hH : rH G w80 H := ew80 ▸ hH
    refine lv_aload_n hx hb dX12_state_81 rfl (lv_at hl 0 rfl) ?_
    refine ro_get (C := RX12) (N := 30) X hH 0 (by decide) rO rfl inBX12 1 (by decide) rfl bw1379 dX12_state_82 ?_
    refine lv_bipush (v := 6) hx hb dX12_state_85 (by decide) ?_
    refine lv_dup2_11 hx hb dX12_state_87 rfl rfl ?_
    by_cases hc : ((6 : Int32) < 0 ∨ 3250 ≤ (6 : Int32).toNatClampNeg)
    · cases (fo_t hc hf)
    have hf := fo_f hc hf
    refine ra_ld X hH 0 (by decide) (by decide) hc dX12_state_88 ?_
    refine lv_iconst (v := 1) hx hb dX12_state_89 (by decide) ?_
    refine lv_iadd hx hb dX12_state_90 ?_
    by_cases hc : ((6 : Int32) < 0 ∨ 3250 ≤ (6 : Int32).toNatClampNeg)
    · cases (fo_t hc hf)
    have hf := fo_f hc hf
    refine ra_st X hH hS 0 (by decide) (by decide) hc dX12_state_91 (fun H locs hH hS => ?_)
    obtain ⟨w91, ew91⟩ : ∃ z : CW, z = (sC w80 0 (6 : Int32).toNatClampNeg ((w80.1 0 (6 : Int32).toNatClampNeg) + 1)) := ⟨_, rfl⟩
    have hf := nm_s hf w91 ew91
    have hH : rH G w91 H := ew91 ▸ hH
    refine lv_aload_n hx hb dX12_state_92 rfl (lv_at hl 0 rfl) ?_
    refine ro_get (C := RX12) (N := 30) X hH 0 (by decide) rO rfl inBX12 1 (by decide) rfl bw1379 dX12_state_93 ?_
    refine lv_bipush (v := 6) hx hb dX12_state_96 (by decide) ?_
    by_cases hc : ((6 : Int32) < 0 ∨ 3250 ≤ (6 : Int32).toNatClampNeg)
    · cases (fo_t hc hf)
    have hf := fo_f hc hf
    refine ra_ld X hH 0 (by decide) (by decide) hc dX12_state_98 ?_
    refine lv_iconst (v := 1) hx hb dX12_state_99 (by decide) ?_
    refine lv_isub hx hb dX12_state_100 ?_
    subst hQ
    exact cEi X (rH2 (so_s hf) hH) hS (pf1 (so_s hf)) dX12_state_101
  have hL15 : ∀ (n15 : Nat) (v15_2 : Int32) (H : Heap) (locs : List Loc) (ls : Array Slot), f_X12_state_L15 w a1 j49 n15 v15_2 = some q → rH G w H → va_S (rA G) s.heap H locs → lv_has ls 3 [(2, .int v15_2), (0, .ref (G.2.2.1 300)), (1, .int a1)] → W p l e rm_X12_state s m args below meth c H locs 0 0 Q (F0 m 15 ls []) := by
    intro n15
    induction n15 with
    | zero => intro v15_2 H locs ls hf; rw [f_X12_state_L15] at hf; cases hf
    | succ n15 ih15 =>
      intro v15_2 H locs ls hf hH hS hl
      rw [f_X12_state_L15] at hf
      refine lv_iload_n hx hb dX12_state_15 rfl (lv_at hl 0 rfl) ?_
      refine lv_aload_n hx hb dX12_state_16 rfl (lv_at hl 1 rfl) ?_
      refine ro_get (C := RX12) (N := 30) X hH 0 (by decide) rO rfl inBX12 1 (by decide) rfl bw1379 dX12_state_17 ?_
      refine lv_bipush (v := 6) hx hb dX12_state_20 (by decide) ?_
      by_cases hc : ((6 : Int32) < 0 ∨ 3250 ≤ (6 : Int32).toNatClampNeg)
      · cases (fo_t hc hf)
      have hf := fo_f hc hf
      refine ra_ld X hH 0 (by decide) (by decide) hc dX12_state_22 ?_
      refine lv_icmp_ge (tgt := 49) hx hb dX12_state_23 (by decide) (fun hc => ?_) (fun hc => ?_)
      · have hf := fo_t hc hf
        exact hj49 () _ _ _ hf hH hS (lv_sub hl [1, 2] rfl)
      have hf := fo_f hc hf
      refine lv_aload_n hx hb dX12_state_26 rfl (lv_at hl 1 rfl) ?_
      refine ro_get (C := RX12) (N := 30) X hH 0 (by decide) rO rfl inBX12 1 (by decide) rfl bw1379 dX12_state_27 ?_
      refine lv_sipush (v := 3080) hx hb dX12_state_30 (by decide) ?_
      refine lv_iload_n hx hb dX12_state_33 rfl (lv_at hl 0 rfl) ?_
      refine lv_iadd hx hb dX12_state_34 ?_
      by_cases hc : ((3080 + v15_2) < 0 ∨ 3250 ≤ (3080 + v15_2).toNatClampNeg)
      · cases (fo_t hc hf)
      have hf := fo_f hc hf
      refine ra_ld X hH 0 (by decide) (by decide) hc dX12_state_35 ?_
      refine lv_iload_n hx hb dX12_state_36 rfl (lv_at hl 2 rfl) ?_
      refine lv_icmp_ne (tgt := 43) hx hb dX12_state_37 (by decide) (fun hc => ?_) (fun hc => ?_)
      rotate_left
      · have hf := fo_t hc hf
        refine lv_bipush (v := (-3)) hx hb dX12_state_40 (by decide) ?_
        subst hQ
        exact cEi X (rH2 (so_s hf) hH) hS (pf1 (so_s hf)) dX12_state_42
      have hf := fo_f hc hf
      obtain ⟨x43, ex43⟩ : ∃ z : Int32, z = (v15_2 + 1) := ⟨_, rfl⟩
      have hf := nm_s hf x43 ex43
      refine lv_iinc (v := x43) (lv' := [(2, .int x43), (0, .ref (G.2.2.1 300)), (1, .int a1)]) hx hb dX12_state_43 hl (k := 0) rfl (by rw [ex43]; rfl) (by decide) rfl (fun ls hl => ?_)
      refine lv_goto (tgt := 15) hx hb dX12_state_46 (by decide) ?_
      exact ih15 _ _ _ _ hf hH hS (lv_sub hl [0, 1, 2] rfl)
  exact hL15 _ _ _ _ _ hf hH hS (lv_sub hl [0, 1, 2] rfl)
def f_X12_hand (w : CW) (a1 : Int32) : Option (Int32 × CW) := (if (f_X12_in a1 0 9999) = 0 then (some ((-2), w)) else (if ((7 : Int32) < 0 ∨ 3250 ≤ (7 : Int32).toNatClampNeg) then none else (if (w.1 0 (7 : Int32).toNatClampNeg) = 10 then (some ((-4), w)) else (if ((7 : Int32) < 0 ∨ 3250 ≤ (7 : Int32).toNatClampNeg) then none else (if ((3090 + (w.1 0 (7 : Int32).toNatClampNeg)) < 0 ∨ 3250 ≤ (3090 + (w.1 0 (7 : Int32).toNatClampNeg)).toNatClampNeg) then none else (nmk (sC w 0 (3090 + (w.1 0 (7 : Int32).toNatClampNeg)).toNatClampNeg a1) fun w45 => (if ((7 : Int32) < 0 ∨ 3250 ≤ (7 : Int32).toNatClampNeg) then none else (if ((7 : Int32) < 0 ∨ 3250 ≤ (7 : Int32).toNatClampNeg) then none else (nmk (sC w45 0 (7 : Int32).toNatClampNeg ((w45.1 0 (7 : Int32).toNatClampNeg) + 1)) fun w56 => (if ((7 : Int32) < 0 ∨ 3250 ≤ (7 : Int32).toNatClampNeg) then none else (some (((w56.1 0 (7 : Int32).toNatClampNeg) - 1), w56))))))))))))
abbrev rm_X12_hand : Room := { frames := 2, cells := 0, slots := 0, locals := 22 }
theorem cn_X12_hand : CN yX12_hand 1 := ⟨by decide +kernel, by decide +kernel, by decide +kernel⟩
set_option maxHeartbeats 4000000 in
set_option maxRecDepth 100000 in
theorem c_X12_hand (l : Launch) (G : GX) (w : CW) (a1 : Int32) (q : Int32 × CW) (hf : f_X12_hand w a1 = some q) : MI l G yX12_hand cX12_hand 2 (some .int) rm_X12_hand [.ref (G.2.2.1 300), .int a1] (rA G) (rH G w) (rH G q.2) q.1 := by
  refine cM_start (by decide +kernel) (Nat.le_of_ble_eq_true rfl) ?_
  intro p e s m below meth c ls X hH hl
  have hS : va_S (rA G) s.heap s.heap [] := va_S.rf
  have hx := X.1.1
  have hb := X.1.2.1
  generalize hargs : ([.ref (G.2.2.1 300), .int a1] : List Value).toArray = args at X ⊢
  generalize hQ : MQ below (QI (rA G) (rH G q.2) q.1) args s 0 0 (rA G) = Q
  have hl : lv_has ls 2 [(0, .ref (G.2.2.1 300)), (1, .int a1)] := hl
  unfold f_X12_hand at hf
  refine lv_iload_n hx hb dX12_hand_0 rfl (lv_at hl 1 rfl) ?_
  refine lv_iconst (v := 0) hx hb dX12_hand_1 (by decide) ?_
  refine lv_sipush (v := 9999) hx hb dX12_hand_2 (by decide) ?_
  refine cGi (cSrun (rest := []) X (c_X12_in l G (rH G w) (rA G) rA_g a1 0 9999 _ rfl) bw1477 bw1478 bw105 bw1479 cn_X12_in ⟨rfl, rfl, Nat.le_of_ble_eq_true rfl, Nat.le_of_ble_eq_true rfl⟩ rA_g hH hS hl rfl (Nat.le_of_ble_eq_true rfl) dX12_hand_5) hS (fun H locs hH hS => ?_)
  refine lv_if_ne (tgt := 14) hx hb dX12_hand_8 (by decide) (fun hc => ?_) (fun hc => ?_)
  rotate_left
  · have hf := fo_t hc hf
    refine lv_bipush (v := (-2)) hx hb dX12_hand_11 (by decide) ?_
    subst hQ
    exact cEi X (rH2 (so_s hf) hH) hS (pf1 (so_s hf)) dX12_hand_13
  have hf := fo_f hc hf
  refine lv_aload_n hx hb dX12_hand_14 rfl (lv_at hl 0 rfl) ?_
  refine ro_get (C := RX12) (N := 30) X hH 0 (by decide) rO rfl inBX12 1 (by decide) rfl bw1379 dX12_hand_15 ?_
  refine lv_bipush (v := 7) hx hb dX12_hand_18 (by decide) ?_
  by_cases hc : ((7 : Int32) < 0 ∨ 3250 ≤ (7 : Int32).toNatClampNeg)
  · cases (fo_t hc hf)
  have hf := fo_f hc hf
  refine ra_ld X hH 0 (by decide) (by decide) hc dX12_hand_20 ?_
  refine lv_bipush (v := 10) hx hb dX12_hand_21 (by decide) ?_
  refine lv_icmp_ne (tgt := 29) hx hb dX12_hand_23 (by decide) (fun hc => ?_) (fun hc => ?_)
  rotate_left
  · have hf := fo_t hc hf
    refine lv_bipush (v := (-4)) hx hb dX12_hand_26 (by decide) ?_
    subst hQ
    exact cEi X (rH2 (so_s hf) hH) hS (pf1 (so_s hf)) dX12_hand_28
  have hf := fo_f hc hf
  refine lv_aload_n hx hb dX12_hand_29 rfl (lv_at hl 0 rfl) ?_
  refine ro_get (C := RX12) (N := 30) X hH 0 (by decide) rO rfl inBX12 1 (by decide) rfl bw1379 dX12_hand_30 ?_
  refine lv_sipush (v := 3090) hx hb dX12_hand_33 (by decide) ?_
  refine lv_aload_n hx hb dX12_hand_36 rfl (lv_at hl 0 rfl) ?_
  refine ro_get (C := RX12) (N := 30) X hH 0 (by decide) rO rfl inBX12 1 (by decide) rfl bw1379 dX12_hand_37 ?_
  refine lv_bipush (v := 7) hx hb dX12_hand_40 (by decide) ?_
  by_cases hc : ((7 : Int32) < 0 ∨ 3250 ≤ (7 : Int32).toNatClampNeg)
  · cases (fo_t hc hf)
  have hf := fo_f hc hf
  refine ra_ld X hH 0 (by decide) (by decide) hc dX12_hand_42 ?_
  refine lv_iadd hx hb dX12_hand_43 ?_
  refine lv_iload_n hx hb dX12_hand_44 rfl (lv_at hl 1 rfl) ?_
  by_cases hc : ((3090 + (w.1 0 (7 : Int32).toNatClampNeg)) < 0 ∨ 3250 ≤ (3090 + (w.1 0 (7 : Int32).toNatClampNeg)).toNatClampNeg)
  · cases (fo_t hc hf)
  have hf := fo_f hc hf
  refine ra_st X hH hS 0 (by decide) (by decide) hc dX12_hand_45 (fun H locs hH hS => ?_)
  obtain ⟨w45, ew45⟩ : ∃ z : CW, z = (sC w 0 (3090 + (w.1 0 (7 : Int32).toNatClampNeg)).toNatClampNeg a1) := ⟨_, rfl⟩
  have hf := nm_s hf w45 ew45
  have hH : rH G w45 H := ew45 ▸ hH
  refine lv_aload_n hx hb dX12_hand_46 rfl (lv_at hl 0 rfl) ?_
  refine ro_get (C := RX12) (N := 30) X hH 0 (by decide) rO rfl inBX12 1 (by decide) rfl bw1379 dX12_hand_47 ?_
  refine lv_bipush (v := 7) hx hb dX12_hand_50 (by decide) ?_
  refine lv_dup2_11 hx hb dX12_hand_52 rfl rfl ?_
  by_cases hc : ((7 : Int32) < 0 ∨ 3250 ≤ (7 : Int32).toNatClampNeg)
  · cases (fo_t hc hf)
  have hf := fo_f hc hf
  refine ra_ld X hH 0 (by decide) (by decide) hc dX12_hand_53 ?_
  refine lv_iconst (v := 1) hx hb dX12_hand_54 (by decide) ?_
  refine lv_iadd hx hb dX12_hand_55 ?_
  by_cases hc : ((7 : Int32) < 0 ∨ 3250 ≤ (7 : Int32).toNatClampNeg)
  · cases (fo_t hc hf)
  have hf := fo_f hc hf
  refine ra_st X hH hS 0 (by decide) (by decide) hc dX12_hand_56 (fun H locs hH hS => ?_)
  obtain ⟨w56, ew56⟩ : ∃ z : CW, z = (sC w45 0 (7 : Int32).toNatClampNeg ((w45.1 0 (7 : Int32).toNatClampNeg) + 1)) := ⟨_, rfl⟩
  have hf := nm_s hf w56 ew56
  have hH : rH G w56 H := ew56 ▸ hH
  refine lv_aload_n hx hb dX12_hand_57 rfl (lv_at hl 0 rfl) ?_
  refine ro_get (C := RX12) (N := 30) X hH 0 (by decide) rO rfl inBX12 1 (by decide) rfl bw1379 dX12_hand_58 ?_
  refine lv_bipush (v := 7) hx hb dX12_hand_61 (by decide) ?_
  by_cases hc : ((7 : Int32) < 0 ∨ 3250 ≤ (7 : Int32).toNatClampNeg)
  · cases (fo_t hc hf)
  have hf := fo_f hc hf
  refine ra_ld X hH 0 (by decide) (by decide) hc dX12_hand_63 ?_
  refine lv_iconst (v := 1) hx hb dX12_hand_64 (by decide) ?_
  refine lv_isub hx hb dX12_hand_65 ?_
  subst hQ
  exact cEi X (rH2 (so_s hf) hH) hS (pf1 (so_s hf)) dX12_hand_66
def f_X12_apart_L10  : Nat → Int32 → Int32 → Int32 → Int32 → Option (Int32)
  | 0, _, _, _, _ => none
  | n10 + 1, v10_2, v10_3, v10_4, v10_5 => (if 4 ≤ v10_5 then (some v10_2) else (nmk ((v10_3 - v10_3 / 10 * 10) - (v10_4 - v10_4 / 10 * 10)) fun (x26 : Int32) => (nmk (v10_2 + (if 0 ≤ x26 then x26 else (-x26))) fun (x43 : Int32) => (nmk (v10_3 / 10) fun (x48 : Int32) => (nmk (v10_4 / 10) fun (x54 : Int32) => (nmk (v10_5 + 1) fun (x56 : Int32) => (f_X12_apart_L10 n10 x43 x48 x54 x56)))))))
def f_X12_apart (a0 : Int32) (a1 : Int32) : Option (Int32) := (f_X12_apart_L10 FU 0 a0 a1 0)
abbrev rm_X12_apart : Room := { frames := 1, cells := 0, slots := 0, locals := 0 }
theorem cn_X12_apart : CN yX12_apart 2 := ⟨by decide +kernel, by decide +kernel, by decide +kernel⟩
set_option maxHeartbeats 4000000 in
set_option maxRecDepth 100000 in
theorem c_X12_apart (l : Launch) (G : GX) (P : Heap → Prop) (A : Nat → Prop) (hAG : ∀ q, A q → gA G q) (a0 : Int32) (a1 : Int32) (q : Int32) (hf : f_X12_apart a0 a1 = some q) : MI l G yX12_apart cX12_apart 7 (some .int) rm_X12_apart [.int a0, .int a1] A P P q := by
  refine cM_start (by decide +kernel) (Nat.le_of_ble_eq_true rfl) ?_
  intro p e s m below meth c ls X hH hl
  have hS : va_S A s.heap s.heap [] := va_S.rf
  have hx := X.1.1
  have hb := X.1.2.1
  generalize hargs : ([.int a0, .int a1] : List Value).toArray = args at X ⊢
  generalize hQ : MQ below (QI A P q) args s 0 0 A = Q
  have hl : lv_has ls 7 [(0, .int a0), (1, .int a1)] := hl
  unfold f_X12_apart at hf
  refine lv_iconst (v := 0) hx hb dX12_apart_0 (by decide) ?_
  refine lv_istore_n (lv' := [(2, .int 0), (0, .int a0), (1, .int a1)]) hx hb dX12_apart_1 rfl hl (by decide) rfl (fun ls hl => ?_)
  refine lv_iload_n hx hb dX12_apart_2 rfl (lv_at hl 1 rfl) ?_
  refine lv_istore_n (lv' := [(3, .int a0), (2, .int 0), (0, .int a0), (1, .int a1)]) hx hb dX12_apart_3 rfl hl (by decide) rfl (fun ls hl => ?_)
  refine lv_iload_n hx hb dX12_apart_4 rfl (lv_at hl 3 rfl) ?_
  refine lv_istore (lv' := [(4, .int a1), (3, .int a0), (2, .int 0), (0, .int a0), (1, .int a1)]) hx hb dX12_apart_5 hl (by decide) rfl (fun ls hl => ?_)
  refine lv_iconst (v := 0) hx hb dX12_apart_7 (by decide) ?_
  refine lv_istore (lv' := [(5, .int 0), (4, .int a1), (3, .int a0), (2, .int 0), (0, .int a0), (1, .int a1)]) hx hb dX12_apart_8 hl (by decide) rfl (fun ls hl => ?_)
  have hL10 : ∀ (n10 : Nat) (v10_2 : Int32) (v10_3 : Int32) (v10_4 : Int32) (v10_5 : Int32) (H : Heap) (locs : List Loc) (ls : Array Slot), f_X12_apart_L10 n10 v10_2 v10_3 v10_4 v10_5 = some q → P H → va_S A s.heap H locs → lv_has ls 7 [(5, .int v10_5), (4, .int v10_4), (3, .int v10_3), (2, .int v10_2)] → W p l e rm_X12_apart s m args below meth c H locs 0 0 Q (F0 m 10 ls []) := by
    intro n10
    induction n10 with
    | zero => intro v10_2 v10_3 v10_4 v10_5 H locs ls hf; rw [f_X12_apart_L10] at hf; cases hf
    | succ n10 ih10 =>
      intro v10_2 v10_3 v10_4 v10_5 H locs ls hf hH hS hl
      rw [f_X12_apart_L10] at hf
      refine lv_iload hx hb dX12_apart_10 (lv_at hl 0 rfl) ?_
      refine lv_iconst (v := 4) hx hb dX12_apart_12 (by decide) ?_
      refine lv_icmp_ge (tgt := 62) hx hb dX12_apart_13 (by decide) (fun hc => ?_) (fun hc => ?_)
      · have hf := fo_t hc hf
        refine lv_iload_n hx hb dX12_apart_62 rfl (lv_at hl 3 rfl) ?_
        subst hQ
        exact cEi X hH hS (so_s hf) dX12_apart_63
      have hf := fo_f hc hf
      refine lv_iload_n hx hb dX12_apart_16 rfl (lv_at hl 2 rfl) ?_
      refine lv_bipush (v := 10) hx hb dX12_apart_17 (by decide) ?_
      refine lv_irem hx hb dX12_apart_19 (by decide) ?_
      refine lv_iload hx hb dX12_apart_20 (lv_at hl 1 rfl) ?_
      refine lv_bipush (v := 10) hx hb dX12_apart_22 (by decide) ?_
      refine lv_irem hx hb dX12_apart_24 (by decide) ?_
      refine lv_isub hx hb dX12_apart_25 ?_
      refine lv_topi (fun x26 ex26 => ?_)
      have hf := nm_s hf x26 ex26
      refine lv_istore (lv' := [(6, .int x26), (5, .int v10_5), (4, .int v10_4), (3, .int v10_3), (2, .int v10_2)]) hx hb dX12_apart_26 hl (by decide) rfl (fun ls hl => ?_)
      refine lv_iload_n hx hb dX12_apart_28 rfl (lv_at hl 4 rfl) ?_
      refine lv_iload hx hb dX12_apart_29 (lv_at hl 0 rfl) ?_
      have hJ : ∀ (H : Heap) (locs : List Loc), P H → va_S A s.heap H locs → W p l e rm_X12_apart s m args below meth c H locs 0 0 Q (F0 m 42 ls [.int (if 0 ≤ x26 then x26 else (-x26)), .int v10_2]) := by
        intro H locs hH hS
        refine lv_iadd hx hb dX12_apart_42 ?_
        refine lv_topi (fun x43 ex43 => ?_)
        have hf := nm_s hf x43 ex43
        refine lv_istore_n (lv' := [(2, .int x43), (6, .int x26), (5, .int v10_5), (4, .int v10_4), (3, .int v10_3)]) hx hb dX12_apart_43 rfl hl (by decide) rfl (fun ls hl => ?_)
        refine lv_iload_n hx hb dX12_apart_44 rfl (lv_at hl 4 rfl) ?_
        refine lv_bipush (v := 10) hx hb dX12_apart_45 (by decide) ?_
        refine lv_idiv hx hb dX12_apart_47 (by decide) ?_
        refine lv_topi (fun x48 ex48 => ?_)
        have hf := nm_s hf x48 ex48
        refine lv_istore_n (lv' := [(3, .int x48), (2, .int x43), (6, .int x26), (5, .int v10_5), (4, .int v10_4)]) hx hb dX12_apart_48 rfl hl (by decide) rfl (fun ls hl => ?_)
        refine lv_iload hx hb dX12_apart_49 (lv_at hl 4 rfl) ?_
        refine lv_bipush (v := 10) hx hb dX12_apart_51 (by decide) ?_
        refine lv_idiv hx hb dX12_apart_53 (by decide) ?_
        refine lv_topi (fun x54 ex54 => ?_)
        have hf := nm_s hf x54 ex54
        refine lv_istore (lv' := [(4, .int x54), (3, .int x48), (2, .int x43), (6, .int x26), (5, .int v10_5)]) hx hb dX12_apart_54 hl (by decide) rfl (fun ls hl => ?_)
        obtain ⟨x56, ex56⟩ : ∃ z : Int32, z = (v10_5 + 1) := ⟨_, rfl⟩
        have hf := nm_s hf x56 ex56
        refine lv_iinc (v := x56) (lv' := [(5, .int x56), (4, .int x54), (3, .int x48), (2, .int x43), (6, .int x26)]) hx hb dX12_apart_56 hl (k := 4) rfl (by rw [ex56]; rfl) (by decide) rfl (fun ls hl => ?_)
        refine lv_goto (tgt := 10) hx hb dX12_apart_59 (by decide) ?_
        exact ih10 _ _ _ _ _ _ _ hf hH hS (lv_sub hl [0, 1, 2, 3] rfl)
      refine lv_if_ge (tgt := 40) hx hb dX12_apart_31 (by decide) (fun hc31 => ?_) (fun hc31 => ?_)
      · refine lv_iload hx hb dX12_apart_40 (lv_at hl 0 rfl) ?_
        exact W.eq (by rw [if_pos hc31] <;> rfl) (hJ _ _ hH hS)
      · refine lv_iload hx hb dX12_apart_34 (lv_at hl 0 rfl) ?_
        refine lv_ineg hx hb dX12_apart_36 ?_
        refine lv_goto (tgt := 42) hx hb dX12_apart_37 (by decide) ?_
        exact W.eq (by rw [if_neg hc31] <;> rfl) (hJ _ _ hH hS)
  exact hL10 _ _ _ _ _ _ _ _ hf hH hS (lv_sub hl [0, 1, 2, 3] rfl)
def f_X12_ahead_L32 (w : CW) (a1 : Int32) (a2 : Int32) (j80 : Unit → Option (Int32 × CW)) : Nat → Int32 → Option (Int32 × CW)
  | 0, _ => none
  | n32 + 1, v32_3 => (if ((10 : Int32) < 0 ∨ 3250 ≤ (10 : Int32).toNatClampNeg) then none else (if (w.1 0 (10 : Int32).toNatClampNeg) ≤ v32_3 then (j80 ()) else (if ((3100 + v32_3) < 0 ∨ 3250 ≤ (3100 + v32_3).toNatClampNeg) then none else (nmk (fun (_ : Unit) => (nmk (v32_3 + 1) fun (x74 : Int32) => (f_X12_ahead_L32 w a1 a2 j80 n32 x74))) fun j74 => (if (w.1 0 (3100 + v32_3).toNatClampNeg) = a1 then (if ((3130 + v32_3) < 0 ∨ 3250 ≤ (3130 + v32_3).toNatClampNeg) then none else (if (w.1 0 (3130 + v32_3).toNatClampNeg) = a2 then (some ((-3), w)) else (j74 ()))) else (j74 ()))))))
def f_X12_ahead (w : CW) (a1 : Int32) (a2 : Int32) : Option (Int32 × CW) := (if (f_X12_in a1 0 9) = 0 then (some ((-1), w)) else (if (f_X12_in a2 0 9) = 0 then (some ((-1), w)) else (if a1 = a2 then (some ((-2), w)) else (nmk (fun (_ : Unit) => (if ((10 : Int32) < 0 ∨ 3250 ≤ (10 : Int32).toNatClampNeg) then none else (if (w.1 0 (10 : Int32).toNatClampNeg) = 30 then (some ((-4), w)) else (if ((10 : Int32) < 0 ∨ 3250 ≤ (10 : Int32).toNatClampNeg) then none else (if ((3100 + (w.1 0 (10 : Int32).toNatClampNeg)) < 0 ∨ 3250 ≤ (3100 + (w.1 0 (10 : Int32).toNatClampNeg)).toNatClampNeg) then none else (nmk (sC w 0 (3100 + (w.1 0 (10 : Int32).toNatClampNeg)).toNatClampNeg a1) fun w111 => (if ((10 : Int32) < 0 ∨ 3250 ≤ (10 : Int32).toNatClampNeg) then none else (if ((3130 + (w111.1 0 (10 : Int32).toNatClampNeg)) < 0 ∨ 3250 ≤ (3130 + (w111.1 0 (10 : Int32).toNatClampNeg)).toNatClampNeg) then none else (nmk (sC w111 0 (3130 + (w111.1 0 (10 : Int32).toNatClampNeg)).toNatClampNeg a2) fun w128 => (if ((10 : Int32) < 0 ∨ 3250 ≤ (10 : Int32).toNatClampNeg) then none else (if ((10 : Int32) < 0 ∨ 3250 ≤ (10 : Int32).toNatClampNeg) then none else (nmk (sC w128 0 (10 : Int32).toNatClampNeg ((w128.1 0 (10 : Int32).toNatClampNeg) + 1)) fun w139 => (if ((10 : Int32) < 0 ∨ 3250 ≤ (10 : Int32).toNatClampNeg) then none else (some ((w139.1 0 (10 : Int32).toNatClampNeg), w139))))))))))))))) fun j80 => (f_X12_ahead_L32 w a1 a2 j80 FU 0)))))
abbrev rm_X12_ahead : Room := { frames := 2, cells := 0, slots := 0, locals := 22 }
theorem cn_X12_ahead : CN yX12_ahead 2 := ⟨by decide +kernel, by decide +kernel, by decide +kernel⟩
set_option maxHeartbeats 4000000 in
set_option maxRecDepth 100000 in
theorem c_X12_ahead (l : Launch) (G : GX) (w : CW) (a1 : Int32) (a2 : Int32) (q : Int32 × CW) (hf : f_X12_ahead w a1 a2 = some q) : MI l G yX12_ahead cX12_ahead 4 (some .int) rm_X12_ahead [.ref (G.2.2.1 300), .int a1, .int a2] (rA G) (rH G w) (rH G q.2) q.1 := by
  refine cM_start (by decide +kernel) (Nat.le_of_ble_eq_true rfl) ?_
  intro p e s m below meth c ls X hH hl
  have hS : va_S (rA G) s.heap s.heap [] := va_S.rf
  have hx := X.1.1
  have hb := X.1.2.1
  generalize hargs : ([.ref (G.2.2.1 300), .int a1, .int a2] : List Value).toArray = args at X ⊢
  generalize hQ : MQ below (QI (rA G) (rH G q.2) q.1) args s 0 0 (rA G) = Q
  have hl : lv_has ls 4 [(0, .ref (G.2.2.1 300)), (1, .int a1), (2, .int a2)] := hl
  unfold f_X12_ahead at hf
  refine lv_iload_n hx hb dX12_ahead_0 rfl (lv_at hl 1 rfl) ?_
  refine lv_iconst (v := 0) hx hb dX12_ahead_1 (by decide) ?_
  refine lv_bipush (v := 9) hx hb dX12_ahead_2 (by decide) ?_
  refine cGi (cSrun (rest := []) X (c_X12_in l G (rH G w) (rA G) rA_g a1 0 9 _ rfl) bw1477 bw1478 bw105 bw1479 cn_X12_in ⟨rfl, rfl, Nat.le_of_ble_eq_true rfl, Nat.le_of_ble_eq_true rfl⟩ rA_g hH hS hl rfl (Nat.le_of_ble_eq_true rfl) dX12_ahead_4) hS (fun H locs hH hS => ?_)
  refine lv_if_eq (tgt := 20) hx hb dX12_ahead_7 (by decide) (fun hc => ?_) (fun hc => ?_)
  · have hf := fo_t hc hf
    refine lv_iconst (v := (-1)) hx hb dX12_ahead_20 (by decide) ?_
    subst hQ
    exact cEi X (rH2 (so_s hf) hH) hS (pf1 (so_s hf)) dX12_ahead_21
  have hf := fo_f hc hf
  refine lv_iload_n hx hb dX12_ahead_10 rfl (lv_at hl 2 rfl) ?_
  refine lv_iconst (v := 0) hx hb dX12_ahead_11 (by decide) ?_
  refine lv_bipush (v := 9) hx hb dX12_ahead_12 (by decide) ?_
  refine cGi (cSrun (rest := []) X (c_X12_in l G (rH G w) (rA G) rA_g a2 0 9 _ rfl) bw1477 bw1478 bw105 bw1479 cn_X12_in ⟨rfl, rfl, Nat.le_of_ble_eq_true rfl, Nat.le_of_ble_eq_true rfl⟩ rA_g hH hS hl rfl (Nat.le_of_ble_eq_true rfl) dX12_ahead_14) hS (fun H locs hH hS => ?_)
  refine lv_if_ne (tgt := 22) hx hb dX12_ahead_17 (by decide) (fun hc => ?_) (fun hc => ?_)
  rotate_left
  · have hf := fo_t hc hf
    refine lv_iconst (v := (-1)) hx hb dX12_ahead_20 (by decide) ?_
    subst hQ
    exact cEi X (rH2 (so_s hf) hH) hS (pf1 (so_s hf)) dX12_ahead_21
  have hf := fo_f hc hf
  refine lv_iload_n hx hb dX12_ahead_22 rfl (lv_at hl 1 rfl) ?_
  refine lv_iload_n hx hb dX12_ahead_23 rfl (lv_at hl 2 rfl) ?_
  refine lv_icmp_ne (tgt := 30) hx hb dX12_ahead_24 (by decide) (fun hc => ?_) (fun hc => ?_)
  rotate_left
  · have hf := fo_t hc hf
    refine lv_bipush (v := (-2)) hx hb dX12_ahead_27 (by decide) ?_
    subst hQ
    exact cEi X (rH2 (so_s hf) hH) hS (pf1 (so_s hf)) dX12_ahead_29
  have hf := fo_f hc hf
  refine lv_iconst (v := 0) hx hb dX12_ahead_30 (by decide) ?_
  refine lv_istore_n (lv' := [(3, .int 0), (0, .ref (G.2.2.1 300)), (1, .int a1), (2, .int a2)]) hx hb dX12_ahead_31 rfl hl (by decide) rfl (fun ls hl => ?_)
  obtain ⟨j80, ej80, hf⟩ := nm_x hf
  have hj80 : ∀ (u0 : Unit) (H : Heap) (locs : List Loc) (ls : Array Slot), j80 u0 = some q → rH G w H → va_S (rA G) s.heap H locs → lv_has ls 4 [(0, .ref (G.2.2.1 300)), (1, .int a1), (2, .int a2)] → W p l e rm_X12_ahead s m args below meth c H locs 0 0 Q (F0 m 80 ls []) := by
    intro u0 H locs ls hf hH hS hl
    have hf := jb1 ej80 hf
    refine lv_aload_n hx hb dX12_ahead_80 rfl (lv_at hl 0 rfl) ?_
    refine ro_get (C := RX12) (N := 30) X hH 0 (by decide) rO rfl inBX12 1 (by decide) rfl bw1379 dX12_ahead_81 ?_
    refine lv_bipush (v := 10) hx hb dX12_ahead_84 (by decide) ?_
    by_cases hc : ((10 : Int32) < 0 ∨ 3250 ≤ (10 : Int32).toNatClampNeg)
    · cases (fo_t hc hf)
    have hf := fo_f hc hf
    refine ra_ld X hH 0 (by decide) (by decide) hc dX12_ahead_86 ?_
    refine lv_bipush (v := 30) hx hb dX12_ahead_87 (by decide) ?_
    refine lv_icmp_ne (tgt := 95) hx hb dX12_ahead_89 (by decide) (fun hc => ?_) (fun hc => ?_)
    rotate_left
    · have hf := fo_t hc hf
      refine lv_bipush (v := (-4)) hx hb dX12_ahead_92 (by decide) ?_
      subst hQ
      exact cEi X (rH2 (so_s hf) hH) hS (pf1 (so_s hf)) dX12_ahead_94
    have hf := fo_f hc hf
    refine lv_aload_n hx hb dX12_ahead_95 rfl (lv_at hl 0 rfl) ?_
    refine ro_get (C := RX12) (N := 30) X hH 0 (by decide) rO rfl inBX12 1 (by decide) rfl bw1379 dX12_ahead_96 ?_
    refine lv_sipush (v := 3100) hx hb dX12_ahead_99 (by decide) ?_
    refine lv_aload_n hx hb dX12_ahead_102 rfl (lv_at hl 0 rfl) ?_
    refine ro_get (C := RX12) (N := 30) X hH 0 (by decide) rO rfl inBX12 1 (by decide) rfl bw1379 dX12_ahead_103 ?_
    refine lv_bipush (v := 10) hx hb dX12_ahead_106 (by decide) ?_
    by_cases hc : ((10 : Int32) < 0 ∨ 3250 ≤ (10 : Int32).toNatClampNeg)
    · cases (fo_t hc hf)
    have hf := fo_f hc hf
    refine ra_ld X hH 0 (by decide) (by decide) hc dX12_ahead_108 ?_
    refine lv_iadd hx hb dX12_ahead_109 ?_
    refine lv_iload_n hx hb dX12_ahead_110 rfl (lv_at hl 1 rfl) ?_
    by_cases hc : ((3100 + (w.1 0 (10 : Int32).toNatClampNeg)) < 0 ∨ 3250 ≤ (3100 + (w.1 0 (10 : Int32).toNatClampNeg)).toNatClampNeg)
    · cases (fo_t hc hf)
    have hf := fo_f hc hf
    refine ra_st X hH hS 0 (by decide) (by decide) hc dX12_ahead_111 (fun H locs hH hS => ?_)
    obtain ⟨w111, ew111⟩ : ∃ z : CW, z = (sC w 0 (3100 + (w.1 0 (10 : Int32).toNatClampNeg)).toNatClampNeg a1) := ⟨_, rfl⟩
    have hf := nm_s hf w111 ew111
    have hH : rH G w111 H := ew111 ▸ hH
    refine lv_aload_n hx hb dX12_ahead_112 rfl (lv_at hl 0 rfl) ?_
    refine ro_get (C := RX12) (N := 30) X hH 0 (by decide) rO rfl inBX12 1 (by decide) rfl bw1379 dX12_ahead_113 ?_
    refine lv_sipush (v := 3130) hx hb dX12_ahead_116 (by decide) ?_
    refine lv_aload_n hx hb dX12_ahead_119 rfl (lv_at hl 0 rfl) ?_
    refine ro_get (C := RX12) (N := 30) X hH 0 (by decide) rO rfl inBX12 1 (by decide) rfl bw1379 dX12_ahead_120 ?_
    refine lv_bipush (v := 10) hx hb dX12_ahead_123 (by decide) ?_
    by_cases hc : ((10 : Int32) < 0 ∨ 3250 ≤ (10 : Int32).toNatClampNeg)
    · cases (fo_t hc hf)
    have hf := fo_f hc hf
    refine ra_ld X hH 0 (by decide) (by decide) hc dX12_ahead_125 ?_
    refine lv_iadd hx hb dX12_ahead_126 ?_
    refine lv_iload_n hx hb dX12_ahead_127 rfl (lv_at hl 2 rfl) ?_
    by_cases hc : ((3130 + (w111.1 0 (10 : Int32).toNatClampNeg)) < 0 ∨ 3250 ≤ (3130 + (w111.1 0 (10 : Int32).toNatClampNeg)).toNatClampNeg)
    · cases (fo_t hc hf)
    have hf := fo_f hc hf
    refine ra_st X hH hS 0 (by decide) (by decide) hc dX12_ahead_128 (fun H locs hH hS => ?_)
    obtain ⟨w128, ew128⟩ : ∃ z : CW, z = (sC w111 0 (3130 + (w111.1 0 (10 : Int32).toNatClampNeg)).toNatClampNeg a2) := ⟨_, rfl⟩
    have hf := nm_s hf w128 ew128
    have hH : rH G w128 H := ew128 ▸ hH
    refine lv_aload_n hx hb dX12_ahead_129 rfl (lv_at hl 0 rfl) ?_
    refine ro_get (C := RX12) (N := 30) X hH 0 (by decide) rO rfl inBX12 1 (by decide) rfl bw1379 dX12_ahead_130 ?_
    refine lv_bipush (v := 10) hx hb dX12_ahead_133 (by decide) ?_
    refine lv_dup2_11 hx hb dX12_ahead_135 rfl rfl ?_
    by_cases hc : ((10 : Int32) < 0 ∨ 3250 ≤ (10 : Int32).toNatClampNeg)
    · cases (fo_t hc hf)
    have hf := fo_f hc hf
    refine ra_ld X hH 0 (by decide) (by decide) hc dX12_ahead_136 ?_
    refine lv_iconst (v := 1) hx hb dX12_ahead_137 (by decide) ?_
    refine lv_iadd hx hb dX12_ahead_138 ?_
    by_cases hc : ((10 : Int32) < 0 ∨ 3250 ≤ (10 : Int32).toNatClampNeg)
    · cases (fo_t hc hf)
    have hf := fo_f hc hf
    refine ra_st X hH hS 0 (by decide) (by decide) hc dX12_ahead_139 (fun H locs hH hS => ?_)
    obtain ⟨w139, ew139⟩ : ∃ z : CW, z = (sC w128 0 (10 : Int32).toNatClampNeg ((w128.1 0 (10 : Int32).toNatClampNeg) + 1)) := ⟨_, rfl⟩
    have hf := nm_s hf w139 ew139
    have hH : rH G w139 H := ew139 ▸ hH
    refine lv_aload_n hx hb dX12_ahead_140 rfl (lv_at hl 0 rfl) ?_
    refine ro_get (C := RX12) (N := 30) X hH 0 (by decide) rO rfl inBX12 1 (by decide) rfl bw1379 dX12_ahead_141 ?_
    refine lv_bipush (v := 10) hx hb dX12_ahead_144 (by decide) ?_
    by_cases hc : ((10 : Int32) < 0 ∨ 3250 ≤ (10 : Int32).toNatClampNeg)
    · cases (fo_t hc hf)
    have hf := fo_f hc hf
    refine ra_ld X hH 0 (by decide) (by decide) hc dX12_ahead_146 ?_
    subst hQ
    exact cEi X (rH2 (so_s hf) hH) hS (pf1 (so_s hf)) dX12_ahead_147
  have hL32 : ∀ (n32 : Nat) (v32_3 : Int32) (H : Heap) (locs : List Loc) (ls : Array Slot), f_X12_ahead_L32 w a1 a2 j80 n32 v32_3 = some q → rH G w H → va_S (rA G) s.heap H locs → lv_has ls 4 [(3, .int v32_3), (0, .ref (G.2.2.1 300)), (1, .int a1), (2, .int a2)] → W p l e rm_X12_ahead s m args below meth c H locs 0 0 Q (F0 m 32 ls []) := by
    intro n32
    induction n32 with
    | zero => intro v32_3 H locs ls hf; rw [f_X12_ahead_L32] at hf; cases hf
    | succ n32 ih32 =>
      intro v32_3 H locs ls hf hH hS hl
      rw [f_X12_ahead_L32] at hf
      refine lv_iload_n hx hb dX12_ahead_32 rfl (lv_at hl 0 rfl) ?_
      refine lv_aload_n hx hb dX12_ahead_33 rfl (lv_at hl 1 rfl) ?_
      refine ro_get (C := RX12) (N := 30) X hH 0 (by decide) rO rfl inBX12 1 (by decide) rfl bw1379 dX12_ahead_34 ?_
      refine lv_bipush (v := 10) hx hb dX12_ahead_37 (by decide) ?_
      by_cases hc : ((10 : Int32) < 0 ∨ 3250 ≤ (10 : Int32).toNatClampNeg)
      · cases (fo_t hc hf)
      have hf := fo_f hc hf
      refine ra_ld X hH 0 (by decide) (by decide) hc dX12_ahead_39 ?_
      refine lv_icmp_ge (tgt := 80) hx hb dX12_ahead_40 (by decide) (fun hc => ?_) (fun hc => ?_)
      · have hf := fo_t hc hf
        exact hj80 () _ _ _ hf hH hS (lv_sub hl [1, 2, 3] rfl)
      have hf := fo_f hc hf
      refine lv_aload_n hx hb dX12_ahead_43 rfl (lv_at hl 1 rfl) ?_
      refine ro_get (C := RX12) (N := 30) X hH 0 (by decide) rO rfl inBX12 1 (by decide) rfl bw1379 dX12_ahead_44 ?_
      refine lv_sipush (v := 3100) hx hb dX12_ahead_47 (by decide) ?_
      refine lv_iload_n hx hb dX12_ahead_50 rfl (lv_at hl 0 rfl) ?_
      refine lv_iadd hx hb dX12_ahead_51 ?_
      by_cases hc : ((3100 + v32_3) < 0 ∨ 3250 ≤ (3100 + v32_3).toNatClampNeg)
      · cases (fo_t hc hf)
      have hf := fo_f hc hf
      refine ra_ld X hH 0 (by decide) (by decide) hc dX12_ahead_52 ?_
      refine lv_iload_n hx hb dX12_ahead_53 rfl (lv_at hl 2 rfl) ?_
      obtain ⟨j74, ej74, hf⟩ := nm_x hf
      have hj74 : ∀ (u0 : Unit) (H : Heap) (locs : List Loc) (ls : Array Slot), j74 u0 = some q → rH G w H → va_S (rA G) s.heap H locs → lv_has ls 4 [(3, .int v32_3), (0, .ref (G.2.2.1 300)), (1, .int a1), (2, .int a2)] → W p l e rm_X12_ahead s m args below meth c H locs 0 0 Q (F0 m 74 ls []) := by
        intro u0 H locs ls hf hH hS hl
        have hf := jb1 ej74 hf
        obtain ⟨x74, ex74⟩ : ∃ z : Int32, z = (v32_3 + 1) := ⟨_, rfl⟩
        have hf := nm_s hf x74 ex74
        refine lv_iinc (v := x74) (lv' := [(3, .int x74), (0, .ref (G.2.2.1 300)), (1, .int a1), (2, .int a2)]) hx hb dX12_ahead_74 hl (k := 0) rfl (by rw [ex74]; rfl) (by decide) rfl (fun ls hl => ?_)
        refine lv_goto (tgt := 32) hx hb dX12_ahead_77 (by decide) ?_
        exact ih32 _ _ _ _ hf hH hS (lv_sub hl [0, 1, 2, 3] rfl)
      refine lv_icmp_ne (tgt := 74) hx hb dX12_ahead_54 (by decide) (fun hc => ?_) (fun hc => ?_)
      · have hf := fo_f hc hf
        exact hj74 () _ _ _ hf hH hS (lv_sub hl [0, 1, 2, 3] rfl)
      have hf := fo_t hc hf
      refine lv_aload_n hx hb dX12_ahead_57 rfl (lv_at hl 1 rfl) ?_
      refine ro_get (C := RX12) (N := 30) X hH 0 (by decide) rO rfl inBX12 1 (by decide) rfl bw1379 dX12_ahead_58 ?_
      refine lv_sipush (v := 3130) hx hb dX12_ahead_61 (by decide) ?_
      refine lv_iload_n hx hb dX12_ahead_64 rfl (lv_at hl 0 rfl) ?_
      refine lv_iadd hx hb dX12_ahead_65 ?_
      by_cases hc : ((3130 + v32_3) < 0 ∨ 3250 ≤ (3130 + v32_3).toNatClampNeg)
      · cases (fo_t hc hf)
      have hf := fo_f hc hf
      refine ra_ld X hH 0 (by decide) (by decide) hc dX12_ahead_66 ?_
      refine lv_iload_n hx hb dX12_ahead_67 rfl (lv_at hl 3 rfl) ?_
      refine lv_icmp_ne (tgt := 74) hx hb dX12_ahead_68 (by decide) (fun hc => ?_) (fun hc => ?_)
      · have hf := fo_f hc hf
        exact hj74 () _ _ _ hf hH hS (lv_sub hl [0, 1, 2, 3] rfl)
      have hf := fo_t hc hf
      refine lv_bipush (v := (-3)) hx hb dX12_ahead_71 (by decide) ?_
      subst hQ
      exact cEi X (rH2 (so_s hf) hH) hS (pf1 (so_s hf)) dX12_ahead_73
  exact hL32 _ _ _ _ _ hf hH hS (lv_sub hl [0, 1, 2, 3] rfl)
def f_X12_mayCome_L18 (w : CW) (a1 : Int32) (a2 : Int32) (a3 : Int32) : Nat → Int32 → Int32 → Option (Int32)
  | 0, _, _ => none
  | n18 + 1, v18_4, v18_5 => (if ((10 : Int32) < 0 ∨ 3250 ≤ (10 : Int32).toNatClampNeg) then none else (if (w.1 0 (10 : Int32).toNatClampNeg) ≤ v18_5 then (if (v18_4 = 0 ∨ v18_4 = 1) then some v18_4 else none) else (if ((3130 + v18_5) < 0 ∨ 3250 ≤ (3130 + v18_5).toNatClampNeg) then none else (nmk (fun (z65_0 : Int32) => (nmk (fun (z100_0 : Int32) => (nmk (v18_5 + 1) fun (x102 : Int32) => (f_X12_mayCome_L18 w a1 a2 a3 n18 z100_0 x102))) fun j100 => (nmk (fun (_ : Unit) => (j100 0)) fun j99 => (if v18_4 = 0 then (j99 ()) else (nmk (fun (_ : Unit) => (j100 1)) fun j95 => (if z65_0 = 0 then (j95 ()) else (if ((3100 + v18_5) < 0 ∨ 3250 ≤ (3100 + v18_5).toNatClampNeg) then none else (if ((a2 >>> ((w.1 0 (3100 + v18_5).toNatClampNeg) &&& 31)) &&& 1) = 0 then (j99 ()) else (j95 ()))))))))) fun j65 => (nmk (fun (_ : Unit) => (j65 0)) fun j64 => (if (w.1 0 (3130 + v18_5).toNatClampNeg) = a1 then (if ((3100 + v18_5) < 0 ∨ 3250 ≤ (3100 + v18_5).toNatClampNeg) then none else (if a3 ≤ (w.1 0 (3100 + v18_5).toNatClampNeg) then (j64 ()) else (j65 1))) else (j64 ())))))))
def f_X12_mayCome (w : CW) (a1 : Int32) (a2 : Int32) (a3 : Int32) : Option (Int32) := (nmk (if ((a2 >>> (a1 &&& 31)) &&& 1) = 0 then 1 else 0) fun (x13 : Int32) => (f_X12_mayCome_L18 w a1 a2 a3 FU x13 0))
abbrev rm_X12_mayCome : Room := { frames := 1, cells := 0, slots := 0, locals := 0 }
theorem cn_X12_mayCome : CN yX12_mayCome 3 := ⟨by decide +kernel, by decide +kernel, by decide +kernel⟩
set_option maxHeartbeats 4000000 in
set_option maxRecDepth 100000 in
theorem c_X12_mayCome (l : Launch) (G : GX) (w : CW) (a1 : Int32) (a2 : Int32) (a3 : Int32) (q : Int32) (hf : f_X12_mayCome w a1 a2 a3 = some q) : MZ l G yX12_mayCome cX12_mayCome 7 (some .boolean) rm_X12_mayCome [.ref (G.2.2.1 300), .int a1, .int a2, .int a3] (rA G) (rH G w) (rH G w) q := by
  refine cM_start (by decide +kernel) (Nat.le_of_ble_eq_true rfl) ?_
  intro p e s m below meth c ls X hH hl
  have hS : va_S (rA G) s.heap s.heap [] := va_S.rf
  have hx := X.1.1
  have hb := X.1.2.1
  generalize hargs : ([.ref (G.2.2.1 300), .int a1, .int a2, .int a3] : List Value).toArray = args at X ⊢
  generalize hQ : MQ below (QZ (rA G) (rH G w) q) args s 0 0 (rA G) = Q
  have hl : lv_has ls 7 [(0, .ref (G.2.2.1 300)), (1, .int a1), (2, .int a2), (3, .int a3)] := hl
  unfold f_X12_mayCome at hf
  refine lv_iload_n hx hb dX12_mayCome_0 rfl (lv_at hl 2 rfl) ?_
  refine lv_iload_n hx hb dX12_mayCome_1 rfl (lv_at hl 1 rfl) ?_
  refine lv_ishr hx hb dX12_mayCome_2 ?_
  refine lv_iconst (v := 1) hx hb dX12_mayCome_3 (by decide) ?_
  refine lv_iand hx hb dX12_mayCome_4 ?_
  have hJ : ∀ (H : Heap) (locs : List Loc), rH G w H → va_S (rA G) s.heap H locs → W p l e rm_X12_mayCome s m args below meth c H locs 0 0 Q (F0 m 13 ls [.int (if ((a2 >>> (a1 &&& 31)) &&& 1) = 0 then 1 else 0)]) := by
    intro H locs hH hS
    refine lv_topi (fun x13 ex13 => ?_)
    have hf := nm_s hf x13 ex13
    refine lv_istore (lv' := [(4, .int x13), (0, .ref (G.2.2.1 300)), (1, .int a1), (2, .int a2), (3, .int a3)]) hx hb dX12_mayCome_13 hl (by decide) rfl (fun ls hl => ?_)
    refine lv_iconst (v := 0) hx hb dX12_mayCome_15 (by decide) ?_
    refine lv_istore (lv' := [(5, .int 0), (4, .int x13), (0, .ref (G.2.2.1 300)), (1, .int a1), (2, .int a2), (3, .int a3)]) hx hb dX12_mayCome_16 hl (by decide) rfl (fun ls hl => ?_)
    have hL18 : ∀ (n18 : Nat) (v18_4 : Int32) (v18_5 : Int32) (H : Heap) (locs : List Loc) (ls : Array Slot), f_X12_mayCome_L18 w a1 a2 a3 n18 v18_4 v18_5 = some q → rH G w H → va_S (rA G) s.heap H locs → lv_has ls 7 [(5, .int v18_5), (4, .int v18_4), (0, .ref (G.2.2.1 300)), (1, .int a1), (2, .int a2), (3, .int a3)] → W p l e rm_X12_mayCome s m args below meth c H locs 0 0 Q (F0 m 18 ls []) := by
      intro n18
      induction n18 with
      | zero => intro v18_4 v18_5 H locs ls hf; rw [f_X12_mayCome_L18] at hf; cases hf
      | succ n18 ih18 =>
        intro v18_4 v18_5 H locs ls hf hH hS hl
        rw [f_X12_mayCome_L18] at hf
        refine lv_iload hx hb dX12_mayCome_18 (lv_at hl 0 rfl) ?_
        refine lv_aload_n hx hb dX12_mayCome_20 rfl (lv_at hl 2 rfl) ?_
        refine ro_get (C := RX12) (N := 30) X hH 0 (by decide) rO rfl inBX12 1 (by decide) rfl bw1379 dX12_mayCome_21 ?_
        refine lv_bipush (v := 10) hx hb dX12_mayCome_24 (by decide) ?_
        by_cases hc : ((10 : Int32) < 0 ∨ 3250 ≤ (10 : Int32).toNatClampNeg)
        · cases (fo_t hc hf)
        have hf := fo_f hc hf
        refine ra_ld X hH 0 (by decide) (by decide) hc dX12_mayCome_26 ?_
        refine lv_icmp_ge (tgt := 108) hx hb dX12_mayCome_27 (by decide) (fun hc => ?_) (fun hc => ?_)
        · have hf := fo_t hc hf
          refine lv_iload hx hb dX12_mayCome_108 (lv_at hl 1 rfl) ?_
          by_cases hz : (v18_4 = 0 ∨ v18_4 = 1)
          rotate_left
          · cases (fo_f hz hf)
          have hf := fo_t hz hf
          subst hQ
          exact cEzz X hH hS (so_s hf) hz dX12_mayCome_110
        have hf := fo_f hc hf
        refine lv_aload_n hx hb dX12_mayCome_30 rfl (lv_at hl 2 rfl) ?_
        refine ro_get (C := RX12) (N := 30) X hH 0 (by decide) rO rfl inBX12 1 (by decide) rfl bw1379 dX12_mayCome_31 ?_
        refine lv_sipush (v := 3130) hx hb dX12_mayCome_34 (by decide) ?_
        refine lv_iload hx hb dX12_mayCome_37 (lv_at hl 0 rfl) ?_
        refine lv_iadd hx hb dX12_mayCome_39 ?_
        by_cases hc : ((3130 + v18_5) < 0 ∨ 3250 ≤ (3130 + v18_5).toNatClampNeg)
        · cases (fo_t hc hf)
        have hf := fo_f hc hf
        refine ra_ld X hH 0 (by decide) (by decide) hc dX12_mayCome_40 ?_
        refine lv_iload_n hx hb dX12_mayCome_41 rfl (lv_at hl 3 rfl) ?_
        obtain ⟨j65, ej65, hf⟩ := nm_x hf
        have hj65 : ∀ (z65_0 : Int32) (H : Heap) (locs : List Loc) (ls : Array Slot), (z65_0 = 0 ∨ z65_0 = 1) → j65 z65_0 = some q → rH G w H → va_S (rA G) s.heap H locs → lv_has ls 7 [(5, .int v18_5), (4, .int v18_4), (0, .ref (G.2.2.1 300)), (1, .int a1), (2, .int a2), (3, .int a3)] → W p l e rm_X12_mayCome s m args below meth c H locs 0 0 Q (F0 m 65 ls [.int z65_0]) := by
          intro z65_0 H locs ls hzz65_0 hf hH hS hl
          have hf := jb1 ej65 hf
          refine lv_istore (lv' := [(6, .int z65_0), (5, .int v18_5), (4, .int v18_4), (0, .ref (G.2.2.1 300)), (1, .int a1), (2, .int a2), (3, .int a3)]) hx hb dX12_mayCome_65 hl (by decide) rfl (fun ls hl => ?_)
          refine lv_iload hx hb dX12_mayCome_67 (lv_at hl 2 rfl) ?_
          obtain ⟨j100, ej100, hf⟩ := nm_x hf
          have hj100 : ∀ (z100_0 : Int32) (H : Heap) (locs : List Loc) (ls : Array Slot), (z100_0 = 0 ∨ z100_0 = 1) → j100 z100_0 = some q → rH G w H → va_S (rA G) s.heap H locs → lv_has ls 7 [(5, .int v18_5), (0, .ref (G.2.2.1 300)), (1, .int a1), (2, .int a2), (3, .int a3)] → W p l e rm_X12_mayCome s m args below meth c H locs 0 0 Q (F0 m 100 ls [.int z100_0]) := by
            intro z100_0 H locs ls hzz100_0 hf hH hS hl
            have hf := jb1 ej100 hf
            refine lv_istore (lv' := [(4, .int z100_0), (5, .int v18_5), (0, .ref (G.2.2.1 300)), (1, .int a1), (2, .int a2), (3, .int a3)]) hx hb dX12_mayCome_100 hl (by decide) rfl (fun ls hl => ?_)
            obtain ⟨x102, ex102⟩ : ∃ z : Int32, z = (v18_5 + 1) := ⟨_, rfl⟩
            have hf := nm_s hf x102 ex102
            refine lv_iinc (v := x102) (lv' := [(5, .int x102), (4, .int z100_0), (0, .ref (G.2.2.1 300)), (1, .int a1), (2, .int a2), (3, .int a3)]) hx hb dX12_mayCome_102 hl (k := 1) rfl (by rw [ex102]; rfl) (by decide) rfl (fun ls hl => ?_)
            refine lv_goto (tgt := 18) hx hb dX12_mayCome_105 (by decide) ?_
            exact ih18 _ _ _ _ _ hf hH hS (lv_sub hl [0, 1, 2, 3, 4, 5] rfl)
          obtain ⟨j99, ej99, hf⟩ := nm_x hf
          have hj99 : ∀ (u0 : Unit) (H : Heap) (locs : List Loc) (ls : Array Slot), j99 u0 = some q → rH G w H → va_S (rA G) s.heap H locs → lv_has ls 7 [(5, .int v18_5), (0, .ref (G.2.2.1 300)), (1, .int a1), (2, .int a2), (3, .int a3)] → W p l e rm_X12_mayCome s m args below meth c H locs 0 0 Q (F0 m 99 ls []) := by
            intro u0 H locs ls hf hH hS hl
            have hf := jb1 ej99 hf
            refine lv_iconst (v := 0) hx hb dX12_mayCome_99 (by decide) ?_
            exact hj100 _ _ _ _ zb0 hf hH hS (lv_sub hl [0, 1, 2, 3, 4] rfl)
          refine lv_if_eq (tgt := 99) hx hb dX12_mayCome_69 (by decide) (fun hc => ?_) (fun hc => ?_)
          · have hf := fo_t hc hf
            exact hj99 () _ _ _ hf hH hS (lv_sub hl [1, 3, 4, 5, 6] rfl)
          have hf := fo_f hc hf
          refine lv_iload hx hb dX12_mayCome_72 (lv_at hl 0 rfl) ?_
          obtain ⟨j95, ej95, hf⟩ := nm_x hf
          have hj95 : ∀ (u0 : Unit) (H : Heap) (locs : List Loc) (ls : Array Slot), j95 u0 = some q → rH G w H → va_S (rA G) s.heap H locs → lv_has ls 7 [(5, .int v18_5), (0, .ref (G.2.2.1 300)), (1, .int a1), (2, .int a2), (3, .int a3)] → W p l e rm_X12_mayCome s m args below meth c H locs 0 0 Q (F0 m 95 ls []) := by
            intro u0 H locs ls hf hH hS hl
            have hf := jb1 ej95 hf
            refine lv_iconst (v := 1) hx hb dX12_mayCome_95 (by decide) ?_
            refine lv_goto (tgt := 100) hx hb dX12_mayCome_96 (by decide) ?_
            exact hj100 _ _ _ _ zb1 hf hH hS (lv_sub hl [0, 1, 2, 3, 4] rfl)
          refine lv_if_eq (tgt := 95) hx hb dX12_mayCome_74 (by decide) (fun hc => ?_) (fun hc => ?_)
          · have hf := fo_t hc hf
            exact hj95 () _ _ _ hf hH hS (lv_sub hl [1, 3, 4, 5, 6] rfl)
          have hf := fo_f hc hf
          refine lv_iload_n hx hb dX12_mayCome_77 rfl (lv_at hl 5 rfl) ?_
          refine lv_aload_n hx hb dX12_mayCome_78 rfl (lv_at hl 3 rfl) ?_
          refine ro_get (C := RX12) (N := 30) X hH 0 (by decide) rO rfl inBX12 1 (by decide) rfl bw1379 dX12_mayCome_79 ?_
          refine lv_sipush (v := 3100) hx hb dX12_mayCome_82 (by decide) ?_
          refine lv_iload hx hb dX12_mayCome_85 (lv_at hl 1 rfl) ?_
          refine lv_iadd hx hb dX12_mayCome_87 ?_
          by_cases hc : ((3100 + v18_5) < 0 ∨ 3250 ≤ (3100 + v18_5).toNatClampNeg)
          · cases (fo_t hc hf)
          have hf := fo_f hc hf
          refine ra_ld X hH 0 (by decide) (by decide) hc dX12_mayCome_88 ?_
          refine lv_ishr hx hb dX12_mayCome_89 ?_
          refine lv_iconst (v := 1) hx hb dX12_mayCome_90 (by decide) ?_
          refine lv_iand hx hb dX12_mayCome_91 ?_
          refine lv_if_eq (tgt := 99) hx hb dX12_mayCome_92 (by decide) (fun hc => ?_) (fun hc => ?_)
          · have hf := fo_t hc hf
            exact hj99 () _ _ _ hf hH hS (lv_sub hl [1, 3, 4, 5, 6] rfl)
          have hf := fo_f hc hf
          exact hj95 () _ _ _ hf hH hS (lv_sub hl [1, 3, 4, 5, 6] rfl)
        obtain ⟨j64, ej64, hf⟩ := nm_x hf
        have hj64 : ∀ (u0 : Unit) (H : Heap) (locs : List Loc) (ls : Array Slot), j64 u0 = some q → rH G w H → va_S (rA G) s.heap H locs → lv_has ls 7 [(5, .int v18_5), (4, .int v18_4), (0, .ref (G.2.2.1 300)), (1, .int a1), (2, .int a2), (3, .int a3)] → W p l e rm_X12_mayCome s m args below meth c H locs 0 0 Q (F0 m 64 ls []) := by
          intro u0 H locs ls hf hH hS hl
          have hf := jb1 ej64 hf
          refine lv_iconst (v := 0) hx hb dX12_mayCome_64 (by decide) ?_
          exact hj65 _ _ _ _ zb0 hf hH hS (lv_sub hl [0, 1, 2, 3, 4, 5] rfl)
        refine lv_icmp_ne (tgt := 64) hx hb dX12_mayCome_42 (by decide) (fun hc => ?_) (fun hc => ?_)
        · have hf := fo_f hc hf
          exact hj64 () _ _ _ hf hH hS (lv_sub hl [0, 1, 2, 3, 4, 5] rfl)
        have hf := fo_t hc hf
        refine lv_aload_n hx hb dX12_mayCome_45 rfl (lv_at hl 2 rfl) ?_
        refine ro_get (C := RX12) (N := 30) X hH 0 (by decide) rO rfl inBX12 1 (by decide) rfl bw1379 dX12_mayCome_46 ?_
        refine lv_sipush (v := 3100) hx hb dX12_mayCome_49 (by decide) ?_
        refine lv_iload hx hb dX12_mayCome_52 (lv_at hl 0 rfl) ?_
        refine lv_iadd hx hb dX12_mayCome_54 ?_
        by_cases hc : ((3100 + v18_5) < 0 ∨ 3250 ≤ (3100 + v18_5).toNatClampNeg)
        · cases (fo_t hc hf)
        have hf := fo_f hc hf
        refine ra_ld X hH 0 (by decide) (by decide) hc dX12_mayCome_55 ?_
        refine lv_iload_n hx hb dX12_mayCome_56 rfl (lv_at hl 5 rfl) ?_
        refine lv_icmp_ge (tgt := 64) hx hb dX12_mayCome_57 (by decide) (fun hc => ?_) (fun hc => ?_)
        · have hf := fo_t hc hf
          exact hj64 () _ _ _ hf hH hS (lv_sub hl [0, 1, 2, 3, 4, 5] rfl)
        have hf := fo_f hc hf
        refine lv_iconst (v := 1) hx hb dX12_mayCome_60 (by decide) ?_
        refine lv_goto (tgt := 65) hx hb dX12_mayCome_61 (by decide) ?_
        exact hj65 _ _ _ _ zb1 hf hH hS (lv_sub hl [0, 1, 2, 3, 4, 5] rfl)
    exact hL18 _ _ _ _ _ _ hf hH hS (lv_sub hl [0, 1, 2, 3, 4, 5] rfl)
  refine lv_if_ne (tgt := 12) hx hb dX12_mayCome_5 (by decide) (fun hc5 => ?_) (fun hc5 => ?_)
  · refine lv_iconst (v := 0) hx hb dX12_mayCome_12 (by decide) ?_
    exact W.eq (by rw [if_neg hc5] <;> rfl) (hJ _ _ hH hS)
  · refine lv_iconst (v := 1) hx hb dX12_mayCome_8 (by decide) ?_
    refine lv_goto (tgt := 13) hx hb dX12_mayCome_9 (by decide) ?_
    exact W.eq (by rw [if_pos hc5] <;> rfl) (hJ _ _ hH hS)
def f_X12_runs_L241 (a1 : Int32) (w126_ : CW) (v227_5 : Int32) (j274 : Int32 → Option (Int32 × CW)) : Nat → Int32 → Option (Int32 × CW)
  | 0, _ => none
  | n241 + 1, v241_6 => (Option.bind (f_X12_mayCome w126_ v241_6 v227_5 a1) fun q247 => (nmk (fun (_ : Unit) => (nmk (v241_6 + (-1)) fun (x268 : Int32) => (f_X12_runs_L241 a1 w126_ v227_5 j274 n241 x268))) fun j268 => (if q247 = 0 then (j268 ()) else (if ((v227_5 ||| ((1 : Int32) <<< (v241_6 &&& 31))) < 0 ∨ 1024 ≤ (v227_5 ||| ((1 : Int32) <<< (v241_6 &&& 31))).toNatClampNeg) then none else (if (w126_.1 16 (v227_5 ||| ((1 : Int32) <<< (v241_6 &&& 31))).toNatClampNeg) = 0 then (j268 ()) else (j274 v241_6))))))
def f_X12_runs_L227 (a1 : Int32) (a2 : Int32) (w126_ : CW) : Nat → Int32 → Int32 → Int32 → Option (Int32 × CW)
  | 0, _, _, _ => none
  | n227 + 1, v227_5, v227_6, v227_7 => (if (a2 - 10) < v227_7 then (some (v227_6, w126_)) else (nmk (a1 - 1) fun (x239 : Int32) => (nmk (fun (y274_6 : Int32) => (nmk (v227_5 ||| ((1 : Int32) <<< (y274_6 &&& 31))) fun (x281 : Int32) => (nmk (v227_7 + 1) fun (x283 : Int32) => (f_X12_runs_L227 a1 a2 w126_ n227 x281 y274_6 x283)))) fun j274 => (f_X12_runs_L241 a1 w126_ v227_5 j274 FU x239))))
def f_X12_runs_L143 (a1 : Int32) (w126_ : CW) (j191 : Int32 → Option (Int32 × CW)) : Nat → Int32 → Int32 → Option (Int32 × CW)
  | 0, _, _ => none
  | n143 + 1, v143_4, v143_5 => (if a1 ≤ v143_5 then (j191 v143_4) else (Option.bind (f_X12_mayCome w126_ v143_5 0 a1) fun q156 => (nmk (fun (z182_0 : Int32) => (nmk (v143_4 ||| z182_0) fun (x183 : Int32) => (nmk (v143_5 + 1) fun (x185 : Int32) => (f_X12_runs_L143 a1 w126_ j191 n143 x183 x185)))) fun j182 => (nmk (fun (_ : Unit) => (j182 0)) fun j181 => (if q156 = 0 then (j181 ()) else (if (((1 : Int32) <<< (v143_5 &&& 31)) < 0 ∨ 1024 ≤ ((1 : Int32) <<< (v143_5 &&& 31)).toNatClampNeg) then none else (if (w126_.1 16 ((1 : Int32) <<< (v143_5 &&& 31)).toNatClampNeg) ≤ 0 then (j181 ()) else (j182 ((1 : Int32) <<< (v143_5 &&& 31))))))))))
def f_X12_runs_L70 (a1 : Int32) (v44_4 : Int32) (j120 : CW → Option (Int32 × CW)) : Nat → Int32 → CW → Option (Int32 × CW)
  | 0, _, _ => none
  | n70 + 1, v70_5, w70_ => (if a1 ≤ v70_5 then (j120 w70_) else (if (v44_4 < 0 ∨ 1024 ≤ v44_4.toNatClampNeg) then none else (Option.bind (f_X12_mayCome w70_ v70_5 v44_4 a1) fun q90 => (nmk (fun (z112_0 : Int32) => (if (v44_4 < 0 ∨ 1024 ≤ v44_4.toNatClampNeg) then none else (nmk (sC w70_ 16 v44_4.toNatClampNeg ((w70_.1 16 v44_4.toNatClampNeg) + z112_0)) fun w113 => (nmk (v70_5 + 1) fun (x114 : Int32) => (f_X12_runs_L70 a1 v44_4 j120 n70 x114 w113))))) fun j112 => (if q90 = 0 then (j112 0) else (if ((v44_4 ||| ((1 : Int32) <<< (v70_5 &&& 31))) < 0 ∨ 1024 ≤ (v44_4 ||| ((1 : Int32) <<< (v70_5 &&& 31))).toNatClampNeg) then none else (j112 (w70_.1 16 (v44_4 ||| ((1 : Int32) <<< (v70_5 &&& 31))).toNatClampNeg))))))))
def f_X12_runs_L44 (a1 : Int32) (x40 : Int32) (j126 : CW → Option (Int32 × CW)) : Nat → Int32 → CW → Option (Int32 × CW)
  | 0, _, _ => none
  | n44 + 1, v44_4, w44_ => (if v44_4 < 0 then (j126 w44_) else (if (v44_4 < 0 ∨ 1024 ≤ v44_4.toNatClampNeg) then none else (nmk (sC w44_ 16 v44_4.toNatClampNeg (if v44_4 = x40 then 1 else 0)) fun w66 => (nmk (fun (w120_ : CW) => (nmk (v44_4 + (-1)) fun (x120 : Int32) => (f_X12_runs_L44 a1 x40 j126 n44 x120 w120_))) fun j120 => (f_X12_runs_L70 a1 v44_4 j120 FU 0 w66)))))
def f_X12_runs (w : CW) (a1 : Int32) (a2 : Int32) : Option (Int32 × CW) := (if a2 < 0 then (some ((-1), w)) else (if (f_X12_in a2 2 9) = 0 then (if a2 ≤ 19 then (if (f_X12_in a1 1 10) = 0 then (some ((-2), w)) else (nmk (((1 : Int32) <<< (a1 &&& 31)) - 1) fun (x40 : Int32) => (nmk (fun (w126_ : CW) => (if a2 = 0 then (if ((0 : Int32) < 0 ∨ 1024 ≤ (0 : Int32).toNatClampNeg) then none else (some ((w126_.1 16 (0 : Int32).toNatClampNeg), w126_))) else (nmk (fun (y191_4 : Int32) => (if a2 = 1 then (some (y191_4, w126_)) else (if a1 ≤ (a2 - 10) then (some ((-1), w126_)) else (if ((0 : Int32) < 0 ∨ 1024 ≤ (0 : Int32).toNatClampNeg) then none else (if (w126_.1 16 (0 : Int32).toNatClampNeg) = 0 then (some ((-1), w126_)) else (f_X12_runs_L227 a1 a2 w126_ FU 0 (-1) 0)))))) fun j191 => (f_X12_runs_L143 a1 w126_ j191 FU 0 0)))) fun j126 => (f_X12_runs_L44 a1 x40 j126 FU x40 w)))) else (some ((-1), w))) else (some ((-1), w))))
abbrev rm_X12_runs : Room := { frames := 2, cells := 0, slots := 0, locals := 26 }
theorem cn_X12_runs : CN yX12_runs 2 := ⟨by decide +kernel, by decide +kernel, by decide +kernel⟩
set_option maxHeartbeats 4000000 in
set_option maxRecDepth 100000 in
theorem c_X12_runs (l : Launch) (G : GX) (w : CW) (a1 : Int32) (a2 : Int32) (q : Int32 × CW) (hf : f_X12_runs w a1 a2 = some q) : MI l G yX12_runs cX12_runs 8 (some .int) rm_X12_runs [.ref (G.2.2.1 300), .int a1, .int a2] (rA G) (rH G w) (rH G q.2) q.1 := by
  refine cM_start (by decide +kernel) (Nat.le_of_ble_eq_true rfl) ?_
  intro p e s m below meth c ls X hH hl
  have hS : va_S (rA G) s.heap s.heap [] := va_S.rf
  have hx := X.1.1
  have hb := X.1.2.1
  generalize hargs : ([.ref (G.2.2.1 300), .int a1, .int a2] : List Value).toArray = args at X ⊢
  generalize hQ : MQ below (QI (rA G) (rH G q.2) q.1) args s 0 0 (rA G) = Q
  have hl : lv_has ls 8 [(0, .ref (G.2.2.1 300)), (1, .int a1), (2, .int a2)] := hl
  unfold f_X12_runs at hf
  refine lv_iload_n hx hb dX12_runs_0 rfl (lv_at hl 2 rfl) ?_
  refine lv_if_lt (tgt := 20) hx hb dX12_runs_1 (by decide) (fun hc => ?_) (fun hc => ?_)
  · have hf := fo_t hc hf
    refine lv_iconst (v := (-1)) hx hb dX12_runs_20 (by decide) ?_
    subst hQ
    exact cEi X (rH2 (so_s hf) hH) hS (pf1 (so_s hf)) dX12_runs_21
  have hf := fo_f hc hf
  refine lv_iload_n hx hb dX12_runs_4 rfl (lv_at hl 2 rfl) ?_
  refine lv_iconst (v := 2) hx hb dX12_runs_5 (by decide) ?_
  refine lv_bipush (v := 9) hx hb dX12_runs_6 (by decide) ?_
  refine cGi (cSrun (rest := []) X (c_X12_in l G (rH G w) (rA G) rA_g a2 2 9 _ rfl) bw1477 bw1478 bw105 bw1479 cn_X12_in ⟨rfl, rfl, Nat.le_of_ble_eq_true rfl, Nat.le_of_ble_eq_true rfl⟩ rA_g hH hS hl rfl (Nat.le_of_ble_eq_true rfl) dX12_runs_8) hS (fun H locs hH hS => ?_)
  refine lv_if_ne (tgt := 20) hx hb dX12_runs_11 (by decide) (fun hc => ?_) (fun hc => ?_)
  · have hf := fo_f hc hf
    refine lv_iconst (v := (-1)) hx hb dX12_runs_20 (by decide) ?_
    subst hQ
    exact cEi X (rH2 (so_s hf) hH) hS (pf1 (so_s hf)) dX12_runs_21
  have hf := fo_t hc hf
  refine lv_iload_n hx hb dX12_runs_14 rfl (lv_at hl 2 rfl) ?_
  refine lv_bipush (v := 19) hx hb dX12_runs_15 (by decide) ?_
  refine lv_icmp_le (tgt := 22) hx hb dX12_runs_17 (by decide) (fun hc => ?_) (fun hc => ?_)
  rotate_left
  · have hf := fo_f hc hf
    refine lv_iconst (v := (-1)) hx hb dX12_runs_20 (by decide) ?_
    subst hQ
    exact cEi X (rH2 (so_s hf) hH) hS (pf1 (so_s hf)) dX12_runs_21
  have hf := fo_t hc hf
  refine lv_iload_n hx hb dX12_runs_22 rfl (lv_at hl 1 rfl) ?_
  refine lv_iconst (v := 1) hx hb dX12_runs_23 (by decide) ?_
  refine lv_bipush (v := 10) hx hb dX12_runs_24 (by decide) ?_
  refine cGi (cSrun (rest := []) X (c_X12_in l G (rH G w) (rA G) rA_g a1 1 10 _ rfl) bw1477 bw1478 bw105 bw1479 cn_X12_in ⟨rfl, rfl, Nat.le_of_ble_eq_true rfl, Nat.le_of_ble_eq_true rfl⟩ rA_g hH hS hl rfl (Nat.le_of_ble_eq_true rfl) dX12_runs_26) hS (fun H locs hH hS => ?_)
  refine lv_if_ne (tgt := 35) hx hb dX12_runs_29 (by decide) (fun hc => ?_) (fun hc => ?_)
  rotate_left
  · have hf := fo_t hc hf
    refine lv_bipush (v := (-2)) hx hb dX12_runs_32 (by decide) ?_
    subst hQ
    exact cEi X (rH2 (so_s hf) hH) hS (pf1 (so_s hf)) dX12_runs_34
  have hf := fo_f hc hf
  refine lv_iconst (v := 1) hx hb dX12_runs_35 (by decide) ?_
  refine lv_iload_n hx hb dX12_runs_36 rfl (lv_at hl 1 rfl) ?_
  refine lv_ishl hx hb dX12_runs_37 ?_
  refine lv_iconst (v := 1) hx hb dX12_runs_38 (by decide) ?_
  refine lv_isub hx hb dX12_runs_39 ?_
  refine lv_topi (fun x40 ex40 => ?_)
  have hf := nm_s hf x40 ex40
  refine lv_istore_n (lv' := [(3, .int x40), (0, .ref (G.2.2.1 300)), (1, .int a1), (2, .int a2)]) hx hb dX12_runs_40 rfl hl (by decide) rfl (fun ls hl => ?_)
  refine lv_iload_n hx hb dX12_runs_41 rfl (lv_at hl 0 rfl) ?_
  refine lv_istore (lv' := [(4, .int x40), (3, .int x40), (0, .ref (G.2.2.1 300)), (1, .int a1), (2, .int a2)]) hx hb dX12_runs_42 hl (by decide) rfl (fun ls hl => ?_)
  obtain ⟨j126, ej126, hf⟩ := nm_x hf
  have hj126 : ∀ (w126_ : CW) (H : Heap) (locs : List Loc) (ls : Array Slot), j126 w126_ = some q → rH G w126_ H → va_S (rA G) s.heap H locs → lv_has ls 8 [(0, .ref (G.2.2.1 300)), (1, .int a1), (2, .int a2)] → W p l e rm_X12_runs s m args below meth c H locs 0 0 Q (F0 m 126 ls []) := by
    intro w126_ H locs ls hf hH hS hl
    have hf := jb1 ej126 hf
    refine lv_iload_n hx hb dX12_runs_126 rfl (lv_at hl 2 rfl) ?_
    refine lv_if_ne (tgt := 137) hx hb dX12_runs_127 (by decide) (fun hc => ?_) (fun hc => ?_)
    rotate_left
    · have hf := fo_t hc hf
      refine lv_aload_n hx hb dX12_runs_130 rfl (lv_at hl 0 rfl) ?_
      refine ro_get (C := RX12) (N := 30) X hH 0 (by decide) rO rfl inBX12 29 (by decide) rfl bw1407 dX12_runs_131 ?_
      refine lv_iconst (v := 0) hx hb dX12_runs_134 (by decide) ?_
      by_cases hc : ((0 : Int32) < 0 ∨ 1024 ≤ (0 : Int32).toNatClampNeg)
      · cases (fo_t hc hf)
      have hf := fo_f hc hf
      refine ra_ld X hH 16 (by decide) (by decide) hc dX12_runs_135 ?_
      subst hQ
      exact cEi X (rH2 (so_s hf) hH) hS (pf1 (so_s hf)) dX12_runs_136
    have hf := fo_f hc hf
    refine lv_iconst (v := 0) hx hb dX12_runs_137 (by decide) ?_
    refine lv_istore (lv' := [(4, .int 0), (0, .ref (G.2.2.1 300)), (1, .int a1), (2, .int a2)]) hx hb dX12_runs_138 hl (by decide) rfl (fun ls hl => ?_)
    refine lv_iconst (v := 0) hx hb dX12_runs_140 (by decide) ?_
    refine lv_istore (lv' := [(5, .int 0), (4, .int 0), (0, .ref (G.2.2.1 300)), (1, .int a1), (2, .int a2)]) hx hb dX12_runs_141 hl (by decide) rfl (fun ls hl => ?_)
    obtain ⟨j191, ej191, hf⟩ := nm_x hf
    have hj191 : ∀ (y191_4 : Int32) (H : Heap) (locs : List Loc) (ls : Array Slot), j191 y191_4 = some q → rH G w126_ H → va_S (rA G) s.heap H locs → lv_has ls 8 [(4, .int y191_4), (0, .ref (G.2.2.1 300)), (1, .int a1), (2, .int a2)] → W p l e rm_X12_runs s m args below meth c H locs 0 0 Q (F0 m 191 ls []) := by
      intro y191_4 H locs ls hf hH hS hl
      have hf := jb1 ej191 hf
      refine lv_iload_n hx hb dX12_runs_191 rfl (lv_at hl 3 rfl) ?_
      refine lv_iconst (v := 1) hx hb dX12_runs_192 (by decide) ?_
      refine lv_icmp_ne (tgt := 199) hx hb dX12_runs_193 (by decide) (fun hc => ?_) (fun hc => ?_)
      rotate_left
      · have hf := fo_t hc hf
        refine lv_iload hx hb dX12_runs_196 (lv_at hl 0 rfl) ?_
        subst hQ
        exact cEi X (rH2 (so_s hf) hH) hS (pf1 (so_s hf)) dX12_runs_198
      have hf := fo_f hc hf
      refine lv_iload_n hx hb dX12_runs_199 rfl (lv_at hl 3 rfl) ?_
      refine lv_bipush (v := 10) hx hb dX12_runs_200 (by decide) ?_
      refine lv_isub hx hb dX12_runs_202 ?_
      refine lv_iload_n hx hb dX12_runs_203 rfl (lv_at hl 2 rfl) ?_
      refine lv_icmp_ge (tgt := 216) hx hb dX12_runs_204 (by decide) (fun hc => ?_) (fun hc => ?_)
      · have hf := fo_t hc hf
        refine lv_iconst (v := (-1)) hx hb dX12_runs_216 (by decide) ?_
        subst hQ
        exact cEi X (rH2 (so_s hf) hH) hS (pf1 (so_s hf)) dX12_runs_217
      have hf := fo_f hc hf
      refine lv_aload_n hx hb dX12_runs_207 rfl (lv_at hl 1 rfl) ?_
      refine ro_get (C := RX12) (N := 30) X hH 0 (by decide) rO rfl inBX12 29 (by decide) rfl bw1407 dX12_runs_208 ?_
      refine lv_iconst (v := 0) hx hb dX12_runs_211 (by decide) ?_
      by_cases hc : ((0 : Int32) < 0 ∨ 1024 ≤ (0 : Int32).toNatClampNeg)
      · cases (fo_t hc hf)
      have hf := fo_f hc hf
      refine ra_ld X hH 16 (by decide) (by decide) hc dX12_runs_212 ?_
      refine lv_if_ne (tgt := 218) hx hb dX12_runs_213 (by decide) (fun hc => ?_) (fun hc => ?_)
      rotate_left
      · have hf := fo_t hc hf
        refine lv_iconst (v := (-1)) hx hb dX12_runs_216 (by decide) ?_
        subst hQ
        exact cEi X (rH2 (so_s hf) hH) hS (pf1 (so_s hf)) dX12_runs_217
      have hf := fo_f hc hf
      refine lv_iconst (v := 0) hx hb dX12_runs_218 (by decide) ?_
      refine lv_istore (lv' := [(5, .int 0), (4, .int y191_4), (0, .ref (G.2.2.1 300)), (1, .int a1), (2, .int a2)]) hx hb dX12_runs_219 hl (by decide) rfl (fun ls hl => ?_)
      refine lv_iconst (v := (-1)) hx hb dX12_runs_221 (by decide) ?_
      refine lv_istore (lv' := [(6, .int (-1)), (5, .int 0), (4, .int y191_4), (0, .ref (G.2.2.1 300)), (1, .int a1), (2, .int a2)]) hx hb dX12_runs_222 hl (by decide) rfl (fun ls hl => ?_)
      refine lv_iconst (v := 0) hx hb dX12_runs_224 (by decide) ?_
      refine lv_istore (lv' := [(7, .int 0), (6, .int (-1)), (5, .int 0), (4, .int y191_4), (0, .ref (G.2.2.1 300)), (1, .int a1), (2, .int a2)]) hx hb dX12_runs_225 hl (by decide) rfl (fun ls hl => ?_)
      have hL227 : ∀ (n227 : Nat) (v227_5 : Int32) (v227_6 : Int32) (v227_7 : Int32) (H : Heap) (locs : List Loc) (ls : Array Slot), f_X12_runs_L227 a1 a2 w126_ n227 v227_5 v227_6 v227_7 = some q → rH G w126_ H → va_S (rA G) s.heap H locs → lv_has ls 8 [(7, .int v227_7), (6, .int v227_6), (5, .int v227_5), (0, .ref (G.2.2.1 300)), (1, .int a1), (2, .int a2)] → W p l e rm_X12_runs s m args below meth c H locs 0 0 Q (F0 m 227 ls []) := by
        intro n227
        induction n227 with
        | zero => intro v227_5 v227_6 v227_7 H locs ls hf; rw [f_X12_runs_L227] at hf; cases hf
        | succ n227 ih227 =>
          intro v227_5 v227_6 v227_7 H locs ls hf hH hS hl
          rw [f_X12_runs_L227] at hf
          refine lv_iload hx hb dX12_runs_227 (lv_at hl 0 rfl) ?_
          refine lv_iload_n hx hb dX12_runs_229 rfl (lv_at hl 5 rfl) ?_
          refine lv_bipush (v := 10) hx hb dX12_runs_230 (by decide) ?_
          refine lv_isub hx hb dX12_runs_232 ?_
          refine lv_icmp_gt (tgt := 289) hx hb dX12_runs_233 (by decide) (fun hc => ?_) (fun hc => ?_)
          · have hf := fo_t hc hf
            refine lv_iload hx hb dX12_runs_289 (lv_at hl 1 rfl) ?_
            subst hQ
            exact cEi X (rH2 (so_s hf) hH) hS (pf1 (so_s hf)) dX12_runs_291
          have hf := fo_f hc hf
          refine lv_iload_n hx hb dX12_runs_236 rfl (lv_at hl 4 rfl) ?_
          refine lv_iconst (v := 1) hx hb dX12_runs_237 (by decide) ?_
          refine lv_isub hx hb dX12_runs_238 ?_
          refine lv_topi (fun x239 ex239 => ?_)
          have hf := nm_s hf x239 ex239
          refine lv_istore (lv' := [(6, .int x239), (7, .int v227_7), (5, .int v227_5), (0, .ref (G.2.2.1 300)), (1, .int a1), (2, .int a2)]) hx hb dX12_runs_239 hl (by decide) rfl (fun ls hl => ?_)
          obtain ⟨j274, ej274, hf⟩ := nm_x hf
          have hj274 : ∀ (y274_6 : Int32) (H : Heap) (locs : List Loc) (ls : Array Slot), j274 y274_6 = some q → rH G w126_ H → va_S (rA G) s.heap H locs → lv_has ls 8 [(6, .int y274_6), (7, .int v227_7), (5, .int v227_5), (0, .ref (G.2.2.1 300)), (1, .int a1), (2, .int a2)] → W p l e rm_X12_runs s m args below meth c H locs 0 0 Q (F0 m 274 ls []) := by
            intro y274_6 H locs ls hf hH hS hl
            have hf := jb1 ej274 hf
            refine lv_iload hx hb dX12_runs_274 (lv_at hl 2 rfl) ?_
            refine lv_iconst (v := 1) hx hb dX12_runs_276 (by decide) ?_
            refine lv_iload hx hb dX12_runs_277 (lv_at hl 0 rfl) ?_
            refine lv_ishl hx hb dX12_runs_279 ?_
            refine lv_ior hx hb dX12_runs_280 ?_
            refine lv_topi (fun x281 ex281 => ?_)
            have hf := nm_s hf x281 ex281
            refine lv_istore (lv' := [(5, .int x281), (6, .int y274_6), (7, .int v227_7), (0, .ref (G.2.2.1 300)), (1, .int a1), (2, .int a2)]) hx hb dX12_runs_281 hl (by decide) rfl (fun ls hl => ?_)
            obtain ⟨x283, ex283⟩ : ∃ z : Int32, z = (v227_7 + 1) := ⟨_, rfl⟩
            have hf := nm_s hf x283 ex283
            refine lv_iinc (v := x283) (lv' := [(7, .int x283), (5, .int x281), (6, .int y274_6), (0, .ref (G.2.2.1 300)), (1, .int a1), (2, .int a2)]) hx hb dX12_runs_283 hl (k := 2) rfl (by rw [ex283]; rfl) (by decide) rfl (fun ls hl => ?_)
            refine lv_goto (tgt := 227) hx hb dX12_runs_286 (by decide) ?_
            exact ih227 _ _ _ _ _ _ hf hH hS (lv_sub hl [0, 2, 1, 3, 4, 5] rfl)
          have hL241 : ∀ (n241 : Nat) (v241_6 : Int32) (H : Heap) (locs : List Loc) (ls : Array Slot), f_X12_runs_L241 a1 w126_ v227_5 j274 n241 v241_6 = some q → rH G w126_ H → va_S (rA G) s.heap H locs → lv_has ls 8 [(6, .int v241_6), (7, .int v227_7), (5, .int v227_5), (0, .ref (G.2.2.1 300)), (1, .int a1), (2, .int a2)] → W p l e rm_X12_runs s m args below meth c H locs 0 0 Q (F0 m 241 ls []) := by
            intro n241
            induction n241 with
            | zero => intro v241_6 H locs ls hf; rw [f_X12_runs_L241] at hf; cases hf
            | succ n241 ih241 =>
              intro v241_6 H locs ls hf hH hS hl
              rw [f_X12_runs_L241] at hf
              refine lv_aload_n hx hb dX12_runs_241 rfl (lv_at hl 3 rfl) ?_
              refine lv_iload hx hb dX12_runs_242 (lv_at hl 0 rfl) ?_
              refine lv_iload hx hb dX12_runs_244 (lv_at hl 2 rfl) ?_
              refine lv_iload_n hx hb dX12_runs_246 rfl (lv_at hl 4 rfl) ?_
              obtain ⟨q247, hq247, hf⟩ := bd_s hf
              refine cGz (cVrun (rest := []) X (c_X12_mayCome l G w126_ v241_6 v227_5 a1 q247 hq247) bw1742 bw1744 bw83 bw105 bw1745 cn_X12_mayCome ⟨rfl, rfl, Nat.le_of_ble_eq_true rfl, Nat.le_of_ble_eq_true rfl⟩ (r_rec X hH) rA_g hH hS hl rfl (Nat.le_of_ble_eq_true rfl) dX12_runs_247) hS (fun hz247 H locs hH hS => ?_)
              obtain ⟨j268, ej268, hf⟩ := nm_x hf
              have hj268 : ∀ (u0 : Unit) (H : Heap) (locs : List Loc) (ls : Array Slot), j268 u0 = some q → rH G w126_ H → va_S (rA G) s.heap H locs → lv_has ls 8 [(6, .int v241_6), (7, .int v227_7), (5, .int v227_5), (0, .ref (G.2.2.1 300)), (1, .int a1), (2, .int a2)] → W p l e rm_X12_runs s m args below meth c H locs 0 0 Q (F0 m 268 ls []) := by
                intro u0 H locs ls hf hH hS hl
                have hf := jb1 ej268 hf
                obtain ⟨x268, ex268⟩ : ∃ z : Int32, z = (v241_6 + (-1)) := ⟨_, rfl⟩
                have hf := nm_s hf x268 ex268
                refine lv_iinc (v := x268) (lv' := [(6, .int x268), (7, .int v227_7), (5, .int v227_5), (0, .ref (G.2.2.1 300)), (1, .int a1), (2, .int a2)]) hx hb dX12_runs_268 hl (k := 0) rfl (by rw [ex268]; rfl) (by decide) rfl (fun ls hl => ?_)
                refine lv_goto (tgt := 241) hx hb dX12_runs_271 (by decide) ?_
                exact ih241 _ _ _ _ hf hH hS (lv_sub hl [0, 1, 2, 3, 4, 5] rfl)
              refine lv_if_eq (tgt := 268) hx hb dX12_runs_250 (by decide) (fun hc => ?_) (fun hc => ?_)
              · have hf := fo_t hc hf
                exact hj268 () _ _ _ hf hH hS (lv_sub hl [0, 1, 2, 3, 4, 5] rfl)
              have hf := fo_f hc hf
              refine lv_aload_n hx hb dX12_runs_253 rfl (lv_at hl 3 rfl) ?_
              refine ro_get (C := RX12) (N := 30) X hH 0 (by decide) rO rfl inBX12 29 (by decide) rfl bw1407 dX12_runs_254 ?_
              refine lv_iload hx hb dX12_runs_257 (lv_at hl 2 rfl) ?_
              refine lv_iconst (v := 1) hx hb dX12_runs_259 (by decide) ?_
              refine lv_iload hx hb dX12_runs_260 (lv_at hl 0 rfl) ?_
              refine lv_ishl hx hb dX12_runs_262 ?_
              refine lv_ior hx hb dX12_runs_263 ?_
              by_cases hc : ((v227_5 ||| ((1 : Int32) <<< (v241_6 &&& 31))) < 0 ∨ 1024 ≤ (v227_5 ||| ((1 : Int32) <<< (v241_6 &&& 31))).toNatClampNeg)
              · cases (fo_t hc hf)
              have hf := fo_f hc hf
              refine ra_ld X hH 16 (by decide) (by decide) hc dX12_runs_264 ?_
              refine lv_if_ne (tgt := 274) hx hb dX12_runs_265 (by decide) (fun hc => ?_) (fun hc => ?_)
              · have hf := fo_f hc hf
                exact hj274 _ _ _ _ hf hH hS (lv_sub hl [0, 1, 2, 3, 4, 5] rfl)
              have hf := fo_t hc hf
              exact hj268 () _ _ _ hf hH hS (lv_sub hl [0, 1, 2, 3, 4, 5] rfl)
          exact hL241 _ _ _ _ _ hf hH hS (lv_sub hl [0, 1, 2, 3, 4, 5] rfl)
      exact hL227 _ _ _ _ _ _ _ hf hH hS (lv_sub hl [0, 1, 2, 4, 5, 6] rfl)
    have hL143 : ∀ (n143 : Nat) (v143_4 : Int32) (v143_5 : Int32) (H : Heap) (locs : List Loc) (ls : Array Slot), f_X12_runs_L143 a1 w126_ j191 n143 v143_4 v143_5 = some q → rH G w126_ H → va_S (rA G) s.heap H locs → lv_has ls 8 [(5, .int v143_5), (4, .int v143_4), (0, .ref (G.2.2.1 300)), (1, .int a1), (2, .int a2)] → W p l e rm_X12_runs s m args below meth c H locs 0 0 Q (F0 m 143 ls []) := by
      intro n143
      induction n143 with
      | zero => intro v143_4 v143_5 H locs ls hf; rw [f_X12_runs_L143] at hf; cases hf
      | succ n143 ih143 =>
        intro v143_4 v143_5 H locs ls hf hH hS hl
        rw [f_X12_runs_L143] at hf
        refine lv_iload hx hb dX12_runs_143 (lv_at hl 0 rfl) ?_
        refine lv_iload_n hx hb dX12_runs_145 rfl (lv_at hl 3 rfl) ?_
        refine lv_icmp_ge (tgt := 191) hx hb dX12_runs_146 (by decide) (fun hc => ?_) (fun hc => ?_)
        · have hf := fo_t hc hf
          exact hj191 _ _ _ _ hf hH hS (lv_sub hl [1, 2, 3, 4] rfl)
        have hf := fo_f hc hf
        refine lv_iload hx hb dX12_runs_149 (lv_at hl 1 rfl) ?_
        refine lv_aload_n hx hb dX12_runs_151 rfl (lv_at hl 2 rfl) ?_
        refine lv_iload hx hb dX12_runs_152 (lv_at hl 0 rfl) ?_
        refine lv_iconst (v := 0) hx hb dX12_runs_154 (by decide) ?_
        refine lv_iload_n hx hb dX12_runs_155 rfl (lv_at hl 3 rfl) ?_
        obtain ⟨q156, hq156, hf⟩ := bd_s hf
        refine cGz (cVrun (rest := [.int v143_4]) X (c_X12_mayCome l G w126_ v143_5 0 a1 q156 hq156) bw1742 bw1744 bw83 bw105 bw1745 cn_X12_mayCome ⟨rfl, rfl, Nat.le_of_ble_eq_true rfl, Nat.le_of_ble_eq_true rfl⟩ (r_rec X hH) rA_g hH hS hl rfl (Nat.le_of_ble_eq_true rfl) dX12_runs_156) hS (fun hz156 H locs hH hS => ?_)
        obtain ⟨j182, ej182, hf⟩ := nm_x hf
        have hj182 : ∀ (z182_0 : Int32) (H : Heap) (locs : List Loc) (ls : Array Slot), j182 z182_0 = some q → rH G w126_ H → va_S (rA G) s.heap H locs → lv_has ls 8 [(5, .int v143_5), (0, .ref (G.2.2.1 300)), (1, .int a1), (2, .int a2)] → W p l e rm_X12_runs s m args below meth c H locs 0 0 Q (F0 m 182 ls [.int z182_0, .int v143_4]) := by
          intro z182_0 H locs ls hf hH hS hl
          have hf := jb1 ej182 hf
          refine lv_ior hx hb dX12_runs_182 ?_
          refine lv_topi (fun x183 ex183 => ?_)
          have hf := nm_s hf x183 ex183
          refine lv_istore (lv' := [(4, .int x183), (5, .int v143_5), (0, .ref (G.2.2.1 300)), (1, .int a1), (2, .int a2)]) hx hb dX12_runs_183 hl (by decide) rfl (fun ls hl => ?_)
          obtain ⟨x185, ex185⟩ : ∃ z : Int32, z = (v143_5 + 1) := ⟨_, rfl⟩
          have hf := nm_s hf x185 ex185
          refine lv_iinc (v := x185) (lv' := [(5, .int x185), (4, .int x183), (0, .ref (G.2.2.1 300)), (1, .int a1), (2, .int a2)]) hx hb dX12_runs_185 hl (k := 1) rfl (by rw [ex185]; rfl) (by decide) rfl (fun ls hl => ?_)
          refine lv_goto (tgt := 143) hx hb dX12_runs_188 (by decide) ?_
          exact ih143 _ _ _ _ _ hf hH hS (lv_sub hl [0, 1, 2, 3, 4] rfl)
        obtain ⟨j181, ej181, hf⟩ := nm_x hf
        have hj181 : ∀ (u0 : Unit) (H : Heap) (locs : List Loc) (ls : Array Slot), j181 u0 = some q → rH G w126_ H → va_S (rA G) s.heap H locs → lv_has ls 8 [(5, .int v143_5), (0, .ref (G.2.2.1 300)), (1, .int a1), (2, .int a2)] → W p l e rm_X12_runs s m args below meth c H locs 0 0 Q (F0 m 181 ls [.int v143_4]) := by
          intro u0 H locs ls hf hH hS hl
          have hf := jb1 ej181 hf
          refine lv_iconst (v := 0) hx hb dX12_runs_181 (by decide) ?_
          exact hj182 _ _ _ _ hf hH hS (lv_sub hl [0, 1, 2, 3] rfl)
        refine lv_if_eq (tgt := 181) hx hb dX12_runs_159 (by decide) (fun hc => ?_) (fun hc => ?_)
        · have hf := fo_t hc hf
          exact hj181 () _ _ _ hf hH hS (lv_sub hl [0, 2, 3, 4] rfl)
        have hf := fo_f hc hf
        refine lv_aload_n hx hb dX12_runs_162 rfl (lv_at hl 2 rfl) ?_
        refine ro_get (C := RX12) (N := 30) X hH 0 (by decide) rO rfl inBX12 29 (by decide) rfl bw1407 dX12_runs_163 ?_
        refine lv_iconst (v := 1) hx hb dX12_runs_166 (by decide) ?_
        refine lv_iload hx hb dX12_runs_167 (lv_at hl 0 rfl) ?_
        refine lv_ishl hx hb dX12_runs_169 ?_
        by_cases hc : (((1 : Int32) <<< (v143_5 &&& 31)) < 0 ∨ 1024 ≤ ((1 : Int32) <<< (v143_5 &&& 31)).toNatClampNeg)
        · cases (fo_t hc hf)
        have hf := fo_f hc hf
        refine ra_ld X hH 16 (by decide) (by decide) hc dX12_runs_170 ?_
        refine lv_if_le (tgt := 181) hx hb dX12_runs_171 (by decide) (fun hc => ?_) (fun hc => ?_)
        · have hf := fo_t hc hf
          exact hj181 () _ _ _ hf hH hS (lv_sub hl [0, 2, 3, 4] rfl)
        have hf := fo_f hc hf
        refine lv_iconst (v := 1) hx hb dX12_runs_174 (by decide) ?_
        refine lv_iload hx hb dX12_runs_175 (lv_at hl 0 rfl) ?_
        refine lv_ishl hx hb dX12_runs_177 ?_
        refine lv_goto (tgt := 182) hx hb dX12_runs_178 (by decide) ?_
        exact hj182 _ _ _ _ hf hH hS (lv_sub hl [0, 2, 3, 4] rfl)
    exact hL143 _ _ _ _ _ _ hf hH hS (lv_sub hl [0, 1, 2, 3, 4] rfl)
  have hL44 : ∀ (n44 : Nat) (v44_4 : Int32) (w44_ : CW) (H : Heap) (locs : List Loc) (ls : Array Slot), f_X12_runs_L44 a1 x40 j126 n44 v44_4 w44_ = some q → rH G w44_ H → va_S (rA G) s.heap H locs → lv_has ls 8 [(4, .int v44_4), (3, .int x40), (0, .ref (G.2.2.1 300)), (1, .int a1), (2, .int a2)] → W p l e rm_X12_runs s m args below meth c H locs 0 0 Q (F0 m 44 ls []) := by
    intro n44
    induction n44 with
    | zero => intro v44_4 w44_ H locs ls hf; rw [f_X12_runs_L44] at hf; cases hf
    | succ n44 ih44 =>
      intro v44_4 w44_ H locs ls hf hH hS hl
      rw [f_X12_runs_L44] at hf
      refine lv_iload hx hb dX12_runs_44 (lv_at hl 0 rfl) ?_
      refine lv_if_lt (tgt := 126) hx hb dX12_runs_46 (by decide) (fun hc => ?_) (fun hc => ?_)
      · have hf := fo_t hc hf
        exact hj126 _ _ _ _ hf hH hS (lv_sub hl [2, 3, 4] rfl)
      have hf := fo_f hc hf
      refine lv_aload_n hx hb dX12_runs_49 rfl (lv_at hl 2 rfl) ?_
      refine ro_get (C := RX12) (N := 30) X hH 0 (by decide) rO rfl inBX12 29 (by decide) rfl bw1407 dX12_runs_50 ?_
      refine lv_iload hx hb dX12_runs_53 (lv_at hl 0 rfl) ?_
      refine lv_iload hx hb dX12_runs_55 (lv_at hl 0 rfl) ?_
      refine lv_iload_n hx hb dX12_runs_57 rfl (lv_at hl 1 rfl) ?_
      have hJ : ∀ (H : Heap) (locs : List Loc), rH G w44_ H → va_S (rA G) s.heap H locs → W p l e rm_X12_runs s m args below meth c H locs 0 0 Q (F0 m 66 ls [.int (if v44_4 = x40 then 1 else 0), .int v44_4, .ref (G.2.2.1 317)]) := by
        intro H locs hH hS
        by_cases hc : (v44_4 < 0 ∨ 1024 ≤ v44_4.toNatClampNeg)
        · cases (fo_t hc hf)
        have hf := fo_f hc hf
        refine ra_st X hH hS 16 (by decide) (by decide) hc dX12_runs_66 (fun H locs hH hS => ?_)
        obtain ⟨w66, ew66⟩ : ∃ z : CW, z = (sC w44_ 16 v44_4.toNatClampNeg (if v44_4 = x40 then 1 else 0)) := ⟨_, rfl⟩
        have hf := nm_s hf w66 ew66
        have hH : rH G w66 H := ew66 ▸ hH
        refine lv_iconst (v := 0) hx hb dX12_runs_67 (by decide) ?_
        refine lv_istore (lv' := [(5, .int 0), (4, .int v44_4), (3, .int x40), (0, .ref (G.2.2.1 300)), (1, .int a1), (2, .int a2)]) hx hb dX12_runs_68 hl (by decide) rfl (fun ls hl => ?_)
        obtain ⟨j120, ej120, hf⟩ := nm_x hf
        have hj120 : ∀ (w120_ : CW) (H : Heap) (locs : List Loc) (ls : Array Slot), j120 w120_ = some q → rH G w120_ H → va_S (rA G) s.heap H locs → lv_has ls 8 [(4, .int v44_4), (3, .int x40), (0, .ref (G.2.2.1 300)), (1, .int a1), (2, .int a2)] → W p l e rm_X12_runs s m args below meth c H locs 0 0 Q (F0 m 120 ls []) := by
          intro w120_ H locs ls hf hH hS hl
          have hf := jb1 ej120 hf
          obtain ⟨x120, ex120⟩ : ∃ z : Int32, z = (v44_4 + (-1)) := ⟨_, rfl⟩
          have hf := nm_s hf x120 ex120
          refine lv_iinc (v := x120) (lv' := [(4, .int x120), (3, .int x40), (0, .ref (G.2.2.1 300)), (1, .int a1), (2, .int a2)]) hx hb dX12_runs_120 hl (k := 0) rfl (by rw [ex120]; rfl) (by decide) rfl (fun ls hl => ?_)
          refine lv_goto (tgt := 44) hx hb dX12_runs_123 (by decide) ?_
          exact ih44 _ _ _ _ _ hf hH hS (lv_sub hl [0, 1, 2, 3, 4] rfl)
        have hL70 : ∀ (n70 : Nat) (v70_5 : Int32) (w70_ : CW) (H : Heap) (locs : List Loc) (ls : Array Slot), f_X12_runs_L70 a1 v44_4 j120 n70 v70_5 w70_ = some q → rH G w70_ H → va_S (rA G) s.heap H locs → lv_has ls 8 [(5, .int v70_5), (4, .int v44_4), (3, .int x40), (0, .ref (G.2.2.1 300)), (1, .int a1), (2, .int a2)] → W p l e rm_X12_runs s m args below meth c H locs 0 0 Q (F0 m 70 ls []) := by
          intro n70
          induction n70 with
          | zero => intro v70_5 w70_ H locs ls hf; rw [f_X12_runs_L70] at hf; cases hf
          | succ n70 ih70 =>
            intro v70_5 w70_ H locs ls hf hH hS hl
            rw [f_X12_runs_L70] at hf
            refine lv_iload hx hb dX12_runs_70 (lv_at hl 0 rfl) ?_
            refine lv_iload_n hx hb dX12_runs_72 rfl (lv_at hl 4 rfl) ?_
            refine lv_icmp_ge (tgt := 120) hx hb dX12_runs_73 (by decide) (fun hc => ?_) (fun hc => ?_)
            · have hf := fo_t hc hf
              exact hj120 _ _ _ _ hf hH hS (lv_sub hl [1, 2, 3, 4, 5] rfl)
            have hf := fo_f hc hf
            refine lv_aload_n hx hb dX12_runs_76 rfl (lv_at hl 3 rfl) ?_
            refine ro_get (C := RX12) (N := 30) X hH 0 (by decide) rO rfl inBX12 29 (by decide) rfl bw1407 dX12_runs_77 ?_
            refine lv_iload hx hb dX12_runs_80 (lv_at hl 1 rfl) ?_
            refine lv_dup2_11 hx hb dX12_runs_82 rfl rfl ?_
            by_cases hc : (v44_4 < 0 ∨ 1024 ≤ v44_4.toNatClampNeg)
            · cases (fo_t hc hf)
            have hf := fo_f hc hf
            refine ra_ld X hH 16 (by decide) (by decide) hc dX12_runs_83 ?_
            refine lv_aload_n hx hb dX12_runs_84 rfl (lv_at hl 3 rfl) ?_
            refine lv_iload hx hb dX12_runs_85 (lv_at hl 0 rfl) ?_
            refine lv_iload hx hb dX12_runs_87 (lv_at hl 1 rfl) ?_
            refine lv_iload_n hx hb dX12_runs_89 rfl (lv_at hl 4 rfl) ?_
            obtain ⟨q90, hq90, hf⟩ := bd_s hf
            refine cGz (cVrun (rest := [.int (w70_.1 16 v44_4.toNatClampNeg), .int v44_4, .ref (G.2.2.1 317)]) X (c_X12_mayCome l G w70_ v70_5 v44_4 a1 q90 hq90) bw1742 bw1744 bw83 bw105 bw1745 cn_X12_mayCome ⟨rfl, rfl, Nat.le_of_ble_eq_true rfl, Nat.le_of_ble_eq_true rfl⟩ (r_rec X hH) rA_g hH hS hl rfl (Nat.le_of_ble_eq_true rfl) dX12_runs_90) hS (fun hz90 H locs hH hS => ?_)
            obtain ⟨j112, ej112, hf⟩ := nm_x hf
            have hj112 : ∀ (z112_0 : Int32) (H : Heap) (locs : List Loc) (ls : Array Slot), j112 z112_0 = some q → rH G w70_ H → va_S (rA G) s.heap H locs → lv_has ls 8 [(5, .int v70_5), (4, .int v44_4), (3, .int x40), (0, .ref (G.2.2.1 300)), (1, .int a1), (2, .int a2)] → W p l e rm_X12_runs s m args below meth c H locs 0 0 Q (F0 m 112 ls [.int z112_0, .int (w70_.1 16 v44_4.toNatClampNeg), .int v44_4, .ref (G.2.2.1 317)]) := by
              intro z112_0 H locs ls hf hH hS hl
              have hf := jb1 ej112 hf
              refine lv_iadd hx hb dX12_runs_112 ?_
              by_cases hc : (v44_4 < 0 ∨ 1024 ≤ v44_4.toNatClampNeg)
              · cases (fo_t hc hf)
              have hf := fo_f hc hf
              refine ra_st X hH hS 16 (by decide) (by decide) hc dX12_runs_113 (fun H locs hH hS => ?_)
              obtain ⟨w113, ew113⟩ : ∃ z : CW, z = (sC w70_ 16 v44_4.toNatClampNeg ((w70_.1 16 v44_4.toNatClampNeg) + z112_0)) := ⟨_, rfl⟩
              have hf := nm_s hf w113 ew113
              have hH : rH G w113 H := ew113 ▸ hH
              obtain ⟨x114, ex114⟩ : ∃ z : Int32, z = (v70_5 + 1) := ⟨_, rfl⟩
              have hf := nm_s hf x114 ex114
              refine lv_iinc (v := x114) (lv' := [(5, .int x114), (4, .int v44_4), (3, .int x40), (0, .ref (G.2.2.1 300)), (1, .int a1), (2, .int a2)]) hx hb dX12_runs_114 hl (k := 0) rfl (by rw [ex114]; rfl) (by decide) rfl (fun ls hl => ?_)
              refine lv_goto (tgt := 70) hx hb dX12_runs_117 (by decide) ?_
              exact ih70 _ _ _ _ _ hf hH hS (lv_sub hl [0, 1, 2, 3, 4, 5] rfl)
            refine lv_if_eq (tgt := 111) hx hb dX12_runs_93 (by decide) (fun hc => ?_) (fun hc => ?_)
            · have hf := fo_t hc hf
              refine lv_iconst (v := 0) hx hb dX12_runs_111 (by decide) ?_
              exact hj112 _ _ _ _ hf hH hS (lv_sub hl [0, 1, 2, 3, 4, 5] rfl)
            have hf := fo_f hc hf
            refine lv_aload_n hx hb dX12_runs_96 rfl (lv_at hl 3 rfl) ?_
            refine ro_get (C := RX12) (N := 30) X hH 0 (by decide) rO rfl inBX12 29 (by decide) rfl bw1407 dX12_runs_97 ?_
            refine lv_iload hx hb dX12_runs_100 (lv_at hl 1 rfl) ?_
            refine lv_iconst (v := 1) hx hb dX12_runs_102 (by decide) ?_
            refine lv_iload hx hb dX12_runs_103 (lv_at hl 0 rfl) ?_
            refine lv_ishl hx hb dX12_runs_105 ?_
            refine lv_ior hx hb dX12_runs_106 ?_
            by_cases hc : ((v44_4 ||| ((1 : Int32) <<< (v70_5 &&& 31))) < 0 ∨ 1024 ≤ (v44_4 ||| ((1 : Int32) <<< (v70_5 &&& 31))).toNatClampNeg)
            · cases (fo_t hc hf)
            have hf := fo_f hc hf
            refine ra_ld X hH 16 (by decide) (by decide) hc dX12_runs_107 ?_
            refine lv_goto (tgt := 112) hx hb dX12_runs_108 (by decide) ?_
            exact hj112 _ _ _ _ hf hH hS (lv_sub hl [0, 1, 2, 3, 4, 5] rfl)
        exact hL70 _ _ _ _ _ _ hf hH hS (lv_sub hl [0, 1, 2, 3, 4, 5] rfl)
      refine lv_icmp_ne (tgt := 65) hx hb dX12_runs_58 (by decide) (fun hc58 => ?_) (fun hc58 => ?_)
      · refine lv_iconst (v := 0) hx hb dX12_runs_65 (by decide) ?_
        exact W.eq (by rw [if_neg hc58] <;> rfl) (hJ _ _ hH hS)
      · refine lv_iconst (v := 1) hx hb dX12_runs_61 (by decide) ?_
        refine lv_goto (tgt := 66) hx hb dX12_runs_62 (by decide) ?_
        exact W.eq (by rw [if_pos hc58] <;> rfl) (hJ _ _ hH hS)
  exact hL44 _ _ _ _ _ _ hf hH hS (lv_sub hl [0, 1, 2, 3, 4] rfl)
