theorem fz {v : Int32} (h : v = 0 ∨ v = 1) : fits .boolean (.int v) = true := by rcases h with rfl | rfl <;> rfl
def f_X0_takeClause (w : CW) (a2 : Int32) : CW := (nmk (rAt w 8 a2) fun (x8 : Int32) => (if (rAt w 6 a2) = 0 then (nmk (sS w 1 x8) fun w66 => (w66)) else (if (rAt w 6 a2) = 1 then (nmk (sS w 2 x8) fun w74 => (w74)) else (if (rAt w 6 a2) = 2 then (nmk (sS w 3 x8) fun w82 => (w82)) else (if (rAt w 6 a2) = 3 then (nmk (sS w 4 x8) fun w90 => (w90)) else (if (rAt w 6 a2) = 4 then (nmk (sS w 5 x8) fun w98 => (w98)) else (if (rAt w 6 a2) = 6 then (nmk (f_X0_putForm w (rAt w 7 a2) x8 (rAt w 9 a2)) fun q122 => (q122)) else (if (rAt w 6 a2) = 7 then (nmk (f_X0_barForm w (rAt w 7 a2)) fun q137 => (q137)) else (w)))))))))
abbrev rm_X0_takeClause : Room := { frames := 3, cells := 0, slots := 0, locals := 46 }
theorem cn_X0_takeClause : CN yX0_takeClause 2 := ⟨by decide +kernel, by decide +kernel, by decide +kernel⟩
set_option maxHeartbeats 4000000 in
set_option maxRecDepth 100000 in
theorem c_X0_takeClause (l : Launch) (G : GX) (w : CW) (a2 : Int32) (q : CW) (hf : f_X0_takeClause w a2 = q) : MV l G yX0_takeClause cX0_takeClause 4 rm_X0_takeClause [.ref (G.2.2.1 193), .ref (G.2.2.1 192), .int a2] (cA G) (cH G w) (cH G q) := by
  refine cM_start (by decide +kernel) (Nat.le_of_ble_eq_true rfl) ?_
  intro p e s m below meth c ls X hH hl
  have hS : va_S (cA G) s.heap s.heap [] := va_S.rf
  have hx := X.1.1
  have hb := X.1.2.1
  generalize hargs : ([.ref (G.2.2.1 193), .ref (G.2.2.1 192), .int a2] : List Value).toArray = args at X ⊢
  generalize hQ : MQ below (QV (cA G) (cH G q)) args s 0 0 (cA G) = Q
  have hl : lv_has ls 4 [(0, .ref (G.2.2.1 193)), (1, .ref (G.2.2.1 192)), (2, .int a2)] := hl
  unfold f_X0_takeClause at hf
  refine lv_aload_n hx hb dX0_takeClause_0 rfl (lv_at hl 1 rfl) ?_
  refine co_getN X hH 192 (by decide) eO192 rfl inBX10 7 (by decide) rfl bw259 dX0_takeClause_1 ?_
  refine lv_iload_n hx hb dX0_takeClause_4 rfl (lv_at hl 2 rfl) ?_
  refine cGi (cVrun (rest := []) X (cl_X5_at l G w 8 (by decide) a2 _ rfl) bw840 bw628 bw629 bw91 bw630 cn_X5_at ⟨rfl, rfl, Nat.le_of_ble_eq_true rfl, Nat.le_of_ble_eq_true rfl⟩ (c_recR X hH (by decide)) cA_g hH hS hl rfl (Nat.le_of_ble_eq_true rfl) dX0_takeClause_5) hS (fun H locs hH hS => ?_)
  refine lv_topi (fun x8 ex8 => ?_)
  have hf := nm_s hf x8 ex8
  refine lv_istore_n (lv' := [(3, .int x8), (0, .ref (G.2.2.1 193)), (1, .ref (G.2.2.1 192)), (2, .int a2)]) hx hb dX0_takeClause_8 rfl hl (by decide) rfl (fun ls hl => ?_)
  refine lv_aload_n hx hb dX0_takeClause_9 rfl (lv_at hl 2 rfl) ?_
  refine co_getN X hH 192 (by decide) eO192 rfl inBX10 5 (by decide) rfl bw255 dX0_takeClause_10 ?_
  refine lv_iload_n hx hb dX0_takeClause_13 rfl (lv_at hl 3 rfl) ?_
  refine cGi (cVrun (rest := []) X (cl_X5_at l G w 6 (by decide) a2 _ rfl) bw840 bw628 bw629 bw91 bw630 cn_X5_at ⟨rfl, rfl, Nat.le_of_ble_eq_true rfl, Nat.le_of_ble_eq_true rfl⟩ (c_recR X hH (by decide)) cA_g hH hS hl rfl (Nat.le_of_ble_eq_true rfl) dX0_takeClause_14) hS (fun H locs hH hS => ?_)
  by_cases hc0 : (rAt w 6 a2) = 0
  · have hf := fo_t hc0 hf
    refine lv_tableIn (tgt := 64) hx hb dX0_takeClause_17 (by rw [hc0]; decide) (by rw [hc0]; decide) (by rw [hc0]; rfl) (by decide) ?_
    refine lv_aload_n hx hb dX0_takeClause_64 rfl (lv_at hl 1 rfl) ?_
    refine lv_iload_n hx hb dX0_takeClause_65 rfl (lv_at hl 0 rfl) ?_
    refine co_put (C := RX0) (N := 8) X hH hS 193 (by decide) eO193 rfl inBX0 tyX0 tyX0_ok nmX0 0 (by decide) bw292 rfl rfl rfl (by simp) (sS w 1 x8) rfl cE_s1 dX0_takeClause_66 (fun H locs hH hS => ?_)
    obtain ⟨w66, ew66⟩ : ∃ z : CW, z = (sS w 1 x8) := ⟨_, rfl⟩
    have hf := nm_s hf w66 ew66
    have hH : cH G w66 H := ew66 ▸ hH
    refine lv_goto (tgt := 143) hx hb dX0_takeClause_69 (by decide) ?_
    subst hQ
    exact cEv X (cH1 (hf) hH) hS dX0_takeClause_143
  have hf := fo_f hc0 hf
  by_cases hc1 : (rAt w 6 a2) = 1
  · have hf := fo_t hc1 hf
    refine lv_tableIn (tgt := 72) hx hb dX0_takeClause_17 (by rw [hc1]; decide) (by rw [hc1]; decide) (by rw [hc1]; rfl) (by decide) ?_
    refine lv_aload_n hx hb dX0_takeClause_72 rfl (lv_at hl 1 rfl) ?_
    refine lv_iload_n hx hb dX0_takeClause_73 rfl (lv_at hl 0 rfl) ?_
    refine co_put (C := RX0) (N := 8) X hH hS 193 (by decide) eO193 rfl inBX0 tyX0 tyX0_ok nmX0 1 (by decide) bw294 rfl rfl rfl (by simp) (sS w 2 x8) rfl cE_s2 dX0_takeClause_74 (fun H locs hH hS => ?_)
    obtain ⟨w74, ew74⟩ : ∃ z : CW, z = (sS w 2 x8) := ⟨_, rfl⟩
    have hf := nm_s hf w74 ew74
    have hH : cH G w74 H := ew74 ▸ hH
    refine lv_goto (tgt := 143) hx hb dX0_takeClause_77 (by decide) ?_
    subst hQ
    exact cEv X (cH1 (hf) hH) hS dX0_takeClause_143
  have hf := fo_f hc1 hf
  by_cases hc2 : (rAt w 6 a2) = 2
  · have hf := fo_t hc2 hf
    refine lv_tableIn (tgt := 80) hx hb dX0_takeClause_17 (by rw [hc2]; decide) (by rw [hc2]; decide) (by rw [hc2]; rfl) (by decide) ?_
    refine lv_aload_n hx hb dX0_takeClause_80 rfl (lv_at hl 1 rfl) ?_
    refine lv_iload_n hx hb dX0_takeClause_81 rfl (lv_at hl 0 rfl) ?_
    refine co_put (C := RX0) (N := 8) X hH hS 193 (by decide) eO193 rfl inBX0 tyX0 tyX0_ok nmX0 2 (by decide) bw296 rfl rfl rfl (by simp) (sS w 3 x8) rfl cE_s3 dX0_takeClause_82 (fun H locs hH hS => ?_)
    obtain ⟨w82, ew82⟩ : ∃ z : CW, z = (sS w 3 x8) := ⟨_, rfl⟩
    have hf := nm_s hf w82 ew82
    have hH : cH G w82 H := ew82 ▸ hH
    refine lv_goto (tgt := 143) hx hb dX0_takeClause_85 (by decide) ?_
    subst hQ
    exact cEv X (cH1 (hf) hH) hS dX0_takeClause_143
  have hf := fo_f hc2 hf
  by_cases hc3 : (rAt w 6 a2) = 3
  · have hf := fo_t hc3 hf
    refine lv_tableIn (tgt := 88) hx hb dX0_takeClause_17 (by rw [hc3]; decide) (by rw [hc3]; decide) (by rw [hc3]; rfl) (by decide) ?_
    refine lv_aload_n hx hb dX0_takeClause_88 rfl (lv_at hl 1 rfl) ?_
    refine lv_iload_n hx hb dX0_takeClause_89 rfl (lv_at hl 0 rfl) ?_
    refine co_put (C := RX0) (N := 8) X hH hS 193 (by decide) eO193 rfl inBX0 tyX0 tyX0_ok nmX0 3 (by decide) bw298 rfl rfl rfl (by simp) (sS w 4 x8) rfl cE_s4 dX0_takeClause_90 (fun H locs hH hS => ?_)
    obtain ⟨w90, ew90⟩ : ∃ z : CW, z = (sS w 4 x8) := ⟨_, rfl⟩
    have hf := nm_s hf w90 ew90
    have hH : cH G w90 H := ew90 ▸ hH
    refine lv_goto (tgt := 143) hx hb dX0_takeClause_93 (by decide) ?_
    subst hQ
    exact cEv X (cH1 (hf) hH) hS dX0_takeClause_143
  have hf := fo_f hc3 hf
  by_cases hc4 : (rAt w 6 a2) = 4
  · have hf := fo_t hc4 hf
    refine lv_tableIn (tgt := 96) hx hb dX0_takeClause_17 (by rw [hc4]; decide) (by rw [hc4]; decide) (by rw [hc4]; rfl) (by decide) ?_
    refine lv_aload_n hx hb dX0_takeClause_96 rfl (lv_at hl 1 rfl) ?_
    refine lv_iload_n hx hb dX0_takeClause_97 rfl (lv_at hl 0 rfl) ?_
    refine co_put (C := RX0) (N := 8) X hH hS 193 (by decide) eO193 rfl inBX0 tyX0 tyX0_ok nmX0 4 (by decide) bw300 rfl rfl rfl (by simp) (sS w 5 x8) rfl cE_s5 dX0_takeClause_98 (fun H locs hH hS => ?_)
    obtain ⟨w98, ew98⟩ : ∃ z : CW, z = (sS w 5 x8) := ⟨_, rfl⟩
    have hf := nm_s hf w98 ew98
    have hH : cH G w98 H := ew98 ▸ hH
    refine lv_goto (tgt := 143) hx hb dX0_takeClause_101 (by decide) ?_
    subst hQ
    exact cEv X (cH1 (hf) hH) hS dX0_takeClause_143
  have hf := fo_f hc4 hf
  by_cases hc6 : (rAt w 6 a2) = 6
  · have hf := fo_t hc6 hf
    refine lv_tableIn (tgt := 104) hx hb dX0_takeClause_17 (by rw [hc6]; decide) (by rw [hc6]; decide) (by rw [hc6]; rfl) (by decide) ?_
    refine lv_aload_n hx hb dX0_takeClause_104 rfl (lv_at hl 1 rfl) ?_
    refine lv_aload_n hx hb dX0_takeClause_105 rfl (lv_at hl 2 rfl) ?_
    refine co_getN X hH 192 (by decide) eO192 rfl inBX10 6 (by decide) rfl bw257 dX0_takeClause_106 ?_
    refine lv_iload_n hx hb dX0_takeClause_109 rfl (lv_at hl 3 rfl) ?_
    refine cGi (cVrun (rest := [.ref (G.2.2.1 193)]) X (cl_X5_at l G w 7 (by decide) a2 _ rfl) bw840 bw628 bw629 bw91 bw630 cn_X5_at ⟨rfl, rfl, Nat.le_of_ble_eq_true rfl, Nat.le_of_ble_eq_true rfl⟩ (c_recR X hH (by decide)) cA_g hH hS hl rfl (Nat.le_of_ble_eq_true rfl) dX0_takeClause_110) hS (fun H locs hH hS => ?_)
    refine lv_iload_n hx hb dX0_takeClause_113 rfl (lv_at hl 0 rfl) ?_
    refine lv_aload_n hx hb dX0_takeClause_114 rfl (lv_at hl 2 rfl) ?_
    refine co_getN X hH 192 (by decide) eO192 rfl inBX10 8 (by decide) rfl bw261 dX0_takeClause_115 ?_
    refine lv_iload_n hx hb dX0_takeClause_118 rfl (lv_at hl 3 rfl) ?_
    refine cGi (cVrun (rest := [.int x8, .int (rAt w 7 a2), .ref (G.2.2.1 193)]) X (cl_X5_at l G w 9 (by decide) a2 _ rfl) bw840 bw628 bw629 bw91 bw630 cn_X5_at ⟨rfl, rfl, Nat.le_of_ble_eq_true rfl, Nat.le_of_ble_eq_true rfl⟩ (c_recR X hH (by decide)) cA_g hH hS hl rfl (Nat.le_of_ble_eq_true rfl) dX0_takeClause_119) hS (fun H locs hH hS => ?_)
    obtain ⟨q122, hq122, hf⟩ := nm_x hf
    have hq122 := hq122.symm
    refine cGv (cVrun (rest := []) X (c_X0_putForm l G w (rAt w 7 a2) x8 (rAt w 9 a2) q122 hq122) bw849 bw851 bw15 bw97 bw852 cn_X0_putForm ⟨rfl, rfl, Nat.le_of_ble_eq_true rfl, Nat.le_of_ble_eq_true rfl⟩ (c_rec X hH 193 (by decide) eO193 rfl) cA_g hH hS hl rfl (Nat.le_of_ble_eq_true rfl) dX0_takeClause_122) hS (fun H locs hH hS => ?_)
    refine lv_goto (tgt := 143) hx hb dX0_takeClause_125 (by decide) ?_
    subst hQ
    exact cEv X (cH1 (hf) hH) hS dX0_takeClause_143
  have hf := fo_f hc6 hf
  by_cases hc7 : (rAt w 6 a2) = 7
  · have hf := fo_t hc7 hf
    refine lv_tableIn (tgt := 128) hx hb dX0_takeClause_17 (by rw [hc7]; decide) (by rw [hc7]; decide) (by rw [hc7]; rfl) (by decide) ?_
    refine lv_aload_n hx hb dX0_takeClause_128 rfl (lv_at hl 1 rfl) ?_
    refine lv_aload_n hx hb dX0_takeClause_129 rfl (lv_at hl 2 rfl) ?_
    refine co_getN X hH 192 (by decide) eO192 rfl inBX10 6 (by decide) rfl bw257 dX0_takeClause_130 ?_
    refine lv_iload_n hx hb dX0_takeClause_133 rfl (lv_at hl 3 rfl) ?_
    refine cGi (cVrun (rest := [.ref (G.2.2.1 193)]) X (cl_X5_at l G w 7 (by decide) a2 _ rfl) bw840 bw628 bw629 bw91 bw630 cn_X5_at ⟨rfl, rfl, Nat.le_of_ble_eq_true rfl, Nat.le_of_ble_eq_true rfl⟩ (c_recR X hH (by decide)) cA_g hH hS hl rfl (Nat.le_of_ble_eq_true rfl) dX0_takeClause_134) hS (fun H locs hH hS => ?_)
    obtain ⟨q137, hq137, hf⟩ := nm_x hf
    have hq137 := hq137.symm
    refine cGv (cVrun (rest := []) X (c_X0_barForm l G w (rAt w 7 a2) q137 hq137) bw859 bw861 bw16 bw97 bw862 cn_X0_barForm ⟨rfl, rfl, Nat.le_of_ble_eq_true rfl, Nat.le_of_ble_eq_true rfl⟩ (c_rec X hH 193 (by decide) eO193 rfl) cA_g hH hS hl rfl (Nat.le_of_ble_eq_true rfl) dX0_takeClause_137) hS (fun H locs hH hS => ?_)
    refine lv_goto (tgt := 143) hx hb dX0_takeClause_140 (by decide) ?_
    subst hQ
    exact cEv X (cH1 (hf) hH) hS dX0_takeClause_143
  have hf := fo_f hc7 hf
  by_cases hc5 : (rAt w 6 a2) = 5
  · refine lv_tableIn (tgt := 143) hx hb dX0_takeClause_17 (by rw [hc5]; decide) (by rw [hc5]; decide) (by rw [hc5]; rfl) (by decide) ?_
    subst hQ
    exact cEv X (cH1 (hf) hH) hS dX0_takeClause_143
  refine lv_tableOut (tgt := 143) hx hb dX0_takeClause_17 (sw_out (ks := [0, 1, 2, 3, 4, 5, 6, 7]) (by intro k hk; simp only [List.mem_cons, List.not_mem_nil, or_false] at hk; rcases hk with rfl | rfl | rfl | rfl | rfl | rfl | rfl | rfl <;> assumption) (sw_all 0 [0, 1, 2, 3, 4, 5, 6, 7] (by decide))) (by decide) ?_
  subst hQ
  exact cEv X (cH1 (hf) hH) hS dX0_takeClause_143
def f_X0_take_L2 (a2 : Int32) : Nat → Int32 → CW → Option (CW)
  | 0, _, _ => none
  | n2 + 1, v2_3, w2_ => (if (rAt w2_ 5 a2) ≤ v2_3 then (some w2_) else (nmk (f_X0_takeClause w2_ ((a2 * 8) + v2_3)) fun q22 => (nmk (v2_3 + 1) fun (x25 : Int32) => (f_X0_take_L2 a2 n2 x25 q22))))
def f_X0_take (w : CW) (a2 : Int32) : Option (CW) := (f_X0_take_L2 a2 FU 0 w)
abbrev rm_X0_take : Room := { frames := 4, cells := 0, slots := 0, locals := 69 }
theorem cn_X0_take : CN yX0_take 2 := ⟨by decide +kernel, by decide +kernel, by decide +kernel⟩
set_option maxHeartbeats 4000000 in
set_option maxRecDepth 100000 in
theorem c_X0_take (l : Launch) (G : GX) (w : CW) (a2 : Int32) (q : CW) (hf : f_X0_take w a2 = some q) : MV l G yX0_take cX0_take 4 rm_X0_take [.ref (G.2.2.1 193), .ref (G.2.2.1 192), .int a2] (cA G) (cH G w) (cH G q) := by
  refine cM_start (by decide +kernel) (Nat.le_of_ble_eq_true rfl) ?_
  intro p e s m below meth c ls X hH hl
  have hS : va_S (cA G) s.heap s.heap [] := va_S.rf
  have hx := X.1.1
  have hb := X.1.2.1
  generalize hargs : ([.ref (G.2.2.1 193), .ref (G.2.2.1 192), .int a2] : List Value).toArray = args at X ⊢
  generalize hQ : MQ below (QV (cA G) (cH G q)) args s 0 0 (cA G) = Q
  have hl : lv_has ls 4 [(0, .ref (G.2.2.1 193)), (1, .ref (G.2.2.1 192)), (2, .int a2)] := hl
  unfold f_X0_take at hf
  refine lv_iconst (v := 0) hx hb dX0_take_0 (by decide) ?_
  refine lv_istore_n (lv' := [(3, .int 0), (0, .ref (G.2.2.1 193)), (1, .ref (G.2.2.1 192)), (2, .int a2)]) hx hb dX0_take_1 rfl hl (by decide) rfl (fun ls hl => ?_)
  have hL2 : ∀ (n2 : Nat) (v2_3 : Int32) (w2_ : CW) (H : Heap) (locs : List Loc) (ls : Array Slot), f_X0_take_L2 a2 n2 v2_3 w2_ = some q → cH G w2_ H → va_S (cA G) s.heap H locs → lv_has ls 4 [(3, .int v2_3), (0, .ref (G.2.2.1 193)), (1, .ref (G.2.2.1 192)), (2, .int a2)] → W p l e rm_X0_take s m args below meth c H locs 0 0 Q (F0 m 2 ls []) := by
    intro n2
    induction n2 with
    | zero => intro v2_3 w2_ H locs ls hf; rw [f_X0_take_L2] at hf; cases hf
    | succ n2 ih2 =>
      intro v2_3 w2_ H locs ls hf hH hS hl
      rw [f_X0_take_L2] at hf
      refine lv_iload_n hx hb dX0_take_2 rfl (lv_at hl 0 rfl) ?_
      refine lv_aload_n hx hb dX0_take_3 rfl (lv_at hl 2 rfl) ?_
      refine co_getN X hH 192 (by decide) eO192 rfl inBX10 4 (by decide) rfl bw253 dX0_take_4 ?_
      refine lv_iload_n hx hb dX0_take_7 rfl (lv_at hl 3 rfl) ?_
      refine cGi (cVrun (rest := [.int v2_3]) X (cl_X5_at l G w2_ 5 (by decide) a2 _ rfl) bw840 bw628 bw629 bw91 bw630 cn_X5_at ⟨rfl, rfl, Nat.le_of_ble_eq_true rfl, Nat.le_of_ble_eq_true rfl⟩ (c_recR X hH (by decide)) cA_g hH hS hl rfl (Nat.le_of_ble_eq_true rfl) dX0_take_8) hS (fun H locs hH hS => ?_)
      refine lv_icmp_ge (tgt := 31) hx hb dX0_take_11 (by decide) (fun hc => ?_) (fun hc => ?_)
      · have hf := fo_t hc hf
        subst hQ
        exact cEv X (cH1 (so_s hf) hH) hS dX0_take_31
      have hf := fo_f hc hf
      refine lv_aload_n hx hb dX0_take_14 rfl (lv_at hl 1 rfl) ?_
      refine lv_aload_n hx hb dX0_take_15 rfl (lv_at hl 2 rfl) ?_
      refine lv_iload_n hx hb dX0_take_16 rfl (lv_at hl 3 rfl) ?_
      refine lv_bipush (v := 8) hx hb dX0_take_17 (by decide) ?_
      refine lv_imul hx hb dX0_take_19 ?_
      refine lv_iload_n hx hb dX0_take_20 rfl (lv_at hl 0 rfl) ?_
      refine lv_iadd hx hb dX0_take_21 ?_
      obtain ⟨q22, hq22, hf⟩ := nm_x hf
      have hq22 := hq22.symm
      refine cGv (cVrun (rest := []) X (c_X0_takeClause l G w2_ ((a2 * 8) + v2_3) q22 hq22) bw845 bw847 bw14 bw97 bw848 cn_X0_takeClause ⟨rfl, rfl, Nat.le_of_ble_eq_true rfl, Nat.le_of_ble_eq_true rfl⟩ (c_rec X hH 193 (by decide) eO193 rfl) cA_g hH hS hl rfl (Nat.le_of_ble_eq_true rfl) dX0_take_22) hS (fun H locs hH hS => ?_)
      obtain ⟨x25, ex25⟩ : ∃ z : Int32, z = (v2_3 + 1) := ⟨_, rfl⟩
      have hf := nm_s hf x25 ex25
      refine lv_iinc (v := x25) (lv' := [(3, .int x25), (0, .ref (G.2.2.1 193)), (1, .ref (G.2.2.1 192)), (2, .int a2)]) hx hb dX0_take_25 hl (k := 0) rfl (by rw [ex25]; rfl) (by decide) rfl (fun ls hl => ?_)
      refine lv_goto (tgt := 2) hx hb dX0_take_28 (by decide) ?_
      exact ih2 _ _ _ _ _ hf hH hS (lv_sub hl [0, 1, 2, 3] rfl)
  exact hL2 _ _ _ _ _ _ hf hH hS (lv_sub hl [0, 1, 2, 3] rfl)
def f_X10_nextSlot (w : CW) : Int32 := ((f_X5_size w 2))
abbrev rm_X10_nextSlot : Room := { frames := 2, cells := 0, slots := 0, locals := 20 }
theorem cn_X10_nextSlot : CN yX10_nextSlot 0 := ⟨by decide +kernel, by decide +kernel, by decide +kernel⟩
set_option maxHeartbeats 4000000 in
set_option maxRecDepth 100000 in
theorem c_X10_nextSlot (l : Launch) (G : GX) (w : CW) (q : Int32) (hf : f_X10_nextSlot w = q) : MI l G yX10_nextSlot cX10_nextSlot 1 (some .int) rm_X10_nextSlot [.ref (G.2.2.1 192)] (cA G) (cH G w) (cH G w) q := by
  refine cM_start (by decide +kernel) (Nat.le_of_ble_eq_true rfl) ?_
  intro p e s m below meth c ls X hH hl
  have hS : va_S (cA G) s.heap s.heap [] := va_S.rf
  have hx := X.1.1
  have hb := X.1.2.1
  generalize hargs : ([.ref (G.2.2.1 192)] : List Value).toArray = args at X ⊢
  generalize hQ : MQ below (QI (cA G) (cH G w) q) args s 0 0 (cA G) = Q
  have hl : lv_has ls 1 [(0, .ref (G.2.2.1 192))] := hl
  unfold f_X10_nextSlot at hf
  refine lv_aload_n hx hb dX10_nextSlot_0 rfl (lv_at hl 0 rfl) ?_
  refine co_get X hH 192 (by decide) eO192 rfl inBX10 1 (by decide) rfl bw246 dX10_nextSlot_1 ?_
  refine cGi (cVrun (rest := []) X (c_X5_size l G w 2 (by decide) _ rfl) bw705 bw624 bw625 bw91 bw626 cn_X5_size ⟨rfl, rfl, Nat.le_of_ble_eq_true rfl, Nat.le_of_ble_eq_true rfl⟩ (c_recR X hH (by decide)) cA_g hH hS hl rfl (Nat.le_of_ble_eq_true rfl) dX10_nextSlot_4) hS (fun H locs hH hS => ?_)
  subst hQ
  exact cEi X hH hS (hf) dX10_nextSlot_7
def f_X0_within (a0 : Int32) (a1 : Int32) (a2 : Int32) : Int32 := ((if a0 < (if a2 < a1 then a2 else a1) then (if a2 < a1 then a2 else a1) else a0))
abbrev rm_X0_within : Room := { frames := 1, cells := 0, slots := 0, locals := 24 }
theorem cn_X0_within : CN yX0_within 3 := ⟨by decide +kernel, by decide +kernel, by decide +kernel⟩
set_option maxHeartbeats 4000000 in
set_option maxRecDepth 100000 in
theorem c_X0_within (l : Launch) (G : GX) (P : Heap → Prop) (A : Nat → Prop) (hAG : ∀ q, A q → gA G q) (a0 : Int32) (a1 : Int32) (a2 : Int32) (q : Int32) (hf : f_X0_within a0 a1 a2 = q) : MI l G yX0_within cX0_within 3 (some .int) rm_X0_within [.int a0, .int a1, .int a2] A P P q := by
  refine cM_start (by decide +kernel) (Nat.le_of_ble_eq_true rfl) ?_
  intro p e s m below meth c ls X hH hl
  have hS : va_S A s.heap s.heap [] := va_S.rf
  have hx := X.1.1
  have hb := X.1.2.1
  generalize hargs : ([.int a0, .int a1, .int a2] : List Value).toArray = args at X ⊢
  generalize hQ : MQ below (QI A P q) args s 0 0 A = Q
  have hl : lv_has ls 3 [(0, .int a0), (1, .int a1), (2, .int a2)] := hl
  unfold f_X0_within at hf
  refine lv_iload_n hx hb dX0_within_0 rfl (lv_at hl 0 rfl) ?_
  refine lv_iload_n hx hb dX0_within_1 rfl (lv_at hl 1 rfl) ?_
  refine lv_iload_n hx hb dX0_within_2 rfl (lv_at hl 2 rfl) ?_
  refine va_mmin hx hb (X.1.2.2.1.trans hl.1.symm) X.1.2.2.2.1 (X.w bw871) (X.w bw231) (X.w bw93) (X.w bw232) (Nat.le_of_ble_eq_true rfl) (Nat.le_of_ble_eq_true rfl) (Nat.zero_le _) (Nat.zero_le _) dX0_within_3 ?_
  refine va_mmax hx hb (X.1.2.2.1.trans hl.1.symm) X.1.2.2.2.1 (X.w bw872) (X.w bw197) (X.w bw93) (X.w bw198) (Nat.le_of_ble_eq_true rfl) (Nat.le_of_ble_eq_true rfl) (Nat.zero_le _) (Nat.zero_le _) dX0_within_6 ?_
  subst hQ
  exact cEi X hH hS (hf) dX0_within_9
def f_X0_gather_L36 (a2 : Int32) (j85 : CW → Option (CW)) : Nat → Int32 → CW → Option (CW)
  | 0, _, _ => none
  | n36 + 1, v36_4, w36_ => (if (f_X5_size w36_ 3) ≤ v36_4 then (j85 w36_) else (nmk (rAt w36_ 3 v36_4) fun (x57 : Int32) => (nmk (fun (w79_ : CW) => (nmk (v36_4 + 1) fun (x79 : Int32) => (f_X0_gather_L36 a2 j85 n36 x79 w79_))) fun j79 => (if a2 < (rAt w36_ 2 x57) then (j79 w36_) else (Option.bind (f_X0_take w36_ x57) fun q76 => (j79 q76))))))
def f_X0_gather (w : CW) (a2 : Int32) (a3 : Int32) : Option (CW) := (nmk (sS w 1 12) fun w3 => (nmk (sS w3 2 1) fun w8 => (nmk (sS w8 3 3) fun w13 => (nmk (sS w13 4 5) fun w18 => (nmk (sS w18 5 1) fun w23 => (nmk (f_X5_clear w23 37) fun q30 => (nmk (fun (w85_ : CW) => (nmk (fun (w98_ : CW) => (nmk (sS w98_ 1 (f_X0_within 10 (w98_.2.2 1) 40)) fun w110 => (nmk (sS w110 2 (f_X0_within 1 (w110.2.2 2) 9)) fun w124 => (nmk (sS w124 3 (if (w124.2.2 2) < (f_X0_within 1 (w124.2.2 3) 9) then (f_X0_within 1 (w124.2.2 3) 9) else (w124.2.2 2))) fun w145 => (some w145))))) fun j98 => (if a3 = 0 then (j98 w85_) else (Option.bind (f_X0_take w85_ (f_X10_nextSlot w85_)) fun q95 => (j98 q95))))) fun j85 => (f_X0_gather_L36 a2 j85 FU 0 q30))))))))
abbrev rm_X0_gather : Room := { frames := 5, cells := 0, slots := 0, locals := 92 }
theorem cn_X0_gather : CN yX0_gather 3 := ⟨by decide +kernel, by decide +kernel, by decide +kernel⟩
set_option maxHeartbeats 4000000 in
set_option maxRecDepth 100000 in
theorem c_X0_gather (l : Launch) (G : GX) (w : CW) (a2 : Int32) (a3 : Int32) (q : CW) (hf : f_X0_gather w a2 a3 = some q) : MV l G yX0_gather cX0_gather 6 rm_X0_gather [.ref (G.2.2.1 193), .ref (G.2.2.1 192), .int a2, .int a3] (cA G) (cH G w) (cH G q) := by
  refine cM_start (by decide +kernel) (Nat.le_of_ble_eq_true rfl) ?_
  intro p e s m below meth c ls X hH hl
  have hS : va_S (cA G) s.heap s.heap [] := va_S.rf
  have hx := X.1.1
  have hb := X.1.2.1
  generalize hargs : ([.ref (G.2.2.1 193), .ref (G.2.2.1 192), .int a2, .int a3] : List Value).toArray = args at X ⊢
  generalize hQ : MQ below (QV (cA G) (cH G q)) args s 0 0 (cA G) = Q
  have hl : lv_has ls 6 [(0, .ref (G.2.2.1 193)), (1, .ref (G.2.2.1 192)), (2, .int a2), (3, .int a3)] := hl
  unfold f_X0_gather at hf
  refine lv_aload_n hx hb dX0_gather_0 rfl (lv_at hl 0 rfl) ?_
  refine lv_bipush (v := 12) hx hb dX0_gather_1 (by decide) ?_
  refine co_put (C := RX0) (N := 8) X hH hS 193 (by decide) eO193 rfl inBX0 tyX0 tyX0_ok nmX0 0 (by decide) bw292 rfl rfl rfl (by simp) (sS w 1 12) rfl cE_s1 dX0_gather_3 (fun H locs hH hS => ?_)
  obtain ⟨w3, ew3⟩ : ∃ z : CW, z = (sS w 1 12) := ⟨_, rfl⟩
  have hf := nm_s hf w3 ew3
  have hH : cH G w3 H := ew3 ▸ hH
  refine lv_aload_n hx hb dX0_gather_6 rfl (lv_at hl 0 rfl) ?_
  refine lv_iconst (v := 1) hx hb dX0_gather_7 (by decide) ?_
  refine co_put (C := RX0) (N := 8) X hH hS 193 (by decide) eO193 rfl inBX0 tyX0 tyX0_ok nmX0 1 (by decide) bw294 rfl rfl rfl (by simp) (sS w3 2 1) rfl cE_s2 dX0_gather_8 (fun H locs hH hS => ?_)
  obtain ⟨w8, ew8⟩ : ∃ z : CW, z = (sS w3 2 1) := ⟨_, rfl⟩
  have hf := nm_s hf w8 ew8
  have hH : cH G w8 H := ew8 ▸ hH
  refine lv_aload_n hx hb dX0_gather_11 rfl (lv_at hl 0 rfl) ?_
  refine lv_iconst (v := 3) hx hb dX0_gather_12 (by decide) ?_
  refine co_put (C := RX0) (N := 8) X hH hS 193 (by decide) eO193 rfl inBX0 tyX0 tyX0_ok nmX0 2 (by decide) bw296 rfl rfl rfl (by simp) (sS w8 3 3) rfl cE_s3 dX0_gather_13 (fun H locs hH hS => ?_)
  obtain ⟨w13, ew13⟩ : ∃ z : CW, z = (sS w8 3 3) := ⟨_, rfl⟩
  have hf := nm_s hf w13 ew13
  have hH : cH G w13 H := ew13 ▸ hH
  refine lv_aload_n hx hb dX0_gather_16 rfl (lv_at hl 0 rfl) ?_
  refine lv_iconst (v := 5) hx hb dX0_gather_17 (by decide) ?_
  refine co_put (C := RX0) (N := 8) X hH hS 193 (by decide) eO193 rfl inBX0 tyX0 tyX0_ok nmX0 3 (by decide) bw298 rfl rfl rfl (by simp) (sS w13 4 5) rfl cE_s4 dX0_gather_18 (fun H locs hH hS => ?_)
  obtain ⟨w18, ew18⟩ : ∃ z : CW, z = (sS w13 4 5) := ⟨_, rfl⟩
  have hf := nm_s hf w18 ew18
  have hH : cH G w18 H := ew18 ▸ hH
  refine lv_aload_n hx hb dX0_gather_21 rfl (lv_at hl 0 rfl) ?_
  refine lv_iconst (v := 1) hx hb dX0_gather_22 (by decide) ?_
  refine co_put (C := RX0) (N := 8) X hH hS 193 (by decide) eO193 rfl inBX0 tyX0 tyX0_ok nmX0 4 (by decide) bw300 rfl rfl rfl (by simp) (sS w18 5 1) rfl cE_s5 dX0_gather_23 (fun H locs hH hS => ?_)
  obtain ⟨w23, ew23⟩ : ∃ z : CW, z = (sS w18 5 1) := ⟨_, rfl⟩
  have hf := nm_s hf w23 ew23
  have hH : cH G w23 H := ew23 ▸ hH
  refine lv_aload_n hx hb dX0_gather_26 rfl (lv_at hl 0 rfl) ?_
  refine co_get X hH 193 (by decide) eO193 rfl inBX0 5 (by decide) rfl bw302 dX0_gather_27 ?_
  obtain ⟨q30, hq30, hf⟩ := nm_x hf
  have hq30 := hq30.symm
  refine cGv (cVrun (rest := []) X (c_X5_clear l G w23 37 (by decide) q30 hq30) bw838 bw809 bw810 bw91 bw811 cn_X5_clear ⟨rfl, rfl, Nat.le_of_ble_eq_true rfl, Nat.le_of_ble_eq_true rfl⟩ (c_recR X hH (by decide)) cA_g hH hS hl rfl (Nat.le_of_ble_eq_true rfl) dX0_gather_30) hS (fun H locs hH hS => ?_)
  refine lv_iconst (v := 0) hx hb dX0_gather_33 (by decide) ?_
  refine lv_istore (lv' := [(4, .int 0), (0, .ref (G.2.2.1 193)), (1, .ref (G.2.2.1 192)), (2, .int a2), (3, .int a3)]) hx hb dX0_gather_34 hl (by decide) rfl (fun ls hl => ?_)
  obtain ⟨j85, ej85, hf⟩ := nm_x hf
  have hj85 : ∀ (w85_ : CW) (H : Heap) (locs : List Loc) (ls : Array Slot), j85 w85_ = some q → cH G w85_ H → va_S (cA G) s.heap H locs → lv_has ls 6 [(0, .ref (G.2.2.1 193)), (1, .ref (G.2.2.1 192)), (3, .int a3)] → W p l e rm_X0_gather s m args below meth c H locs 0 0 Q (F0 m 85 ls []) := by
    intro w85_ H locs ls hf hH hS hl
    have hf := jb1 ej85 hf
    refine lv_iload_n hx hb dX0_gather_85 rfl (lv_at hl 2 rfl) ?_
    obtain ⟨j98, ej98, hf⟩ := nm_x hf
    have hj98 : ∀ (w98_ : CW) (H : Heap) (locs : List Loc) (ls : Array Slot), j98 w98_ = some q → cH G w98_ H → va_S (cA G) s.heap H locs → lv_has ls 6 [(0, .ref (G.2.2.1 193))] → W p l e rm_X0_gather s m args below meth c H locs 0 0 Q (F0 m 98 ls []) := by
      intro w98_ H locs ls hf hH hS hl
      have hf := jb1 ej98 hf
      refine lv_aload_n hx hb dX0_gather_98 rfl (lv_at hl 0 rfl) ?_
      refine lv_bipush (v := 10) hx hb dX0_gather_99 (by decide) ?_
      refine lv_aload_n hx hb dX0_gather_101 rfl (lv_at hl 0 rfl) ?_
      refine co_get X hH 193 (by decide) eO193 rfl inBX0 0 (by decide) rfl bw292 dX0_gather_102 ?_
      refine lv_bipush (v := 40) hx hb dX0_gather_105 (by decide) ?_
      refine cGi (cSrun (rest := [.ref (G.2.2.1 193)]) X (c_X0_within l G (cH G w98_) (cA G) cA_g 10 (w98_.2.2 1) 40 _ rfl) bw868 bw869 bw97 bw870 cn_X0_within ⟨rfl, rfl, Nat.le_of_ble_eq_true rfl, Nat.le_of_ble_eq_true rfl⟩ cA_g hH hS hl rfl (Nat.le_of_ble_eq_true rfl) dX0_gather_107) hS (fun H locs hH hS => ?_)
      refine co_put (C := RX0) (N := 8) X hH hS 193 (by decide) eO193 rfl inBX0 tyX0 tyX0_ok nmX0 0 (by decide) bw292 rfl rfl rfl (by simp) (sS w98_ 1 (f_X0_within 10 (w98_.2.2 1) 40)) rfl cE_s1 dX0_gather_110 (fun H locs hH hS => ?_)
      obtain ⟨w110, ew110⟩ : ∃ z : CW, z = (sS w98_ 1 (f_X0_within 10 (w98_.2.2 1) 40)) := ⟨_, rfl⟩
      have hf := nm_s hf w110 ew110
      have hH : cH G w110 H := ew110 ▸ hH
      refine lv_aload_n hx hb dX0_gather_113 rfl (lv_at hl 0 rfl) ?_
      refine lv_iconst (v := 1) hx hb dX0_gather_114 (by decide) ?_
      refine lv_aload_n hx hb dX0_gather_115 rfl (lv_at hl 0 rfl) ?_
      refine co_get X hH 193 (by decide) eO193 rfl inBX0 1 (by decide) rfl bw294 dX0_gather_116 ?_
      refine lv_bipush (v := 9) hx hb dX0_gather_119 (by decide) ?_
      refine cGi (cSrun (rest := [.ref (G.2.2.1 193)]) X (c_X0_within l G (cH G w110) (cA G) cA_g 1 (w110.2.2 2) 9 _ rfl) bw868 bw869 bw97 bw870 cn_X0_within ⟨rfl, rfl, Nat.le_of_ble_eq_true rfl, Nat.le_of_ble_eq_true rfl⟩ cA_g hH hS hl rfl (Nat.le_of_ble_eq_true rfl) dX0_gather_121) hS (fun H locs hH hS => ?_)
      refine co_put (C := RX0) (N := 8) X hH hS 193 (by decide) eO193 rfl inBX0 tyX0 tyX0_ok nmX0 1 (by decide) bw294 rfl rfl rfl (by simp) (sS w110 2 (f_X0_within 1 (w110.2.2 2) 9)) rfl cE_s2 dX0_gather_124 (fun H locs hH hS => ?_)
      obtain ⟨w124, ew124⟩ : ∃ z : CW, z = (sS w110 2 (f_X0_within 1 (w110.2.2 2) 9)) := ⟨_, rfl⟩
      have hf := nm_s hf w124 ew124
      have hH : cH G w124 H := ew124 ▸ hH
      refine lv_aload_n hx hb dX0_gather_127 rfl (lv_at hl 0 rfl) ?_
      refine lv_aload_n hx hb dX0_gather_128 rfl (lv_at hl 0 rfl) ?_
      refine co_get X hH 193 (by decide) eO193 rfl inBX0 1 (by decide) rfl bw294 dX0_gather_129 ?_
      refine lv_iconst (v := 1) hx hb dX0_gather_132 (by decide) ?_
      refine lv_aload_n hx hb dX0_gather_133 rfl (lv_at hl 0 rfl) ?_
      refine co_get X hH 193 (by decide) eO193 rfl inBX0 2 (by decide) rfl bw296 dX0_gather_134 ?_
      refine lv_bipush (v := 9) hx hb dX0_gather_137 (by decide) ?_
      refine cGi (cSrun (rest := [.int (w124.2.2 2), .ref (G.2.2.1 193)]) X (c_X0_within l G (cH G w124) (cA G) cA_g 1 (w124.2.2 3) 9 _ rfl) bw868 bw869 bw97 bw870 cn_X0_within ⟨rfl, rfl, Nat.le_of_ble_eq_true rfl, Nat.le_of_ble_eq_true rfl⟩ cA_g hH hS hl rfl (Nat.le_of_ble_eq_true rfl) dX0_gather_139) hS (fun H locs hH hS => ?_)
      refine va_mmax hx hb (X.1.2.2.1.trans hl.1.symm) X.1.2.2.2.1 (X.w bw872) (X.w bw197) (X.w bw93) (X.w bw198) (Nat.le_of_ble_eq_true rfl) (Nat.le_of_ble_eq_true rfl) (Nat.zero_le _) (Nat.zero_le _) dX0_gather_142 ?_
      refine co_put (C := RX0) (N := 8) X hH hS 193 (by decide) eO193 rfl inBX0 tyX0 tyX0_ok nmX0 2 (by decide) bw296 rfl rfl rfl (by simp) (sS w124 3 (if (w124.2.2 2) < (f_X0_within 1 (w124.2.2 3) 9) then (f_X0_within 1 (w124.2.2 3) 9) else (w124.2.2 2))) rfl cE_s3 dX0_gather_145 (fun H locs hH hS => ?_)
      obtain ⟨w145, ew145⟩ : ∃ z : CW, z = (sS w124 3 (if (w124.2.2 2) < (f_X0_within 1 (w124.2.2 3) 9) then (f_X0_within 1 (w124.2.2 3) 9) else (w124.2.2 2))) := ⟨_, rfl⟩
      have hf := nm_s hf w145 ew145
      have hH : cH G w145 H := ew145 ▸ hH
      subst hQ
      exact cEv X (cH1 (so_s hf) hH) hS dX0_gather_148
    refine lv_if_eq (tgt := 98) hx hb dX0_gather_86 (by decide) (fun hc => ?_) (fun hc => ?_)
    · have hf := fo_t hc hf
      exact hj98 _ _ _ _ hf hH hS (lv_sub hl [0] rfl)
    have hf := fo_f hc hf
    refine lv_aload_n hx hb dX0_gather_89 rfl (lv_at hl 0 rfl) ?_
    refine lv_aload_n hx hb dX0_gather_90 rfl (lv_at hl 1 rfl) ?_
    refine lv_aload_n hx hb dX0_gather_91 rfl (lv_at hl 1 rfl) ?_
    refine cGi (cVrun (rest := [.ref (G.2.2.1 192), .ref (G.2.2.1 193)]) X (c_X10_nextSlot l G w85_ _ rfl) bw867 bw702 bw703 bw96 bw704 cn_X10_nextSlot ⟨rfl, rfl, Nat.le_of_ble_eq_true rfl, Nat.le_of_ble_eq_true rfl⟩ (c_rec X hH 192 (by decide) eO192 rfl) cA_g hH hS hl rfl (Nat.le_of_ble_eq_true rfl) dX0_gather_92) hS (fun H locs hH hS => ?_)
    obtain ⟨q95, hq95, hf⟩ := bd_s hf
    refine cGv (cVrun (rest := []) X (c_X0_take l G w85_ (f_X10_nextSlot w85_) q95 hq95) bw841 bw843 bw13 bw97 bw844 cn_X0_take ⟨rfl, rfl, Nat.le_of_ble_eq_true rfl, Nat.le_of_ble_eq_true rfl⟩ (c_rec X hH 193 (by decide) eO193 rfl) cA_g hH hS hl rfl (Nat.le_of_ble_eq_true rfl) dX0_gather_95) hS (fun H locs hH hS => ?_)
    exact hj98 _ _ _ _ hf hH hS (lv_sub hl [0] rfl)
  have hL36 : ∀ (n36 : Nat) (v36_4 : Int32) (w36_ : CW) (H : Heap) (locs : List Loc) (ls : Array Slot), f_X0_gather_L36 a2 j85 n36 v36_4 w36_ = some q → cH G w36_ H → va_S (cA G) s.heap H locs → lv_has ls 6 [(4, .int v36_4), (0, .ref (G.2.2.1 193)), (1, .ref (G.2.2.1 192)), (2, .int a2), (3, .int a3)] → W p l e rm_X0_gather s m args below meth c H locs 0 0 Q (F0 m 36 ls []) := by
    intro n36
    induction n36 with
    | zero => intro v36_4 w36_ H locs ls hf; rw [f_X0_gather_L36] at hf; cases hf
    | succ n36 ih36 =>
      intro v36_4 w36_ H locs ls hf hH hS hl
      rw [f_X0_gather_L36] at hf
      refine lv_iload hx hb dX0_gather_36 (lv_at hl 0 rfl) ?_
      refine lv_aload_n hx hb dX0_gather_38 rfl (lv_at hl 2 rfl) ?_
      refine co_getN X hH 192 (by decide) eO192 rfl inBX10 2 (by decide) rfl bw250 dX0_gather_39 ?_
      refine cGi (cVrun (rest := [.int v36_4]) X (c_X5_size l G w36_ 3 (by decide) _ rfl) bw839 bw624 bw625 bw91 bw626 cn_X5_size ⟨rfl, rfl, Nat.le_of_ble_eq_true rfl, Nat.le_of_ble_eq_true rfl⟩ (c_recR X hH (by decide)) cA_g hH hS hl rfl (Nat.le_of_ble_eq_true rfl) dX0_gather_42) hS (fun H locs hH hS => ?_)
      refine lv_icmp_ge (tgt := 85) hx hb dX0_gather_45 (by decide) (fun hc => ?_) (fun hc => ?_)
      · have hf := fo_t hc hf
        exact hj85 _ _ _ _ hf hH hS (lv_sub hl [1, 2, 4] rfl)
      have hf := fo_f hc hf
      refine lv_aload_n hx hb dX0_gather_48 rfl (lv_at hl 2 rfl) ?_
      refine co_getN X hH 192 (by decide) eO192 rfl inBX10 2 (by decide) rfl bw250 dX0_gather_49 ?_
      refine lv_iload hx hb dX0_gather_52 (lv_at hl 0 rfl) ?_
      refine cGi (cVrun (rest := []) X (cl_X5_at l G w36_ 3 (by decide) v36_4 _ rfl) bw840 bw628 bw629 bw91 bw630 cn_X5_at ⟨rfl, rfl, Nat.le_of_ble_eq_true rfl, Nat.le_of_ble_eq_true rfl⟩ (c_recR X hH (by decide)) cA_g hH hS hl rfl (Nat.le_of_ble_eq_true rfl) dX0_gather_54) hS (fun H locs hH hS => ?_)
      refine lv_topi (fun x57 ex57 => ?_)
      have hf := nm_s hf x57 ex57
      refine lv_istore (lv' := [(5, .int x57), (4, .int v36_4), (0, .ref (G.2.2.1 193)), (1, .ref (G.2.2.1 192)), (2, .int a2), (3, .int a3)]) hx hb dX0_gather_57 hl (by decide) rfl (fun ls hl => ?_)
      refine lv_aload_n hx hb dX0_gather_59 rfl (lv_at hl 3 rfl) ?_
      refine co_getN X hH 192 (by decide) eO192 rfl inBX10 1 (by decide) rfl bw247 dX0_gather_60 ?_
      refine lv_iload hx hb dX0_gather_63 (lv_at hl 0 rfl) ?_
      refine cGi (cVrun (rest := []) X (cl_X5_at l G w36_ 2 (by decide) x57 _ rfl) bw840 bw628 bw629 bw91 bw630 cn_X5_at ⟨rfl, rfl, Nat.le_of_ble_eq_true rfl, Nat.le_of_ble_eq_true rfl⟩ (c_recR X hH (by decide)) cA_g hH hS hl rfl (Nat.le_of_ble_eq_true rfl) dX0_gather_65) hS (fun H locs hH hS => ?_)
      refine lv_iload_n hx hb dX0_gather_68 rfl (lv_at hl 4 rfl) ?_
      obtain ⟨j79, ej79, hf⟩ := nm_x hf
      have hj79 : ∀ (w79_ : CW) (H : Heap) (locs : List Loc) (ls : Array Slot), j79 w79_ = some q → cH G w79_ H → va_S (cA G) s.heap H locs → lv_has ls 6 [(4, .int v36_4), (0, .ref (G.2.2.1 193)), (1, .ref (G.2.2.1 192)), (2, .int a2), (3, .int a3)] → W p l e rm_X0_gather s m args below meth c H locs 0 0 Q (F0 m 79 ls []) := by
        intro w79_ H locs ls hf hH hS hl
        have hf := jb1 ej79 hf
        obtain ⟨x79, ex79⟩ : ∃ z : Int32, z = (v36_4 + 1) := ⟨_, rfl⟩
        have hf := nm_s hf x79 ex79
        refine lv_iinc (v := x79) (lv' := [(4, .int x79), (0, .ref (G.2.2.1 193)), (1, .ref (G.2.2.1 192)), (2, .int a2), (3, .int a3)]) hx hb dX0_gather_79 hl (k := 0) rfl (by rw [ex79]; rfl) (by decide) rfl (fun ls hl => ?_)
        refine lv_goto (tgt := 36) hx hb dX0_gather_82 (by decide) ?_
        exact ih36 _ _ _ _ _ hf hH hS (lv_sub hl [0, 1, 2, 3, 4] rfl)
      refine lv_icmp_gt (tgt := 79) hx hb dX0_gather_69 (by decide) (fun hc => ?_) (fun hc => ?_)
      · have hf := fo_t hc hf
        exact hj79 _ _ _ _ hf hH hS (lv_sub hl [1, 2, 3, 4, 5] rfl)
      have hf := fo_f hc hf
      refine lv_aload_n hx hb dX0_gather_72 rfl (lv_at hl 2 rfl) ?_
      refine lv_aload_n hx hb dX0_gather_73 rfl (lv_at hl 3 rfl) ?_
      refine lv_iload hx hb dX0_gather_74 (lv_at hl 0 rfl) ?_
      obtain ⟨q76, hq76, hf⟩ := bd_s hf
      refine cGv (cVrun (rest := []) X (c_X0_take l G w36_ x57 q76 hq76) bw841 bw843 bw13 bw97 bw844 cn_X0_take ⟨rfl, rfl, Nat.le_of_ble_eq_true rfl, Nat.le_of_ble_eq_true rfl⟩ (c_rec X hH 193 (by decide) eO193 rfl) cA_g hH hS hl rfl (Nat.le_of_ble_eq_true rfl) dX0_gather_76) hS (fun H locs hH hS => ?_)
      exact hj79 _ _ _ _ hf hH hS (lv_sub hl [1, 2, 3, 4, 5] rfl)
  exact hL36 _ _ _ _ _ _ hf hH hS (lv_sub hl [0, 1, 2, 3, 4] rfl)
def f_X0_told (w : CW) (a1 : Int32) : Int32 := (if a1 = 0 then ((w.2.2 1)) else (if a1 = 1 then ((w.2.2 2)) else (if a1 = 2 then ((w.2.2 3)) else (if a1 = 3 then ((w.2.2 4)) else (if a1 = 4 then ((w.2.2 5)) else ((f_X5_size w 37)))))))
abbrev rm_X0_told : Room := { frames := 2, cells := 0, slots := 0, locals := 20 }
theorem cn_X0_told : CN yX0_told 1 := ⟨by decide +kernel, by decide +kernel, by decide +kernel⟩
set_option maxHeartbeats 4000000 in
set_option maxRecDepth 100000 in
theorem c_X0_told (l : Launch) (G : GX) (w : CW) (a1 : Int32) (q : Int32) (hf : f_X0_told w a1 = q) : MI l G yX0_told cX0_told 2 (some .int) rm_X0_told [.ref (G.2.2.1 193), .int a1] (cA G) (cH G w) (cH G w) q := by
  refine cM_start (by decide +kernel) (Nat.le_of_ble_eq_true rfl) ?_
  intro p e s m below meth c ls X hH hl
  have hS : va_S (cA G) s.heap s.heap [] := va_S.rf
  have hx := X.1.1
  have hb := X.1.2.1
  generalize hargs : ([.ref (G.2.2.1 193), .int a1] : List Value).toArray = args at X ⊢
  generalize hQ : MQ below (QI (cA G) (cH G w) q) args s 0 0 (cA G) = Q
  have hl : lv_has ls 2 [(0, .ref (G.2.2.1 193)), (1, .int a1)] := hl
  unfold f_X0_told at hf
  refine lv_iload_n hx hb dX0_told_0 rfl (lv_at hl 1 rfl) ?_
  by_cases hc0 : a1 = 0
  · have hf := fo_t hc0 hf
    refine lv_tableIn (tgt := 36) hx hb dX0_told_1 (by rw [hc0]; decide) (by rw [hc0]; decide) (by rw [hc0]; rfl) (by decide) ?_
    refine lv_aload_n hx hb dX0_told_36 rfl (lv_at hl 0 rfl) ?_
    refine co_get X hH 193 (by decide) eO193 rfl inBX0 0 (by decide) rfl bw292 dX0_told_37 ?_
    subst hQ
    exact cEi X hH hS (hf) dX0_told_40
  have hf := fo_f hc0 hf
  by_cases hc1 : a1 = 1
  · have hf := fo_t hc1 hf
    refine lv_tableIn (tgt := 41) hx hb dX0_told_1 (by rw [hc1]; decide) (by rw [hc1]; decide) (by rw [hc1]; rfl) (by decide) ?_
    refine lv_aload_n hx hb dX0_told_41 rfl (lv_at hl 0 rfl) ?_
    refine co_get X hH 193 (by decide) eO193 rfl inBX0 1 (by decide) rfl bw294 dX0_told_42 ?_
    subst hQ
    exact cEi X hH hS (hf) dX0_told_45
  have hf := fo_f hc1 hf
  by_cases hc2 : a1 = 2
  · have hf := fo_t hc2 hf
    refine lv_tableIn (tgt := 46) hx hb dX0_told_1 (by rw [hc2]; decide) (by rw [hc2]; decide) (by rw [hc2]; rfl) (by decide) ?_
    refine lv_aload_n hx hb dX0_told_46 rfl (lv_at hl 0 rfl) ?_
    refine co_get X hH 193 (by decide) eO193 rfl inBX0 2 (by decide) rfl bw296 dX0_told_47 ?_
    subst hQ
    exact cEi X hH hS (hf) dX0_told_50
  have hf := fo_f hc2 hf
  by_cases hc3 : a1 = 3
  · have hf := fo_t hc3 hf
    refine lv_tableIn (tgt := 51) hx hb dX0_told_1 (by rw [hc3]; decide) (by rw [hc3]; decide) (by rw [hc3]; rfl) (by decide) ?_
    refine lv_aload_n hx hb dX0_told_51 rfl (lv_at hl 0 rfl) ?_
    refine co_get X hH 193 (by decide) eO193 rfl inBX0 3 (by decide) rfl bw298 dX0_told_52 ?_
    subst hQ
    exact cEi X hH hS (hf) dX0_told_55
  have hf := fo_f hc3 hf
  by_cases hc4 : a1 = 4
  · have hf := fo_t hc4 hf
    refine lv_tableIn (tgt := 56) hx hb dX0_told_1 (by rw [hc4]; decide) (by rw [hc4]; decide) (by rw [hc4]; rfl) (by decide) ?_
    refine lv_aload_n hx hb dX0_told_56 rfl (lv_at hl 0 rfl) ?_
    refine co_get X hH 193 (by decide) eO193 rfl inBX0 4 (by decide) rfl bw300 dX0_told_57 ?_
    subst hQ
    exact cEi X hH hS (hf) dX0_told_60
  have hf := fo_f hc4 hf
  refine lv_tableOut (tgt := 61) hx hb dX0_told_1 (sw_out (ks := [0, 1, 2, 3, 4]) (by intro k hk; simp only [List.mem_cons, List.not_mem_nil, or_false] at hk; rcases hk with rfl | rfl | rfl | rfl | rfl <;> assumption) (sw_all 0 [0, 1, 2, 3, 4] (by decide))) (by decide) ?_
  refine lv_aload_n hx hb dX0_told_61 rfl (lv_at hl 0 rfl) ?_
  refine co_get X hH 193 (by decide) eO193 rfl inBX0 5 (by decide) rfl bw302 dX0_told_62 ?_
  refine cGi (cVrun (rest := []) X (c_X5_size l G w 37 (by decide) _ rfl) bw839 bw624 bw625 bw91 bw626 cn_X5_size ⟨rfl, rfl, Nat.le_of_ble_eq_true rfl, Nat.le_of_ble_eq_true rfl⟩ (c_recR X hH (by decide)) cA_g hH hS hl rfl (Nat.le_of_ble_eq_true rfl) dX0_told_65) hS (fun H locs hH hS => ?_)
  subst hQ
  exact cEi X hH hS (hf) dX0_told_68
def f_X0_formOf (w : CW) (a1 : Int32) : Int32 := ((rIndexOf w 37 a1))
abbrev rm_X0_formOf : Room := { frames := 2, cells := 0, slots := 0, locals := 22 }
theorem cn_X0_formOf : CN yX0_formOf 1 := ⟨by decide +kernel, by decide +kernel, by decide +kernel⟩
set_option maxHeartbeats 4000000 in
set_option maxRecDepth 100000 in
theorem c_X0_formOf (l : Launch) (G : GX) (w : CW) (a1 : Int32) (q : Int32) (hf : f_X0_formOf w a1 = q) : MI l G yX0_formOf cX0_formOf 2 (some .int) rm_X0_formOf [.ref (G.2.2.1 193), .int a1] (cA G) (cH G w) (cH G w) q := by
  refine cM_start (by decide +kernel) (Nat.le_of_ble_eq_true rfl) ?_
  intro p e s m below meth c ls X hH hl
  have hS : va_S (cA G) s.heap s.heap [] := va_S.rf
  have hx := X.1.1
  have hb := X.1.2.1
  generalize hargs : ([.ref (G.2.2.1 193), .int a1] : List Value).toArray = args at X ⊢
  generalize hQ : MQ below (QI (cA G) (cH G w) q) args s 0 0 (cA G) = Q
  have hl : lv_has ls 2 [(0, .ref (G.2.2.1 193)), (1, .int a1)] := hl
  unfold f_X0_formOf at hf
  refine lv_aload_n hx hb dX0_formOf_0 rfl (lv_at hl 0 rfl) ?_
  refine co_get X hH 193 (by decide) eO193 rfl inBX0 5 (by decide) rfl bw302 dX0_formOf_1 ?_
  refine lv_iload_n hx hb dX0_formOf_4 rfl (lv_at hl 1 rfl) ?_
  refine cGi (cVrun (rest := []) X (cl_X5_indexOf l G w 37 (by decide) a1 _ rfl) bw853 bw854 bw855 bw91 bw856 cn_X5_indexOf ⟨rfl, rfl, Nat.le_of_ble_eq_true rfl, Nat.le_of_ble_eq_true rfl⟩ (c_recR X hH (by decide)) cA_g hH hS hl rfl (Nat.le_of_ble_eq_true rfl) dX0_formOf_5) hS (fun H locs hH hS => ?_)
  subst hQ
  exact cEi X hH hS (hf) dX0_formOf_8
def f_X6_isBlank (w : CW) (a1 : Int32) : Int32 := ((if (rAt w 40 a1) = (-1) then 1 else 0))
abbrev rm_X6_isBlank : Room := { frames := 2, cells := 0, slots := 0, locals := 21 }
theorem cn_X6_isBlank : CN yX6_isBlank 1 := ⟨by decide +kernel, by decide +kernel, by decide +kernel⟩
set_option maxHeartbeats 4000000 in
set_option maxRecDepth 100000 in
theorem c_X6_isBlank (l : Launch) (G : GX) (w : CW) (a1 : Int32) (q : Int32) (hf : f_X6_isBlank w a1 = q) : MI l G yX6_isBlank cX6_isBlank 2 (some .boolean) rm_X6_isBlank [.ref (G.2.2.1 196), .int a1] (cA G) (cH G w) (cH G w) q := by
  refine cM_start (by decide +kernel) (Nat.le_of_ble_eq_true rfl) ?_
  intro p e s m below meth c ls X hH hl
  have hS : va_S (cA G) s.heap s.heap [] := va_S.rf
  have hx := X.1.1
  have hb := X.1.2.1
  generalize hargs : ([.ref (G.2.2.1 196), .int a1] : List Value).toArray = args at X ⊢
  generalize hQ : MQ below (QI (cA G) (cH G w) q) args s 0 0 (cA G) = Q
  have hl : lv_has ls 2 [(0, .ref (G.2.2.1 196)), (1, .int a1)] := hl
  unfold f_X6_isBlank at hf
  refine lv_aload_n hx hb dX6_isBlank_0 rfl (lv_at hl 0 rfl) ?_
  refine co_get X hH 196 (by decide) eO196 rfl inBX6 2 (by decide) rfl bw388 dX6_isBlank_1 ?_
  refine lv_iload_n hx hb dX6_isBlank_4 rfl (lv_at hl 1 rfl) ?_
  refine cGi (cVrun (rest := []) X (cl_X5_at l G w 40 (by decide) a1 _ rfl) bw929 bw628 bw629 bw91 bw630 cn_X5_at ⟨rfl, rfl, Nat.le_of_ble_eq_true rfl, Nat.le_of_ble_eq_true rfl⟩ (c_recR X hH (by decide)) cA_g hH hS hl rfl (Nat.le_of_ble_eq_true rfl) dX6_isBlank_5) hS (fun H locs hH hS => ?_)
  refine lv_iconst (v := (-1)) hx hb dX6_isBlank_8 (by decide) ?_
  have hJ : ∀ (H : Heap) (locs : List Loc), cH G w H → va_S (cA G) s.heap H locs → W p l e rm_X6_isBlank s m args below meth c H locs 0 0 Q (F0 m 17 ls [.int (if (rAt w 40 a1) = (-1) then 1 else 0)]) := by
    intro H locs hH hS
    subst hQ
    exact cEz X hH hS (hf) (nz (zb_ite zb1 zb0)) dX6_isBlank_17
  refine lv_icmp_ne (tgt := 16) hx hb dX6_isBlank_9 (by decide) (fun hc9 => ?_) (fun hc9 => ?_)
  · refine lv_iconst (v := 0) hx hb dX6_isBlank_16 (by decide) ?_
    exact W.eq (by rw [if_neg hc9] <;> rfl) (hJ _ _ hH hS)
  · refine lv_iconst (v := 1) hx hb dX6_isBlank_12 (by decide) ?_
    refine lv_goto (tgt := 17) hx hb dX6_isBlank_13 (by decide) ?_
    exact W.eq (by rw [if_pos hc9] <;> rfl) (hJ _ _ hH hS)
theorem zb_X6_isBlank (w : CW) (a1 : Int32) : f_X6_isBlank w a1 = 0 ∨ f_X6_isBlank w a1 = 1 := by
  unfold f_X6_isBlank
  try simp only [nmk]
  repeat' (first | exact zb0 | exact zb1 | refine zb_ite ?_ ?_)
def f_X6_joined_L2 (w : CW) (a1 : Int32) (a2 : Int32) : Nat → Int32 → Option (Int32)
  | 0, _ => none
  | n2 + 1, v2_3 => (if (a1 + a2) ≤ v2_3 then (some 1) else (if (f_X5_size w 40) ≤ v2_3 then (some 0) else (if (f_X6_isBlank w v2_3) = 0 then (nmk (v2_3 + 1) fun (x30 : Int32) => (f_X6_joined_L2 w a1 a2 n2 x30)) else (some 0))))
def f_X6_joined (w : CW) (a1 : Int32) (a2 : Int32) : Option (Int32) := (f_X6_joined_L2 w a1 a2 FU a1)
abbrev rm_X6_joined : Room := { frames := 3, cells := 0, slots := 0, locals := 42 }
theorem cn_X6_joined : CN yX6_joined 2 := ⟨by decide +kernel, by decide +kernel, by decide +kernel⟩
set_option maxHeartbeats 4000000 in
set_option maxRecDepth 100000 in
theorem c_X6_joined (l : Launch) (G : GX) (w : CW) (a1 : Int32) (a2 : Int32) (q : Int32) (hf : f_X6_joined w a1 a2 = some q) : MZ l G yX6_joined cX6_joined 4 (some .boolean) rm_X6_joined [.ref (G.2.2.1 196), .int a1, .int a2] (cA G) (cH G w) (cH G w) q := by
  refine cM_start (by decide +kernel) (Nat.le_of_ble_eq_true rfl) ?_
  intro p e s m below meth c ls X hH hl
  have hS : va_S (cA G) s.heap s.heap [] := va_S.rf
  have hx := X.1.1
  have hb := X.1.2.1
  generalize hargs : ([.ref (G.2.2.1 196), .int a1, .int a2] : List Value).toArray = args at X ⊢
  generalize hQ : MQ below (QZ (cA G) (cH G w) q) args s 0 0 (cA G) = Q
  have hl : lv_has ls 4 [(0, .ref (G.2.2.1 196)), (1, .int a1), (2, .int a2)] := hl
  unfold f_X6_joined at hf
  refine lv_iload_n hx hb dX6_joined_0 rfl (lv_at hl 1 rfl) ?_
  refine lv_istore_n (lv' := [(3, .int a1), (0, .ref (G.2.2.1 196)), (1, .int a1), (2, .int a2)]) hx hb dX6_joined_1 rfl hl (by decide) rfl (fun ls hl => ?_)
  have hL2 : ∀ (n2 : Nat) (v2_3 : Int32) (H : Heap) (locs : List Loc) (ls : Array Slot), f_X6_joined_L2 w a1 a2 n2 v2_3 = some q → cH G w H → va_S (cA G) s.heap H locs → lv_has ls 4 [(3, .int v2_3), (0, .ref (G.2.2.1 196)), (1, .int a1), (2, .int a2)] → W p l e rm_X6_joined s m args below meth c H locs 0 0 Q (F0 m 2 ls []) := by
    intro n2
    induction n2 with
    | zero => intro v2_3 H locs ls hf; rw [f_X6_joined_L2] at hf; cases hf
    | succ n2 ih2 =>
      intro v2_3 H locs ls hf hH hS hl
      rw [f_X6_joined_L2] at hf
      refine lv_iload_n hx hb dX6_joined_2 rfl (lv_at hl 0 rfl) ?_
      refine lv_iload_n hx hb dX6_joined_3 rfl (lv_at hl 2 rfl) ?_
      refine lv_iload_n hx hb dX6_joined_4 rfl (lv_at hl 3 rfl) ?_
      refine lv_iadd hx hb dX6_joined_5 ?_
      refine lv_icmp_ge (tgt := 36) hx hb dX6_joined_6 (by decide) (fun hc => ?_) (fun hc => ?_)
      · have hf := fo_t hc hf
        refine lv_iconst (v := 1) hx hb dX6_joined_36 (by decide) ?_
        subst hQ
        exact cEzz X hH hS (so_s hf) zb1 dX6_joined_37
      have hf := fo_f hc hf
      refine lv_iload_n hx hb dX6_joined_9 rfl (lv_at hl 0 rfl) ?_
      refine lv_aload_n hx hb dX6_joined_10 rfl (lv_at hl 1 rfl) ?_
      refine co_get X hH 196 (by decide) eO196 rfl inBX6 2 (by decide) rfl bw388 dX6_joined_11 ?_
      refine cGi (cVrun (rest := [.int v2_3]) X (c_X5_size l G w 40 (by decide) _ rfl) bw928 bw624 bw625 bw91 bw626 cn_X5_size ⟨rfl, rfl, Nat.le_of_ble_eq_true rfl, Nat.le_of_ble_eq_true rfl⟩ (c_recR X hH (by decide)) cA_g hH hS hl rfl (Nat.le_of_ble_eq_true rfl) dX6_joined_14) hS (fun H locs hH hS => ?_)
      refine lv_icmp_ge (tgt := 28) hx hb dX6_joined_17 (by decide) (fun hc => ?_) (fun hc => ?_)
      · have hf := fo_t hc hf
        refine lv_iconst (v := 0) hx hb dX6_joined_28 (by decide) ?_
        subst hQ
        exact cEzz X hH hS (so_s hf) zb0 dX6_joined_29
      have hf := fo_f hc hf
      refine lv_aload_n hx hb dX6_joined_20 rfl (lv_at hl 1 rfl) ?_
      refine lv_iload_n hx hb dX6_joined_21 rfl (lv_at hl 0 rfl) ?_
      refine cGi (cVrun (rest := []) X (c_X6_isBlank l G w v2_3 _ rfl) bw934 bw936 bw20 bw100 bw937 cn_X6_isBlank ⟨rfl, rfl, Nat.le_of_ble_eq_true rfl, Nat.le_of_ble_eq_true rfl⟩ (c_rec X hH 196 (by decide) eO196 rfl) cA_g hH hS hl rfl (Nat.le_of_ble_eq_true rfl) dX6_joined_22) hS (fun H locs hH hS => ?_)
      refine lv_if_eq (tgt := 30) hx hb dX6_joined_25 (by decide) (fun hc => ?_) (fun hc => ?_)
      rotate_left
      · have hf := fo_f hc hf
        refine lv_iconst (v := 0) hx hb dX6_joined_28 (by decide) ?_
        subst hQ
        exact cEzz X hH hS (so_s hf) zb0 dX6_joined_29
      have hf := fo_t hc hf
      obtain ⟨x30, ex30⟩ : ∃ z : Int32, z = (v2_3 + 1) := ⟨_, rfl⟩
      have hf := nm_s hf x30 ex30
      refine lv_iinc (v := x30) (lv' := [(3, .int x30), (0, .ref (G.2.2.1 196)), (1, .int a1), (2, .int a2)]) hx hb dX6_joined_30 hl (k := 0) rfl (by rw [ex30]; rfl) (by decide) rfl (fun ls hl => ?_)
      refine lv_goto (tgt := 2) hx hb dX6_joined_33 (by decide) ?_
      exact ih2 _ _ _ _ hf hH hS (lv_sub hl [0, 1, 2, 3] rfl)
  exact hL2 _ _ _ _ _ hf hH hS (lv_sub hl [0, 1, 2, 3] rfl)
def f_X6_findForms_L2  : Nat → Int32 → CW → Option (CW)
  | 0, _, _ => none
  | n2 + 1, v2_1, w2_ => (if (f_X5_size w2_ 40) ≤ v2_1 then (some w2_) else (nmk (((rAt w2_ 40 v2_1) * 100) + (rAt w2_ 40 (v2_1 + 1))) fun (x35 : Int32) => (Option.bind (f_X6_joined w2_ v2_1 2) fun q44 => (nmk (rPut w2_ 42 v2_1 (if q44 = 0 then (-1) else (f_X0_formOf w2_ ((x35 * 100) + 99)))) fun q68 => (Option.bind (f_X6_joined q68 v2_1 3) fun q79 => (nmk (rPut q68 41 v2_1 (if q79 = 0 then (-1) else (f_X0_formOf q68 ((x35 * 100) + (rAt q68 40 (v2_1 + 2)))))) fun q111 => (nmk (v2_1 + 1) fun (x114 : Int32) => (f_X6_findForms_L2 n2 x114 q111))))))))
def f_X6_findForms (w : CW) : Option (CW) := (f_X6_findForms_L2 FU 0 w)
abbrev rm_X6_findForms : Room := { frames := 4, cells := 0, slots := 0, locals := 65 }
theorem cn_X6_findForms : CN yX6_findForms 0 := ⟨by decide +kernel, by decide +kernel, by decide +kernel⟩
set_option maxHeartbeats 4000000 in
set_option maxRecDepth 100000 in
theorem c_X6_findForms (l : Launch) (G : GX) (w : CW) (q : CW) (hf : f_X6_findForms w = some q) : MV l G yX6_findForms cX6_findForms 3 rm_X6_findForms [.ref (G.2.2.1 196)] (cA G) (cH G w) (cH G q) := by
  refine cM_start (by decide +kernel) (Nat.le_of_ble_eq_true rfl) ?_
  intro p e s m below meth c ls X hH hl
  have hS : va_S (cA G) s.heap s.heap [] := va_S.rf
  have hx := X.1.1
  have hb := X.1.2.1
  generalize hargs : ([.ref (G.2.2.1 196)] : List Value).toArray = args at X ⊢
  generalize hQ : MQ below (QV (cA G) (cH G q)) args s 0 0 (cA G) = Q
  have hl : lv_has ls 3 [(0, .ref (G.2.2.1 196))] := hl
  unfold f_X6_findForms at hf
  refine lv_iconst (v := 0) hx hb dX6_findForms_0 (by decide) ?_
  refine lv_istore_n (lv' := [(1, .int 0), (0, .ref (G.2.2.1 196))]) hx hb dX6_findForms_1 rfl hl (by decide) rfl (fun ls hl => ?_)
  have hL2 : ∀ (n2 : Nat) (v2_1 : Int32) (w2_ : CW) (H : Heap) (locs : List Loc) (ls : Array Slot), f_X6_findForms_L2 n2 v2_1 w2_ = some q → cH G w2_ H → va_S (cA G) s.heap H locs → lv_has ls 3 [(1, .int v2_1), (0, .ref (G.2.2.1 196))] → W p l e rm_X6_findForms s m args below meth c H locs 0 0 Q (F0 m 2 ls []) := by
    intro n2
    induction n2 with
    | zero => intro v2_1 w2_ H locs ls hf; rw [f_X6_findForms_L2] at hf; cases hf
    | succ n2 ih2 =>
      intro v2_1 w2_ H locs ls hf hH hS hl
      rw [f_X6_findForms_L2] at hf
      refine lv_iload_n hx hb dX6_findForms_2 rfl (lv_at hl 0 rfl) ?_
      refine lv_aload_n hx hb dX6_findForms_3 rfl (lv_at hl 1 rfl) ?_
      refine co_get X hH 196 (by decide) eO196 rfl inBX6 2 (by decide) rfl bw388 dX6_findForms_4 ?_
      refine cGi (cVrun (rest := [.int v2_1]) X (c_X5_size l G w2_ 40 (by decide) _ rfl) bw928 bw624 bw625 bw91 bw626 cn_X5_size ⟨rfl, rfl, Nat.le_of_ble_eq_true rfl, Nat.le_of_ble_eq_true rfl⟩ (c_recR X hH (by decide)) cA_g hH hS hl rfl (Nat.le_of_ble_eq_true rfl) dX6_findForms_7) hS (fun H locs hH hS => ?_)
      refine lv_icmp_ge (tgt := 120) hx hb dX6_findForms_10 (by decide) (fun hc => ?_) (fun hc => ?_)
      · have hf := fo_t hc hf
        subst hQ
        exact cEv X (cH1 (so_s hf) hH) hS dX6_findForms_120
      have hf := fo_f hc hf
      refine lv_aload_n hx hb dX6_findForms_13 rfl (lv_at hl 1 rfl) ?_
      refine co_get X hH 196 (by decide) eO196 rfl inBX6 2 (by decide) rfl bw388 dX6_findForms_14 ?_
      refine lv_iload_n hx hb dX6_findForms_17 rfl (lv_at hl 0 rfl) ?_
      refine cGi (cVrun (rest := []) X (cl_X5_at l G w2_ 40 (by decide) v2_1 _ rfl) bw929 bw628 bw629 bw91 bw630 cn_X5_at ⟨rfl, rfl, Nat.le_of_ble_eq_true rfl, Nat.le_of_ble_eq_true rfl⟩ (c_recR X hH (by decide)) cA_g hH hS hl rfl (Nat.le_of_ble_eq_true rfl) dX6_findForms_18) hS (fun H locs hH hS => ?_)
      refine lv_bipush (v := 100) hx hb dX6_findForms_21 (by decide) ?_
      refine lv_imul hx hb dX6_findForms_23 ?_
      refine lv_aload_n hx hb dX6_findForms_24 rfl (lv_at hl 1 rfl) ?_
      refine co_get X hH 196 (by decide) eO196 rfl inBX6 2 (by decide) rfl bw388 dX6_findForms_25 ?_
      refine lv_iload_n hx hb dX6_findForms_28 rfl (lv_at hl 0 rfl) ?_
      refine lv_iconst (v := 1) hx hb dX6_findForms_29 (by decide) ?_
      refine lv_iadd hx hb dX6_findForms_30 ?_
      refine cGi (cVrun (rest := [.int ((rAt w2_ 40 v2_1) * 100)]) X (cl_X5_at l G w2_ 40 (by decide) (v2_1 + 1) _ rfl) bw929 bw628 bw629 bw91 bw630 cn_X5_at ⟨rfl, rfl, Nat.le_of_ble_eq_true rfl, Nat.le_of_ble_eq_true rfl⟩ (c_recR X hH (by decide)) cA_g hH hS hl rfl (Nat.le_of_ble_eq_true rfl) dX6_findForms_31) hS (fun H locs hH hS => ?_)
      refine lv_iadd hx hb dX6_findForms_34 ?_
      refine lv_topi (fun x35 ex35 => ?_)
      have hf := nm_s hf x35 ex35
      refine lv_istore_n (lv' := [(2, .int x35), (1, .int v2_1), (0, .ref (G.2.2.1 196))]) hx hb dX6_findForms_35 rfl hl (by decide) rfl (fun ls hl => ?_)
      refine lv_aload_n hx hb dX6_findForms_36 rfl (lv_at hl 2 rfl) ?_
      refine co_get X hH 196 (by decide) eO196 rfl inBX6 4 (by decide) rfl bw391 dX6_findForms_37 ?_
      refine lv_iload_n hx hb dX6_findForms_40 rfl (lv_at hl 1 rfl) ?_
      refine lv_aload_n hx hb dX6_findForms_41 rfl (lv_at hl 2 rfl) ?_
      refine lv_iload_n hx hb dX6_findForms_42 rfl (lv_at hl 1 rfl) ?_
      refine lv_iconst (v := 2) hx hb dX6_findForms_43 (by decide) ?_
      obtain ⟨q44, hq44, hf⟩ := bd_s hf
      refine cGz (cVrun (rest := [.int v2_1, .ref (G.2.2.1 42)]) X (c_X6_joined l G w2_ v2_1 2 q44 hq44) bw930 bw932 bw19 bw100 bw933 cn_X6_joined ⟨rfl, rfl, Nat.le_of_ble_eq_true rfl, Nat.le_of_ble_eq_true rfl⟩ (c_rec X hH 196 (by decide) eO196 rfl) cA_g hH hS hl rfl (Nat.le_of_ble_eq_true rfl) dX6_findForms_44) hS (fun hz44 H locs hH hS => ?_)
      have hJ : ∀ (H : Heap) (locs : List Loc), cH G w2_ H → va_S (cA G) s.heap H locs → W p l e rm_X6_findForms s m args below meth c H locs 0 0 Q (F0 m 68 ls [.int (if q44 = 0 then (-1) else (f_X0_formOf w2_ ((x35 * 100) + 99))), .int v2_1, .ref (G.2.2.1 42)]) := by
        intro H locs hH hS
        obtain ⟨q68, hq68, hf⟩ := nm_x hf
        have hq68 := hq68.symm
        refine cGv (cVrun (rest := []) X (cl_X5_put l G w2_ 42 (by decide) v2_1 (if q44 = 0 then (-1) else (f_X0_formOf w2_ ((x35 * 100) + 99))) q68 hq68) bw942 bw352 bw353 bw91 bw354 cn_X5_put ⟨rfl, rfl, Nat.le_of_ble_eq_true rfl, Nat.le_of_ble_eq_true rfl⟩ (c_recR X hH (by decide)) cA_g hH hS hl rfl (Nat.le_of_ble_eq_true rfl) dX6_findForms_68) hS (fun H locs hH hS => ?_)
        refine lv_aload_n hx hb dX6_findForms_71 rfl (lv_at hl 2 rfl) ?_
        refine co_get X hH 196 (by decide) eO196 rfl inBX6 3 (by decide) rfl bw390 dX6_findForms_72 ?_
        refine lv_iload_n hx hb dX6_findForms_75 rfl (lv_at hl 1 rfl) ?_
        refine lv_aload_n hx hb dX6_findForms_76 rfl (lv_at hl 2 rfl) ?_
        refine lv_iload_n hx hb dX6_findForms_77 rfl (lv_at hl 1 rfl) ?_
        refine lv_iconst (v := 3) hx hb dX6_findForms_78 (by decide) ?_
        obtain ⟨q79, hq79, hf⟩ := bd_s hf
        refine cGz (cVrun (rest := [.int v2_1, .ref (G.2.2.1 41)]) X (c_X6_joined l G q68 v2_1 3 q79 hq79) bw930 bw932 bw19 bw100 bw933 cn_X6_joined ⟨rfl, rfl, Nat.le_of_ble_eq_true rfl, Nat.le_of_ble_eq_true rfl⟩ (c_rec X hH 196 (by decide) eO196 rfl) cA_g hH hS hl rfl (Nat.le_of_ble_eq_true rfl) dX6_findForms_79) hS (fun hz79 H locs hH hS => ?_)
        have hJ : ∀ (H : Heap) (locs : List Loc), cH G q68 H → va_S (cA G) s.heap H locs → W p l e rm_X6_findForms s m args below meth c H locs 0 0 Q (F0 m 111 ls [.int (if q79 = 0 then (-1) else (f_X0_formOf q68 ((x35 * 100) + (rAt q68 40 (v2_1 + 2))))), .int v2_1, .ref (G.2.2.1 41)]) := by
          intro H locs hH hS
          obtain ⟨q111, hq111, hf⟩ := nm_x hf
          have hq111 := hq111.symm
          refine cGv (cVrun (rest := []) X (cl_X5_put l G q68 41 (by decide) v2_1 (if q79 = 0 then (-1) else (f_X0_formOf q68 ((x35 * 100) + (rAt q68 40 (v2_1 + 2))))) q111 hq111) bw942 bw352 bw353 bw91 bw354 cn_X5_put ⟨rfl, rfl, Nat.le_of_ble_eq_true rfl, Nat.le_of_ble_eq_true rfl⟩ (c_recR X hH (by decide)) cA_g hH hS hl rfl (Nat.le_of_ble_eq_true rfl) dX6_findForms_111) hS (fun H locs hH hS => ?_)
          obtain ⟨x114, ex114⟩ : ∃ z : Int32, z = (v2_1 + 1) := ⟨_, rfl⟩
          have hf := nm_s hf x114 ex114
          refine lv_iinc (v := x114) (lv' := [(1, .int x114), (2, .int x35), (0, .ref (G.2.2.1 196))]) hx hb dX6_findForms_114 hl (k := 1) rfl (by rw [ex114]; rfl) (by decide) rfl (fun ls hl => ?_)
          refine lv_goto (tgt := 2) hx hb dX6_findForms_117 (by decide) ?_
          exact ih2 _ _ _ _ _ hf hH hS (lv_sub hl [0, 2] rfl)
        refine lv_if_eq (tgt := 110) hx hb dX6_findForms_82 (by decide) (fun hc82 => ?_) (fun hc82 => ?_)
        · refine lv_iconst (v := (-1)) hx hb dX6_findForms_110 (by decide) ?_
          exact W.eq (by rw [if_pos hc82] <;> rfl) (hJ _ _ hH hS)
        · refine lv_aload_n hx hb dX6_findForms_85 rfl (lv_at hl 2 rfl) ?_
          refine co_get X hH 196 (by decide) eO196 rfl inBX6 0 (by decide) rfl bw386 dX6_findForms_86 ?_
          refine lv_iload_n hx hb dX6_findForms_89 rfl (lv_at hl 0 rfl) ?_
          refine lv_bipush (v := 100) hx hb dX6_findForms_90 (by decide) ?_
          refine lv_imul hx hb dX6_findForms_92 ?_
          refine lv_aload_n hx hb dX6_findForms_93 rfl (lv_at hl 2 rfl) ?_
          refine co_get X hH 196 (by decide) eO196 rfl inBX6 2 (by decide) rfl bw388 dX6_findForms_94 ?_
          refine lv_iload_n hx hb dX6_findForms_97 rfl (lv_at hl 1 rfl) ?_
          refine lv_iconst (v := 2) hx hb dX6_findForms_98 (by decide) ?_
          refine lv_iadd hx hb dX6_findForms_99 ?_
          refine cGi (cVrun (rest := [.int (x35 * 100), .ref (G.2.2.1 193), .int v2_1, .ref (G.2.2.1 41)]) X (cl_X5_at l G q68 40 (by decide) (v2_1 + 2) _ rfl) bw929 bw628 bw629 bw91 bw630 cn_X5_at ⟨rfl, rfl, Nat.le_of_ble_eq_true rfl, Nat.le_of_ble_eq_true rfl⟩ (c_recR X hH (by decide)) cA_g hH hS hl rfl (Nat.le_of_ble_eq_true rfl) dX6_findForms_100) hS (fun H locs hH hS => ?_)
          refine lv_iadd hx hb dX6_findForms_103 ?_
          refine cGi (cVrun (rest := [.int v2_1, .ref (G.2.2.1 41)]) X (c_X0_formOf l G q68 ((x35 * 100) + (rAt q68 40 (v2_1 + 2))) _ rfl) bw938 bw939 bw940 bw97 bw941 cn_X0_formOf ⟨rfl, rfl, Nat.le_of_ble_eq_true rfl, Nat.le_of_ble_eq_true rfl⟩ (c_rec X hH 193 (by decide) eO193 rfl) cA_g hH hS hl rfl (Nat.le_of_ble_eq_true rfl) dX6_findForms_104) hS (fun H locs hH hS => ?_)
          refine lv_goto (tgt := 111) hx hb dX6_findForms_107 (by decide) ?_
          exact W.eq (by rw [if_neg hc82] <;> rfl) (hJ _ _ hH hS)
      refine lv_if_eq (tgt := 67) hx hb dX6_findForms_47 (by decide) (fun hc47 => ?_) (fun hc47 => ?_)
      · refine lv_iconst (v := (-1)) hx hb dX6_findForms_67 (by decide) ?_
        exact W.eq (by rw [if_pos hc47] <;> rfl) (hJ _ _ hH hS)
      · refine lv_aload_n hx hb dX6_findForms_50 rfl (lv_at hl 2 rfl) ?_
        refine co_get X hH 196 (by decide) eO196 rfl inBX6 0 (by decide) rfl bw386 dX6_findForms_51 ?_
        refine lv_iload_n hx hb dX6_findForms_54 rfl (lv_at hl 0 rfl) ?_
        refine lv_bipush (v := 100) hx hb dX6_findForms_55 (by decide) ?_
        refine lv_imul hx hb dX6_findForms_57 ?_
        refine lv_bipush (v := 99) hx hb dX6_findForms_58 (by decide) ?_
        refine lv_iadd hx hb dX6_findForms_60 ?_
        refine cGi (cVrun (rest := [.int v2_1, .ref (G.2.2.1 42)]) X (c_X0_formOf l G w2_ ((x35 * 100) + 99) _ rfl) bw938 bw939 bw940 bw97 bw941 cn_X0_formOf ⟨rfl, rfl, Nat.le_of_ble_eq_true rfl, Nat.le_of_ble_eq_true rfl⟩ (c_rec X hH 193 (by decide) eO193 rfl) cA_g hH hS hl rfl (Nat.le_of_ble_eq_true rfl) dX6_findForms_61) hS (fun H locs hH hS => ?_)
        refine lv_goto (tgt := 68) hx hb dX6_findForms_64 (by decide) ?_
        exact W.eq (by rw [if_neg hc47] <;> rfl) (hJ _ _ hH hS)
  exact hL2 _ _ _ _ _ _ hf hH hS (lv_sub hl [0, 1] rfl)
def f_X6_addChoice (w : CW) (a1 : Int32) (a2 : Int32) (a3 : Int32) : CW := (if a2 ≤ 0 then (w) else (nmk (rPush w 43 a1) fun q9 => (nmk (rPush q9 44 a2) fun q17 => (nmk (rPush q17 45 a3) fun q25 => (q25)))))
abbrev rm_X6_addChoice : Room := { frames := 2, cells := 0, slots := 0, locals := 21 }
theorem cn_X6_addChoice : CN yX6_addChoice 3 := ⟨by decide +kernel, by decide +kernel, by decide +kernel⟩
set_option maxHeartbeats 4000000 in
set_option maxRecDepth 100000 in
theorem c_X6_addChoice (l : Launch) (G : GX) (w : CW) (a1 : Int32) (a2 : Int32) (a3 : Int32) (q : CW) (hf : f_X6_addChoice w a1 a2 a3 = q) : MV l G yX6_addChoice cX6_addChoice 4 rm_X6_addChoice [.ref (G.2.2.1 196), .int a1, .int a2, .int a3] (cA G) (cH G w) (cH G q) := by
  refine cM_start (by decide +kernel) (Nat.le_of_ble_eq_true rfl) ?_
  intro p e s m below meth c ls X hH hl
  have hS : va_S (cA G) s.heap s.heap [] := va_S.rf
  have hx := X.1.1
  have hb := X.1.2.1
  generalize hargs : ([.ref (G.2.2.1 196), .int a1, .int a2, .int a3] : List Value).toArray = args at X ⊢
  generalize hQ : MQ below (QV (cA G) (cH G q)) args s 0 0 (cA G) = Q
  have hl : lv_has ls 4 [(0, .ref (G.2.2.1 196)), (1, .int a1), (2, .int a2), (3, .int a3)] := hl
  unfold f_X6_addChoice at hf
  refine lv_iload_n hx hb dX6_addChoice_0 rfl (lv_at hl 2 rfl) ?_
  refine lv_if_le (tgt := 28) hx hb dX6_addChoice_1 (by decide) (fun hc => ?_) (fun hc => ?_)
  · have hf := fo_t hc hf
    subst hQ
    exact cEv X (cH1 (hf) hH) hS dX6_addChoice_28
  have hf := fo_f hc hf
  refine lv_aload_n hx hb dX6_addChoice_4 rfl (lv_at hl 0 rfl) ?_
  refine co_get X hH 196 (by decide) eO196 rfl inBX6 5 (by decide) rfl bw392 dX6_addChoice_5 ?_
  refine lv_iload_n hx hb dX6_addChoice_8 rfl (lv_at hl 1 rfl) ?_
  obtain ⟨q9, hq9, hf⟩ := nm_x hf
  have hq9 := hq9.symm
  refine cGv (cVrun (rest := []) X (cl_X5_push l G w 43 (by decide) a1 q9 hq9) bw956 bw679 bw680 bw91 bw681 cn_X5_push ⟨rfl, rfl, Nat.le_of_ble_eq_true rfl, Nat.le_of_ble_eq_true rfl⟩ (c_recR X hH (by decide)) cA_g hH hS hl rfl (Nat.le_of_ble_eq_true rfl) dX6_addChoice_9) hS (fun H locs hH hS => ?_)
  refine lv_aload_n hx hb dX6_addChoice_12 rfl (lv_at hl 0 rfl) ?_
  refine co_get X hH 196 (by decide) eO196 rfl inBX6 6 (by decide) rfl bw393 dX6_addChoice_13 ?_
  refine lv_iload_n hx hb dX6_addChoice_16 rfl (lv_at hl 2 rfl) ?_
  obtain ⟨q17, hq17, hf⟩ := nm_x hf
  have hq17 := hq17.symm
  refine cGv (cVrun (rest := []) X (cl_X5_push l G q9 44 (by decide) a2 q17 hq17) bw956 bw679 bw680 bw91 bw681 cn_X5_push ⟨rfl, rfl, Nat.le_of_ble_eq_true rfl, Nat.le_of_ble_eq_true rfl⟩ (c_recR X hH (by decide)) cA_g hH hS hl rfl (Nat.le_of_ble_eq_true rfl) dX6_addChoice_17) hS (fun H locs hH hS => ?_)
  refine lv_aload_n hx hb dX6_addChoice_20 rfl (lv_at hl 0 rfl) ?_
  refine co_get X hH 196 (by decide) eO196 rfl inBX6 7 (by decide) rfl bw394 dX6_addChoice_21 ?_
  refine lv_iload_n hx hb dX6_addChoice_24 rfl (lv_at hl 3 rfl) ?_
  obtain ⟨q25, hq25, hf⟩ := nm_x hf
  have hq25 := hq25.symm
  refine cGv (cVrun (rest := []) X (cl_X5_push l G q17 45 (by decide) a3 q25 hq25) bw956 bw679 bw680 bw91 bw681 cn_X5_push ⟨rfl, rfl, Nat.le_of_ble_eq_true rfl, Nat.le_of_ble_eq_true rfl⟩ (c_recR X hH (by decide)) cA_g hH hS hl rfl (Nat.le_of_ble_eq_true rfl) dX6_addChoice_25) hS (fun H locs hH hS => ?_)
  subst hQ
  exact cEv X (cH1 (hf) hH) hS dX6_addChoice_28
def f_X6_listChoices_L45  : Nat → Int32 → CW → Option (CW)
  | 0, _, _ => none
  | n45 + 1, v45_2, w45_ => (if (w45_.2.2 3) < v45_2 then (some w45_) else (nmk (f_X6_addChoice w45_ 1 v45_2 ((w45_.2.2 5) * (v45_2 - (w45_.2.2 2)))) fun q76 => (nmk (v45_2 + 1) fun (x79 : Int32) => (f_X6_listChoices_L45 n45 x79 q76))))
def f_X6_listChoices (w : CW) (a1 : Int32) : Option (CW) := (nmk (f_X5_clear w 43) fun q4 => (nmk (f_X5_clear q4 44) fun q11 => (nmk (f_X5_clear q11 45) fun q18 => (nmk (sS q18 6 (f_X6_isBlank q18 a1)) fun w27 => (if (w27.2.2 6) = 0 then (nmk (rAt w27 41 a1) fun (x94 : Int32) => (nmk (rAt w27 42 a1) fun (x103 : Int32) => (nmk (f_X6_addChoice w27 3 (rAt w27 38 x94) (rAt w27 39 x94)) fun q128 => (nmk (f_X6_addChoice q128 2 (rAt q128 38 x103) (rAt q128 39 x103)) fun q155 => (nmk (f_X6_addChoice q155 1 (rAt q155 12 (rAt q155 40 a1)) 0) fun q176 => (some q176)))))) else (nmk (w27.2.2 2) fun (x44 : Int32) => (f_X6_listChoices_L45 FU x44 w27)))))))
abbrev rm_X6_listChoices : Room := { frames := 3, cells := 0, slots := 0, locals := 44 }
theorem cn_X6_listChoices : CN yX6_listChoices 1 := ⟨by decide +kernel, by decide +kernel, by decide +kernel⟩
set_option maxHeartbeats 4000000 in
set_option maxRecDepth 100000 in
theorem c_X6_listChoices (l : Launch) (G : GX) (w : CW) (a1 : Int32) (q : CW) (hf : f_X6_listChoices w a1 = some q) : MV l G yX6_listChoices cX6_listChoices 4 rm_X6_listChoices [.ref (G.2.2.1 196), .int a1] (cA G) (cH G w) (cH G q) := by
  refine cM_start (by decide +kernel) (Nat.le_of_ble_eq_true rfl) ?_
  intro p e s m below meth c ls X hH hl
  have hS : va_S (cA G) s.heap s.heap [] := va_S.rf
  have hx := X.1.1
  have hb := X.1.2.1
  generalize hargs : ([.ref (G.2.2.1 196), .int a1] : List Value).toArray = args at X ⊢
  generalize hQ : MQ below (QV (cA G) (cH G q)) args s 0 0 (cA G) = Q
  have hl : lv_has ls 4 [(0, .ref (G.2.2.1 196)), (1, .int a1)] := hl
  unfold f_X6_listChoices at hf
  refine lv_aload_n hx hb dX6_listChoices_0 rfl (lv_at hl 0 rfl) ?_
  refine co_get X hH 196 (by decide) eO196 rfl inBX6 5 (by decide) rfl bw392 dX6_listChoices_1 ?_
  obtain ⟨q4, hq4, hf⟩ := nm_x hf
  have hq4 := hq4.symm
  refine cGv (cVrun (rest := []) X (c_X5_clear l G w 43 (by decide) q4 hq4) bw951 bw809 bw810 bw91 bw811 cn_X5_clear ⟨rfl, rfl, Nat.le_of_ble_eq_true rfl, Nat.le_of_ble_eq_true rfl⟩ (c_recR X hH (by decide)) cA_g hH hS hl rfl (Nat.le_of_ble_eq_true rfl) dX6_listChoices_4) hS (fun H locs hH hS => ?_)
  refine lv_aload_n hx hb dX6_listChoices_7 rfl (lv_at hl 0 rfl) ?_
  refine co_get X hH 196 (by decide) eO196 rfl inBX6 6 (by decide) rfl bw393 dX6_listChoices_8 ?_
  obtain ⟨q11, hq11, hf⟩ := nm_x hf
  have hq11 := hq11.symm
  refine cGv (cVrun (rest := []) X (c_X5_clear l G q4 44 (by decide) q11 hq11) bw951 bw809 bw810 bw91 bw811 cn_X5_clear ⟨rfl, rfl, Nat.le_of_ble_eq_true rfl, Nat.le_of_ble_eq_true rfl⟩ (c_recR X hH (by decide)) cA_g hH hS hl rfl (Nat.le_of_ble_eq_true rfl) dX6_listChoices_11) hS (fun H locs hH hS => ?_)
  refine lv_aload_n hx hb dX6_listChoices_14 rfl (lv_at hl 0 rfl) ?_
  refine co_get X hH 196 (by decide) eO196 rfl inBX6 7 (by decide) rfl bw394 dX6_listChoices_15 ?_
  obtain ⟨q18, hq18, hf⟩ := nm_x hf
  have hq18 := hq18.symm
  refine cGv (cVrun (rest := []) X (c_X5_clear l G q11 45 (by decide) q18 hq18) bw951 bw809 bw810 bw91 bw811 cn_X5_clear ⟨rfl, rfl, Nat.le_of_ble_eq_true rfl, Nat.le_of_ble_eq_true rfl⟩ (c_recR X hH (by decide)) cA_g hH hS hl rfl (Nat.le_of_ble_eq_true rfl) dX6_listChoices_18) hS (fun H locs hH hS => ?_)
  refine lv_aload_n hx hb dX6_listChoices_21 rfl (lv_at hl 0 rfl) ?_
  refine lv_aload_n hx hb dX6_listChoices_22 rfl (lv_at hl 0 rfl) ?_
  refine lv_iload_n hx hb dX6_listChoices_23 rfl (lv_at hl 1 rfl) ?_
  refine cGi (cVrun (rest := [.ref (G.2.2.1 196)]) X (c_X6_isBlank l G q18 a1 _ rfl) bw934 bw936 bw20 bw100 bw937 cn_X6_isBlank ⟨rfl, rfl, Nat.le_of_ble_eq_true rfl, Nat.le_of_ble_eq_true rfl⟩ (c_rec X hH 196 (by decide) eO196 rfl) cA_g hH hS hl rfl (Nat.le_of_ble_eq_true rfl) dX6_listChoices_24) hS (fun H locs hH hS => ?_)
  refine co_put (C := RX6) (N := 16) X hH hS 196 (by decide) eO196 rfl inBX6 tyX6 tyX6_ok nmX6 12 (by decide) bw401 rfl (nz (zb_X6_isBlank q18 a1)) (fz (zb_X6_isBlank q18 a1)) (by simp) (sS q18 6 (f_X6_isBlank q18 a1)) rfl cE_s6 dX6_listChoices_27 (fun H locs hH hS => ?_)
  obtain ⟨w27, ew27⟩ : ∃ z : CW, z = (sS q18 6 (f_X6_isBlank q18 a1)) := ⟨_, rfl⟩
  have hf := nm_s hf w27 ew27
  have hH : cH G w27 H := ew27 ▸ hH
  refine lv_aload_n hx hb dX6_listChoices_30 rfl (lv_at hl 0 rfl) ?_
  refine co_get X hH 196 (by decide) eO196 rfl inBX6 12 (by decide) rfl bw401 dX6_listChoices_31 ?_
  refine lv_if_eq (tgt := 86) hx hb dX6_listChoices_34 (by decide) (fun hc => ?_) (fun hc => ?_)
  rotate_left
  · have hf := fo_f hc hf
    refine lv_aload_n hx hb dX6_listChoices_37 rfl (lv_at hl 0 rfl) ?_
    refine co_get X hH 196 (by decide) eO196 rfl inBX6 0 (by decide) rfl bw386 dX6_listChoices_38 ?_
    refine co_getN X hH 193 (by decide) eO193 rfl inBX0 1 (by decide) rfl bw295 dX6_listChoices_41 ?_
    refine lv_topi (fun x44 ex44 => ?_)
    have hf := nm_s hf x44 ex44
    refine lv_istore_n (lv' := [(2, .int x44), (0, .ref (G.2.2.1 196)), (1, .int a1)]) hx hb dX6_listChoices_44 rfl hl (by decide) rfl (fun ls hl => ?_)
    have hL45 : ∀ (n45 : Nat) (v45_2 : Int32) (w45_ : CW) (H : Heap) (locs : List Loc) (ls : Array Slot), f_X6_listChoices_L45 n45 v45_2 w45_ = some q → cH G w45_ H → va_S (cA G) s.heap H locs → lv_has ls 4 [(2, .int v45_2), (0, .ref (G.2.2.1 196))] → W p l e rm_X6_listChoices s m args below meth c H locs 0 0 Q (F0 m 45 ls []) := by
      intro n45
      induction n45 with
      | zero => intro v45_2 w45_ H locs ls hf; rw [f_X6_listChoices_L45] at hf; cases hf
      | succ n45 ih45 =>
        intro v45_2 w45_ H locs ls hf hH hS hl
        rw [f_X6_listChoices_L45] at hf
        refine lv_iload_n hx hb dX6_listChoices_45 rfl (lv_at hl 0 rfl) ?_
        refine lv_aload_n hx hb dX6_listChoices_46 rfl (lv_at hl 1 rfl) ?_
        refine co_get X hH 196 (by decide) eO196 rfl inBX6 0 (by decide) rfl bw386 dX6_listChoices_47 ?_
        refine co_getN X hH 193 (by decide) eO193 rfl inBX0 2 (by decide) rfl bw297 dX6_listChoices_50 ?_
        refine lv_icmp_gt (tgt := 85) hx hb dX6_listChoices_53 (by decide) (fun hc => ?_) (fun hc => ?_)
        · have hf := fo_t hc hf
          subst hQ
          exact cEv X (cH1 (so_s hf) hH) hS dX6_listChoices_85
        have hf := fo_f hc hf
        refine lv_aload_n hx hb dX6_listChoices_56 rfl (lv_at hl 1 rfl) ?_
        refine lv_iconst (v := 1) hx hb dX6_listChoices_57 (by decide) ?_
        refine lv_iload_n hx hb dX6_listChoices_58 rfl (lv_at hl 0 rfl) ?_
        refine lv_aload_n hx hb dX6_listChoices_59 rfl (lv_at hl 1 rfl) ?_
        refine co_get X hH 196 (by decide) eO196 rfl inBX6 0 (by decide) rfl bw386 dX6_listChoices_60 ?_
        refine co_getN X hH 193 (by decide) eO193 rfl inBX0 4 (by decide) rfl bw301 dX6_listChoices_63 ?_
        refine lv_iload_n hx hb dX6_listChoices_66 rfl (lv_at hl 0 rfl) ?_
        refine lv_aload_n hx hb dX6_listChoices_67 rfl (lv_at hl 1 rfl) ?_
        refine co_get X hH 196 (by decide) eO196 rfl inBX6 0 (by decide) rfl bw386 dX6_listChoices_68 ?_
        refine co_getN X hH 193 (by decide) eO193 rfl inBX0 1 (by decide) rfl bw295 dX6_listChoices_71 ?_
        refine lv_isub hx hb dX6_listChoices_74 ?_
        refine lv_imul hx hb dX6_listChoices_75 ?_
        obtain ⟨q76, hq76, hf⟩ := nm_x hf
        have hq76 := hq76.symm
        refine cGv (cVrun (rest := []) X (c_X6_addChoice l G w45_ 1 v45_2 ((w45_.2.2 5) * (v45_2 - (w45_.2.2 2))) q76 hq76) bw952 bw954 bw23 bw100 bw955 cn_X6_addChoice ⟨rfl, rfl, Nat.le_of_ble_eq_true rfl, Nat.le_of_ble_eq_true rfl⟩ (c_rec X hH 196 (by decide) eO196 rfl) cA_g hH hS hl rfl (Nat.le_of_ble_eq_true rfl) dX6_listChoices_76) hS (fun H locs hH hS => ?_)
        obtain ⟨x79, ex79⟩ : ∃ z : Int32, z = (v45_2 + 1) := ⟨_, rfl⟩
        have hf := nm_s hf x79 ex79
        refine lv_iinc (v := x79) (lv' := [(2, .int x79), (0, .ref (G.2.2.1 196))]) hx hb dX6_listChoices_79 hl (k := 0) rfl (by rw [ex79]; rfl) (by decide) rfl (fun ls hl => ?_)
        refine lv_goto (tgt := 45) hx hb dX6_listChoices_82 (by decide) ?_
        exact ih45 _ _ _ _ _ hf hH hS (lv_sub hl [0, 1] rfl)
    exact hL45 _ _ _ _ _ _ hf hH hS (lv_sub hl [0, 1] rfl)
  have hf := fo_t hc hf
  refine lv_aload_n hx hb dX6_listChoices_86 rfl (lv_at hl 0 rfl) ?_
  refine co_get X hH 196 (by decide) eO196 rfl inBX6 3 (by decide) rfl bw390 dX6_listChoices_87 ?_
  refine lv_iload_n hx hb dX6_listChoices_90 rfl (lv_at hl 1 rfl) ?_
  refine cGi (cVrun (rest := []) X (cl_X5_at l G w27 41 (by decide) a1 _ rfl) bw929 bw628 bw629 bw91 bw630 cn_X5_at ⟨rfl, rfl, Nat.le_of_ble_eq_true rfl, Nat.le_of_ble_eq_true rfl⟩ (c_recR X hH (by decide)) cA_g hH hS hl rfl (Nat.le_of_ble_eq_true rfl) dX6_listChoices_91) hS (fun H locs hH hS => ?_)
  refine lv_topi (fun x94 ex94 => ?_)
  have hf := nm_s hf x94 ex94
  refine lv_istore_n (lv' := [(2, .int x94), (0, .ref (G.2.2.1 196)), (1, .int a1)]) hx hb dX6_listChoices_94 rfl hl (by decide) rfl (fun ls hl => ?_)
  refine lv_aload_n hx hb dX6_listChoices_95 rfl (lv_at hl 1 rfl) ?_
  refine co_get X hH 196 (by decide) eO196 rfl inBX6 4 (by decide) rfl bw391 dX6_listChoices_96 ?_
  refine lv_iload_n hx hb dX6_listChoices_99 rfl (lv_at hl 2 rfl) ?_
  refine cGi (cVrun (rest := []) X (cl_X5_at l G w27 42 (by decide) a1 _ rfl) bw929 bw628 bw629 bw91 bw630 cn_X5_at ⟨rfl, rfl, Nat.le_of_ble_eq_true rfl, Nat.le_of_ble_eq_true rfl⟩ (c_recR X hH (by decide)) cA_g hH hS hl rfl (Nat.le_of_ble_eq_true rfl) dX6_listChoices_100) hS (fun H locs hH hS => ?_)
  refine lv_topi (fun x103 ex103 => ?_)
  have hf := nm_s hf x103 ex103
  refine lv_istore_n (lv' := [(3, .int x103), (2, .int x94), (0, .ref (G.2.2.1 196)), (1, .int a1)]) hx hb dX6_listChoices_103 rfl hl (by decide) rfl (fun ls hl => ?_)
  refine lv_aload_n hx hb dX6_listChoices_104 rfl (lv_at hl 2 rfl) ?_
  refine lv_iconst (v := 3) hx hb dX6_listChoices_105 (by decide) ?_
  refine lv_aload_n hx hb dX6_listChoices_106 rfl (lv_at hl 2 rfl) ?_
  refine co_get X hH 196 (by decide) eO196 rfl inBX6 0 (by decide) rfl bw386 dX6_listChoices_107 ?_
  refine co_getN X hH 193 (by decide) eO193 rfl inBX0 6 (by decide) rfl bw305 dX6_listChoices_110 ?_
  refine lv_iload_n hx hb dX6_listChoices_113 rfl (lv_at hl 1 rfl) ?_
  refine cGi (cVrun (rest := [.int 3, .ref (G.2.2.1 196)]) X (cl_X5_at l G w27 38 (by decide) x94 _ rfl) bw929 bw628 bw629 bw91 bw630 cn_X5_at ⟨rfl, rfl, Nat.le_of_ble_eq_true rfl, Nat.le_of_ble_eq_true rfl⟩ (c_recR X hH (by decide)) cA_g hH hS hl rfl (Nat.le_of_ble_eq_true rfl) dX6_listChoices_114) hS (fun H locs hH hS => ?_)
  refine lv_aload_n hx hb dX6_listChoices_117 rfl (lv_at hl 2 rfl) ?_
  refine co_get X hH 196 (by decide) eO196 rfl inBX6 0 (by decide) rfl bw386 dX6_listChoices_118 ?_
  refine co_getN X hH 193 (by decide) eO193 rfl inBX0 7 (by decide) rfl bw307 dX6_listChoices_121 ?_
  refine lv_iload_n hx hb dX6_listChoices_124 rfl (lv_at hl 1 rfl) ?_
  refine cGi (cVrun (rest := [.int (rAt w27 38 x94), .int 3, .ref (G.2.2.1 196)]) X (cl_X5_at l G w27 39 (by decide) x94 _ rfl) bw929 bw628 bw629 bw91 bw630 cn_X5_at ⟨rfl, rfl, Nat.le_of_ble_eq_true rfl, Nat.le_of_ble_eq_true rfl⟩ (c_recR X hH (by decide)) cA_g hH hS hl rfl (Nat.le_of_ble_eq_true rfl) dX6_listChoices_125) hS (fun H locs hH hS => ?_)
  obtain ⟨q128, hq128, hf⟩ := nm_x hf
  have hq128 := hq128.symm
  refine cGv (cVrun (rest := []) X (c_X6_addChoice l G w27 3 (rAt w27 38 x94) (rAt w27 39 x94) q128 hq128) bw952 bw954 bw23 bw100 bw955 cn_X6_addChoice ⟨rfl, rfl, Nat.le_of_ble_eq_true rfl, Nat.le_of_ble_eq_true rfl⟩ (c_rec X hH 196 (by decide) eO196 rfl) cA_g hH hS hl rfl (Nat.le_of_ble_eq_true rfl) dX6_listChoices_128) hS (fun H locs hH hS => ?_)
  refine lv_aload_n hx hb dX6_listChoices_131 rfl (lv_at hl 2 rfl) ?_
  refine lv_iconst (v := 2) hx hb dX6_listChoices_132 (by decide) ?_
  refine lv_aload_n hx hb dX6_listChoices_133 rfl (lv_at hl 2 rfl) ?_
  refine co_get X hH 196 (by decide) eO196 rfl inBX6 0 (by decide) rfl bw386 dX6_listChoices_134 ?_
  refine co_getN X hH 193 (by decide) eO193 rfl inBX0 6 (by decide) rfl bw305 dX6_listChoices_137 ?_
  refine lv_iload_n hx hb dX6_listChoices_140 rfl (lv_at hl 0 rfl) ?_
  refine cGi (cVrun (rest := [.int 2, .ref (G.2.2.1 196)]) X (cl_X5_at l G q128 38 (by decide) x103 _ rfl) bw929 bw628 bw629 bw91 bw630 cn_X5_at ⟨rfl, rfl, Nat.le_of_ble_eq_true rfl, Nat.le_of_ble_eq_true rfl⟩ (c_recR X hH (by decide)) cA_g hH hS hl rfl (Nat.le_of_ble_eq_true rfl) dX6_listChoices_141) hS (fun H locs hH hS => ?_)
  refine lv_aload_n hx hb dX6_listChoices_144 rfl (lv_at hl 2 rfl) ?_
  refine co_get X hH 196 (by decide) eO196 rfl inBX6 0 (by decide) rfl bw386 dX6_listChoices_145 ?_
  refine co_getN X hH 193 (by decide) eO193 rfl inBX0 7 (by decide) rfl bw307 dX6_listChoices_148 ?_
  refine lv_iload_n hx hb dX6_listChoices_151 rfl (lv_at hl 0 rfl) ?_
  refine cGi (cVrun (rest := [.int (rAt q128 38 x103), .int 2, .ref (G.2.2.1 196)]) X (cl_X5_at l G q128 39 (by decide) x103 _ rfl) bw929 bw628 bw629 bw91 bw630 cn_X5_at ⟨rfl, rfl, Nat.le_of_ble_eq_true rfl, Nat.le_of_ble_eq_true rfl⟩ (c_recR X hH (by decide)) cA_g hH hS hl rfl (Nat.le_of_ble_eq_true rfl) dX6_listChoices_152) hS (fun H locs hH hS => ?_)
  obtain ⟨q155, hq155, hf⟩ := nm_x hf
  have hq155 := hq155.symm
  refine cGv (cVrun (rest := []) X (c_X6_addChoice l G q128 2 (rAt q128 38 x103) (rAt q128 39 x103) q155 hq155) bw952 bw954 bw23 bw100 bw955 cn_X6_addChoice ⟨rfl, rfl, Nat.le_of_ble_eq_true rfl, Nat.le_of_ble_eq_true rfl⟩ (c_rec X hH 196 (by decide) eO196 rfl) cA_g hH hS hl rfl (Nat.le_of_ble_eq_true rfl) dX6_listChoices_155) hS (fun H locs hH hS => ?_)
  refine lv_aload_n hx hb dX6_listChoices_158 rfl (lv_at hl 2 rfl) ?_
  refine lv_iconst (v := 1) hx hb dX6_listChoices_159 (by decide) ?_
  refine lv_aload_n hx hb dX6_listChoices_160 rfl (lv_at hl 2 rfl) ?_
  refine co_get X hH 196 (by decide) eO196 rfl inBX6 1 (by decide) rfl bw387 dX6_listChoices_161 ?_
  refine lv_aload_n hx hb dX6_listChoices_164 rfl (lv_at hl 2 rfl) ?_
  refine co_get X hH 196 (by decide) eO196 rfl inBX6 2 (by decide) rfl bw388 dX6_listChoices_165 ?_
  refine lv_iload_n hx hb dX6_listChoices_168 rfl (lv_at hl 3 rfl) ?_
  refine cGi (cVrun (rest := [.ref (G.2.2.1 12), .int 1, .ref (G.2.2.1 196)]) X (cl_X5_at l G q155 40 (by decide) a1 _ rfl) bw929 bw628 bw629 bw91 bw630 cn_X5_at ⟨rfl, rfl, Nat.le_of_ble_eq_true rfl, Nat.le_of_ble_eq_true rfl⟩ (c_recR X hH (by decide)) cA_g hH hS hl rfl (Nat.le_of_ble_eq_true rfl) dX6_listChoices_169) hS (fun H locs hH hS => ?_)
  refine cGi (cVrun (rest := [.int 1, .ref (G.2.2.1 196)]) X (cl_X5_at l G q155 12 (by decide) (rAt q155 40 a1) _ rfl) bw929 bw628 bw629 bw91 bw630 cn_X5_at ⟨rfl, rfl, Nat.le_of_ble_eq_true rfl, Nat.le_of_ble_eq_true rfl⟩ (c_recR X hH (by decide)) cA_g hH hS hl rfl (Nat.le_of_ble_eq_true rfl) dX6_listChoices_172) hS (fun H locs hH hS => ?_)
  refine lv_iconst (v := 0) hx hb dX6_listChoices_175 (by decide) ?_
  obtain ⟨q176, hq176, hf⟩ := nm_x hf
  have hq176 := hq176.symm
  refine cGv (cVrun (rest := []) X (c_X6_addChoice l G q155 1 (rAt q155 12 (rAt q155 40 a1)) 0 q176 hq176) bw952 bw954 bw23 bw100 bw955 cn_X6_addChoice ⟨rfl, rfl, Nat.le_of_ble_eq_true rfl, Nat.le_of_ble_eq_true rfl⟩ (c_rec X hH 196 (by decide) eO196 rfl) cA_g hH hS hl rfl (Nat.le_of_ble_eq_true rfl) dX6_listChoices_176) hS (fun H locs hH hS => ?_)
  subst hQ
  exact cEv X (cH1 (so_s hf) hH) hS dX6_listChoices_179
def f_X6_index (a0 : Int32) (a1 : Int32) (a2 : Int32) : Int32 := (((((a0 * 41) + a1) * 3) + a2))
abbrev rm_X6_index : Room := { frames := 1, cells := 0, slots := 0, locals := 0 }
theorem cn_X6_index : CN yX6_index 3 := ⟨by decide +kernel, by decide +kernel, by decide +kernel⟩
set_option maxHeartbeats 4000000 in
set_option maxRecDepth 100000 in
theorem c_X6_index (l : Launch) (G : GX) (P : Heap → Prop) (A : Nat → Prop) (hAG : ∀ q, A q → gA G q) (a0 : Int32) (a1 : Int32) (a2 : Int32) (q : Int32) (hf : f_X6_index a0 a1 a2 = q) : MI l G yX6_index cX6_index 3 (some .int) rm_X6_index [.int a0, .int a1, .int a2] A P P q := by
  refine cM_start (by decide +kernel) (Nat.le_of_ble_eq_true rfl) ?_
  intro p e s m below meth c ls X hH hl
  have hS : va_S A s.heap s.heap [] := va_S.rf
  have hx := X.1.1
  have hb := X.1.2.1
  generalize hargs : ([.int a0, .int a1, .int a2] : List Value).toArray = args at X ⊢
  generalize hQ : MQ below (QI A P q) args s 0 0 A = Q
  have hl : lv_has ls 3 [(0, .int a0), (1, .int a1), (2, .int a2)] := hl
  unfold f_X6_index at hf
  refine lv_iload_n hx hb dX6_index_0 rfl (lv_at hl 0 rfl) ?_
  refine lv_bipush (v := 41) hx hb dX6_index_1 (by decide) ?_
  refine lv_imul hx hb dX6_index_3 ?_
  refine lv_iload_n hx hb dX6_index_4 rfl (lv_at hl 1 rfl) ?_
  refine lv_iadd hx hb dX6_index_5 ?_
  refine lv_iconst (v := 3) hx hb dX6_index_6 (by decide) ?_
  refine lv_imul hx hb dX6_index_7 ?_
  refine lv_iload_n hx hb dX6_index_8 rfl (lv_at hl 2 rfl) ?_
  refine lv_iadd hx hb dX6_index_9 ?_
  subst hQ
  exact cEi X hH hS (hf) dX6_index_10
def f_X6_uglyByEnd (w : CW) (a1 : Int32) (a2 : Int32) (a3 : Int32) : Int32 := (if (w.2.2 6) = 0 then (nmk (if a3 = 2 then (if (a2 + (rAt w 12 26)) = (w.2.2 1) then 1 else 0) else 0) fun (x70 : Int32) => ((if x70 = 0 then 1000000 else ((w.2.2 4) + (rAt w 46 (f_X6_index a1 0 0)))))) else ((if a2 = (w.2.2 1) then (rAt w 46 (f_X6_index (a1 + 1) 0 0)) else 1000000)))
abbrev rm_X6_uglyByEnd : Room := { frames := 2, cells := 0, slots := 0, locals := 22 }
theorem cn_X6_uglyByEnd : CN yX6_uglyByEnd 3 := ⟨by decide +kernel, by decide +kernel, by decide +kernel⟩
set_option maxHeartbeats 4000000 in
set_option maxRecDepth 100000 in
theorem c_X6_uglyByEnd (l : Launch) (G : GX) (w : CW) (a1 : Int32) (a2 : Int32) (a3 : Int32) (q : Int32) (hf : f_X6_uglyByEnd w a1 a2 a3 = q) : MI l G yX6_uglyByEnd cX6_uglyByEnd 5 (some .int) rm_X6_uglyByEnd [.ref (G.2.2.1 196), .int a1, .int a2, .int a3] (cA G) (cH G w) (cH G w) q := by
  refine cM_start (by decide +kernel) (Nat.le_of_ble_eq_true rfl) ?_
  intro p e s m below meth c ls X hH hl
  have hS : va_S (cA G) s.heap s.heap [] := va_S.rf
  have hx := X.1.1
  have hb := X.1.2.1
  generalize hargs : ([.ref (G.2.2.1 196), .int a1, .int a2, .int a3] : List Value).toArray = args at X ⊢
  generalize hQ : MQ below (QI (cA G) (cH G w) q) args s 0 0 (cA G) = Q
  have hl : lv_has ls 5 [(0, .ref (G.2.2.1 196)), (1, .int a1), (2, .int a2), (3, .int a3)] := hl
  unfold f_X6_uglyByEnd at hf
  refine lv_aload_n hx hb dX6_uglyByEnd_0 rfl (lv_at hl 0 rfl) ?_
  refine co_get X hH 196 (by decide) eO196 rfl inBX6 12 (by decide) rfl bw401 dX6_uglyByEnd_1 ?_
  refine lv_if_eq (tgt := 39) hx hb dX6_uglyByEnd_4 (by decide) (fun hc => ?_) (fun hc => ?_)
  rotate_left
  · have hf := fo_f hc hf
    refine lv_iload_n hx hb dX6_uglyByEnd_7 rfl (lv_at hl 2 rfl) ?_
    refine lv_aload_n hx hb dX6_uglyByEnd_8 rfl (lv_at hl 0 rfl) ?_
    refine co_get X hH 196 (by decide) eO196 rfl inBX6 0 (by decide) rfl bw386 dX6_uglyByEnd_9 ?_
    refine co_getN X hH 193 (by decide) eO193 rfl inBX0 0 (by decide) rfl bw293 dX6_uglyByEnd_12 ?_
    have hJ : ∀ (H : Heap) (locs : List Loc), cH G w H → va_S (cA G) s.heap H locs → W p l e rm_X6_uglyByEnd s m args below meth c H locs 0 0 Q (F0 m 38 ls [.int (if a2 = (w.2.2 1) then (rAt w 46 (f_X6_index (a1 + 1) 0 0)) else 1000000)]) := by
      intro H locs hH hS
      subst hQ
      exact cEi X hH hS (hf) dX6_uglyByEnd_38
    refine lv_icmp_ne (tgt := 36) hx hb dX6_uglyByEnd_15 (by decide) (fun hc15 => ?_) (fun hc15 => ?_)
    · refine lv_ldc (v := 1000000) hx hb X.1.2.2.2.1 (X.w bw968) dX6_uglyByEnd_36 ?_
      exact W.eq (by rw [if_neg hc15] <;> rfl) (hJ _ _ hH hS)
    · refine lv_aload_n hx hb dX6_uglyByEnd_18 rfl (lv_at hl 0 rfl) ?_
      refine co_get X hH 196 (by decide) eO196 rfl inBX6 8 (by decide) rfl bw395 dX6_uglyByEnd_19 ?_
      refine lv_iload_n hx hb dX6_uglyByEnd_22 rfl (lv_at hl 1 rfl) ?_
      refine lv_iconst (v := 1) hx hb dX6_uglyByEnd_23 (by decide) ?_
      refine lv_iadd hx hb dX6_uglyByEnd_24 ?_
      refine lv_iconst (v := 0) hx hb dX6_uglyByEnd_25 (by decide) ?_
      refine lv_iconst (v := 0) hx hb dX6_uglyByEnd_26 (by decide) ?_
      refine cGi (cSrun (rest := [.ref (G.2.2.1 46)]) X (c_X6_index l G (cH G w) (cA G) cA_g (a1 + 1) 0 0 _ rfl) bw957 bw958 bw100 bw959 cn_X6_index ⟨rfl, rfl, Nat.le_of_ble_eq_true rfl, Nat.le_of_ble_eq_true rfl⟩ cA_g hH hS hl rfl (Nat.le_of_ble_eq_true rfl) dX6_uglyByEnd_27) hS (fun H locs hH hS => ?_)
      refine cGi (cVrun (rest := []) X (cl_X5_at l G w 46 (by decide) (f_X6_index (a1 + 1) 0 0) _ rfl) bw929 bw628 bw629 bw91 bw630 cn_X5_at ⟨rfl, rfl, Nat.le_of_ble_eq_true rfl, Nat.le_of_ble_eq_true rfl⟩ (c_recR X hH (by decide)) cA_g hH hS hl rfl (Nat.le_of_ble_eq_true rfl) dX6_uglyByEnd_30) hS (fun H locs hH hS => ?_)
      refine lv_goto (tgt := 38) hx hb dX6_uglyByEnd_33 (by decide) ?_
      exact W.eq (by rw [if_pos hc15] <;> rfl) (hJ _ _ hH hS)
  have hf := fo_t hc hf
  refine lv_iload_n hx hb dX6_uglyByEnd_39 rfl (lv_at hl 3 rfl) ?_
  refine lv_iconst (v := 2) hx hb dX6_uglyByEnd_40 (by decide) ?_
  have hJ : ∀ (H : Heap) (locs : List Loc), cH G w H → va_S (cA G) s.heap H locs → W p l e rm_X6_uglyByEnd s m args below meth c H locs 0 0 Q (F0 m 70 ls [.int (if a3 = 2 then (if (a2 + (rAt w 12 26)) = (w.2.2 1) then 1 else 0) else 0)]) := by
    intro H locs hH hS
    refine lv_topi (fun x70 ex70 => ?_)
    have hf := nm_s hf x70 ex70
    refine lv_istore (lv' := [(4, .int x70), (0, .ref (G.2.2.1 196)), (1, .int a1), (2, .int a2), (3, .int a3)]) hx hb dX6_uglyByEnd_70 hl (by decide) rfl (fun ls hl => ?_)
    refine lv_iload hx hb dX6_uglyByEnd_72 (lv_at hl 0 rfl) ?_
    have hJ : ∀ (H : Heap) (locs : List Loc), cH G w H → va_S (cA G) s.heap H locs → W p l e rm_X6_uglyByEnd s m args below meth c H locs 0 0 Q (F0 m 103 ls [.int (if x70 = 0 then 1000000 else ((w.2.2 4) + (rAt w 46 (f_X6_index a1 0 0))))]) := by
      intro H locs hH hS
      subst hQ
      exact cEi X hH hS (hf) dX6_uglyByEnd_103
    refine lv_if_eq (tgt := 101) hx hb dX6_uglyByEnd_74 (by decide) (fun hc74 => ?_) (fun hc74 => ?_)
    · refine lv_ldc (v := 1000000) hx hb X.1.2.2.2.1 (X.w bw968) dX6_uglyByEnd_101 ?_
      exact W.eq (by rw [if_pos hc74] <;> rfl) (hJ _ _ hH hS)
    · refine lv_aload_n hx hb dX6_uglyByEnd_77 rfl (lv_at hl 1 rfl) ?_
      refine co_get X hH 196 (by decide) eO196 rfl inBX6 0 (by decide) rfl bw386 dX6_uglyByEnd_78 ?_
      refine co_getN X hH 193 (by decide) eO193 rfl inBX0 3 (by decide) rfl bw299 dX6_uglyByEnd_81 ?_
      refine lv_aload_n hx hb dX6_uglyByEnd_84 rfl (lv_at hl 1 rfl) ?_
      refine co_get X hH 196 (by decide) eO196 rfl inBX6 8 (by decide) rfl bw395 dX6_uglyByEnd_85 ?_
      refine lv_iload_n hx hb dX6_uglyByEnd_88 rfl (lv_at hl 2 rfl) ?_
      refine lv_iconst (v := 0) hx hb dX6_uglyByEnd_89 (by decide) ?_
      refine lv_iconst (v := 0) hx hb dX6_uglyByEnd_90 (by decide) ?_
      refine cGi (cSrun (rest := [.ref (G.2.2.1 46), .int (w.2.2 4)]) X (c_X6_index l G (cH G w) (cA G) cA_g a1 0 0 _ rfl) bw957 bw958 bw100 bw959 cn_X6_index ⟨rfl, rfl, Nat.le_of_ble_eq_true rfl, Nat.le_of_ble_eq_true rfl⟩ cA_g hH hS hl rfl (Nat.le_of_ble_eq_true rfl) dX6_uglyByEnd_91) hS (fun H locs hH hS => ?_)
      refine cGi (cVrun (rest := [.int (w.2.2 4)]) X (cl_X5_at l G w 46 (by decide) (f_X6_index a1 0 0) _ rfl) bw929 bw628 bw629 bw91 bw630 cn_X5_at ⟨rfl, rfl, Nat.le_of_ble_eq_true rfl, Nat.le_of_ble_eq_true rfl⟩ (c_recR X hH (by decide)) cA_g hH hS hl rfl (Nat.le_of_ble_eq_true rfl) dX6_uglyByEnd_94) hS (fun H locs hH hS => ?_)
      refine lv_iadd hx hb dX6_uglyByEnd_97 ?_
      refine lv_goto (tgt := 103) hx hb dX6_uglyByEnd_98 (by decide) ?_
      exact W.eq (by rw [if_neg hc74] <;> rfl) (hJ _ _ hH hS)
  refine lv_icmp_ne (tgt := 69) hx hb dX6_uglyByEnd_41 (by decide) (fun hc41 => ?_) (fun hc41 => ?_)
  · refine lv_iconst (v := 0) hx hb dX6_uglyByEnd_69 (by decide) ?_
    exact W.eq (by rw [if_neg hc41] <;> rfl) (hJ _ _ hH hS)
  · refine lv_iload_n hx hb dX6_uglyByEnd_44 rfl (lv_at hl 2 rfl) ?_
    refine lv_aload_n hx hb dX6_uglyByEnd_45 rfl (lv_at hl 0 rfl) ?_
    refine co_get X hH 196 (by decide) eO196 rfl inBX6 1 (by decide) rfl bw387 dX6_uglyByEnd_46 ?_
    refine lv_bipush (v := 26) hx hb dX6_uglyByEnd_49 (by decide) ?_
    refine cGi (cVrun (rest := [.int a2]) X (cl_X5_at l G w 12 (by decide) 26 _ rfl) bw929 bw628 bw629 bw91 bw630 cn_X5_at ⟨rfl, rfl, Nat.le_of_ble_eq_true rfl, Nat.le_of_ble_eq_true rfl⟩ (c_recR X hH (by decide)) cA_g hH hS hl rfl (Nat.le_of_ble_eq_true rfl) dX6_uglyByEnd_51) hS (fun H locs hH hS => ?_)
    refine lv_iadd hx hb dX6_uglyByEnd_54 ?_
    refine lv_aload_n hx hb dX6_uglyByEnd_55 rfl (lv_at hl 0 rfl) ?_
    refine co_get X hH 196 (by decide) eO196 rfl inBX6 0 (by decide) rfl bw386 dX6_uglyByEnd_56 ?_
    refine co_getN X hH 193 (by decide) eO193 rfl inBX0 0 (by decide) rfl bw293 dX6_uglyByEnd_59 ?_
    refine lv_icmp_ne (tgt := 69) hx hb dX6_uglyByEnd_62 (by decide) (fun hc62 => ?_) (fun hc62 => ?_)
    · refine lv_iconst (v := 0) hx hb dX6_uglyByEnd_69 (by decide) ?_
      exact W.eq (by rw [if_pos hc41, if_neg hc62] <;> rfl) (hJ _ _ hH hS)
    · refine lv_iconst (v := 1) hx hb dX6_uglyByEnd_65 (by decide) ?_
      refine lv_goto (tgt := 70) hx hb dX6_uglyByEnd_66 (by decide) ?_
      exact W.eq (by rw [if_pos hc41, if_pos hc62] <;> rfl) (hJ _ _ hH hS)
def f_X6_piecesBehind (w : CW) (a1 : Int32) : Int32 := ((if (w.2.2 6) = 0 then (if 2 < (a1 + 1) then 2 else (a1 + 1)) else 0))
abbrev rm_X6_piecesBehind : Room := { frames := 1, cells := 0, slots := 0, locals := 24 }
theorem cn_X6_piecesBehind : CN yX6_piecesBehind 1 := ⟨by decide +kernel, by decide +kernel, by decide +kernel⟩
set_option maxHeartbeats 4000000 in
set_option maxRecDepth 100000 in
theorem c_X6_piecesBehind (l : Launch) (G : GX) (w : CW) (a1 : Int32) (q : Int32) (hf : f_X6_piecesBehind w a1 = q) : MI l G yX6_piecesBehind cX6_piecesBehind 2 (some .int) rm_X6_piecesBehind [.ref (G.2.2.1 196), .int a1] (cA G) (cH G w) (cH G w) q := by
  refine cM_start (by decide +kernel) (Nat.le_of_ble_eq_true rfl) ?_
  intro p e s m below meth c ls X hH hl
  have hS : va_S (cA G) s.heap s.heap [] := va_S.rf
  have hx := X.1.1
  have hb := X.1.2.1
  generalize hargs : ([.ref (G.2.2.1 196), .int a1] : List Value).toArray = args at X ⊢
  generalize hQ : MQ below (QI (cA G) (cH G w) q) args s 0 0 (cA G) = Q
  have hl : lv_has ls 2 [(0, .ref (G.2.2.1 196)), (1, .int a1)] := hl
  unfold f_X6_piecesBehind at hf
  refine lv_aload_n hx hb dX6_piecesBehind_0 rfl (lv_at hl 0 rfl) ?_
  refine co_get X hH 196 (by decide) eO196 rfl inBX6 12 (by decide) rfl bw401 dX6_piecesBehind_1 ?_
  have hJ : ∀ (H : Heap) (locs : List Loc), cH G w H → va_S (cA G) s.heap H locs → W p l e rm_X6_piecesBehind s m args below meth c H locs 0 0 Q (F0 m 18 ls [.int (if (w.2.2 6) = 0 then (if 2 < (a1 + 1) then 2 else (a1 + 1)) else 0)]) := by
    intro H locs hH hS
    subst hQ
    exact cEi X hH hS (hf) dX6_piecesBehind_18
  refine lv_if_eq (tgt := 11) hx hb dX6_piecesBehind_4 (by decide) (fun hc4 => ?_) (fun hc4 => ?_)
  · refine lv_iload_n hx hb dX6_piecesBehind_11 rfl (lv_at hl 1 rfl) ?_
    refine lv_iconst (v := 1) hx hb dX6_piecesBehind_12 (by decide) ?_
    refine lv_iadd hx hb dX6_piecesBehind_13 ?_
    refine lv_iconst (v := 2) hx hb dX6_piecesBehind_14 (by decide) ?_
    refine va_mmin hx hb (X.1.2.2.1.trans hl.1.symm) X.1.2.2.2.1 (X.w bw977) (X.w bw231) (X.w bw93) (X.w bw232) (Nat.le_of_ble_eq_true rfl) (Nat.le_of_ble_eq_true rfl) (Nat.zero_le _) (Nat.zero_le _) dX6_piecesBehind_15 ?_
    exact W.eq (by rw [if_pos hc4] <;> rfl) (hJ _ _ hH hS)
  · refine lv_iconst (v := 0) hx hb dX6_piecesBehind_7 (by decide) ?_
    refine lv_goto (tgt := 18) hx hb dX6_piecesBehind_8 (by decide) ?_
    exact W.eq (by rw [if_neg hc4] <;> rfl) (hJ _ _ hH hS)
def f_X6_uglyBy (w : CW) (a1 : Int32) (a2 : Int32) (a3 : Int32) (a4 : Int32) : Int32 := (nmk (a2 + (rAt w 44 a4)) fun (x11 : Int32) => (if x11 ≤ (w.2.2 1) then (nmk (a1 + (rAt w 43 a4)) fun (x39 : Int32) => (((rAt w 45 a4) + (rAt w 46 (f_X6_index x39 x11 (f_X6_piecesBehind w a3)))))) else (1000000)))
abbrev rm_X6_uglyBy : Room := { frames := 2, cells := 0, slots := 0, locals := 45 }
theorem cn_X6_uglyBy : CN yX6_uglyBy 4 := ⟨by decide +kernel, by decide +kernel, by decide +kernel⟩
set_option maxHeartbeats 4000000 in
set_option maxRecDepth 100000 in
theorem c_X6_uglyBy (l : Launch) (G : GX) (w : CW) (a1 : Int32) (a2 : Int32) (a3 : Int32) (a4 : Int32) (q : Int32) (hf : f_X6_uglyBy w a1 a2 a3 a4 = q) : MI l G yX6_uglyBy cX6_uglyBy 7 (some .int) rm_X6_uglyBy [.ref (G.2.2.1 196), .int a1, .int a2, .int a3, .int a4] (cA G) (cH G w) (cH G w) q := by
  refine cM_start (by decide +kernel) (Nat.le_of_ble_eq_true rfl) ?_
  intro p e s m below meth c ls X hH hl
  have hS : va_S (cA G) s.heap s.heap [] := va_S.rf
  have hx := X.1.1
  have hb := X.1.2.1
  generalize hargs : ([.ref (G.2.2.1 196), .int a1, .int a2, .int a3, .int a4] : List Value).toArray = args at X ⊢
  generalize hQ : MQ below (QI (cA G) (cH G w) q) args s 0 0 (cA G) = Q
  have hl : lv_has ls 7 [(0, .ref (G.2.2.1 196)), (1, .int a1), (2, .int a2), (3, .int a3), (4, .int a4)] := hl
  unfold f_X6_uglyBy at hf
  refine lv_iload_n hx hb dX6_uglyBy_0 rfl (lv_at hl 2 rfl) ?_
  refine lv_aload_n hx hb dX6_uglyBy_1 rfl (lv_at hl 0 rfl) ?_
  refine co_get X hH 196 (by decide) eO196 rfl inBX6 6 (by decide) rfl bw393 dX6_uglyBy_2 ?_
  refine lv_iload hx hb dX6_uglyBy_5 (lv_at hl 4 rfl) ?_
  refine cGi (cVrun (rest := [.int a2]) X (cl_X5_at l G w 44 (by decide) a4 _ rfl) bw929 bw628 bw629 bw91 bw630 cn_X5_at ⟨rfl, rfl, Nat.le_of_ble_eq_true rfl, Nat.le_of_ble_eq_true rfl⟩ (c_recR X hH (by decide)) cA_g hH hS hl rfl (Nat.le_of_ble_eq_true rfl) dX6_uglyBy_7) hS (fun H locs hH hS => ?_)
  refine lv_iadd hx hb dX6_uglyBy_10 ?_
  refine lv_topi (fun x11 ex11 => ?_)
  have hf := nm_s hf x11 ex11
  refine lv_istore (lv' := [(5, .int x11), (0, .ref (G.2.2.1 196)), (1, .int a1), (2, .int a2), (3, .int a3), (4, .int a4)]) hx hb dX6_uglyBy_11 hl (by decide) rfl (fun ls hl => ?_)
  refine lv_iload hx hb dX6_uglyBy_13 (lv_at hl 0 rfl) ?_
  refine lv_aload_n hx hb dX6_uglyBy_15 rfl (lv_at hl 1 rfl) ?_
  refine co_get X hH 196 (by decide) eO196 rfl inBX6 0 (by decide) rfl bw386 dX6_uglyBy_16 ?_
  refine co_getN X hH 193 (by decide) eO193 rfl inBX0 0 (by decide) rfl bw293 dX6_uglyBy_19 ?_
  refine lv_icmp_le (tgt := 28) hx hb dX6_uglyBy_22 (by decide) (fun hc => ?_) (fun hc => ?_)
  rotate_left
  · have hf := fo_f hc hf
    refine lv_ldc (v := 1000000) hx hb X.1.2.2.2.1 (X.w bw968) dX6_uglyBy_25 ?_
    subst hQ
    exact cEi X hH hS (hf) dX6_uglyBy_27
  have hf := fo_t hc hf
  refine lv_iload_n hx hb dX6_uglyBy_28 rfl (lv_at hl 2 rfl) ?_
  refine lv_aload_n hx hb dX6_uglyBy_29 rfl (lv_at hl 1 rfl) ?_
  refine co_get X hH 196 (by decide) eO196 rfl inBX6 5 (by decide) rfl bw392 dX6_uglyBy_30 ?_
  refine lv_iload hx hb dX6_uglyBy_33 (lv_at hl 5 rfl) ?_
  refine cGi (cVrun (rest := [.int a1]) X (cl_X5_at l G w 43 (by decide) a4 _ rfl) bw929 bw628 bw629 bw91 bw630 cn_X5_at ⟨rfl, rfl, Nat.le_of_ble_eq_true rfl, Nat.le_of_ble_eq_true rfl⟩ (c_recR X hH (by decide)) cA_g hH hS hl rfl (Nat.le_of_ble_eq_true rfl) dX6_uglyBy_35) hS (fun H locs hH hS => ?_)
  refine lv_iadd hx hb dX6_uglyBy_38 ?_
  refine lv_topi (fun x39 ex39 => ?_)
  have hf := nm_s hf x39 ex39
  refine lv_istore (lv' := [(6, .int x39), (5, .int x11), (0, .ref (G.2.2.1 196)), (1, .int a1), (2, .int a2), (3, .int a3), (4, .int a4)]) hx hb dX6_uglyBy_39 hl (by decide) rfl (fun ls hl => ?_)
  refine lv_aload_n hx hb dX6_uglyBy_41 rfl (lv_at hl 2 rfl) ?_
  refine co_get X hH 196 (by decide) eO196 rfl inBX6 7 (by decide) rfl bw394 dX6_uglyBy_42 ?_
  refine lv_iload hx hb dX6_uglyBy_45 (lv_at hl 6 rfl) ?_
  refine cGi (cVrun (rest := []) X (cl_X5_at l G w 45 (by decide) a4 _ rfl) bw929 bw628 bw629 bw91 bw630 cn_X5_at ⟨rfl, rfl, Nat.le_of_ble_eq_true rfl, Nat.le_of_ble_eq_true rfl⟩ (c_recR X hH (by decide)) cA_g hH hS hl rfl (Nat.le_of_ble_eq_true rfl) dX6_uglyBy_47) hS (fun H locs hH hS => ?_)
  refine lv_aload_n hx hb dX6_uglyBy_50 rfl (lv_at hl 2 rfl) ?_
  refine co_get X hH 196 (by decide) eO196 rfl inBX6 8 (by decide) rfl bw395 dX6_uglyBy_51 ?_
  refine lv_iload hx hb dX6_uglyBy_54 (lv_at hl 0 rfl) ?_
  refine lv_iload hx hb dX6_uglyBy_56 (lv_at hl 1 rfl) ?_
  refine lv_aload_n hx hb dX6_uglyBy_58 rfl (lv_at hl 2 rfl) ?_
  refine lv_iload_n hx hb dX6_uglyBy_59 rfl (lv_at hl 5 rfl) ?_
  refine cGi (cVrun (rest := [.int x11, .int x39, .ref (G.2.2.1 46), .int (rAt w 45 a4)]) X (c_X6_piecesBehind l G w a3 _ rfl) bw973 bw975 bw27 bw100 bw976 cn_X6_piecesBehind ⟨rfl, rfl, Nat.le_of_ble_eq_true rfl, Nat.le_of_ble_eq_true rfl⟩ (c_rec X hH 196 (by decide) eO196 rfl) cA_g hH hS hl rfl (Nat.le_of_ble_eq_true rfl) dX6_uglyBy_60) hS (fun H locs hH hS => ?_)
  refine cGi (cSrun (rest := [.ref (G.2.2.1 46), .int (rAt w 45 a4)]) X (c_X6_index l G (cH G w) (cA G) cA_g x39 x11 (f_X6_piecesBehind w a3) _ rfl) bw957 bw958 bw100 bw959 cn_X6_index ⟨rfl, rfl, Nat.le_of_ble_eq_true rfl, Nat.le_of_ble_eq_true rfl⟩ cA_g hH hS hl rfl (Nat.le_of_ble_eq_true rfl) dX6_uglyBy_63) hS (fun H locs hH hS => ?_)
  refine cGi (cVrun (rest := [.int (rAt w 45 a4)]) X (cl_X5_at l G w 46 (by decide) (f_X6_index x39 x11 (f_X6_piecesBehind w a3)) _ rfl) bw929 bw628 bw629 bw91 bw630 cn_X5_at ⟨rfl, rfl, Nat.le_of_ble_eq_true rfl, Nat.le_of_ble_eq_true rfl⟩ (c_recR X hH (by decide)) cA_g hH hS hl rfl (Nat.le_of_ble_eq_true rfl) dX6_uglyBy_66) hS (fun H locs hH hS => ?_)
  refine lv_iadd hx hb dX6_uglyBy_69 ?_
  subst hQ
  exact cEi X hH hS (hf) dX6_uglyBy_70
def f_X6_leastUgly_L12 (w : CW) (a1 : Int32) (a2 : Int32) (a3 : Int32) : Nat → Int32 → Int32 → Option (Int32)
  | 0, _, _ => none
  | n12 + 1, v12_4, v12_5 => (if (f_X5_size w 43) ≤ v12_5 then (some v12_4) else (nmk (if (f_X6_uglyBy w a1 a2 a3 v12_5) < v12_4 then (f_X6_uglyBy w a1 a2 a3 v12_5) else v12_4) fun (x38 : Int32) => (nmk (v12_5 + 1) fun (x40 : Int32) => (f_X6_leastUgly_L12 w a1 a2 a3 n12 x38 x40))))
def f_X6_leastUgly (w : CW) (a1 : Int32) (a2 : Int32) (a3 : Int32) : Option (Int32) := (nmk (f_X6_uglyByEnd w a1 a2 a3) fun (x7 : Int32) => (f_X6_leastUgly_L12 w a1 a2 a3 FU x7 0))
abbrev rm_X6_leastUgly : Room := { frames := 3, cells := 0, slots := 0, locals := 71 }
theorem cn_X6_leastUgly : CN yX6_leastUgly 3 := ⟨by decide +kernel, by decide +kernel, by decide +kernel⟩
set_option maxHeartbeats 4000000 in
set_option maxRecDepth 100000 in
theorem c_X6_leastUgly (l : Launch) (G : GX) (w : CW) (a1 : Int32) (a2 : Int32) (a3 : Int32) (q : Int32) (hf : f_X6_leastUgly w a1 a2 a3 = some q) : MI l G yX6_leastUgly cX6_leastUgly 6 (some .int) rm_X6_leastUgly [.ref (G.2.2.1 196), .int a1, .int a2, .int a3] (cA G) (cH G w) (cH G w) q := by
  refine cM_start (by decide +kernel) (Nat.le_of_ble_eq_true rfl) ?_
  intro p e s m below meth c ls X hH hl
  have hS : va_S (cA G) s.heap s.heap [] := va_S.rf
  have hx := X.1.1
  have hb := X.1.2.1
  generalize hargs : ([.ref (G.2.2.1 196), .int a1, .int a2, .int a3] : List Value).toArray = args at X ⊢
  generalize hQ : MQ below (QI (cA G) (cH G w) q) args s 0 0 (cA G) = Q
  have hl : lv_has ls 6 [(0, .ref (G.2.2.1 196)), (1, .int a1), (2, .int a2), (3, .int a3)] := hl
  unfold f_X6_leastUgly at hf
  refine lv_aload_n hx hb dX6_leastUgly_0 rfl (lv_at hl 0 rfl) ?_
  refine lv_iload_n hx hb dX6_leastUgly_1 rfl (lv_at hl 1 rfl) ?_
  refine lv_iload_n hx hb dX6_leastUgly_2 rfl (lv_at hl 2 rfl) ?_
  refine lv_iload_n hx hb dX6_leastUgly_3 rfl (lv_at hl 3 rfl) ?_
  refine cGi (cVrun (rest := []) X (c_X6_uglyByEnd l G w a1 a2 a3 _ rfl) bw964 bw966 bw25 bw100 bw967 cn_X6_uglyByEnd ⟨rfl, rfl, Nat.le_of_ble_eq_true rfl, Nat.le_of_ble_eq_true rfl⟩ (c_rec X hH 196 (by decide) eO196 rfl) cA_g hH hS hl rfl (Nat.le_of_ble_eq_true rfl) dX6_leastUgly_4) hS (fun H locs hH hS => ?_)
  refine lv_topi (fun x7 ex7 => ?_)
  have hf := nm_s hf x7 ex7
  refine lv_istore (lv' := [(4, .int x7), (0, .ref (G.2.2.1 196)), (1, .int a1), (2, .int a2), (3, .int a3)]) hx hb dX6_leastUgly_7 hl (by decide) rfl (fun ls hl => ?_)
  refine lv_iconst (v := 0) hx hb dX6_leastUgly_9 (by decide) ?_
  refine lv_istore (lv' := [(5, .int 0), (4, .int x7), (0, .ref (G.2.2.1 196)), (1, .int a1), (2, .int a2), (3, .int a3)]) hx hb dX6_leastUgly_10 hl (by decide) rfl (fun ls hl => ?_)
  have hL12 : ∀ (n12 : Nat) (v12_4 : Int32) (v12_5 : Int32) (H : Heap) (locs : List Loc) (ls : Array Slot), f_X6_leastUgly_L12 w a1 a2 a3 n12 v12_4 v12_5 = some q → cH G w H → va_S (cA G) s.heap H locs → lv_has ls 6 [(5, .int v12_5), (4, .int v12_4), (0, .ref (G.2.2.1 196)), (1, .int a1), (2, .int a2), (3, .int a3)] → W p l e rm_X6_leastUgly s m args below meth c H locs 0 0 Q (F0 m 12 ls []) := by
    intro n12
    induction n12 with
    | zero => intro v12_4 v12_5 H locs ls hf; rw [f_X6_leastUgly_L12] at hf; cases hf
    | succ n12 ih12 =>
      intro v12_4 v12_5 H locs ls hf hH hS hl
      rw [f_X6_leastUgly_L12] at hf
      refine lv_iload hx hb dX6_leastUgly_12 (lv_at hl 0 rfl) ?_
      refine lv_aload_n hx hb dX6_leastUgly_14 rfl (lv_at hl 2 rfl) ?_
      refine co_get X hH 196 (by decide) eO196 rfl inBX6 5 (by decide) rfl bw392 dX6_leastUgly_15 ?_
      refine cGi (cVrun (rest := [.int v12_5]) X (c_X5_size l G w 43 (by decide) _ rfl) bw928 bw624 bw625 bw91 bw626 cn_X5_size ⟨rfl, rfl, Nat.le_of_ble_eq_true rfl, Nat.le_of_ble_eq_true rfl⟩ (c_recR X hH (by decide)) cA_g hH hS hl rfl (Nat.le_of_ble_eq_true rfl) dX6_leastUgly_18) hS (fun H locs hH hS => ?_)
      refine lv_icmp_ge (tgt := 46) hx hb dX6_leastUgly_21 (by decide) (fun hc => ?_) (fun hc => ?_)
      · have hf := fo_t hc hf
        refine lv_iload hx hb dX6_leastUgly_46 (lv_at hl 1 rfl) ?_
        subst hQ
        exact cEi X hH hS (so_s hf) dX6_leastUgly_48
      have hf := fo_f hc hf
      refine lv_iload hx hb dX6_leastUgly_24 (lv_at hl 1 rfl) ?_
      refine lv_aload_n hx hb dX6_leastUgly_26 rfl (lv_at hl 2 rfl) ?_
      refine lv_iload_n hx hb dX6_leastUgly_27 rfl (lv_at hl 3 rfl) ?_
      refine lv_iload_n hx hb dX6_leastUgly_28 rfl (lv_at hl 4 rfl) ?_
      refine lv_iload_n hx hb dX6_leastUgly_29 rfl (lv_at hl 5 rfl) ?_
      refine lv_iload hx hb dX6_leastUgly_30 (lv_at hl 0 rfl) ?_
      refine cGi (cVrun (rest := [.int v12_4]) X (c_X6_uglyBy l G w a1 a2 a3 v12_5 _ rfl) bw969 bw971 bw26 bw100 bw972 cn_X6_uglyBy ⟨rfl, rfl, Nat.le_of_ble_eq_true rfl, Nat.le_of_ble_eq_true rfl⟩ (c_rec X hH 196 (by decide) eO196 rfl) cA_g hH hS hl rfl (Nat.le_of_ble_eq_true rfl) dX6_leastUgly_32) hS (fun H locs hH hS => ?_)
      refine va_mmin hx hb (X.1.2.2.1.trans hl.1.symm) X.1.2.2.2.1 (X.w bw977) (X.w bw231) (X.w bw93) (X.w bw232) (Nat.le_of_ble_eq_true rfl) (Nat.le_of_ble_eq_true rfl) (Nat.zero_le _) (Nat.zero_le _) dX6_leastUgly_35 ?_
      refine lv_topi (fun x38 ex38 => ?_)
      have hf := nm_s hf x38 ex38
      refine lv_istore (lv' := [(4, .int x38), (5, .int v12_5), (0, .ref (G.2.2.1 196)), (1, .int a1), (2, .int a2), (3, .int a3)]) hx hb dX6_leastUgly_38 hl (by decide) rfl (fun ls hl => ?_)
      obtain ⟨x40, ex40⟩ : ∃ z : Int32, z = (v12_5 + 1) := ⟨_, rfl⟩
      have hf := nm_s hf x40 ex40
      refine lv_iinc (v := x40) (lv' := [(5, .int x40), (4, .int x38), (0, .ref (G.2.2.1 196)), (1, .int a1), (2, .int a2), (3, .int a3)]) hx hb dX6_leastUgly_40 hl (k := 1) rfl (by rw [ex40]; rfl) (by decide) rfl (fun ls hl => ?_)
      refine lv_goto (tgt := 12) hx hb dX6_leastUgly_43 (by decide) ?_
      exact ih12 _ _ _ _ _ hf hH hS (lv_sub hl [0, 1, 2, 3, 4, 5] rfl)
  exact hL12 _ _ _ _ _ _ hf hH hS (lv_sub hl [0, 1, 2, 3, 4, 5] rfl)
def f_X6_reckonPlace_L32 (a1 : Int32) (x16 : Int32) (v24_3 : Int32) (j80 : CW → Option (CW)) : Nat → Int32 → CW → Option (CW)
  | 0, _, _ => none
  | n32 + 1, v32_4, w32_ => (if (w32_.2.2 1) < v32_4 then (j80 w32_) else (nmk (fun (z71_0 : Int32) => (nmk (rPut w32_ 46 (f_X6_index a1 v32_4 v24_3) z71_0) fun q71 => (nmk (v32_4 + 1) fun (x74 : Int32) => (f_X6_reckonPlace_L32 a1 x16 v24_3 j80 n32 x74 q71)))) fun j71 => (if x16 = 0 then (Option.bind (f_X6_leastUgly w32_ a1 v32_4 v24_3) fun q68 => (j71 q68)) else (j71 0))))
def f_X6_reckonPlace_L24 (a1 : Int32) (x16 : Int32) : Nat → Int32 → CW → Option (CW)
  | 0, _, _ => none
  | n24 + 1, v24_3, w24_ => (if 3 ≤ v24_3 then (some w24_) else (nmk (fun (w80_ : CW) => (nmk (v24_3 + 1) fun (x80 : Int32) => (f_X6_reckonPlace_L24 a1 x16 n24 x80 w80_))) fun j80 => (f_X6_reckonPlace_L32 a1 x16 v24_3 j80 FU 0 w24_)))
def f_X6_reckonPlace (w : CW) (a1 : Int32) : Option (CW) := (nmk (if a1 < (f_X5_size w 40) then 0 else 1) fun (x16 : Int32) => (Option.bind (f_X6_listChoices w a1) fun q19 => (f_X6_reckonPlace_L24 a1 x16 FU 0 q19)))
abbrev rm_X6_reckonPlace : Room := { frames := 4, cells := 0, slots := 0, locals := 96 }
theorem cn_X6_reckonPlace : CN yX6_reckonPlace 1 := ⟨by decide +kernel, by decide +kernel, by decide +kernel⟩
set_option maxHeartbeats 4000000 in
set_option maxRecDepth 100000 in
theorem c_X6_reckonPlace (l : Launch) (G : GX) (w : CW) (a1 : Int32) (q : CW) (hf : f_X6_reckonPlace w a1 = some q) : MV l G yX6_reckonPlace cX6_reckonPlace 5 rm_X6_reckonPlace [.ref (G.2.2.1 196), .int a1] (cA G) (cH G w) (cH G q) := by
  refine cM_start (by decide +kernel) (Nat.le_of_ble_eq_true rfl) ?_
  intro p e s m below meth c ls X hH hl
  have hS : va_S (cA G) s.heap s.heap [] := va_S.rf
  have hx := X.1.1
  have hb := X.1.2.1
  generalize hargs : ([.ref (G.2.2.1 196), .int a1] : List Value).toArray = args at X ⊢
  generalize hQ : MQ below (QV (cA G) (cH G q)) args s 0 0 (cA G) = Q
  have hl : lv_has ls 5 [(0, .ref (G.2.2.1 196)), (1, .int a1)] := hl
  unfold f_X6_reckonPlace at hf
  refine lv_iload_n hx hb dX6_reckonPlace_0 rfl (lv_at hl 1 rfl) ?_
  refine lv_aload_n hx hb dX6_reckonPlace_1 rfl (lv_at hl 0 rfl) ?_
  refine co_get X hH 196 (by decide) eO196 rfl inBX6 2 (by decide) rfl bw388 dX6_reckonPlace_2 ?_
  refine cGi (cVrun (rest := [.int a1]) X (c_X5_size l G w 40 (by decide) _ rfl) bw928 bw624 bw625 bw91 bw626 cn_X5_size ⟨rfl, rfl, Nat.le_of_ble_eq_true rfl, Nat.le_of_ble_eq_true rfl⟩ (c_recR X hH (by decide)) cA_g hH hS hl rfl (Nat.le_of_ble_eq_true rfl) dX6_reckonPlace_5) hS (fun H locs hH hS => ?_)
  have hJ : ∀ (H : Heap) (locs : List Loc), cH G w H → va_S (cA G) s.heap H locs → W p l e rm_X6_reckonPlace s m args below meth c H locs 0 0 Q (F0 m 16 ls [.int (if a1 < (f_X5_size w 40) then 0 else 1)]) := by
    intro H locs hH hS
    refine lv_topi (fun x16 ex16 => ?_)
    have hf := nm_s hf x16 ex16
    refine lv_istore_n (lv' := [(2, .int x16), (0, .ref (G.2.2.1 196)), (1, .int a1)]) hx hb dX6_reckonPlace_16 rfl hl (by decide) rfl (fun ls hl => ?_)
    refine lv_aload_n hx hb dX6_reckonPlace_17 rfl (lv_at hl 1 rfl) ?_
    refine lv_iload_n hx hb dX6_reckonPlace_18 rfl (lv_at hl 2 rfl) ?_
    obtain ⟨q19, hq19, hf⟩ := bd_s hf
    refine cGv (cVrun (rest := []) X (c_X6_listChoices l G w a1 q19 hq19) bw947 bw949 bw22 bw100 bw950 cn_X6_listChoices ⟨rfl, rfl, Nat.le_of_ble_eq_true rfl, Nat.le_of_ble_eq_true rfl⟩ (c_rec X hH 196 (by decide) eO196 rfl) cA_g hH hS hl rfl (Nat.le_of_ble_eq_true rfl) dX6_reckonPlace_19) hS (fun H locs hH hS => ?_)
    refine lv_iconst (v := 0) hx hb dX6_reckonPlace_22 (by decide) ?_
    refine lv_istore_n (lv' := [(3, .int 0), (2, .int x16), (0, .ref (G.2.2.1 196)), (1, .int a1)]) hx hb dX6_reckonPlace_23 rfl hl (by decide) rfl (fun ls hl => ?_)
    have hL24 : ∀ (n24 : Nat) (v24_3 : Int32) (w24_ : CW) (H : Heap) (locs : List Loc) (ls : Array Slot), f_X6_reckonPlace_L24 a1 x16 n24 v24_3 w24_ = some q → cH G w24_ H → va_S (cA G) s.heap H locs → lv_has ls 5 [(3, .int v24_3), (2, .int x16), (0, .ref (G.2.2.1 196)), (1, .int a1)] → W p l e rm_X6_reckonPlace s m args below meth c H locs 0 0 Q (F0 m 24 ls []) := by
      intro n24
      induction n24 with
      | zero => intro v24_3 w24_ H locs ls hf; rw [f_X6_reckonPlace_L24] at hf; cases hf
      | succ n24 ih24 =>
        intro v24_3 w24_ H locs ls hf hH hS hl
        rw [f_X6_reckonPlace_L24] at hf
        refine lv_iload_n hx hb dX6_reckonPlace_24 rfl (lv_at hl 0 rfl) ?_
        refine lv_iconst (v := 3) hx hb dX6_reckonPlace_25 (by decide) ?_
        refine lv_icmp_ge (tgt := 86) hx hb dX6_reckonPlace_26 (by decide) (fun hc => ?_) (fun hc => ?_)
        · have hf := fo_t hc hf
          subst hQ
          exact cEv X (cH1 (so_s hf) hH) hS dX6_reckonPlace_86
        have hf := fo_f hc hf
        refine lv_iconst (v := 0) hx hb dX6_reckonPlace_29 (by decide) ?_
        refine lv_istore (lv' := [(4, .int 0), (3, .int v24_3), (2, .int x16), (0, .ref (G.2.2.1 196)), (1, .int a1)]) hx hb dX6_reckonPlace_30 hl (by decide) rfl (fun ls hl => ?_)
        obtain ⟨j80, ej80, hf⟩ := nm_x hf
        have hj80 : ∀ (w80_ : CW) (H : Heap) (locs : List Loc) (ls : Array Slot), j80 w80_ = some q → cH G w80_ H → va_S (cA G) s.heap H locs → lv_has ls 5 [(3, .int v24_3), (2, .int x16), (0, .ref (G.2.2.1 196)), (1, .int a1)] → W p l e rm_X6_reckonPlace s m args below meth c H locs 0 0 Q (F0 m 80 ls []) := by
          intro w80_ H locs ls hf hH hS hl
          have hf := jb1 ej80 hf
          obtain ⟨x80, ex80⟩ : ∃ z : Int32, z = (v24_3 + 1) := ⟨_, rfl⟩
          have hf := nm_s hf x80 ex80
          refine lv_iinc (v := x80) (lv' := [(3, .int x80), (2, .int x16), (0, .ref (G.2.2.1 196)), (1, .int a1)]) hx hb dX6_reckonPlace_80 hl (k := 0) rfl (by rw [ex80]; rfl) (by decide) rfl (fun ls hl => ?_)
          refine lv_goto (tgt := 24) hx hb dX6_reckonPlace_83 (by decide) ?_
          exact ih24 _ _ _ _ _ hf hH hS (lv_sub hl [0, 1, 2, 3] rfl)
        have hL32 : ∀ (n32 : Nat) (v32_4 : Int32) (w32_ : CW) (H : Heap) (locs : List Loc) (ls : Array Slot), f_X6_reckonPlace_L32 a1 x16 v24_3 j80 n32 v32_4 w32_ = some q → cH G w32_ H → va_S (cA G) s.heap H locs → lv_has ls 5 [(4, .int v32_4), (3, .int v24_3), (2, .int x16), (0, .ref (G.2.2.1 196)), (1, .int a1)] → W p l e rm_X6_reckonPlace s m args below meth c H locs 0 0 Q (F0 m 32 ls []) := by
          intro n32
          induction n32 with
          | zero => intro v32_4 w32_ H locs ls hf; rw [f_X6_reckonPlace_L32] at hf; cases hf
          | succ n32 ih32 =>
            intro v32_4 w32_ H locs ls hf hH hS hl
            rw [f_X6_reckonPlace_L32] at hf
            refine lv_iload hx hb dX6_reckonPlace_32 (lv_at hl 0 rfl) ?_
            refine lv_aload_n hx hb dX6_reckonPlace_34 rfl (lv_at hl 3 rfl) ?_
            refine co_get X hH 196 (by decide) eO196 rfl inBX6 0 (by decide) rfl bw386 dX6_reckonPlace_35 ?_
            refine co_getN X hH 193 (by decide) eO193 rfl inBX0 0 (by decide) rfl bw293 dX6_reckonPlace_38 ?_
            refine lv_icmp_gt (tgt := 80) hx hb dX6_reckonPlace_41 (by decide) (fun hc => ?_) (fun hc => ?_)
            · have hf := fo_t hc hf
              exact hj80 _ _ _ _ hf hH hS (lv_sub hl [1, 2, 3, 4] rfl)
            have hf := fo_f hc hf
            refine lv_aload_n hx hb dX6_reckonPlace_44 rfl (lv_at hl 3 rfl) ?_
            refine co_get X hH 196 (by decide) eO196 rfl inBX6 8 (by decide) rfl bw395 dX6_reckonPlace_45 ?_
            refine lv_iload_n hx hb dX6_reckonPlace_48 rfl (lv_at hl 4 rfl) ?_
            refine lv_iload hx hb dX6_reckonPlace_49 (lv_at hl 0 rfl) ?_
            refine lv_iload_n hx hb dX6_reckonPlace_51 rfl (lv_at hl 1 rfl) ?_
            refine cGi (cSrun (rest := [.ref (G.2.2.1 46)]) X (c_X6_index l G (cH G w32_) (cA G) cA_g a1 v32_4 v24_3 _ rfl) bw957 bw958 bw100 bw959 cn_X6_index ⟨rfl, rfl, Nat.le_of_ble_eq_true rfl, Nat.le_of_ble_eq_true rfl⟩ cA_g hH hS hl rfl (Nat.le_of_ble_eq_true rfl) dX6_reckonPlace_52) hS (fun H locs hH hS => ?_)
            refine lv_iload_n hx hb dX6_reckonPlace_55 rfl (lv_at hl 2 rfl) ?_
            obtain ⟨j71, ej71, hf⟩ := nm_x hf
            have hj71 : ∀ (z71_0 : Int32) (H : Heap) (locs : List Loc) (ls : Array Slot), j71 z71_0 = some q → cH G w32_ H → va_S (cA G) s.heap H locs → lv_has ls 5 [(4, .int v32_4), (3, .int v24_3), (2, .int x16), (0, .ref (G.2.2.1 196)), (1, .int a1)] → W p l e rm_X6_reckonPlace s m args below meth c H locs 0 0 Q (F0 m 71 ls [.int z71_0, .int (f_X6_index a1 v32_4 v24_3), .ref (G.2.2.1 46)]) := by
              intro z71_0 H locs ls hf hH hS hl
              have hf := jb1 ej71 hf
              obtain ⟨q71, hq71, hf⟩ := nm_x hf
              have hq71 := hq71.symm
              refine cGv (cVrun (rest := []) X (cl_X5_put l G w32_ 46 (by decide) (f_X6_index a1 v32_4 v24_3) z71_0 q71 hq71) bw942 bw352 bw353 bw91 bw354 cn_X5_put ⟨rfl, rfl, Nat.le_of_ble_eq_true rfl, Nat.le_of_ble_eq_true rfl⟩ (c_recR X hH (by decide)) cA_g hH hS hl rfl (Nat.le_of_ble_eq_true rfl) dX6_reckonPlace_71) hS (fun H locs hH hS => ?_)
              obtain ⟨x74, ex74⟩ : ∃ z : Int32, z = (v32_4 + 1) := ⟨_, rfl⟩
              have hf := nm_s hf x74 ex74
              refine lv_iinc (v := x74) (lv' := [(4, .int x74), (3, .int v24_3), (2, .int x16), (0, .ref (G.2.2.1 196)), (1, .int a1)]) hx hb dX6_reckonPlace_74 hl (k := 0) rfl (by rw [ex74]; rfl) (by decide) rfl (fun ls hl => ?_)
              refine lv_goto (tgt := 32) hx hb dX6_reckonPlace_77 (by decide) ?_
              exact ih32 _ _ _ _ _ hf hH hS (lv_sub hl [0, 1, 2, 3, 4] rfl)
            refine lv_if_eq (tgt := 63) hx hb dX6_reckonPlace_56 (by decide) (fun hc => ?_) (fun hc => ?_)
            rotate_left
            · have hf := fo_f hc hf
              refine lv_iconst (v := 0) hx hb dX6_reckonPlace_59 (by decide) ?_
              refine lv_goto (tgt := 71) hx hb dX6_reckonPlace_60 (by decide) ?_
              exact hj71 _ _ _ _ hf hH hS (lv_sub hl [0, 1, 2, 3, 4] rfl)
            have hf := fo_t hc hf
            refine lv_aload_n hx hb dX6_reckonPlace_63 rfl (lv_at hl 3 rfl) ?_
            refine lv_iload_n hx hb dX6_reckonPlace_64 rfl (lv_at hl 4 rfl) ?_
            refine lv_iload hx hb dX6_reckonPlace_65 (lv_at hl 0 rfl) ?_
            refine lv_iload_n hx hb dX6_reckonPlace_67 rfl (lv_at hl 1 rfl) ?_
            obtain ⟨q68, hq68, hf⟩ := bd_s hf
            refine cGi (cVrun (rest := [.int (f_X6_index a1 v32_4 v24_3), .ref (G.2.2.1 46)]) X (c_X6_leastUgly l G w32_ a1 v32_4 v24_3 q68 hq68) bw960 bw962 bw24 bw100 bw963 cn_X6_leastUgly ⟨rfl, rfl, Nat.le_of_ble_eq_true rfl, Nat.le_of_ble_eq_true rfl⟩ (c_rec X hH 196 (by decide) eO196 rfl) cA_g hH hS hl rfl (Nat.le_of_ble_eq_true rfl) dX6_reckonPlace_68) hS (fun H locs hH hS => ?_)
            exact hj71 _ _ _ _ hf hH hS (lv_sub hl [0, 1, 2, 3, 4] rfl)
        exact hL32 _ _ _ _ _ _ hf hH hS (lv_sub hl [0, 1, 2, 3, 4] rfl)
    exact hL24 _ _ _ _ _ _ hf hH hS (lv_sub hl [0, 1, 2, 3] rfl)
  refine lv_icmp_lt (tgt := 15) hx hb dX6_reckonPlace_8 (by decide) (fun hc8 => ?_) (fun hc8 => ?_)
  · refine lv_iconst (v := 0) hx hb dX6_reckonPlace_15 (by decide) ?_
    exact W.eq (by rw [if_pos hc8] <;> rfl) (hJ _ _ hH hS)
  · refine lv_iconst (v := 1) hx hb dX6_reckonPlace_11 (by decide) ?_
    refine lv_goto (tgt := 16) hx hb dX6_reckonPlace_12 (by decide) ?_
    exact W.eq (by rw [if_neg hc8] <;> rfl) (hJ _ _ hH hS)
