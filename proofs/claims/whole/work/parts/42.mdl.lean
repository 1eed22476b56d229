def f_X12_spells_L2 (t1 : Nat) : Nat → Int32 → CW → Option (CW)
  | 0, _, _ => none
  | n2 + 1, v2_2, w2_ => (if (f_J0_length t1) ≤ v2_2 then (some w2_) else (Option.bind (f_J0_charAt t1 v2_2) fun q13 => (Option.bind (f_X12_must w2_ q13) fun q16 => (nmk (v2_2 + 1) fun (x19 : Int32) => (f_X12_spells_L2 t1 n2 x19 q16)))))
def f_X12_spells (w : CW) (t1 : Nat) : Option (CW) := (f_X12_spells_L2 t1 FU 0 w)
abbrev rm_X12_spells : Room := { frames := 5, cells := 0, slots := 0, locals := 85 }
theorem cn_X12_spells : CN yX12_spells 1 := ⟨by decide +kernel, by decide +kernel, by decide +kernel⟩
set_option maxHeartbeats 4000000 in
set_option maxRecDepth 100000 in
theorem c_X12_spells (l : Launch) (G : GX) (w : CW) (t1 : Nat) (ht1 : t1 < 16) (q : CW) (hf : f_X12_spells w t1 = some q) : MV l G yX12_spells cX12_spells 3 rm_X12_spells [.ref (G.2.2.1 300), .ref (G.2.2.2.1 t1)] (rA G) (rH G w) (rH G q) := by
  refine cM_start (by decide +kernel) (Nat.le_of_ble_eq_true rfl) ?_
  intro p e s m below meth c ls X hH hl
  have hS : va_S (rA G) s.heap s.heap [] := va_S.rf
  have hx := X.1.1
  have hb := X.1.2.1
  generalize hargs : ([.ref (G.2.2.1 300), .ref (G.2.2.2.1 t1)] : List Value).toArray = args at X ⊢
  generalize hQ : MQ below (QV (rA G) (rH G q)) args s 0 0 (rA G) = Q
  have hl : lv_has ls 3 [(0, .ref (G.2.2.1 300)), (1, .ref (G.2.2.2.1 t1))] := hl
  unfold f_X12_spells at hf
  refine lv_iconst (v := 0) hx hb dX12_spells_0 (by decide) ?_
  refine lv_istore_n (lv' := [(2, .int 0), (0, .ref (G.2.2.1 300)), (1, .ref (G.2.2.2.1 t1))]) hx hb dX12_spells_1 rfl hl (by decide) rfl (fun ls hl => ?_)
  have hL2 : ∀ (n2 : Nat) (v2_2 : Int32) (w2_ : CW) (H : Heap) (locs : List Loc) (ls : Array Slot), f_X12_spells_L2 t1 n2 v2_2 w2_ = some q → rH G w2_ H → va_S (rA G) s.heap H locs → lv_has ls 3 [(2, .int v2_2), (0, .ref (G.2.2.1 300)), (1, .ref (G.2.2.2.1 t1))] → W p l e rm_X12_spells s m args below meth c H locs 0 0 Q (F0 m 2 ls []) := by
    intro n2
    induction n2 with
    | zero => intro v2_2 w2_ H locs ls hf; rw [f_X12_spells_L2] at hf; cases hf
    | succ n2 ih2 =>
      intro v2_2 w2_ H locs ls hf hH hS hl
      rw [f_X12_spells_L2] at hf
      refine lv_iload_n hx hb dX12_spells_2 rfl (lv_at hl 0 rfl) ?_
      refine lv_aload_n hx hb dX12_spells_3 rfl (lv_at hl 2 rfl) ?_
      refine cGi (cVrun (rest := [.int v2_2]) X (c_J0_length l G (rH G w2_) (rA G) rA_g t1 ht1 _ rfl) bw1529 bw731 bw732 bw106 bw733 cn_J0_length_8abf5 ⟨rfl, rfl, Nat.le_of_ble_eq_true rfl, Nat.le_of_ble_eq_true rfl⟩ (g_recS X hS rA_g ht1) rA_g hH hS hl rfl (Nat.le_of_ble_eq_true rfl) dX12_spells_4) hS (fun H locs hH hS => ?_)
      refine lv_icmp_ge (tgt := 25) hx hb dX12_spells_7 (by decide) (fun hc => ?_) (fun hc => ?_)
      · have hf := fo_t hc hf
        subst hQ
        exact cEv X (rH1 (so_s hf) hH) hS dX12_spells_25
      have hf := fo_f hc hf
      refine lv_aload_n hx hb dX12_spells_10 rfl (lv_at hl 1 rfl) ?_
      refine lv_aload_n hx hb dX12_spells_11 rfl (lv_at hl 2 rfl) ?_
      refine lv_iload_n hx hb dX12_spells_12 rfl (lv_at hl 0 rfl) ?_
      obtain ⟨q13, hq13, hf⟩ := bd_s hf
      refine cGi (cVrun (rest := [.ref (G.2.2.1 300)]) X (c_J0_charAt l G (rH G w2_) (rA G) rA_g t1 ht1 v2_2 q13 hq13) bw1530 bw742 bw743 bw106 bw744 cn_J0_charAt_5068e ⟨rfl, rfl, Nat.le_of_ble_eq_true rfl, Nat.le_of_ble_eq_true rfl⟩ (g_recS X hS rA_g ht1) rA_g hH hS hl rfl (Nat.le_of_ble_eq_true rfl) dX12_spells_13) hS (fun H locs hH hS => ?_)
      obtain ⟨q16, hq16, hf⟩ := bd_s hf
      refine cGv (cVrun (rest := []) X (c_X12_must l G w2_ q13 q16 hq16) bw1531 bw1533 bw55 bw105 bw1534 cn_X12_must ⟨rfl, rfl, Nat.le_of_ble_eq_true rfl, Nat.le_of_ble_eq_true rfl⟩ (r_rec X hH) rA_g hH hS hl rfl (Nat.le_of_ble_eq_true rfl) dX12_spells_16) hS (fun H locs hH hS => ?_)
      obtain ⟨x19, ex19⟩ : ∃ z : Int32, z = (v2_2 + 1) := ⟨_, rfl⟩
      have hf := nm_s hf x19 ex19
      refine lv_iinc (v := x19) (lv' := [(2, .int x19), (0, .ref (G.2.2.1 300)), (1, .ref (G.2.2.2.1 t1))]) hx hb dX12_spells_19 hl (k := 0) rfl (by rw [ex19]; rfl) (by decide) rfl (fun ls hl => ?_)
      refine lv_goto (tgt := 2) hx hb dX12_spells_22 (by decide) ?_
      exact ih2 _ _ _ _ _ hf hH hS (lv_sub hl [0, 1, 2] rfl)
  exact hL2 _ _ _ _ _ _ hf hH hS (lv_sub hl [0, 1, 2] rfl)
def f_X12_word (w : CW) : Option (Int32 × CW) := (Option.bind (f_X12_here w) fun q1 => (if q1 = 98 then (nmk (sS w 5 ((w.2.2 5) + 1)) fun w107 => (Option.bind (f_X12_here w107) fun q111 => (if q111 = 97 then (Option.bind (f_X12_spells w107 10) fun q122 => (some (1, q122))) else (Option.bind (f_X12_spells w107 11) fun q130 => (some (5, q130)))))) else (if q1 = 99 then (Option.bind (f_X12_spells w 12) fun q138 => (some (2, q138))) else (if q1 = 102 then (nmk (sS w 5 ((w.2.2 5) + 1)) fun w71 => (Option.bind (f_X12_here w71) fun q75 => (if q75 = 111 then (Option.bind (f_X12_spells w71 8) fun q86 => (some (0, q86))) else (Option.bind (f_X12_spells w71 9) fun q94 => (some (7, q94)))))) else (if q1 = 108 then (Option.bind (f_X12_spells w 13) fun q146 => (some (3, q146))) else (if q1 = 109 then (Option.bind (f_X12_spells w 14) fun q154 => (some (4, q154))) else (if q1 = 119 then (Option.bind (f_X12_spells w 15) fun q162 => (some (6, q162))) else (nmk (sS w 6 1) fun w170 => (some (0, w170))))))))))
abbrev rm_X12_word : Room := { frames := 6, cells := 0, slots := 0, locals := 107 }
theorem cn_X12_word : CN yX12_word 0 := ⟨by decide +kernel, by decide +kernel, by decide +kernel⟩
set_option maxHeartbeats 4000000 in
set_option maxRecDepth 100000 in
theorem c_X12_word (l : Launch) (G : GX) (w : CW) (q : Int32 × CW) (hf : f_X12_word w = some q) : MI l G yX12_word cX12_word 1 (some .int) rm_X12_word [.ref (G.2.2.1 300)] (rA G) (rH G w) (rH G q.2) q.1 := by
  refine cM_start (by decide +kernel) (Nat.le_of_ble_eq_true rfl) ?_
  intro p e s m below meth c ls X hH hl
  have hS : va_S (rA G) s.heap s.heap [] := va_S.rf
  have hx := X.1.1
  have hb := X.1.2.1
  generalize hargs : ([.ref (G.2.2.1 300)] : List Value).toArray = args at X ⊢
  generalize hQ : MQ below (QI (rA G) (rH G q.2) q.1) args s 0 0 (rA G) = Q
  have hl : lv_has ls 1 [(0, .ref (G.2.2.1 300))] := hl
  unfold f_X12_word at hf
  refine lv_aload_n hx hb dX12_word_0 rfl (lv_at hl 0 rfl) ?_
  obtain ⟨q1, hq1, hf⟩ := bd_s hf
  refine cGi (cVrun (rest := []) X (c_X12_here l G w q1 hq1) bw1520 bw1522 bw53 bw105 bw1523 cn_X12_here ⟨rfl, rfl, Nat.le_of_ble_eq_true rfl, Nat.le_of_ble_eq_true rfl⟩ (r_rec X hH) rA_g hH hS hl rfl (Nat.le_of_ble_eq_true rfl) dX12_word_1) hS (fun H locs hH hS => ?_)
  by_cases hc98 : q1 = 98
  · have hf := fo_t hc98 hf
    refine lv_lookup (tgt := 100) hx hb dX12_word_4 (by decide) (by rw [hc98] <;> rfl) (by decide) ?_
    refine lv_aload_n hx hb dX12_word_100 rfl (lv_at hl 0 rfl) ?_
    refine lv_dup hx hb dX12_word_101 rfl ?_
    refine ro_get (C := RX12) (N := 30) X hH 0 (by decide) rO rfl inBX12 5 (by decide) rfl bw1383 dX12_word_102 ?_
    refine lv_iconst (v := 1) hx hb dX12_word_105 (by decide) ?_
    refine lv_iadd hx hb dX12_word_106 ?_
    refine ro_put (C := RX12) (N := 30) X hH hS 0 (by decide) rO rfl inBX12 tyX12 tyX12_ok nmX12 5 (by decide) bw1383 rfl rfl rfl (by simp) (sS w 5 ((w.2.2 5) + 1)) rfl rE_sS dX12_word_107 (fun H locs hH hS => ?_)
    obtain ⟨w107, ew107⟩ : ∃ z : CW, z = (sS w 5 ((w.2.2 5) + 1)) := ⟨_, rfl⟩
    have hf := nm_s hf w107 ew107
    have hH : rH G w107 H := ew107 ▸ hH
    refine lv_aload_n hx hb dX12_word_110 rfl (lv_at hl 0 rfl) ?_
    obtain ⟨q111, hq111, hf⟩ := bd_s hf
    refine cGi (cVrun (rest := []) X (c_X12_here l G w107 q111 hq111) bw1520 bw1522 bw53 bw105 bw1523 cn_X12_here ⟨rfl, rfl, Nat.le_of_ble_eq_true rfl, Nat.le_of_ble_eq_true rfl⟩ (r_rec X hH) rA_g hH hS hl rfl (Nat.le_of_ble_eq_true rfl) dX12_word_111) hS (fun H locs hH hS => ?_)
    refine lv_bipush (v := 97) hx hb dX12_word_114 (by decide) ?_
    refine lv_icmp_ne (tgt := 127) hx hb dX12_word_116 (by decide) (fun hc => ?_) (fun hc => ?_)
    · have hf := fo_f hc hf
      refine lv_aload_n hx hb dX12_word_127 rfl (lv_at hl 0 rfl) ?_
      refine va_ldcS hx hb X.1.2.2.2.1 (X.2.2.2.2.2.1 11 (by decide)) dX12_word_128 ?_
      obtain ⟨q130, hq130, hf⟩ := bd_s hf
      refine cGv (cVrun (rest := []) X (c_X12_spells l G w107 11 (by decide) q130 hq130) bw1525 bw1527 bw54 bw105 bw1528 cn_X12_spells ⟨rfl, rfl, Nat.le_of_ble_eq_true rfl, Nat.le_of_ble_eq_true rfl⟩ (r_rec X hH) rA_g hH hS hl rfl (Nat.le_of_ble_eq_true rfl) dX12_word_130) hS (fun H locs hH hS => ?_)
      refine lv_iconst (v := 5) hx hb dX12_word_133 (by decide) ?_
      subst hQ
      exact cEi X (rH2 (so_s hf) hH) hS (pf1 (so_s hf)) dX12_word_134
    have hf := fo_t hc hf
    refine lv_aload_n hx hb dX12_word_119 rfl (lv_at hl 0 rfl) ?_
    refine va_ldcS hx hb X.1.2.2.2.1 (X.2.2.2.2.2.1 10 (by decide)) dX12_word_120 ?_
    obtain ⟨q122, hq122, hf⟩ := bd_s hf
    refine cGv (cVrun (rest := []) X (c_X12_spells l G w107 10 (by decide) q122 hq122) bw1525 bw1527 bw54 bw105 bw1528 cn_X12_spells ⟨rfl, rfl, Nat.le_of_ble_eq_true rfl, Nat.le_of_ble_eq_true rfl⟩ (r_rec X hH) rA_g hH hS hl rfl (Nat.le_of_ble_eq_true rfl) dX12_word_122) hS (fun H locs hH hS => ?_)
    refine lv_iconst (v := 1) hx hb dX12_word_125 (by decide) ?_
    subst hQ
    exact cEi X (rH2 (so_s hf) hH) hS (pf1 (so_s hf)) dX12_word_126
  have hf := fo_f hc98 hf
  by_cases hc99 : q1 = 99
  · have hf := fo_t hc99 hf
    refine lv_lookup (tgt := 135) hx hb dX12_word_4 (by decide) (by rw [hc99] <;> rfl) (by decide) ?_
    refine lv_aload_n hx hb dX12_word_135 rfl (lv_at hl 0 rfl) ?_
    refine va_ldcS hx hb X.1.2.2.2.1 (X.2.2.2.2.2.1 12 (by decide)) dX12_word_136 ?_
    obtain ⟨q138, hq138, hf⟩ := bd_s hf
    refine cGv (cVrun (rest := []) X (c_X12_spells l G w 12 (by decide) q138 hq138) bw1525 bw1527 bw54 bw105 bw1528 cn_X12_spells ⟨rfl, rfl, Nat.le_of_ble_eq_true rfl, Nat.le_of_ble_eq_true rfl⟩ (r_rec X hH) rA_g hH hS hl rfl (Nat.le_of_ble_eq_true rfl) dX12_word_138) hS (fun H locs hH hS => ?_)
    refine lv_iconst (v := 2) hx hb dX12_word_141 (by decide) ?_
    subst hQ
    exact cEi X (rH2 (so_s hf) hH) hS (pf1 (so_s hf)) dX12_word_142
  have hf := fo_f hc99 hf
  by_cases hc102 : q1 = 102
  · have hf := fo_t hc102 hf
    refine lv_lookup (tgt := 64) hx hb dX12_word_4 (by decide) (by rw [hc102] <;> rfl) (by decide) ?_
    refine lv_aload_n hx hb dX12_word_64 rfl (lv_at hl 0 rfl) ?_
    refine lv_dup hx hb dX12_word_65 rfl ?_
    refine ro_get (C := RX12) (N := 30) X hH 0 (by decide) rO rfl inBX12 5 (by decide) rfl bw1383 dX12_word_66 ?_
    refine lv_iconst (v := 1) hx hb dX12_word_69 (by decide) ?_
    refine lv_iadd hx hb dX12_word_70 ?_
    refine ro_put (C := RX12) (N := 30) X hH hS 0 (by decide) rO rfl inBX12 tyX12 tyX12_ok nmX12 5 (by decide) bw1383 rfl rfl rfl (by simp) (sS w 5 ((w.2.2 5) + 1)) rfl rE_sS dX12_word_71 (fun H locs hH hS => ?_)
    obtain ⟨w71, ew71⟩ : ∃ z : CW, z = (sS w 5 ((w.2.2 5) + 1)) := ⟨_, rfl⟩
    have hf := nm_s hf w71 ew71
    have hH : rH G w71 H := ew71 ▸ hH
    refine lv_aload_n hx hb dX12_word_74 rfl (lv_at hl 0 rfl) ?_
    obtain ⟨q75, hq75, hf⟩ := bd_s hf
    refine cGi (cVrun (rest := []) X (c_X12_here l G w71 q75 hq75) bw1520 bw1522 bw53 bw105 bw1523 cn_X12_here ⟨rfl, rfl, Nat.le_of_ble_eq_true rfl, Nat.le_of_ble_eq_true rfl⟩ (r_rec X hH) rA_g hH hS hl rfl (Nat.le_of_ble_eq_true rfl) dX12_word_75) hS (fun H locs hH hS => ?_)
    refine lv_bipush (v := 111) hx hb dX12_word_78 (by decide) ?_
    refine lv_icmp_ne (tgt := 91) hx hb dX12_word_80 (by decide) (fun hc => ?_) (fun hc => ?_)
    · have hf := fo_f hc hf
      refine lv_aload_n hx hb dX12_word_91 rfl (lv_at hl 0 rfl) ?_
      refine va_ldcS hx hb X.1.2.2.2.1 (X.2.2.2.2.2.1 9 (by decide)) dX12_word_92 ?_
      obtain ⟨q94, hq94, hf⟩ := bd_s hf
      refine cGv (cVrun (rest := []) X (c_X12_spells l G w71 9 (by decide) q94 hq94) bw1525 bw1527 bw54 bw105 bw1528 cn_X12_spells ⟨rfl, rfl, Nat.le_of_ble_eq_true rfl, Nat.le_of_ble_eq_true rfl⟩ (r_rec X hH) rA_g hH hS hl rfl (Nat.le_of_ble_eq_true rfl) dX12_word_94) hS (fun H locs hH hS => ?_)
      refine lv_bipush (v := 7) hx hb dX12_word_97 (by decide) ?_
      subst hQ
      exact cEi X (rH2 (so_s hf) hH) hS (pf1 (so_s hf)) dX12_word_99
    have hf := fo_t hc hf
    refine lv_aload_n hx hb dX12_word_83 rfl (lv_at hl 0 rfl) ?_
    refine va_ldcS hx hb X.1.2.2.2.1 (X.2.2.2.2.2.1 8 (by decide)) dX12_word_84 ?_
    obtain ⟨q86, hq86, hf⟩ := bd_s hf
    refine cGv (cVrun (rest := []) X (c_X12_spells l G w71 8 (by decide) q86 hq86) bw1525 bw1527 bw54 bw105 bw1528 cn_X12_spells ⟨rfl, rfl, Nat.le_of_ble_eq_true rfl, Nat.le_of_ble_eq_true rfl⟩ (r_rec X hH) rA_g hH hS hl rfl (Nat.le_of_ble_eq_true rfl) dX12_word_86) hS (fun H locs hH hS => ?_)
    refine lv_iconst (v := 0) hx hb dX12_word_89 (by decide) ?_
    subst hQ
    exact cEi X (rH2 (so_s hf) hH) hS (pf1 (so_s hf)) dX12_word_90
  have hf := fo_f hc102 hf
  by_cases hc108 : q1 = 108
  · have hf := fo_t hc108 hf
    refine lv_lookup (tgt := 143) hx hb dX12_word_4 (by decide) (by rw [hc108] <;> rfl) (by decide) ?_
    refine lv_aload_n hx hb dX12_word_143 rfl (lv_at hl 0 rfl) ?_
    refine va_ldcS hx hb X.1.2.2.2.1 (X.2.2.2.2.2.1 13 (by decide)) dX12_word_144 ?_
    obtain ⟨q146, hq146, hf⟩ := bd_s hf
    refine cGv (cVrun (rest := []) X (c_X12_spells l G w 13 (by decide) q146 hq146) bw1525 bw1527 bw54 bw105 bw1528 cn_X12_spells ⟨rfl, rfl, Nat.le_of_ble_eq_true rfl, Nat.le_of_ble_eq_true rfl⟩ (r_rec X hH) rA_g hH hS hl rfl (Nat.le_of_ble_eq_true rfl) dX12_word_146) hS (fun H locs hH hS => ?_)
    refine lv_iconst (v := 3) hx hb dX12_word_149 (by decide) ?_
    subst hQ
    exact cEi X (rH2 (so_s hf) hH) hS (pf1 (so_s hf)) dX12_word_150
  have hf := fo_f hc108 hf
  by_cases hc109 : q1 = 109
  · have hf := fo_t hc109 hf
    refine lv_lookup (tgt := 151) hx hb dX12_word_4 (by decide) (by rw [hc109] <;> rfl) (by decide) ?_
    refine lv_aload_n hx hb dX12_word_151 rfl (lv_at hl 0 rfl) ?_
    refine va_ldcS hx hb X.1.2.2.2.1 (X.2.2.2.2.2.1 14 (by decide)) dX12_word_152 ?_
    obtain ⟨q154, hq154, hf⟩ := bd_s hf
    refine cGv (cVrun (rest := []) X (c_X12_spells l G w 14 (by decide) q154 hq154) bw1525 bw1527 bw54 bw105 bw1528 cn_X12_spells ⟨rfl, rfl, Nat.le_of_ble_eq_true rfl, Nat.le_of_ble_eq_true rfl⟩ (r_rec X hH) rA_g hH hS hl rfl (Nat.le_of_ble_eq_true rfl) dX12_word_154) hS (fun H locs hH hS => ?_)
    refine lv_iconst (v := 4) hx hb dX12_word_157 (by decide) ?_
    subst hQ
    exact cEi X (rH2 (so_s hf) hH) hS (pf1 (so_s hf)) dX12_word_158
  have hf := fo_f hc109 hf
  by_cases hc119 : q1 = 119
  · have hf := fo_t hc119 hf
    refine lv_lookup (tgt := 159) hx hb dX12_word_4 (by decide) (by rw [hc119] <;> rfl) (by decide) ?_
    refine lv_aload_n hx hb dX12_word_159 rfl (lv_at hl 0 rfl) ?_
    refine va_ldcS hx hb X.1.2.2.2.1 (X.2.2.2.2.2.1 15 (by decide)) dX12_word_160 ?_
    obtain ⟨q162, hq162, hf⟩ := bd_s hf
    refine cGv (cVrun (rest := []) X (c_X12_spells l G w 15 (by decide) q162 hq162) bw1525 bw1527 bw54 bw105 bw1528 cn_X12_spells ⟨rfl, rfl, Nat.le_of_ble_eq_true rfl, Nat.le_of_ble_eq_true rfl⟩ (r_rec X hH) rA_g hH hS hl rfl (Nat.le_of_ble_eq_true rfl) dX12_word_162) hS (fun H locs hH hS => ?_)
    refine lv_bipush (v := 6) hx hb dX12_word_165 (by decide) ?_
    subst hQ
    exact cEi X (rH2 (so_s hf) hH) hS (pf1 (so_s hf)) dX12_word_167
  have hf := fo_f hc119 hf
  refine lv_lookup (off := 164) (tgt := 168) hx hb dX12_word_4 (by decide) ((lv_osw hc98 (by decide)).trans ((lv_osw hc99 (by decide)).trans ((lv_osw hc102 (by decide)).trans ((lv_osw hc108 (by decide)).trans ((lv_osw hc109 (by decide)).trans ((lv_osw hc119 (by decide)).trans rfl)))))) (by decide) ?_
  refine lv_aload_n hx hb dX12_word_168 rfl (lv_at hl 0 rfl) ?_
  refine lv_iconst (v := 1) hx hb dX12_word_169 (by decide) ?_
  refine ro_put (C := RX12) (N := 30) X hH hS 0 (by decide) rO rfl inBX12 tyX12 tyX12_ok nmX12 6 (by decide) bw1384 rfl (nz zb1) (fz zb1) (by simp) (sS w 6 1) rfl rE_sS dX12_word_170 (fun H locs hH hS => ?_)
  obtain ⟨w170, ew170⟩ : ∃ z : CW, z = (sS w 6 1) := ⟨_, rfl⟩
  have hf := nm_s hf w170 ew170
  have hH : rH G w170 H := ew170 ▸ hH
  refine lv_iconst (v := 0) hx hb dX12_word_173 (by decide) ?_
  subst hQ
  exact cEi X (rH2 (so_s hf) hH) hS (pf1 (so_s hf)) dX12_word_174
def f_X12_reads (w : CW) (a1 : Int32) : Option (CW) := (if ((1330 + a1) < 0 ∨ 3250 ≤ (1330 + a1).toNatClampNeg) then none else (nmk ((8 * a1) + (w.1 0 (1330 + a1).toNatClampNeg)) fun (x15 : Int32) => (Option.bind (f_X12_word w) fun q17 => (if ((1340 + x15) < 0 ∨ 3250 ≤ (1340 + x15).toNatClampNeg) then none else (nmk (sC q17.2 0 (1340 + x15).toNatClampNeg q17.1) fun w31 => (nmk (fun (z58_0 : Int32) (w58_ : CW) => (if ((1420 + x15) < 0 ∨ 3250 ≤ (1420 + x15).toNatClampNeg) then none else (nmk (sC w58_ 0 (1420 + x15).toNatClampNeg z58_0) fun w58 => (nmk (fun (w146_ : CW) => (if ((1330 + a1) < 0 ∨ 3250 ≤ (1330 + a1).toNatClampNeg) then none else (if ((1330 + a1) < 0 ∨ 3250 ≤ (1330 + a1).toNatClampNeg) then none else (nmk (sC w146_ 0 (1330 + a1).toNatClampNeg ((w146_.1 0 (1330 + a1).toNatClampNeg) + (if (w146_.2.2 6) = 0 then 1 else 0))) fun w170 => (some w170))))) fun j146 => (if q17.1 = 0 then (Option.bind (f_X12_must w58 32) fun q66 => (Option.bind (f_X12_figure q66 1) fun q80 => (if ((1500 + x15) < 0 ∨ 3250 ≤ (1500 + x15).toNatClampNeg) then none else (nmk (sC q80.2 0 (1500 + x15).toNatClampNeg q80.1) fun w83 => (Option.bind (f_X12_must w83 32) fun q87 => (Option.bind (f_X12_figure q87 0) fun q101 => (if ((1580 + x15) < 0 ∨ 3250 ≤ (1580 + x15).toNatClampNeg) then none else (nmk (sC q101.2 0 (1580 + x15).toNatClampNeg q101.1) fun w104 => (j146 w104))))))))) else (if q17.1 = 1 then (j146 w58) else (nmk (fun (z145_0 : Int32) (w145_ : CW) => (if ((1500 + x15) < 0 ∨ 3250 ≤ (1500 + x15).toNatClampNeg) then none else (nmk (sC w145_ 0 (1500 + x15).toNatClampNeg z145_0) fun w145 => (j146 w145)))) fun j145 => (nmk (fun (_ : Unit) => (Option.bind (f_X12_figure w58 0) fun q135 => (j145 q135.1 q135.2))) fun j133 => (if q17.1 = 5 then (j133 ()) else (if q17.1 = 6 then (j133 ()) else (Option.bind (f_X12_number w58) fun q142 => (j145 q142.1 q142.2)))))))))))) fun j58 => (nmk (fun (_ : Unit) => (Option.bind (f_X12_letters w31) fun q51 => (j58 q51.1 q51.2))) fun j50 => (if q17.1 = 0 then (j50 ()) else (if q17.1 = 1 then (j50 ()) else (j58 0 w31))))))))))
abbrev rm_X12_reads : Room := { frames := 7, cells := 0, slots := 0, locals := 127 }
theorem cn_X12_reads : CN yX12_reads 1 := ⟨by decide +kernel, by decide +kernel, by decide +kernel⟩
set_option maxHeartbeats 4000000 in
set_option maxRecDepth 100000 in
theorem c_X12_reads (l : Launch) (G : GX) (w : CW) (a1 : Int32) (q : CW) (hf : f_X12_reads w a1 = some q) : MV l G yX12_reads cX12_reads 4 rm_X12_reads [.ref (G.2.2.1 300), .int a1] (rA G) (rH G w) (rH G q) := by
  refine cM_start (by decide +kernel) (Nat.le_of_ble_eq_true rfl) ?_
  intro p e s m below meth c ls X hH hl
  have hS : va_S (rA G) s.heap s.heap [] := va_S.rf
  have hx := X.1.1
  have hb := X.1.2.1
  generalize hargs : ([.ref (G.2.2.1 300), .int a1] : List Value).toArray = args at X ⊢
  generalize hQ : MQ below (QV (rA G) (rH G q)) args s 0 0 (rA G) = Q
  have hl : lv_has ls 4 [(0, .ref (G.2.2.1 300)), (1, .int a1)] := hl
  unfold f_X12_reads at hf
  refine lv_bipush (v := 8) hx hb dX12_reads_0 (by decide) ?_
  refine lv_iload_n hx hb dX12_reads_2 rfl (lv_at hl 1 rfl) ?_
  refine lv_imul hx hb dX12_reads_3 ?_
  refine lv_aload_n hx hb dX12_reads_4 rfl (lv_at hl 0 rfl) ?_
  refine ro_get (C := RX12) (N := 30) X hH 0 (by decide) rO rfl inBX12 1 (by decide) rfl bw1379 dX12_reads_5 ?_
  refine lv_sipush (v := 1330) hx hb dX12_reads_8 (by decide) ?_
  refine lv_iload_n hx hb dX12_reads_11 rfl (lv_at hl 1 rfl) ?_
  refine lv_iadd hx hb dX12_reads_12 ?_
  by_cases hc : ((1330 + a1) < 0 ∨ 3250 ≤ (1330 + a1).toNatClampNeg)
  · cases (fo_t hc hf)
  have hf := fo_f hc hf
  refine ra_ld X hH 0 (by decide) (by decide) hc dX12_reads_13 ?_
  refine lv_iadd hx hb dX12_reads_14 ?_
  refine lv_topi (fun x15 ex15 => ?_)
  have hf := nm_s hf x15 ex15
  refine lv_istore_n (lv' := [(2, .int x15), (0, .ref (G.2.2.1 300)), (1, .int a1)]) hx hb dX12_reads_15 rfl hl (by decide) rfl (fun ls hl => ?_)
  refine lv_aload_n hx hb dX12_reads_16 rfl (lv_at hl 1 rfl) ?_
  obtain ⟨q17, hq17, hf⟩ := bd_s hf
  refine cGi (cVrun (rest := []) X (c_X12_word l G w q17 hq17) bw1516 bw1518 bw52 bw105 bw1519 cn_X12_word ⟨rfl, rfl, Nat.le_of_ble_eq_true rfl, Nat.le_of_ble_eq_true rfl⟩ (r_rec X hH) rA_g hH hS hl rfl (Nat.le_of_ble_eq_true rfl) dX12_reads_17) hS (fun H locs hH hS => ?_)
  refine lv_istore_n (lv' := [(3, .int q17.1), (2, .int x15), (0, .ref (G.2.2.1 300)), (1, .int a1)]) hx hb dX12_reads_20 rfl hl (by decide) rfl (fun ls hl => ?_)
  refine lv_aload_n hx hb dX12_reads_21 rfl (lv_at hl 2 rfl) ?_
  refine ro_get (C := RX12) (N := 30) X hH 0 (by decide) rO rfl inBX12 1 (by decide) rfl bw1379 dX12_reads_22 ?_
  refine lv_sipush (v := 1340) hx hb dX12_reads_25 (by decide) ?_
  refine lv_iload_n hx hb dX12_reads_28 rfl (lv_at hl 1 rfl) ?_
  refine lv_iadd hx hb dX12_reads_29 ?_
  refine lv_iload_n hx hb dX12_reads_30 rfl (lv_at hl 0 rfl) ?_
  by_cases hc : ((1340 + x15) < 0 ∨ 3250 ≤ (1340 + x15).toNatClampNeg)
  · cases (fo_t hc hf)
  have hf := fo_f hc hf
  refine ra_st X hH hS 0 (by decide) (by decide) hc dX12_reads_31 (fun H locs hH hS => ?_)
  obtain ⟨w31, ew31⟩ : ∃ z : CW, z = (sC q17.2 0 (1340 + x15).toNatClampNeg q17.1) := ⟨_, rfl⟩
  have hf := nm_s hf w31 ew31
  have hH : rH G w31 H := ew31 ▸ hH
  refine lv_aload_n hx hb dX12_reads_32 rfl (lv_at hl 2 rfl) ?_
  refine ro_get (C := RX12) (N := 30) X hH 0 (by decide) rO rfl inBX12 1 (by decide) rfl bw1379 dX12_reads_33 ?_
  refine lv_sipush (v := 1420) hx hb dX12_reads_36 (by decide) ?_
  refine lv_iload_n hx hb dX12_reads_39 rfl (lv_at hl 1 rfl) ?_
  refine lv_iadd hx hb dX12_reads_40 ?_
  refine lv_iload_n hx hb dX12_reads_41 rfl (lv_at hl 0 rfl) ?_
  obtain ⟨j58, ej58, hf⟩ := nm_x hf
  have hj58 : ∀ (z58_0 : Int32) (w58_ : CW) (H : Heap) (locs : List Loc) (ls : Array Slot), j58 z58_0 w58_ = some q → rH G w58_ H → va_S (rA G) s.heap H locs → lv_has ls 4 [(3, .int q17.1), (2, .int x15), (0, .ref (G.2.2.1 300)), (1, .int a1)] → W p l e rm_X12_reads s m args below meth c H locs 0 0 Q (F0 m 58 ls [.int z58_0, .int (1420 + x15), .ref (G.2.2.1 301)]) := by
    intro z58_0 w58_ H locs ls hf hH hS hl
    have hf := jb2 ej58 hf
    by_cases hc : ((1420 + x15) < 0 ∨ 3250 ≤ (1420 + x15).toNatClampNeg)
    · cases (fo_t hc hf)
    have hf := fo_f hc hf
    refine ra_st X hH hS 0 (by decide) (by decide) hc dX12_reads_58 (fun H locs hH hS => ?_)
    obtain ⟨w58, ew58⟩ : ∃ z : CW, z = (sC w58_ 0 (1420 + x15).toNatClampNeg z58_0) := ⟨_, rfl⟩
    have hf := nm_s hf w58 ew58
    have hH : rH G w58 H := ew58 ▸ hH
    refine lv_iload_n hx hb dX12_reads_59 rfl (lv_at hl 0 rfl) ?_
    obtain ⟨j146, ej146, hf⟩ := nm_x hf
    have hj146 : ∀ (w146_ : CW) (H : Heap) (locs : List Loc) (ls : Array Slot), j146 w146_ = some q → rH G w146_ H → va_S (rA G) s.heap H locs → lv_has ls 4 [(0, .ref (G.2.2.1 300)), (1, .int a1)] → W p l e rm_X12_reads s m args below meth c H locs 0 0 Q (F0 m 146 ls []) := by
      intro w146_ H locs ls hf hH hS hl
      have hf := jb1 ej146 hf
      refine lv_aload_n hx hb dX12_reads_146 rfl (lv_at hl 0 rfl) ?_
      refine ro_get (C := RX12) (N := 30) X hH 0 (by decide) rO rfl inBX12 1 (by decide) rfl bw1379 dX12_reads_147 ?_
      refine lv_sipush (v := 1330) hx hb dX12_reads_150 (by decide) ?_
      refine lv_iload_n hx hb dX12_reads_153 rfl (lv_at hl 1 rfl) ?_
      refine lv_iadd hx hb dX12_reads_154 ?_
      refine lv_dup2_11 hx hb dX12_reads_155 rfl rfl ?_
      by_cases hc : ((1330 + a1) < 0 ∨ 3250 ≤ (1330 + a1).toNatClampNeg)
      · cases (fo_t hc hf)
      have hf := fo_f hc hf
      refine ra_ld X hH 0 (by decide) (by decide) hc dX12_reads_156 ?_
      refine lv_aload_n hx hb dX12_reads_157 rfl (lv_at hl 0 rfl) ?_
      refine ro_get (C := RX12) (N := 30) X hH 0 (by decide) rO rfl inBX12 6 (by decide) rfl bw1384 dX12_reads_158 ?_
      have hJ : ∀ (H : Heap) (locs : List Loc), rH G w146_ H → va_S (rA G) s.heap H locs → W p l e rm_X12_reads s m args below meth c H locs 0 0 Q (F0 m 169 ls [.int (if (w146_.2.2 6) = 0 then 1 else 0), .int (w146_.1 0 (1330 + a1).toNatClampNeg), .int (1330 + a1), .ref (G.2.2.1 301)]) := by
        intro H locs hH hS
        refine lv_iadd hx hb dX12_reads_169 ?_
        by_cases hc : ((1330 + a1) < 0 ∨ 3250 ≤ (1330 + a1).toNatClampNeg)
        · cases (fo_t hc hf)
        have hf := fo_f hc hf
        refine ra_st X hH hS 0 (by decide) (by decide) hc dX12_reads_170 (fun H locs hH hS => ?_)
        obtain ⟨w170, ew170⟩ : ∃ z : CW, z = (sC w146_ 0 (1330 + a1).toNatClampNeg ((w146_.1 0 (1330 + a1).toNatClampNeg) + (if (w146_.2.2 6) = 0 then 1 else 0))) := ⟨_, rfl⟩
        have hf := nm_s hf w170 ew170
        have hH : rH G w170 H := ew170 ▸ hH
        subst hQ
        exact cEv X (rH1 (so_s hf) hH) hS dX12_reads_171
      refine lv_if_eq (tgt := 168) hx hb dX12_reads_161 (by decide) (fun hc161 => ?_) (fun hc161 => ?_)
      · refine lv_iconst (v := 1) hx hb dX12_reads_168 (by decide) ?_
        exact W.eq (by rw [if_pos hc161] <;> rfl) (hJ _ _ hH hS)
      · refine lv_iconst (v := 0) hx hb dX12_reads_164 (by decide) ?_
        refine lv_goto (tgt := 169) hx hb dX12_reads_165 (by decide) ?_
        exact W.eq (by rw [if_neg hc161] <;> rfl) (hJ _ _ hH hS)
    refine lv_if_ne (tgt := 108) hx hb dX12_reads_60 (by decide) (fun hc => ?_) (fun hc => ?_)
    rotate_left
    · have hf := fo_t hc hf
      refine lv_aload_n hx hb dX12_reads_63 rfl (lv_at hl 2 rfl) ?_
      refine lv_bipush (v := 32) hx hb dX12_reads_64 (by decide) ?_
      obtain ⟨q66, hq66, hf⟩ := bd_s hf
      refine cGv (cVrun (rest := []) X (c_X12_must l G w58 32 q66 hq66) bw1531 bw1533 bw55 bw105 bw1534 cn_X12_must ⟨rfl, rfl, Nat.le_of_ble_eq_true rfl, Nat.le_of_ble_eq_true rfl⟩ (r_rec X hH) rA_g hH hS hl rfl (Nat.le_of_ble_eq_true rfl) dX12_reads_66) hS (fun H locs hH hS => ?_)
      refine lv_aload_n hx hb dX12_reads_69 rfl (lv_at hl 2 rfl) ?_
      refine ro_get (C := RX12) (N := 30) X hH 0 (by decide) rO rfl inBX12 1 (by decide) rfl bw1379 dX12_reads_70 ?_
      refine lv_sipush (v := 1500) hx hb dX12_reads_73 (by decide) ?_
      refine lv_iload_n hx hb dX12_reads_76 rfl (lv_at hl 1 rfl) ?_
      refine lv_iadd hx hb dX12_reads_77 ?_
      refine lv_aload_n hx hb dX12_reads_78 rfl (lv_at hl 2 rfl) ?_
      refine lv_iconst (v := 1) hx hb dX12_reads_79 (by decide) ?_
      obtain ⟨q80, hq80, hf⟩ := bd_s hf
      refine cGi (cVrun (rest := [.int (1500 + x15), .ref (G.2.2.1 301)]) X (c_X12_figure l G q66 1 q80 hq80) bw1550 bw1552 bw58 bw105 bw1553 cn_X12_figure ⟨rfl, rfl, Nat.le_of_ble_eq_true rfl, Nat.le_of_ble_eq_true rfl⟩ (r_rec X hH) rA_g hH hS hl rfl (Nat.le_of_ble_eq_true rfl) dX12_reads_80) hS (fun H locs hH hS => ?_)
      by_cases hc : ((1500 + x15) < 0 ∨ 3250 ≤ (1500 + x15).toNatClampNeg)
      · cases (fo_t hc hf)
      have hf := fo_f hc hf
      refine ra_st X hH hS 0 (by decide) (by decide) hc dX12_reads_83 (fun H locs hH hS => ?_)
      obtain ⟨w83, ew83⟩ : ∃ z : CW, z = (sC q80.2 0 (1500 + x15).toNatClampNeg q80.1) := ⟨_, rfl⟩
      have hf := nm_s hf w83 ew83
      have hH : rH G w83 H := ew83 ▸ hH
      refine lv_aload_n hx hb dX12_reads_84 rfl (lv_at hl 2 rfl) ?_
      refine lv_bipush (v := 32) hx hb dX12_reads_85 (by decide) ?_
      obtain ⟨q87, hq87, hf⟩ := bd_s hf
      refine cGv (cVrun (rest := []) X (c_X12_must l G w83 32 q87 hq87) bw1531 bw1533 bw55 bw105 bw1534 cn_X12_must ⟨rfl, rfl, Nat.le_of_ble_eq_true rfl, Nat.le_of_ble_eq_true rfl⟩ (r_rec X hH) rA_g hH hS hl rfl (Nat.le_of_ble_eq_true rfl) dX12_reads_87) hS (fun H locs hH hS => ?_)
      refine lv_aload_n hx hb dX12_reads_90 rfl (lv_at hl 2 rfl) ?_
      refine ro_get (C := RX12) (N := 30) X hH 0 (by decide) rO rfl inBX12 1 (by decide) rfl bw1379 dX12_reads_91 ?_
      refine lv_sipush (v := 1580) hx hb dX12_reads_94 (by decide) ?_
      refine lv_iload_n hx hb dX12_reads_97 rfl (lv_at hl 1 rfl) ?_
      refine lv_iadd hx hb dX12_reads_98 ?_
      refine lv_aload_n hx hb dX12_reads_99 rfl (lv_at hl 2 rfl) ?_
      refine lv_iconst (v := 0) hx hb dX12_reads_100 (by decide) ?_
      obtain ⟨q101, hq101, hf⟩ := bd_s hf
      refine cGi (cVrun (rest := [.int (1580 + x15), .ref (G.2.2.1 301)]) X (c_X12_figure l G q87 0 q101 hq101) bw1550 bw1552 bw58 bw105 bw1553 cn_X12_figure ⟨rfl, rfl, Nat.le_of_ble_eq_true rfl, Nat.le_of_ble_eq_true rfl⟩ (r_rec X hH) rA_g hH hS hl rfl (Nat.le_of_ble_eq_true rfl) dX12_reads_101) hS (fun H locs hH hS => ?_)
      by_cases hc : ((1580 + x15) < 0 ∨ 3250 ≤ (1580 + x15).toNatClampNeg)
      · cases (fo_t hc hf)
      have hf := fo_f hc hf
      refine ra_st X hH hS 0 (by decide) (by decide) hc dX12_reads_104 (fun H locs hH hS => ?_)
      obtain ⟨w104, ew104⟩ : ∃ z : CW, z = (sC q101.2 0 (1580 + x15).toNatClampNeg q101.1) := ⟨_, rfl⟩
      have hf := nm_s hf w104 ew104
      have hH : rH G w104 H := ew104 ▸ hH
      refine lv_goto (tgt := 146) hx hb dX12_reads_105 (by decide) ?_
      exact hj146 _ _ _ _ hf hH hS (lv_sub hl [2, 3] rfl)
    have hf := fo_f hc hf
    refine lv_iload_n hx hb dX12_reads_108 rfl (lv_at hl 0 rfl) ?_
    refine lv_iconst (v := 1) hx hb dX12_reads_109 (by decide) ?_
    refine lv_icmp_eq (tgt := 146) hx hb dX12_reads_110 (by decide) (fun hc => ?_) (fun hc => ?_)
    · have hf := fo_t hc hf
      exact hj146 _ _ _ _ hf hH hS (lv_sub hl [2, 3] rfl)
    have hf := fo_f hc hf
    refine lv_aload_n hx hb dX12_reads_113 rfl (lv_at hl 2 rfl) ?_
    refine ro_get (C := RX12) (N := 30) X hH 0 (by decide) rO rfl inBX12 1 (by decide) rfl bw1379 dX12_reads_114 ?_
    refine lv_sipush (v := 1500) hx hb dX12_reads_117 (by decide) ?_
    refine lv_iload_n hx hb dX12_reads_120 rfl (lv_at hl 1 rfl) ?_
    refine lv_iadd hx hb dX12_reads_121 ?_
    refine lv_iload_n hx hb dX12_reads_122 rfl (lv_at hl 0 rfl) ?_
    refine lv_iconst (v := 5) hx hb dX12_reads_123 (by decide) ?_
    obtain ⟨j145, ej145, hf⟩ := nm_x hf
    have hj145 : ∀ (z145_0 : Int32) (w145_ : CW) (H : Heap) (locs : List Loc) (ls : Array Slot), j145 z145_0 w145_ = some q → rH G w145_ H → va_S (rA G) s.heap H locs → lv_has ls 4 [(0, .ref (G.2.2.1 300)), (1, .int a1)] → W p l e rm_X12_reads s m args below meth c H locs 0 0 Q (F0 m 145 ls [.int z145_0, .int (1500 + x15), .ref (G.2.2.1 301)]) := by
      intro z145_0 w145_ H locs ls hf hH hS hl
      have hf := jb2 ej145 hf
      by_cases hc : ((1500 + x15) < 0 ∨ 3250 ≤ (1500 + x15).toNatClampNeg)
      · cases (fo_t hc hf)
      have hf := fo_f hc hf
      refine ra_st X hH hS 0 (by decide) (by decide) hc dX12_reads_145 (fun H locs hH hS => ?_)
      obtain ⟨w145, ew145⟩ : ∃ z : CW, z = (sC w145_ 0 (1500 + x15).toNatClampNeg z145_0) := ⟨_, rfl⟩
      have hf := nm_s hf w145 ew145
      have hH : rH G w145 H := ew145 ▸ hH
      exact hj146 _ _ _ _ hf hH hS (lv_sub hl [0, 1] rfl)
    obtain ⟨j133, ej133, hf⟩ := nm_x hf
    have hj133 : ∀ (u0 : Unit) (H : Heap) (locs : List Loc) (ls : Array Slot), j133 u0 = some q → rH G w58 H → va_S (rA G) s.heap H locs → lv_has ls 4 [(0, .ref (G.2.2.1 300)), (1, .int a1)] → W p l e rm_X12_reads s m args below meth c H locs 0 0 Q (F0 m 133 ls [.int (1500 + x15), .ref (G.2.2.1 301)]) := by
      intro u0 H locs ls hf hH hS hl
      have hf := jb1 ej133 hf
      refine lv_aload_n hx hb dX12_reads_133 rfl (lv_at hl 0 rfl) ?_
      refine lv_iconst (v := 0) hx hb dX12_reads_134 (by decide) ?_
      obtain ⟨q135, hq135, hf⟩ := bd_s hf
      refine cGi (cVrun (rest := [.int (1500 + x15), .ref (G.2.2.1 301)]) X (c_X12_figure l G w58 0 q135 hq135) bw1550 bw1552 bw58 bw105 bw1553 cn_X12_figure ⟨rfl, rfl, Nat.le_of_ble_eq_true rfl, Nat.le_of_ble_eq_true rfl⟩ (r_rec X hH) rA_g hH hS hl rfl (Nat.le_of_ble_eq_true rfl) dX12_reads_135) hS (fun H locs hH hS => ?_)
      refine lv_goto (tgt := 145) hx hb dX12_reads_138 (by decide) ?_
      exact hj145 _ _ _ _ _ hf hH hS (lv_sub hl [0, 1] rfl)
    refine lv_icmp_eq (tgt := 133) hx hb dX12_reads_124 (by decide) (fun hc => ?_) (fun hc => ?_)
    · have hf := fo_t hc hf
      exact hj133 () _ _ _ hf hH hS (lv_sub hl [2, 3] rfl)
    have hf := fo_f hc hf
    refine lv_iload_n hx hb dX12_reads_127 rfl (lv_at hl 0 rfl) ?_
    refine lv_bipush (v := 6) hx hb dX12_reads_128 (by decide) ?_
    refine lv_icmp_ne (tgt := 141) hx hb dX12_reads_130 (by decide) (fun hc => ?_) (fun hc => ?_)
    rotate_left
    · have hf := fo_t hc hf
      exact hj133 () _ _ _ hf hH hS (lv_sub hl [2, 3] rfl)
    have hf := fo_f hc hf
    refine lv_aload_n hx hb dX12_reads_141 rfl (lv_at hl 2 rfl) ?_
    obtain ⟨q142, hq142, hf⟩ := bd_s hf
    refine cGi (cVrun (rest := [.int (1500 + x15), .ref (G.2.2.1 301)]) X (c_X12_number l G w58 q142 hq142) bw1554 bw1556 bw59 bw105 bw1557 cn_X12_number ⟨rfl, rfl, Nat.le_of_ble_eq_true rfl, Nat.le_of_ble_eq_true rfl⟩ (r_rec X hH) rA_g hH hS hl rfl (Nat.le_of_ble_eq_true rfl) dX12_reads_142) hS (fun H locs hH hS => ?_)
    exact hj145 _ _ _ _ _ hf hH hS (lv_sub hl [2, 3] rfl)
  obtain ⟨j50, ej50, hf⟩ := nm_x hf
  have hj50 : ∀ (u0 : Unit) (H : Heap) (locs : List Loc) (ls : Array Slot), j50 u0 = some q → rH G w31 H → va_S (rA G) s.heap H locs → lv_has ls 4 [(3, .int q17.1), (2, .int x15), (0, .ref (G.2.2.1 300)), (1, .int a1)] → W p l e rm_X12_reads s m args below meth c H locs 0 0 Q (F0 m 50 ls [.int (1420 + x15), .ref (G.2.2.1 301)]) := by
    intro u0 H locs ls hf hH hS hl
    have hf := jb1 ej50 hf
    refine lv_aload_n hx hb dX12_reads_50 rfl (lv_at hl 2 rfl) ?_
    obtain ⟨q51, hq51, hf⟩ := bd_s hf
    refine cGi (cVrun (rest := [.int (1420 + x15), .ref (G.2.2.1 301)]) X (c_X12_letters l G w31 q51 hq51) bw1542 bw1544 bw56 bw105 bw1545 cn_X12_letters ⟨rfl, rfl, Nat.le_of_ble_eq_true rfl, Nat.le_of_ble_eq_true rfl⟩ (r_rec X hH) rA_g hH hS hl rfl (Nat.le_of_ble_eq_true rfl) dX12_reads_51) hS (fun H locs hH hS => ?_)
    refine lv_goto (tgt := 58) hx hb dX12_reads_54 (by decide) ?_
    exact hj58 _ _ _ _ _ hf hH hS (lv_sub hl [0, 1, 2, 3] rfl)
  refine lv_if_eq (tgt := 50) hx hb dX12_reads_42 (by decide) (fun hc => ?_) (fun hc => ?_)
  · have hf := fo_t hc hf
    exact hj50 () _ _ _ hf hH hS (lv_sub hl [0, 1, 2, 3] rfl)
  have hf := fo_f hc hf
  refine lv_iload_n hx hb dX12_reads_45 rfl (lv_at hl 0 rfl) ?_
  refine lv_iconst (v := 1) hx hb dX12_reads_46 (by decide) ?_
  refine lv_icmp_ne (tgt := 57) hx hb dX12_reads_47 (by decide) (fun hc => ?_) (fun hc => ?_)
  rotate_left
  · have hf := fo_t hc hf
    exact hj50 () _ _ _ hf hH hS (lv_sub hl [0, 1, 2, 3] rfl)
  have hf := fo_f hc hf
  refine lv_iconst (v := 0) hx hb dX12_reads_57 (by decide) ?_
  exact hj58 _ _ _ _ _ hf hH hS (lv_sub hl [0, 1, 2, 3] rfl)
def f_X12_readsWay_L110 (a1 : Int32) (j159 : CW → Option (Int32 × CW)) : Nat → CW → Option (Int32 × CW)
  | 0, _ => none
  | n110 + 1, w110_ => (if (w110_.2.2 6) = 0 then (if ((1330 + a1) < 0 ∨ 3250 ≤ (1330 + a1).toNatClampNeg) then none else (if 8 ≤ (w110_.1 0 (1330 + a1).toNatClampNeg) then (j159 w110_) else (Option.bind (f_X12_here w110_) fun q133 => (if q133 = 59 then (nmk (sS w110_ 5 ((w110_.2.2 5) + 1)) fun w148 => (Option.bind (f_X12_reads w148 a1) fun q153 => (f_X12_readsWay_L110 a1 j159 n110 q153))) else (j159 w110_))))) else (j159 w110_))
def f_X12_readsWay_L30 (a1 : Int32) (j71 : CW → Option (Int32 × CW)) : Nat → Int32 → CW → Option (Int32 × CW)
  | 0, _, _ => none
  | n30 + 1, v30_3, w30_ => (if ((9 : Int32) < 0 ∨ 3250 ≤ (9 : Int32).toNatClampNeg) then none else (if (w30_.1 0 (9 : Int32).toNatClampNeg) ≤ v30_3 then (j71 w30_) else (if ((110 + v30_3) < 0 ∨ 3250 ≤ (110 + v30_3).toNatClampNeg) then none else (if (((250 + (120 * a1)) + v30_3) < 0 ∨ 3250 ≤ ((250 + (120 * a1)) + v30_3).toNatClampNeg) then none else (nmk (sC w30_ 0 ((250 + (120 * a1)) + v30_3).toNatClampNeg (w30_.1 0 (110 + v30_3).toNatClampNeg)) fun w64 => (nmk (v30_3 + 1) fun (x65 : Int32) => (f_X12_readsWay_L30 a1 j71 n30 x65 w64)))))))
def f_X12_readsWay (w : CW) (a1 : Int32) (a2 : Int32) : Option (Int32 × CW) := (if ((230 + a1) < 0 ∨ 3250 ≤ (230 + a1).toNatClampNeg) then none else (nmk (sC w 0 (230 + a1).toNatClampNeg a2) fun w10 => (if ((9 : Int32) < 0 ∨ 3250 ≤ (9 : Int32).toNatClampNeg) then none else (if ((240 + a1) < 0 ∨ 3250 ≤ (240 + a1).toNatClampNeg) then none else (nmk (sC w10 0 (240 + a1).toNatClampNeg (w10.1 0 (9 : Int32).toNatClampNeg)) fun w27 => (nmk (fun (w71_ : CW) => (if ((9 : Int32) < 0 ∨ 3250 ≤ (9 : Int32).toNatClampNeg) then none else (nmk (sC w71_ 0 (9 : Int32).toNatClampNeg 0) fun w78 => (if ((1330 + a1) < 0 ∨ 3250 ≤ (1330 + a1).toNatClampNeg) then none else (nmk (sC w78 0 (1330 + a1).toNatClampNeg 0) fun w89 => (nmk (sS w89 4 a1) fun w92 => (nmk (sS w92 5 0) fun w97 => (nmk (sS w97 6 0) fun w102 => (Option.bind (f_X12_reads w102 a1) fun q107 => (nmk (fun (w159_ : CW) => (nmk (fun (z189_0 : Int32) => (nmk (sS w159_ 6 z189_0) fun w189 => (some ((if (w189.2.2 6) = 0 then 1 else 0), w189)))) fun j189 => (nmk (fun (_ : Unit) => (j189 1)) fun j184 => (if (w159_.2.2 6) = 0 then (if ((240 + a1) < 0 ∨ 3250 ≤ (240 + a1).toNatClampNeg) then none else (if (w159_.2.2 5) = (w159_.1 0 (240 + a1).toNatClampNeg) then (j189 0) else (j184 ()))) else (j184 ()))))) fun j159 => (f_X12_readsWay_L110 a1 j159 FU q107))))))))))) fun j71 => (f_X12_readsWay_L30 a1 j71 FU 0 w27)))))))
abbrev rm_X12_readsWay : Room := { frames := 8, cells := 0, slots := 0, locals := 150 }
theorem cn_X12_readsWay : CN yX12_readsWay 2 := ⟨by decide +kernel, by decide +kernel, by decide +kernel⟩
set_option maxHeartbeats 4000000 in
set_option maxRecDepth 100000 in
theorem c_X12_readsWay (l : Launch) (G : GX) (w : CW) (a1 : Int32) (a2 : Int32) (q : Int32 × CW) (hf : f_X12_readsWay w a1 a2 = some q) : MZ l G yX12_readsWay cX12_readsWay 4 (some .boolean) rm_X12_readsWay [.ref (G.2.2.1 300), .int a1, .int a2] (rA G) (rH G w) (rH G q.2) q.1 := by
  refine cM_start (by decide +kernel) (Nat.le_of_ble_eq_true rfl) ?_
  intro p e s m below meth c ls X hH hl
  have hS : va_S (rA G) s.heap s.heap [] := va_S.rf
  have hx := X.1.1
  have hb := X.1.2.1
  generalize hargs : ([.ref (G.2.2.1 300), .int a1, .int a2] : List Value).toArray = args at X ⊢
  generalize hQ : MQ below (QZ (rA G) (rH G q.2) q.1) args s 0 0 (rA G) = Q
  have hl : lv_has ls 4 [(0, .ref (G.2.2.1 300)), (1, .int a1), (2, .int a2)] := hl
  unfold f_X12_readsWay at hf
  refine lv_aload_n hx hb dX12_readsWay_0 rfl (lv_at hl 0 rfl) ?_
  refine ro_get (C := RX12) (N := 30) X hH 0 (by decide) rO rfl inBX12 1 (by decide) rfl bw1379 dX12_readsWay_1 ?_
  refine lv_sipush (v := 230) hx hb dX12_readsWay_4 (by decide) ?_
  refine lv_iload_n hx hb dX12_readsWay_7 rfl (lv_at hl 1 rfl) ?_
  refine lv_iadd hx hb dX12_readsWay_8 ?_
  refine lv_iload_n hx hb dX12_readsWay_9 rfl (lv_at hl 2 rfl) ?_
  by_cases hc : ((230 + a1) < 0 ∨ 3250 ≤ (230 + a1).toNatClampNeg)
  · cases (fo_t hc hf)
  have hf := fo_f hc hf
  refine ra_st X hH hS 0 (by decide) (by decide) hc dX12_readsWay_10 (fun H locs hH hS => ?_)
  obtain ⟨w10, ew10⟩ : ∃ z : CW, z = (sC w 0 (230 + a1).toNatClampNeg a2) := ⟨_, rfl⟩
  have hf := nm_s hf w10 ew10
  have hH : rH G w10 H := ew10 ▸ hH
  refine lv_aload_n hx hb dX12_readsWay_11 rfl (lv_at hl 0 rfl) ?_
  refine ro_get (C := RX12) (N := 30) X hH 0 (by decide) rO rfl inBX12 1 (by decide) rfl bw1379 dX12_readsWay_12 ?_
  refine lv_sipush (v := 240) hx hb dX12_readsWay_15 (by decide) ?_
  refine lv_iload_n hx hb dX12_readsWay_18 rfl (lv_at hl 1 rfl) ?_
  refine lv_iadd hx hb dX12_readsWay_19 ?_
  refine lv_aload_n hx hb dX12_readsWay_20 rfl (lv_at hl 0 rfl) ?_
  refine ro_get (C := RX12) (N := 30) X hH 0 (by decide) rO rfl inBX12 1 (by decide) rfl bw1379 dX12_readsWay_21 ?_
  refine lv_bipush (v := 9) hx hb dX12_readsWay_24 (by decide) ?_
  by_cases hc : ((9 : Int32) < 0 ∨ 3250 ≤ (9 : Int32).toNatClampNeg)
  · cases (fo_t hc hf)
  have hf := fo_f hc hf
  refine ra_ld X hH 0 (by decide) (by decide) hc dX12_readsWay_26 ?_
  by_cases hc : ((240 + a1) < 0 ∨ 3250 ≤ (240 + a1).toNatClampNeg)
  · cases (fo_t hc hf)
  have hf := fo_f hc hf
  refine ra_st X hH hS 0 (by decide) (by decide) hc dX12_readsWay_27 (fun H locs hH hS => ?_)
  obtain ⟨w27, ew27⟩ : ∃ z : CW, z = (sC w10 0 (240 + a1).toNatClampNeg (w10.1 0 (9 : Int32).toNatClampNeg)) := ⟨_, rfl⟩
  have hf := nm_s hf w27 ew27
  have hH : rH G w27 H := ew27 ▸ hH
  refine lv_iconst (v := 0) hx hb dX12_readsWay_28 (by decide) ?_
  refine lv_istore_n (lv' := [(3, .int 0), (0, .ref (G.2.2.1 300)), (1, .int a1), (2, .int a2)]) hx hb dX12_readsWay_29 rfl hl (by decide) rfl (fun ls hl => ?_)
  obtain ⟨j71, ej71, hf⟩ := nm_x hf
  have hj71 : ∀ (w71_ : CW) (H : Heap) (locs : List Loc) (ls : Array Slot), j71 w71_ = some q → rH G w71_ H → va_S (rA G) s.heap H locs → lv_has ls 4 [(0, .ref (G.2.2.1 300)), (1, .int a1)] → W p l e rm_X12_readsWay s m args below meth c H locs 0 0 Q (F0 m 71 ls []) := by
    intro w71_ H locs ls hf hH hS hl
    have hf := jb1 ej71 hf
    refine lv_aload_n hx hb dX12_readsWay_71 rfl (lv_at hl 0 rfl) ?_
    refine ro_get (C := RX12) (N := 30) X hH 0 (by decide) rO rfl inBX12 1 (by decide) rfl bw1379 dX12_readsWay_72 ?_
    refine lv_bipush (v := 9) hx hb dX12_readsWay_75 (by decide) ?_
    refine lv_iconst (v := 0) hx hb dX12_readsWay_77 (by decide) ?_
    by_cases hc : ((9 : Int32) < 0 ∨ 3250 ≤ (9 : Int32).toNatClampNeg)
    · cases (fo_t hc hf)
    have hf := fo_f hc hf
    refine ra_st X hH hS 0 (by decide) (by decide) hc dX12_readsWay_78 (fun H locs hH hS => ?_)
    obtain ⟨w78, ew78⟩ : ∃ z : CW, z = (sC w71_ 0 (9 : Int32).toNatClampNeg 0) := ⟨_, rfl⟩
    have hf := nm_s hf w78 ew78
    have hH : rH G w78 H := ew78 ▸ hH
    refine lv_aload_n hx hb dX12_readsWay_79 rfl (lv_at hl 0 rfl) ?_
    refine ro_get (C := RX12) (N := 30) X hH 0 (by decide) rO rfl inBX12 1 (by decide) rfl bw1379 dX12_readsWay_80 ?_
    refine lv_sipush (v := 1330) hx hb dX12_readsWay_83 (by decide) ?_
    refine lv_iload_n hx hb dX12_readsWay_86 rfl (lv_at hl 1 rfl) ?_
    refine lv_iadd hx hb dX12_readsWay_87 ?_
    refine lv_iconst (v := 0) hx hb dX12_readsWay_88 (by decide) ?_
    by_cases hc : ((1330 + a1) < 0 ∨ 3250 ≤ (1330 + a1).toNatClampNeg)
    · cases (fo_t hc hf)
    have hf := fo_f hc hf
    refine ra_st X hH hS 0 (by decide) (by decide) hc dX12_readsWay_89 (fun H locs hH hS => ?_)
    obtain ⟨w89, ew89⟩ : ∃ z : CW, z = (sC w78 0 (1330 + a1).toNatClampNeg 0) := ⟨_, rfl⟩
    have hf := nm_s hf w89 ew89
    have hH : rH G w89 H := ew89 ▸ hH
    refine lv_aload_n hx hb dX12_readsWay_90 rfl (lv_at hl 0 rfl) ?_
    refine lv_iload_n hx hb dX12_readsWay_91 rfl (lv_at hl 1 rfl) ?_
    refine ro_put (C := RX12) (N := 30) X hH hS 0 (by decide) rO rfl inBX12 tyX12 tyX12_ok nmX12 4 (by decide) bw1382 rfl rfl rfl (by simp) (sS w89 4 a1) rfl rE_sS dX12_readsWay_92 (fun H locs hH hS => ?_)
    obtain ⟨w92, ew92⟩ : ∃ z : CW, z = (sS w89 4 a1) := ⟨_, rfl⟩
    have hf := nm_s hf w92 ew92
    have hH : rH G w92 H := ew92 ▸ hH
    refine lv_aload_n hx hb dX12_readsWay_95 rfl (lv_at hl 0 rfl) ?_
    refine lv_iconst (v := 0) hx hb dX12_readsWay_96 (by decide) ?_
    refine ro_put (C := RX12) (N := 30) X hH hS 0 (by decide) rO rfl inBX12 tyX12 tyX12_ok nmX12 5 (by decide) bw1383 rfl rfl rfl (by simp) (sS w92 5 0) rfl rE_sS dX12_readsWay_97 (fun H locs hH hS => ?_)
    obtain ⟨w97, ew97⟩ : ∃ z : CW, z = (sS w92 5 0) := ⟨_, rfl⟩
    have hf := nm_s hf w97 ew97
    have hH : rH G w97 H := ew97 ▸ hH
    refine lv_aload_n hx hb dX12_readsWay_100 rfl (lv_at hl 0 rfl) ?_
    refine lv_iconst (v := 0) hx hb dX12_readsWay_101 (by decide) ?_
    refine ro_put (C := RX12) (N := 30) X hH hS 0 (by decide) rO rfl inBX12 tyX12 tyX12_ok nmX12 6 (by decide) bw1384 rfl (nz zb0) (fz zb0) (by simp) (sS w97 6 0) rfl rE_sS dX12_readsWay_102 (fun H locs hH hS => ?_)
    obtain ⟨w102, ew102⟩ : ∃ z : CW, z = (sS w97 6 0) := ⟨_, rfl⟩
    have hf := nm_s hf w102 ew102
    have hH : rH G w102 H := ew102 ▸ hH
    refine lv_aload_n hx hb dX12_readsWay_105 rfl (lv_at hl 0 rfl) ?_
    refine lv_iload_n hx hb dX12_readsWay_106 rfl (lv_at hl 1 rfl) ?_
    obtain ⟨q107, hq107, hf⟩ := bd_s hf
    refine cGv (cVrun (rest := []) X (c_X12_reads l G w102 a1 q107 hq107) bw1512 bw1514 bw51 bw105 bw1515 cn_X12_reads ⟨rfl, rfl, Nat.le_of_ble_eq_true rfl, Nat.le_of_ble_eq_true rfl⟩ (r_rec X hH) rA_g hH hS hl rfl (Nat.le_of_ble_eq_true rfl) dX12_readsWay_107) hS (fun H locs hH hS => ?_)
    obtain ⟨j159, ej159, hf⟩ := nm_x hf
    have hj159 : ∀ (w159_ : CW) (H : Heap) (locs : List Loc) (ls : Array Slot), j159 w159_ = some q → rH G w159_ H → va_S (rA G) s.heap H locs → lv_has ls 4 [(0, .ref (G.2.2.1 300)), (1, .int a1)] → W p l e rm_X12_readsWay s m args below meth c H locs 0 0 Q (F0 m 159 ls []) := by
      intro w159_ H locs ls hf hH hS hl
      have hf := jb1 ej159 hf
      refine lv_aload_n hx hb dX12_readsWay_159 rfl (lv_at hl 0 rfl) ?_
      refine lv_aload_n hx hb dX12_readsWay_160 rfl (lv_at hl 0 rfl) ?_
      refine ro_get (C := RX12) (N := 30) X hH 0 (by decide) rO rfl inBX12 6 (by decide) rfl bw1384 dX12_readsWay_161 ?_
      obtain ⟨j189, ej189, hf⟩ := nm_x hf
      have hj189 : ∀ (z189_0 : Int32) (H : Heap) (locs : List Loc) (ls : Array Slot), (z189_0 = 0 ∨ z189_0 = 1) → j189 z189_0 = some q → rH G w159_ H → va_S (rA G) s.heap H locs → lv_has ls 4 [(0, .ref (G.2.2.1 300))] → W p l e rm_X12_readsWay s m args below meth c H locs 0 0 Q (F0 m 189 ls [.int z189_0, .ref (G.2.2.1 300)]) := by
        intro z189_0 H locs ls hzz189_0 hf hH hS hl
        have hf := jb1 ej189 hf
        refine ro_put (C := RX12) (N := 30) X hH hS 0 (by decide) rO rfl inBX12 tyX12 tyX12_ok nmX12 6 (by decide) bw1384 rfl (nz hzz189_0) (fz hzz189_0) (by simp) (sS w159_ 6 z189_0) rfl rE_sS dX12_readsWay_189 (fun H locs hH hS => ?_)
        obtain ⟨w189, ew189⟩ : ∃ z : CW, z = (sS w159_ 6 z189_0) := ⟨_, rfl⟩
        have hf := nm_s hf w189 ew189
        have hH : rH G w189 H := ew189 ▸ hH
        refine lv_aload_n hx hb dX12_readsWay_192 rfl (lv_at hl 0 rfl) ?_
        refine ro_get (C := RX12) (N := 30) X hH 0 (by decide) rO rfl inBX12 6 (by decide) rfl bw1384 dX12_readsWay_193 ?_
        have hJ : ∀ (H : Heap) (locs : List Loc), rH G w189 H → va_S (rA G) s.heap H locs → W p l e rm_X12_readsWay s m args below meth c H locs 0 0 Q (F0 m 204 ls [.int (if (w189.2.2 6) = 0 then 1 else 0)]) := by
          intro H locs hH hS
          subst hQ
          exact cEzz X (rH2 (so_s hf) hH) hS (pf1 (so_s hf)) (zb_ite zb1 zb0) dX12_readsWay_204
        refine lv_if_ne (tgt := 203) hx hb dX12_readsWay_196 (by decide) (fun hc196 => ?_) (fun hc196 => ?_)
        · refine lv_iconst (v := 0) hx hb dX12_readsWay_203 (by decide) ?_
          exact W.eq (by rw [if_neg hc196] <;> rfl) (hJ _ _ hH hS)
        · refine lv_iconst (v := 1) hx hb dX12_readsWay_199 (by decide) ?_
          refine lv_goto (tgt := 204) hx hb dX12_readsWay_200 (by decide) ?_
          exact W.eq (by rw [if_pos hc196] <;> rfl) (hJ _ _ hH hS)
      obtain ⟨j184, ej184, hf⟩ := nm_x hf
      have hj184 : ∀ (u0 : Unit) (H : Heap) (locs : List Loc) (ls : Array Slot), j184 u0 = some q → rH G w159_ H → va_S (rA G) s.heap H locs → lv_has ls 4 [(0, .ref (G.2.2.1 300))] → W p l e rm_X12_readsWay s m args below meth c H locs 0 0 Q (F0 m 184 ls [.ref (G.2.2.1 300)]) := by
        intro u0 H locs ls hf hH hS hl
        have hf := jb1 ej184 hf
        refine lv_iconst (v := 1) hx hb dX12_readsWay_184 (by decide) ?_
        refine lv_goto (tgt := 189) hx hb dX12_readsWay_185 (by decide) ?_
        exact hj189 _ _ _ _ zb1 hf hH hS (lv_sub hl [0] rfl)
      refine lv_if_ne (tgt := 184) hx hb dX12_readsWay_164 (by decide) (fun hc => ?_) (fun hc => ?_)
      · have hf := fo_f hc hf
        exact hj184 () _ _ _ hf hH hS (lv_sub hl [0] rfl)
      have hf := fo_t hc hf
      refine lv_aload_n hx hb dX12_readsWay_167 rfl (lv_at hl 0 rfl) ?_
      refine ro_get (C := RX12) (N := 30) X hH 0 (by decide) rO rfl inBX12 5 (by decide) rfl bw1383 dX12_readsWay_168 ?_
      refine lv_aload_n hx hb dX12_readsWay_171 rfl (lv_at hl 0 rfl) ?_
      refine ro_get (C := RX12) (N := 30) X hH 0 (by decide) rO rfl inBX12 1 (by decide) rfl bw1379 dX12_readsWay_172 ?_
      refine lv_sipush (v := 240) hx hb dX12_readsWay_175 (by decide) ?_
      refine lv_iload_n hx hb dX12_readsWay_178 rfl (lv_at hl 1 rfl) ?_
      refine lv_iadd hx hb dX12_readsWay_179 ?_
      by_cases hc : ((240 + a1) < 0 ∨ 3250 ≤ (240 + a1).toNatClampNeg)
      · cases (fo_t hc hf)
      have hf := fo_f hc hf
      refine ra_ld X hH 0 (by decide) (by decide) hc dX12_readsWay_180 ?_
      refine lv_icmp_eq (tgt := 188) hx hb dX12_readsWay_181 (by decide) (fun hc => ?_) (fun hc => ?_)
      rotate_left
      · have hf := fo_f hc hf
        exact hj184 () _ _ _ hf hH hS (lv_sub hl [0] rfl)
      have hf := fo_t hc hf
      refine lv_iconst (v := 0) hx hb dX12_readsWay_188 (by decide) ?_
      exact hj189 _ _ _ _ zb0 hf hH hS (lv_sub hl [0] rfl)
    have hL110 : ∀ (n110 : Nat) (w110_ : CW) (H : Heap) (locs : List Loc) (ls : Array Slot), f_X12_readsWay_L110 a1 j159 n110 w110_ = some q → rH G w110_ H → va_S (rA G) s.heap H locs → lv_has ls 4 [(0, .ref (G.2.2.1 300)), (1, .int a1)] → W p l e rm_X12_readsWay s m args below meth c H locs 0 0 Q (F0 m 110 ls []) := by
      intro n110
      induction n110 with
      | zero => intro w110_ H locs ls hf; rw [f_X12_readsWay_L110] at hf; cases hf
      | succ n110 ih110 =>
        intro w110_ H locs ls hf hH hS hl
        rw [f_X12_readsWay_L110] at hf
        refine lv_aload_n hx hb dX12_readsWay_110 rfl (lv_at hl 0 rfl) ?_
        refine ro_get (C := RX12) (N := 30) X hH 0 (by decide) rO rfl inBX12 6 (by decide) rfl bw1384 dX12_readsWay_111 ?_
        refine lv_if_ne (tgt := 159) hx hb dX12_readsWay_114 (by decide) (fun hc => ?_) (fun hc => ?_)
        · have hf := fo_f hc hf
          exact hj159 _ _ _ _ hf hH hS (lv_sub hl [0, 1] rfl)
        have hf := fo_t hc hf
        refine lv_aload_n hx hb dX12_readsWay_117 rfl (lv_at hl 0 rfl) ?_
        refine ro_get (C := RX12) (N := 30) X hH 0 (by decide) rO rfl inBX12 1 (by decide) rfl bw1379 dX12_readsWay_118 ?_
        refine lv_sipush (v := 1330) hx hb dX12_readsWay_121 (by decide) ?_
        refine lv_iload_n hx hb dX12_readsWay_124 rfl (lv_at hl 1 rfl) ?_
        refine lv_iadd hx hb dX12_readsWay_125 ?_
        by_cases hc : ((1330 + a1) < 0 ∨ 3250 ≤ (1330 + a1).toNatClampNeg)
        · cases (fo_t hc hf)
        have hf := fo_f hc hf
        refine ra_ld X hH 0 (by decide) (by decide) hc dX12_readsWay_126 ?_
        refine lv_bipush (v := 8) hx hb dX12_readsWay_127 (by decide) ?_
        refine lv_icmp_ge (tgt := 159) hx hb dX12_readsWay_129 (by decide) (fun hc => ?_) (fun hc => ?_)
        · have hf := fo_t hc hf
          exact hj159 _ _ _ _ hf hH hS (lv_sub hl [0, 1] rfl)
        have hf := fo_f hc hf
        refine lv_aload_n hx hb dX12_readsWay_132 rfl (lv_at hl 0 rfl) ?_
        obtain ⟨q133, hq133, hf⟩ := bd_s hf
        refine cGi (cVrun (rest := []) X (c_X12_here l G w110_ q133 hq133) bw1520 bw1522 bw53 bw105 bw1523 cn_X12_here ⟨rfl, rfl, Nat.le_of_ble_eq_true rfl, Nat.le_of_ble_eq_true rfl⟩ (r_rec X hH) rA_g hH hS hl rfl (Nat.le_of_ble_eq_true rfl) dX12_readsWay_133) hS (fun H locs hH hS => ?_)
        refine lv_bipush (v := 59) hx hb dX12_readsWay_136 (by decide) ?_
        refine lv_icmp_ne (tgt := 159) hx hb dX12_readsWay_138 (by decide) (fun hc => ?_) (fun hc => ?_)
        · have hf := fo_f hc hf
          exact hj159 _ _ _ _ hf hH hS (lv_sub hl [0, 1] rfl)
        have hf := fo_t hc hf
        refine lv_aload_n hx hb dX12_readsWay_141 rfl (lv_at hl 0 rfl) ?_
        refine lv_dup hx hb dX12_readsWay_142 rfl ?_
        refine ro_get (C := RX12) (N := 30) X hH 0 (by decide) rO rfl inBX12 5 (by decide) rfl bw1383 dX12_readsWay_143 ?_
        refine lv_iconst (v := 1) hx hb dX12_readsWay_146 (by decide) ?_
        refine lv_iadd hx hb dX12_readsWay_147 ?_
        refine ro_put (C := RX12) (N := 30) X hH hS 0 (by decide) rO rfl inBX12 tyX12 tyX12_ok nmX12 5 (by decide) bw1383 rfl rfl rfl (by simp) (sS w110_ 5 ((w110_.2.2 5) + 1)) rfl rE_sS dX12_readsWay_148 (fun H locs hH hS => ?_)
        obtain ⟨w148, ew148⟩ : ∃ z : CW, z = (sS w110_ 5 ((w110_.2.2 5) + 1)) := ⟨_, rfl⟩
        have hf := nm_s hf w148 ew148
        have hH : rH G w148 H := ew148 ▸ hH
        refine lv_aload_n hx hb dX12_readsWay_151 rfl (lv_at hl 0 rfl) ?_
        refine lv_iload_n hx hb dX12_readsWay_152 rfl (lv_at hl 1 rfl) ?_
        obtain ⟨q153, hq153, hf⟩ := bd_s hf
        refine cGv (cVrun (rest := []) X (c_X12_reads l G w148 a1 q153 hq153) bw1512 bw1514 bw51 bw105 bw1515 cn_X12_reads ⟨rfl, rfl, Nat.le_of_ble_eq_true rfl, Nat.le_of_ble_eq_true rfl⟩ (r_rec X hH) rA_g hH hS hl rfl (Nat.le_of_ble_eq_true rfl) dX12_readsWay_153) hS (fun H locs hH hS => ?_)
        refine lv_goto (tgt := 110) hx hb dX12_readsWay_156 (by decide) ?_
        exact ih110 _ _ _ _ hf hH hS (lv_sub hl [0, 1] rfl)
    exact hL110 _ _ _ _ _ hf hH hS (lv_sub hl [0, 1] rfl)
  have hL30 : ∀ (n30 : Nat) (v30_3 : Int32) (w30_ : CW) (H : Heap) (locs : List Loc) (ls : Array Slot), f_X12_readsWay_L30 a1 j71 n30 v30_3 w30_ = some q → rH G w30_ H → va_S (rA G) s.heap H locs → lv_has ls 4 [(3, .int v30_3), (0, .ref (G.2.2.1 300)), (1, .int a1)] → W p l e rm_X12_readsWay s m args below meth c H locs 0 0 Q (F0 m 30 ls []) := by
    intro n30
    induction n30 with
    | zero => intro v30_3 w30_ H locs ls hf; rw [f_X12_readsWay_L30] at hf; cases hf
    | succ n30 ih30 =>
      intro v30_3 w30_ H locs ls hf hH hS hl
      rw [f_X12_readsWay_L30] at hf
      refine lv_iload_n hx hb dX12_readsWay_30 rfl (lv_at hl 0 rfl) ?_
      refine lv_aload_n hx hb dX12_readsWay_31 rfl (lv_at hl 1 rfl) ?_
      refine ro_get (C := RX12) (N := 30) X hH 0 (by decide) rO rfl inBX12 1 (by decide) rfl bw1379 dX12_readsWay_32 ?_
      refine lv_bipush (v := 9) hx hb dX12_readsWay_35 (by decide) ?_
      by_cases hc : ((9 : Int32) < 0 ∨ 3250 ≤ (9 : Int32).toNatClampNeg)
      · cases (fo_t hc hf)
      have hf := fo_f hc hf
      refine ra_ld X hH 0 (by decide) (by decide) hc dX12_readsWay_37 ?_
      refine lv_icmp_ge (tgt := 71) hx hb dX12_readsWay_38 (by decide) (fun hc => ?_) (fun hc => ?_)
      · have hf := fo_t hc hf
        exact hj71 _ _ _ _ hf hH hS (lv_sub hl [1, 2] rfl)
      have hf := fo_f hc hf
      refine lv_aload_n hx hb dX12_readsWay_41 rfl (lv_at hl 1 rfl) ?_
      refine ro_get (C := RX12) (N := 30) X hH 0 (by decide) rO rfl inBX12 1 (by decide) rfl bw1379 dX12_readsWay_42 ?_
      refine lv_sipush (v := 250) hx hb dX12_readsWay_45 (by decide) ?_
      refine lv_bipush (v := 120) hx hb dX12_readsWay_48 (by decide) ?_
      refine lv_iload_n hx hb dX12_readsWay_50 rfl (lv_at hl 2 rfl) ?_
      refine lv_imul hx hb dX12_readsWay_51 ?_
      refine lv_iadd hx hb dX12_readsWay_52 ?_
      refine lv_iload_n hx hb dX12_readsWay_53 rfl (lv_at hl 0 rfl) ?_
      refine lv_iadd hx hb dX12_readsWay_54 ?_
      refine lv_aload_n hx hb dX12_readsWay_55 rfl (lv_at hl 1 rfl) ?_
      refine ro_get (C := RX12) (N := 30) X hH 0 (by decide) rO rfl inBX12 1 (by decide) rfl bw1379 dX12_readsWay_56 ?_
      refine lv_bipush (v := 110) hx hb dX12_readsWay_59 (by decide) ?_
      refine lv_iload_n hx hb dX12_readsWay_61 rfl (lv_at hl 0 rfl) ?_
      refine lv_iadd hx hb dX12_readsWay_62 ?_
      by_cases hc : ((110 + v30_3) < 0 ∨ 3250 ≤ (110 + v30_3).toNatClampNeg)
      · cases (fo_t hc hf)
      have hf := fo_f hc hf
      refine ra_ld X hH 0 (by decide) (by decide) hc dX12_readsWay_63 ?_
      by_cases hc : (((250 + (120 * a1)) + v30_3) < 0 ∨ 3250 ≤ ((250 + (120 * a1)) + v30_3).toNatClampNeg)
      · cases (fo_t hc hf)
      have hf := fo_f hc hf
      refine ra_st X hH hS 0 (by decide) (by decide) hc dX12_readsWay_64 (fun H locs hH hS => ?_)
      obtain ⟨w64, ew64⟩ : ∃ z : CW, z = (sC w30_ 0 ((250 + (120 * a1)) + v30_3).toNatClampNeg (w30_.1 0 (110 + v30_3).toNatClampNeg)) := ⟨_, rfl⟩
      have hf := nm_s hf w64 ew64
      have hH : rH G w64 H := ew64 ▸ hH
      obtain ⟨x65, ex65⟩ : ∃ z : Int32, z = (v30_3 + 1) := ⟨_, rfl⟩
      have hf := nm_s hf x65 ex65
      refine lv_iinc (v := x65) (lv' := [(3, .int x65), (0, .ref (G.2.2.1 300)), (1, .int a1)]) hx hb dX12_readsWay_65 hl (k := 0) rfl (by rw [ex65]; rfl) (by decide) rfl (fun ls hl => ?_)
      refine lv_goto (tgt := 30) hx hb dX12_readsWay_68 (by decide) ?_
      exact ih30 _ _ _ _ _ hf hH hS (lv_sub hl [0, 1, 2] rfl)
  exact hL30 _ _ _ _ _ _ hf hH hS (lv_sub hl [0, 1, 2] rfl)
def f_X12_text (w : CW) (a1 : Int32) : Option (Int32 × CW) := (if (f_X12_isDay a1) = 0 then (some ((-2), w)) else (if ((1 : Int32) < 0 ∨ 3250 ≤ (1 : Int32).toNatClampNeg) then none else (if (w.1 0 (1 : Int32).toNatClampNeg) = 8 then (some ((-4), w)) else (if ((1 : Int32) < 0 ∨ 3250 ≤ (1 : Int32).toNatClampNeg) then none else (Option.bind (f_X12_readsWay w (w.1 0 (1 : Int32).toNatClampNeg) a1) fun q32 => (if q32.1 = 0 then (some (((-10) - (q32.2.2.2 5)), q32.2)) else (if ((1 : Int32) < 0 ∨ 3250 ≤ (1 : Int32).toNatClampNeg) then none else (if ((1 : Int32) < 0 ∨ 3250 ≤ (1 : Int32).toNatClampNeg) then none else (nmk (sC q32.2 0 (1 : Int32).toNatClampNeg ((q32.2.1 0 (1 : Int32).toNatClampNeg) + 1)) fun w55 => (if ((1 : Int32) < 0 ∨ 3250 ≤ (1 : Int32).toNatClampNeg) then none else (some (((w55.1 0 (1 : Int32).toNatClampNeg) - 1), w55))))))))))))
abbrev rm_X12_text : Room := { frames := 9, cells := 0, slots := 0, locals := 173 }
theorem cn_X12_text : CN yX12_text 1 := ⟨by decide +kernel, by decide +kernel, by decide +kernel⟩
set_option maxHeartbeats 4000000 in
set_option maxRecDepth 100000 in
theorem c_X12_text (l : Launch) (G : GX) (w : CW) (a1 : Int32) (q : Int32 × CW) (hf : f_X12_text w a1 = some q) : MI l G yX12_text cX12_text 2 (some .int) rm_X12_text [.ref (G.2.2.1 300), .int a1] (rA G) (rH G w) (rH G q.2) q.1 := by
  refine cM_start (by decide +kernel) (Nat.le_of_ble_eq_true rfl) ?_
  intro p e s m below meth c ls X hH hl
  have hS : va_S (rA G) s.heap s.heap [] := va_S.rf
  have hx := X.1.1
  have hb := X.1.2.1
  generalize hargs : ([.ref (G.2.2.1 300), .int a1] : List Value).toArray = args at X ⊢
  generalize hQ : MQ below (QI (rA G) (rH G q.2) q.1) args s 0 0 (rA G) = Q
  have hl : lv_has ls 2 [(0, .ref (G.2.2.1 300)), (1, .int a1)] := hl
  unfold f_X12_text at hf
  refine lv_iload_n hx hb dX12_text_0 rfl (lv_at hl 1 rfl) ?_
  refine cGi (cSrun (rest := []) X (c_X12_isDay l G (rH G w) (rA G) rA_g a1 _ rfl) bw1505 bw1506 bw105 bw1507 cn_X12_isDay ⟨rfl, rfl, Nat.le_of_ble_eq_true rfl, Nat.le_of_ble_eq_true rfl⟩ rA_g hH hS hl rfl (Nat.le_of_ble_eq_true rfl) dX12_text_1) hS (fun H locs hH hS => ?_)
  refine lv_if_ne (tgt := 10) hx hb dX12_text_4 (by decide) (fun hc => ?_) (fun hc => ?_)
  rotate_left
  · have hf := fo_t hc hf
    refine lv_bipush (v := (-2)) hx hb dX12_text_7 (by decide) ?_
    subst hQ
    exact cEi X (rH2 (so_s hf) hH) hS (pf1 (so_s hf)) dX12_text_9
  have hf := fo_f hc hf
  refine lv_aload_n hx hb dX12_text_10 rfl (lv_at hl 0 rfl) ?_
  refine ro_get (C := RX12) (N := 30) X hH 0 (by decide) rO rfl inBX12 1 (by decide) rfl bw1379 dX12_text_11 ?_
  refine lv_iconst (v := 1) hx hb dX12_text_14 (by decide) ?_
  by_cases hc : ((1 : Int32) < 0 ∨ 3250 ≤ (1 : Int32).toNatClampNeg)
  · cases (fo_t hc hf)
  have hf := fo_f hc hf
  refine ra_ld X hH 0 (by decide) (by decide) hc dX12_text_15 ?_
  refine lv_bipush (v := 8) hx hb dX12_text_16 (by decide) ?_
  refine lv_icmp_ne (tgt := 24) hx hb dX12_text_18 (by decide) (fun hc => ?_) (fun hc => ?_)
  rotate_left
  · have hf := fo_t hc hf
    refine lv_bipush (v := (-4)) hx hb dX12_text_21 (by decide) ?_
    subst hQ
    exact cEi X (rH2 (so_s hf) hH) hS (pf1 (so_s hf)) dX12_text_23
  have hf := fo_f hc hf
  refine lv_aload_n hx hb dX12_text_24 rfl (lv_at hl 0 rfl) ?_
  refine lv_aload_n hx hb dX12_text_25 rfl (lv_at hl 0 rfl) ?_
  refine ro_get (C := RX12) (N := 30) X hH 0 (by decide) rO rfl inBX12 1 (by decide) rfl bw1379 dX12_text_26 ?_
  refine lv_iconst (v := 1) hx hb dX12_text_29 (by decide) ?_
  by_cases hc : ((1 : Int32) < 0 ∨ 3250 ≤ (1 : Int32).toNatClampNeg)
  · cases (fo_t hc hf)
  have hf := fo_f hc hf
  refine ra_ld X hH 0 (by decide) (by decide) hc dX12_text_30 ?_
  refine lv_iload_n hx hb dX12_text_31 rfl (lv_at hl 1 rfl) ?_
  obtain ⟨q32, hq32, hf⟩ := bd_s hf
  refine cGz (cVrun (rest := []) X (c_X12_readsWay l G w (w.1 0 (1 : Int32).toNatClampNeg) a1 q32 hq32) bw1508 bw1510 bw50 bw105 bw1511 cn_X12_readsWay ⟨rfl, rfl, Nat.le_of_ble_eq_true rfl, Nat.le_of_ble_eq_true rfl⟩ (r_rec X hH) rA_g hH hS hl rfl (Nat.le_of_ble_eq_true rfl) dX12_text_32) hS (fun hz32 H locs hH hS => ?_)
  refine lv_if_ne (tgt := 46) hx hb dX12_text_35 (by decide) (fun hc => ?_) (fun hc => ?_)
  rotate_left
  · have hf := fo_t hc hf
    refine lv_bipush (v := (-10)) hx hb dX12_text_38 (by decide) ?_
    refine lv_aload_n hx hb dX12_text_40 rfl (lv_at hl 0 rfl) ?_
    refine ro_get (C := RX12) (N := 30) X hH 0 (by decide) rO rfl inBX12 5 (by decide) rfl bw1383 dX12_text_41 ?_
    refine lv_isub hx hb dX12_text_44 ?_
    subst hQ
    exact cEi X (rH2 (so_s hf) hH) hS (pf1 (so_s hf)) dX12_text_45
  have hf := fo_f hc hf
  refine lv_aload_n hx hb dX12_text_46 rfl (lv_at hl 0 rfl) ?_
  refine ro_get (C := RX12) (N := 30) X hH 0 (by decide) rO rfl inBX12 1 (by decide) rfl bw1379 dX12_text_47 ?_
  refine lv_iconst (v := 1) hx hb dX12_text_50 (by decide) ?_
  refine lv_dup2_11 hx hb dX12_text_51 rfl rfl ?_
  by_cases hc : ((1 : Int32) < 0 ∨ 3250 ≤ (1 : Int32).toNatClampNeg)
  · cases (fo_t hc hf)
  have hf := fo_f hc hf
  refine ra_ld X hH 0 (by decide) (by decide) hc dX12_text_52 ?_
  refine lv_iconst (v := 1) hx hb dX12_text_53 (by decide) ?_
  refine lv_iadd hx hb dX12_text_54 ?_
  by_cases hc : ((1 : Int32) < 0 ∨ 3250 ≤ (1 : Int32).toNatClampNeg)
  · cases (fo_t hc hf)
  have hf := fo_f hc hf
  refine ra_st X hH hS 0 (by decide) (by decide) hc dX12_text_55 (fun H locs hH hS => ?_)
  obtain ⟨w55, ew55⟩ : ∃ z : CW, z = (sC q32.2 0 (1 : Int32).toNatClampNeg ((q32.2.1 0 (1 : Int32).toNatClampNeg) + 1)) := ⟨_, rfl⟩
  have hf := nm_s hf w55 ew55
  have hH : rH G w55 H := ew55 ▸ hH
  refine lv_aload_n hx hb dX12_text_56 rfl (lv_at hl 0 rfl) ?_
  refine ro_get (C := RX12) (N := 30) X hH 0 (by decide) rO rfl inBX12 1 (by decide) rfl bw1379 dX12_text_57 ?_
  refine lv_iconst (v := 1) hx hb dX12_text_60 (by decide) ?_
  by_cases hc : ((1 : Int32) < 0 ∨ 3250 ≤ (1 : Int32).toNatClampNeg)
  · cases (fo_t hc hf)
  have hf := fo_f hc hf
  refine ra_ld X hH 0 (by decide) (by decide) hc dX12_text_61 ?_
  refine lv_iconst (v := 1) hx hb dX12_text_62 (by decide) ?_
  refine lv_isub hx hb dX12_text_63 ?_
  subst hQ
  exact cEi X (rH2 (so_s hf) hH) hS (pf1 (so_s hf)) dX12_text_64
def f_X12_follows_L61 (rc : CW → Int32 → Int32 → Int32 → Option (CW)) (a1 : Int32) (a2 : Int32) (a3 : Int32) : Nat → Int32 → CW → Option (CW)
  | 0, _, _ => none
  | n61 + 1, v61_4, w61_ => (if ((6 : Int32) < 0 ∨ 3250 ≤ (6 : Int32).toNatClampNeg) then none else (if (w61_.1 0 (6 : Int32).toNatClampNeg) ≤ v61_4 then (some w61_) else (nmk (fun (z110_0 : Int32) => (nmk (fun (w153_ : CW) => (nmk (v61_4 + 1) fun (x153 : Int32) => (f_X12_follows_L61 rc a1 a2 a3 n61 x153 w153_))) fun j153 => (if ((a2 >>> (v61_4 &&& 31)) &&& 1) = 0 then (if (z110_0 &&& a3) = 0 then (if (a1 < 0 ∨ 10 ≤ a1.toNatClampNeg) then none else (nmk (sC w61_ 12 a1.toNatClampNeg v61_4) fun w135 => (Option.bind (rc w135 (a1 + 1) (a2 ||| ((1 : Int32) <<< (v61_4 &&& 31))) (a3 ||| z110_0)) fun q150 => (j153 q150)))) else (j153 w61_)) else (j153 w61_)))) fun j110 => (if a1 = 0 then (j110 0) else (if ((a1 - 1) < 0 ∨ 10 ≤ (a1 - 1).toNatClampNeg) then none else (if ((3080 + (w61_.1 12 (a1 - 1).toNatClampNeg)) < 0 ∨ 3250 ≤ (3080 + (w61_.1 12 (a1 - 1).toNatClampNeg)).toNatClampNeg) then none else (if ((3080 + v61_4) < 0 ∨ 3250 ≤ (3080 + v61_4).toNatClampNeg) then none else (j110 ((w61_.1 0 (3080 + (w61_.1 12 (a1 - 1).toNatClampNeg)).toNatClampNeg) ^^^ (w61_.1 0 (3080 + v61_4).toNatClampNeg))))))))))
def f_X12_follows_L14 (a1 : Int32) (j47 : CW → Option (CW)) : Nat → Int32 → CW → Option (CW)
  | 0, _, _ => none
  | n14 + 1, v14_4, w14_ => (if a1 ≤ v14_4 then (j47 w14_) else (if (w14_.2.2 24) = 0 then (if (v14_4 < 0 ∨ 10 ≤ v14_4.toNatClampNeg) then none else (if (v14_4 < 0 ∨ 10 ≤ v14_4.toNatClampNeg) then none else (nmk (sC w14_ 13 v14_4.toNatClampNeg (w14_.1 12 v14_4.toNatClampNeg)) fun w40 => (nmk (v14_4 + 1) fun (x41 : Int32) => (f_X12_follows_L14 a1 j47 n14 x41 w40))))) else (j47 w14_)))
def h_X12_follows (rc : CW → Int32 → Int32 → Int32 → Option (CW)) (w : CW) (a1 : Int32) (a2 : Int32) (a3 : Int32) : Option (CW) := (if ((6 : Int32) < 0 ∨ 3250 ≤ (6 : Int32).toNatClampNeg) then none else (if a1 = (w.1 0 (6 : Int32).toNatClampNeg) then (nmk (fun (w47_ : CW) => (nmk (sS w47_ 24 ((w47_.2.2 24) + 1)) fun w54 => (some w54))) fun j47 => (f_X12_follows_L14 a1 j47 FU 0 w)) else (f_X12_follows_L61 rc a1 a2 a3 FU 0 w)))
def f_X12_follows : Nat → CW → Int32 → Int32 → Int32 → Option (CW)
  | 0 => fun _ _ _ _ => none
  | d + 1 => h_X12_follows (f_X12_follows d)
abbrev KF_X12_follows : Nat := 2
abbrev KL_X12_follows : Nat := 25
abbrev rmU_X12_follows (rmd : Room) : Room := { frames := rmd.frames + KF_X12_follows, cells := 0, slots := 0, locals := rmd.locals + KL_X12_follows }
def rmR_X12_follows (d : Nat) : Room := { frames := KF_X12_follows * d, cells := 0, slots := 0, locals := KL_X12_follows * d }
theorem cn_X12_follows : CN yX12_follows 3 := ⟨by decide +kernel, by decide +kernel, by decide +kernel⟩
set_option maxHeartbeats 4000000 in
set_option maxRecDepth 100000 in
theorem b_X12_follows (l : Launch) (G : GX) (rmd : Room) (hrz : rmd.cells = 0 ∧ rmd.slots = 0) (rc : CW → Int32 → Int32 → Int32 → Option (CW)) (hrc : ∀ (w : CW) (a1 : Int32) (a2 : Int32) (a3 : Int32) (q : CW), rc w a1 a2 a3 = some q → MV l G yX12_follows cX12_follows 6 rmd [.ref (G.2.2.1 300), .int a1, .int a2, .int a3] (rA G) (rH G w) (rH G q)) (w : CW) (a1 : Int32) (a2 : Int32) (a3 : Int32) (q : CW) (hf : h_X12_follows rc w a1 a2 a3 = some q) : MV l G yX12_follows cX12_follows 6 (rmU_X12_follows rmd) [.ref (G.2.2.1 300), .int a1, .int a2, .int a3] (rA G) (rH G w) (rH G q) := by
  refine cM_start (by decide +kernel) (Nat.le_of_ble_eq_true rfl) ?_
  intro p e s m below meth c ls X hH hl
  have hS : va_S (rA G) s.heap s.heap [] := va_S.rf
  have hx := X.1.1
  have hb := X.1.2.1
  generalize hargs : ([.ref (G.2.2.1 300), .int a1, .int a2, .int a3] : List Value).toArray = args at X ⊢
  generalize hQ : MQ below (QV (rA G) (rH G q)) args s 0 0 (rA G) = Q
  have hl : lv_has ls 6 [(0, .ref (G.2.2.1 300)), (1, .int a1), (2, .int a2), (3, .int a3)] := hl
  unfold h_X12_follows at hf
  refine lv_iload_n hx hb dX12_follows_0 rfl (lv_at hl 1 rfl) ?_
  refine lv_aload_n hx hb dX12_follows_1 rfl (lv_at hl 0 rfl) ?_
  refine ro_get (C := RX12) (N := 30) X hH 0 (by decide) rO rfl inBX12 1 (by decide) rfl bw1379 dX12_follows_2 ?_
  refine lv_bipush (v := 6) hx hb dX12_follows_5 (by decide) ?_
  by_cases hc : ((6 : Int32) < 0 ∨ 3250 ≤ (6 : Int32).toNatClampNeg)
  · cases (fo_t hc hf)
  have hf := fo_f hc hf
  refine ra_ld X hH 0 (by decide) (by decide) hc dX12_follows_7 ?_
  refine lv_icmp_ne (tgt := 58) hx hb dX12_follows_8 (by decide) (fun hc => ?_) (fun hc => ?_)
  rotate_left
  · have hf := fo_t hc hf
    refine lv_iconst (v := 0) hx hb dX12_follows_11 (by decide) ?_
    refine lv_istore (lv' := [(4, .int 0), (0, .ref (G.2.2.1 300)), (1, .int a1), (2, .int a2), (3, .int a3)]) hx hb dX12_follows_12 hl (by decide) rfl (fun ls hl => ?_)
    obtain ⟨j47, ej47, hf⟩ := nm_x hf
    have hj47 : ∀ (w47_ : CW) (H : Heap) (locs : List Loc) (ls : Array Slot), j47 w47_ = some q → rH G w47_ H → va_S (rA G) s.heap H locs → lv_has ls 6 [(0, .ref (G.2.2.1 300))] → W p l e (rmU_X12_follows rmd) s m args below meth c H locs 0 0 Q (F0 m 47 ls []) := by
      intro w47_ H locs ls hf hH hS hl
      have hf := jb1 ej47 hf
      refine lv_aload_n hx hb dX12_follows_47 rfl (lv_at hl 0 rfl) ?_
      refine lv_dup hx hb dX12_follows_48 rfl ?_
      refine ro_get (C := RX12) (N := 30) X hH 0 (by decide) rO rfl inBX12 24 (by decide) rfl bw1402 dX12_follows_49 ?_
      refine lv_iconst (v := 1) hx hb dX12_follows_52 (by decide) ?_
      refine lv_iadd hx hb dX12_follows_53 ?_
      refine ro_put (C := RX12) (N := 30) X hH hS 0 (by decide) rO rfl inBX12 tyX12 tyX12_ok nmX12 24 (by decide) bw1402 rfl rfl rfl (by simp) (sS w47_ 24 ((w47_.2.2 24) + 1)) rfl rE_sS dX12_follows_54 (fun H locs hH hS => ?_)
      obtain ⟨w54, ew54⟩ : ∃ z : CW, z = (sS w47_ 24 ((w47_.2.2 24) + 1)) := ⟨_, rfl⟩
      have hf := nm_s hf w54 ew54
      have hH : rH G w54 H := ew54 ▸ hH
      subst hQ
      exact cEv X (rH1 (so_s hf) hH) hS dX12_follows_57
    have hL14 : ∀ (n14 : Nat) (v14_4 : Int32) (w14_ : CW) (H : Heap) (locs : List Loc) (ls : Array Slot), f_X12_follows_L14 a1 j47 n14 v14_4 w14_ = some q → rH G w14_ H → va_S (rA G) s.heap H locs → lv_has ls 6 [(4, .int v14_4), (0, .ref (G.2.2.1 300)), (1, .int a1)] → W p l e (rmU_X12_follows rmd) s m args below meth c H locs 0 0 Q (F0 m 14 ls []) := by
      intro n14
      induction n14 with
      | zero => intro v14_4 w14_ H locs ls hf; rw [f_X12_follows_L14] at hf; cases hf
      | succ n14 ih14 =>
        intro v14_4 w14_ H locs ls hf hH hS hl
        rw [f_X12_follows_L14] at hf
        refine lv_iload hx hb dX12_follows_14 (lv_at hl 0 rfl) ?_
        refine lv_iload_n hx hb dX12_follows_16 rfl (lv_at hl 2 rfl) ?_
        refine lv_icmp_ge (tgt := 47) hx hb dX12_follows_17 (by decide) (fun hc => ?_) (fun hc => ?_)
        · have hf := fo_t hc hf
          exact hj47 _ _ _ _ hf hH hS (lv_sub hl [1] rfl)
        have hf := fo_f hc hf
        refine lv_aload_n hx hb dX12_follows_20 rfl (lv_at hl 1 rfl) ?_
        refine ro_get (C := RX12) (N := 30) X hH 0 (by decide) rO rfl inBX12 24 (by decide) rfl bw1402 dX12_follows_21 ?_
        refine lv_if_ne (tgt := 47) hx hb dX12_follows_24 (by decide) (fun hc => ?_) (fun hc => ?_)
        · have hf := fo_f hc hf
          exact hj47 _ _ _ _ hf hH hS (lv_sub hl [1] rfl)
        have hf := fo_t hc hf
        refine lv_aload_n hx hb dX12_follows_27 rfl (lv_at hl 1 rfl) ?_
        refine ro_get (C := RX12) (N := 30) X hH 0 (by decide) rO rfl inBX12 23 (by decide) rfl bw1401 dX12_follows_28 ?_
        refine lv_iload hx hb dX12_follows_31 (lv_at hl 0 rfl) ?_
        refine lv_aload_n hx hb dX12_follows_33 rfl (lv_at hl 1 rfl) ?_
        refine ro_get (C := RX12) (N := 30) X hH 0 (by decide) rO rfl inBX12 22 (by decide) rfl bw1400 dX12_follows_34 ?_
        refine lv_iload hx hb dX12_follows_37 (lv_at hl 0 rfl) ?_
        by_cases hc : (v14_4 < 0 ∨ 10 ≤ v14_4.toNatClampNeg)
        · cases (fo_t hc hf)
        have hf := fo_f hc hf
        refine ra_ld X hH 12 (by decide) (by decide) hc dX12_follows_39 ?_
        by_cases hc : (v14_4 < 0 ∨ 10 ≤ v14_4.toNatClampNeg)
        · cases (fo_t hc hf)
        have hf := fo_f hc hf
        refine ra_st X hH hS 13 (by decide) (by decide) hc dX12_follows_40 (fun H locs hH hS => ?_)
        obtain ⟨w40, ew40⟩ : ∃ z : CW, z = (sC w14_ 13 v14_4.toNatClampNeg (w14_.1 12 v14_4.toNatClampNeg)) := ⟨_, rfl⟩
        have hf := nm_s hf w40 ew40
        have hH : rH G w40 H := ew40 ▸ hH
        obtain ⟨x41, ex41⟩ : ∃ z : Int32, z = (v14_4 + 1) := ⟨_, rfl⟩
        have hf := nm_s hf x41 ex41
        refine lv_iinc (v := x41) (lv' := [(4, .int x41), (0, .ref (G.2.2.1 300)), (1, .int a1)]) hx hb dX12_follows_41 hl (k := 0) rfl (by rw [ex41]; rfl) (by decide) rfl (fun ls hl => ?_)
        refine lv_goto (tgt := 14) hx hb dX12_follows_44 (by decide) ?_
        exact ih14 _ _ _ _ _ hf hH hS (lv_sub hl [0, 1, 2] rfl)
    exact hL14 _ _ _ _ _ _ hf hH hS (lv_sub hl [0, 1, 2] rfl)
  have hf := fo_f hc hf
  refine lv_iconst (v := 0) hx hb dX12_follows_58 (by decide) ?_
  refine lv_istore (lv' := [(4, .int 0), (0, .ref (G.2.2.1 300)), (1, .int a1), (2, .int a2), (3, .int a3)]) hx hb dX12_follows_59 hl (by decide) rfl (fun ls hl => ?_)
  have hL61 : ∀ (n61 : Nat) (v61_4 : Int32) (w61_ : CW) (H : Heap) (locs : List Loc) (ls : Array Slot), f_X12_follows_L61 rc a1 a2 a3 n61 v61_4 w61_ = some q → rH G w61_ H → va_S (rA G) s.heap H locs → lv_has ls 6 [(4, .int v61_4), (0, .ref (G.2.2.1 300)), (1, .int a1), (2, .int a2), (3, .int a3)] → W p l e (rmU_X12_follows rmd) s m args below meth c H locs 0 0 Q (F0 m 61 ls []) := by
    intro n61
    induction n61 with
    | zero => intro v61_4 w61_ H locs ls hf; rw [f_X12_follows_L61] at hf; cases hf
    | succ n61 ih61 =>
      intro v61_4 w61_ H locs ls hf hH hS hl
      rw [f_X12_follows_L61] at hf
      refine lv_iload hx hb dX12_follows_61 (lv_at hl 0 rfl) ?_
      refine lv_aload_n hx hb dX12_follows_63 rfl (lv_at hl 1 rfl) ?_
      refine ro_get (C := RX12) (N := 30) X hH 0 (by decide) rO rfl inBX12 1 (by decide) rfl bw1379 dX12_follows_64 ?_
      refine lv_bipush (v := 6) hx hb dX12_follows_67 (by decide) ?_
      by_cases hc : ((6 : Int32) < 0 ∨ 3250 ≤ (6 : Int32).toNatClampNeg)
      · cases (fo_t hc hf)
      have hf := fo_f hc hf
      refine ra_ld X hH 0 (by decide) (by decide) hc dX12_follows_69 ?_
      refine lv_icmp_ge (tgt := 159) hx hb dX12_follows_70 (by decide) (fun hc => ?_) (fun hc => ?_)
      · have hf := fo_t hc hf
        subst hQ
        exact cEv X (rH1 (so_s hf) hH) hS dX12_follows_159
      have hf := fo_f hc hf
      refine lv_iload_n hx hb dX12_follows_73 rfl (lv_at hl 2 rfl) ?_
      obtain ⟨j110, ej110, hf⟩ := nm_x hf
      have hj110 : ∀ (z110_0 : Int32) (H : Heap) (locs : List Loc) (ls : Array Slot), j110 z110_0 = some q → rH G w61_ H → va_S (rA G) s.heap H locs → lv_has ls 6 [(4, .int v61_4), (0, .ref (G.2.2.1 300)), (1, .int a1), (2, .int a2), (3, .int a3)] → W p l e (rmU_X12_follows rmd) s m args below meth c H locs 0 0 Q (F0 m 110 ls [.int z110_0]) := by
        intro z110_0 H locs ls hf hH hS hl
        have hf := jb1 ej110 hf
        refine lv_istore (lv' := [(5, .int z110_0), (4, .int v61_4), (0, .ref (G.2.2.1 300)), (1, .int a1), (2, .int a2), (3, .int a3)]) hx hb dX12_follows_110 hl (by decide) rfl (fun ls hl => ?_)
        refine lv_iload_n hx hb dX12_follows_112 rfl (lv_at hl 4 rfl) ?_
        refine lv_iload hx hb dX12_follows_113 (lv_at hl 1 rfl) ?_
        refine lv_ishr hx hb dX12_follows_115 ?_
        refine lv_iconst (v := 1) hx hb dX12_follows_116 (by decide) ?_
        refine lv_iand hx hb dX12_follows_117 ?_
        obtain ⟨j153, ej153, hf⟩ := nm_x hf
        have hj153 : ∀ (w153_ : CW) (H : Heap) (locs : List Loc) (ls : Array Slot), j153 w153_ = some q → rH G w153_ H → va_S (rA G) s.heap H locs → lv_has ls 6 [(4, .int v61_4), (0, .ref (G.2.2.1 300)), (1, .int a1), (2, .int a2), (3, .int a3)] → W p l e (rmU_X12_follows rmd) s m args below meth c H locs 0 0 Q (F0 m 153 ls []) := by
          intro w153_ H locs ls hf hH hS hl
          have hf := jb1 ej153 hf
          obtain ⟨x153, ex153⟩ : ∃ z : Int32, z = (v61_4 + 1) := ⟨_, rfl⟩
          have hf := nm_s hf x153 ex153
          refine lv_iinc (v := x153) (lv' := [(4, .int x153), (0, .ref (G.2.2.1 300)), (1, .int a1), (2, .int a2), (3, .int a3)]) hx hb dX12_follows_153 hl (k := 0) rfl (by rw [ex153]; rfl) (by decide) rfl (fun ls hl => ?_)
          refine lv_goto (tgt := 61) hx hb dX12_follows_156 (by decide) ?_
          exact ih61 _ _ _ _ _ hf hH hS (lv_sub hl [0, 1, 2, 3, 4] rfl)
        refine lv_if_ne (tgt := 153) hx hb dX12_follows_118 (by decide) (fun hc => ?_) (fun hc => ?_)
        · have hf := fo_f hc hf
          exact hj153 _ _ _ _ hf hH hS (lv_sub hl [1, 2, 3, 4, 5] rfl)
        have hf := fo_t hc hf
        refine lv_iload hx hb dX12_follows_121 (lv_at hl 0 rfl) ?_
        refine lv_iload_n hx hb dX12_follows_123 rfl (lv_at hl 5 rfl) ?_
        refine lv_iand hx hb dX12_follows_124 ?_
        refine lv_if_ne (tgt := 153) hx hb dX12_follows_125 (by decide) (fun hc => ?_) (fun hc => ?_)
        · have hf := fo_f hc hf
          exact hj153 _ _ _ _ hf hH hS (lv_sub hl [1, 2, 3, 4, 5] rfl)
        have hf := fo_t hc hf
        refine lv_aload_n hx hb dX12_follows_128 rfl (lv_at hl 2 rfl) ?_
        refine ro_get (C := RX12) (N := 30) X hH 0 (by decide) rO rfl inBX12 22 (by decide) rfl bw1400 dX12_follows_129 ?_
        refine lv_iload_n hx hb dX12_follows_132 rfl (lv_at hl 3 rfl) ?_
        refine lv_iload hx hb dX12_follows_133 (lv_at hl 1 rfl) ?_
        by_cases hc : (a1 < 0 ∨ 10 ≤ a1.toNatClampNeg)
        · cases (fo_t hc hf)
        have hf := fo_f hc hf
        refine ra_st X hH hS 12 (by decide) (by decide) hc dX12_follows_135 (fun H locs hH hS => ?_)
        obtain ⟨w135, ew135⟩ : ∃ z : CW, z = (sC w61_ 12 a1.toNatClampNeg v61_4) := ⟨_, rfl⟩
        have hf := nm_s hf w135 ew135
        have hH : rH G w135 H := ew135 ▸ hH
        refine lv_aload_n hx hb dX12_follows_136 rfl (lv_at hl 2 rfl) ?_
        refine lv_iload_n hx hb dX12_follows_137 rfl (lv_at hl 3 rfl) ?_
        refine lv_iconst (v := 1) hx hb dX12_follows_138 (by decide) ?_
        refine lv_iadd hx hb dX12_follows_139 ?_
        refine lv_iload_n hx hb dX12_follows_140 rfl (lv_at hl 4 rfl) ?_
        refine lv_iconst (v := 1) hx hb dX12_follows_141 (by decide) ?_
        refine lv_iload hx hb dX12_follows_142 (lv_at hl 1 rfl) ?_
        refine lv_ishl hx hb dX12_follows_144 ?_
        refine lv_ior hx hb dX12_follows_145 ?_
        refine lv_iload_n hx hb dX12_follows_146 rfl (lv_at hl 5 rfl) ?_
        refine lv_iload hx hb dX12_follows_147 (lv_at hl 0 rfl) ?_
        refine lv_ior hx hb dX12_follows_149 ?_
        obtain ⟨q150, hq150, hf⟩ := bd_s hf
        refine cGv (cVrun (rest := []) X (hrc w135 (a1 + 1) (a2 ||| ((1 : Int32) <<< (v61_4 &&& 31))) (a3 ||| z110_0) q150 hq150) bw1715 bw1717 bw81 bw105 bw1718 cn_X12_follows ⟨hrz.1, hrz.2, Nat.add_le_add_left (Nat.le_of_ble_eq_true rfl) _, Nat.le_trans (Nat.le_of_eq (Nat.add_comm _ _)) (Nat.add_le_add_left (Nat.le_of_ble_eq_true rfl) _)⟩ (r_rec X hH) rA_g hH hS hl rfl (Nat.le_of_ble_eq_true rfl) dX12_follows_150) hS (fun H locs hH hS => ?_)
        exact hj153 _ _ _ _ hf hH hS (lv_sub hl [1, 2, 3, 4, 5] rfl)
      refine lv_if_ne (tgt := 81) hx hb dX12_follows_74 (by decide) (fun hc => ?_) (fun hc => ?_)
      rotate_left
      · have hf := fo_t hc hf
        refine lv_iconst (v := 0) hx hb dX12_follows_77 (by decide) ?_
        refine lv_goto (tgt := 110) hx hb dX12_follows_78 (by decide) ?_
        exact hj110 _ _ _ _ hf hH hS (lv_sub hl [0, 1, 2, 3, 4] rfl)
      have hf := fo_f hc hf
      refine lv_aload_n hx hb dX12_follows_81 rfl (lv_at hl 1 rfl) ?_
      refine ro_get (C := RX12) (N := 30) X hH 0 (by decide) rO rfl inBX12 1 (by decide) rfl bw1379 dX12_follows_82 ?_
      refine lv_sipush (v := 3080) hx hb dX12_follows_85 (by decide) ?_
      refine lv_aload_n hx hb dX12_follows_88 rfl (lv_at hl 1 rfl) ?_
      refine ro_get (C := RX12) (N := 30) X hH 0 (by decide) rO rfl inBX12 22 (by decide) rfl bw1400 dX12_follows_89 ?_
      refine lv_iload_n hx hb dX12_follows_92 rfl (lv_at hl 2 rfl) ?_
      refine lv_iconst (v := 1) hx hb dX12_follows_93 (by decide) ?_
      refine lv_isub hx hb dX12_follows_94 ?_
      by_cases hc : ((a1 - 1) < 0 ∨ 10 ≤ (a1 - 1).toNatClampNeg)
      · cases (fo_t hc hf)
      have hf := fo_f hc hf
      refine ra_ld X hH 12 (by decide) (by decide) hc dX12_follows_95 ?_
      refine lv_iadd hx hb dX12_follows_96 ?_
      by_cases hc : ((3080 + (w61_.1 12 (a1 - 1).toNatClampNeg)) < 0 ∨ 3250 ≤ (3080 + (w61_.1 12 (a1 - 1).toNatClampNeg)).toNatClampNeg)
      · cases (fo_t hc hf)
      have hf := fo_f hc hf
      refine ra_ld X hH 0 (by decide) (by decide) hc dX12_follows_97 ?_
      refine lv_aload_n hx hb dX12_follows_98 rfl (lv_at hl 1 rfl) ?_
      refine ro_get (C := RX12) (N := 30) X hH 0 (by decide) rO rfl inBX12 1 (by decide) rfl bw1379 dX12_follows_99 ?_
      refine lv_sipush (v := 3080) hx hb dX12_follows_102 (by decide) ?_
      refine lv_iload hx hb dX12_follows_105 (lv_at hl 0 rfl) ?_
      refine lv_iadd hx hb dX12_follows_107 ?_
      by_cases hc : ((3080 + v61_4) < 0 ∨ 3250 ≤ (3080 + v61_4).toNatClampNeg)
      · cases (fo_t hc hf)
      have hf := fo_f hc hf
      refine ra_ld X hH 0 (by decide) (by decide) hc dX12_follows_108 ?_
      refine lv_ixor hx hb dX12_follows_109 ?_
      exact hj110 _ _ _ _ hf hH hS (lv_sub hl [0, 1, 2, 3, 4] rfl)
  exact hL61 _ _ _ _ _ _ hf hH hS (lv_sub hl [0, 1, 2, 3, 4] rfl)
theorem cr_X12_follows (l : Launch) (G : GX) : ∀ (d : Nat) (w : CW) (a1 : Int32) (a2 : Int32) (a3 : Int32) (q : CW), f_X12_follows d w a1 a2 a3 = some q → MV l G yX12_follows cX12_follows 6 (rmR_X12_follows d) [.ref (G.2.2.1 300), .int a1, .int a2, .int a3] (rA G) (rH G w) (rH G q) := by
  intro d
  induction d with
  | zero => intro w a1 a2 a3 q hf; cases hf
  | succ d ih =>
    intro w a1 a2 a3 q hf
    have h := b_X12_follows l G (rmR_X12_follows d) ⟨rfl, rfl⟩ (f_X12_follows d) ih w a1 a2 a3 q hf
    exact h
abbrev rm_X12_follows : Room := { frames := 18, cells := 0, slots := 0, locals := 225 }
theorem c_X12_follows (l : Launch) (G : GX) (w : CW) (a1 : Int32) (a2 : Int32) (a3 : Int32) (q : CW) (hf : f_X12_follows 9 w a1 a2 a3 = some q) : MV l G yX12_follows cX12_follows 6 rm_X12_follows [.ref (G.2.2.1 300), .int a1, .int a2, .int a3] (rA G) (rH G w) (rH G q) := cr_X12_follows l G 9 w a1 a2 a3 q hf
def f_X12_allowed (w : CW) (a1 : Int32) : Option (Int32 × CW) := (if ((6 : Int32) < 0 ∨ 3250 ≤ (6 : Int32).toNatClampNeg) then none else (if (f_X12_in a1 (-1) ((w.1 0 (6 : Int32).toNatClampNeg) - 1)) = 0 then (some ((-1), w)) else (nmk (sS w 24 0) fun w21 => (Option.bind (f_X12_follows 9 w21 0 0 0) fun q28 => (if a1 = (-1) then (some ((q28.2.2 24), q28)) else (if (q28.2.2 24) = 0 then (some ((-1), q28)) else (if (a1 < 0 ∨ 10 ≤ a1.toNatClampNeg) then none else (some ((q28.1 13 a1.toNatClampNeg), q28)))))))))
abbrev rm_X12_allowed : Room := { frames := 19, cells := 0, slots := 0, locals := 250 }
theorem cn_X12_allowed : CN yX12_allowed 1 := ⟨by decide +kernel, by decide +kernel, by decide +kernel⟩
set_option maxHeartbeats 4000000 in
set_option maxRecDepth 100000 in
theorem c_X12_allowed (l : Launch) (G : GX) (w : CW) (a1 : Int32) (q : Int32 × CW) (hf : f_X12_allowed w a1 = some q) : MI l G yX12_allowed cX12_allowed 2 (some .int) rm_X12_allowed [.ref (G.2.2.1 300), .int a1] (rA G) (rH G w) (rH G q.2) q.1 := by
  refine cM_start (by decide +kernel) (Nat.le_of_ble_eq_true rfl) ?_
  intro p e s m below meth c ls X hH hl
  have hS : va_S (rA G) s.heap s.heap [] := va_S.rf
  have hx := X.1.1
  have hb := X.1.2.1
  generalize hargs : ([.ref (G.2.2.1 300), .int a1] : List Value).toArray = args at X ⊢
  generalize hQ : MQ below (QI (rA G) (rH G q.2) q.1) args s 0 0 (rA G) = Q
  have hl : lv_has ls 2 [(0, .ref (G.2.2.1 300)), (1, .int a1)] := hl
  unfold f_X12_allowed at hf
  refine lv_iload_n hx hb dX12_allowed_0 rfl (lv_at hl 1 rfl) ?_
  refine lv_iconst (v := (-1)) hx hb dX12_allowed_1 (by decide) ?_
  refine lv_aload_n hx hb dX12_allowed_2 rfl (lv_at hl 0 rfl) ?_
  refine ro_get (C := RX12) (N := 30) X hH 0 (by decide) rO rfl inBX12 1 (by decide) rfl bw1379 dX12_allowed_3 ?_
  refine lv_bipush (v := 6) hx hb dX12_allowed_6 (by decide) ?_
  by_cases hc : ((6 : Int32) < 0 ∨ 3250 ≤ (6 : Int32).toNatClampNeg)
  · cases (fo_t hc hf)
  have hf := fo_f hc hf
  refine ra_ld X hH 0 (by decide) (by decide) hc dX12_allowed_8 ?_
  refine lv_iconst (v := 1) hx hb dX12_allowed_9 (by decide) ?_
  refine lv_isub hx hb dX12_allowed_10 ?_
  refine cGi (cSrun (rest := []) X (c_X12_in l G (rH G w) (rA G) rA_g a1 (-1) ((w.1 0 (6 : Int32).toNatClampNeg) - 1) _ rfl) bw1477 bw1478 bw105 bw1479 cn_X12_in ⟨rfl, rfl, Nat.le_of_ble_eq_true rfl, Nat.le_of_ble_eq_true rfl⟩ rA_g hH hS hl rfl (Nat.le_of_ble_eq_true rfl) dX12_allowed_11) hS (fun H locs hH hS => ?_)
  refine lv_if_ne (tgt := 19) hx hb dX12_allowed_14 (by decide) (fun hc => ?_) (fun hc => ?_)
  rotate_left
  · have hf := fo_t hc hf
    refine lv_iconst (v := (-1)) hx hb dX12_allowed_17 (by decide) ?_
    subst hQ
    exact cEi X (rH2 (so_s hf) hH) hS (pf1 (so_s hf)) dX12_allowed_18
  have hf := fo_f hc hf
  refine lv_aload_n hx hb dX12_allowed_19 rfl (lv_at hl 0 rfl) ?_
  refine lv_iconst (v := 0) hx hb dX12_allowed_20 (by decide) ?_
  refine ro_put (C := RX12) (N := 30) X hH hS 0 (by decide) rO rfl inBX12 tyX12 tyX12_ok nmX12 24 (by decide) bw1402 rfl rfl rfl (by simp) (sS w 24 0) rfl rE_sS dX12_allowed_21 (fun H locs hH hS => ?_)
  obtain ⟨w21, ew21⟩ : ∃ z : CW, z = (sS w 24 0) := ⟨_, rfl⟩
  have hf := nm_s hf w21 ew21
  have hH : rH G w21 H := ew21 ▸ hH
  refine lv_aload_n hx hb dX12_allowed_24 rfl (lv_at hl 0 rfl) ?_
  refine lv_iconst (v := 0) hx hb dX12_allowed_25 (by decide) ?_
  refine lv_iconst (v := 0) hx hb dX12_allowed_26 (by decide) ?_
  refine lv_iconst (v := 0) hx hb dX12_allowed_27 (by decide) ?_
  obtain ⟨q28, hq28, hf⟩ := bd_s hf
  refine cGv (cVrun (rest := []) X (c_X12_follows l G w21 0 0 0 q28 hq28) bw1715 bw1717 bw81 bw105 bw1718 cn_X12_follows ⟨rfl, rfl, Nat.le_of_ble_eq_true rfl, Nat.le_of_ble_eq_true rfl⟩ (r_rec X hH) rA_g hH hS hl rfl (Nat.le_of_ble_eq_true rfl) dX12_allowed_28) hS (fun H locs hH hS => ?_)
  refine lv_iload_n hx hb dX12_allowed_31 rfl (lv_at hl 1 rfl) ?_
  refine lv_iconst (v := (-1)) hx hb dX12_allowed_32 (by decide) ?_
  refine lv_icmp_ne (tgt := 43) hx hb dX12_allowed_33 (by decide) (fun hc => ?_) (fun hc => ?_)
  rotate_left
  · have hf := fo_t hc hf
    refine lv_aload_n hx hb dX12_allowed_36 rfl (lv_at hl 0 rfl) ?_
    refine ro_get (C := RX12) (N := 30) X hH 0 (by decide) rO rfl inBX12 24 (by decide) rfl bw1402 dX12_allowed_37 ?_
    refine lv_goto (tgt := 60) hx hb dX12_allowed_40 (by decide) ?_
    subst hQ
    exact cEi X (rH2 (so_s hf) hH) hS (pf1 (so_s hf)) dX12_allowed_60
  have hf := fo_f hc hf
  refine lv_aload_n hx hb dX12_allowed_43 rfl (lv_at hl 0 rfl) ?_
  refine ro_get (C := RX12) (N := 30) X hH 0 (by decide) rO rfl inBX12 24 (by decide) rfl bw1402 dX12_allowed_44 ?_
  refine lv_if_ne (tgt := 54) hx hb dX12_allowed_47 (by decide) (fun hc => ?_) (fun hc => ?_)
  rotate_left
  · have hf := fo_t hc hf
    refine lv_iconst (v := (-1)) hx hb dX12_allowed_50 (by decide) ?_
    refine lv_goto (tgt := 60) hx hb dX12_allowed_51 (by decide) ?_
    subst hQ
    exact cEi X (rH2 (so_s hf) hH) hS (pf1 (so_s hf)) dX12_allowed_60
  have hf := fo_f hc hf
  refine lv_aload_n hx hb dX12_allowed_54 rfl (lv_at hl 0 rfl) ?_
  refine ro_get (C := RX12) (N := 30) X hH 0 (by decide) rO rfl inBX12 23 (by decide) rfl bw1401 dX12_allowed_55 ?_
  refine lv_iload_n hx hb dX12_allowed_58 rfl (lv_at hl 1 rfl) ?_
  by_cases hc : (a1 < 0 ∨ 10 ≤ a1.toNatClampNeg)
  · cases (fo_t hc hf)
  have hf := fo_f hc hf
  refine ra_ld X hH 13 (by decide) (by decide) hc dX12_allowed_59 ?_
  subst hQ
  exact cEi X (rH2 (so_s hf) hH) hS (pf1 (so_s hf)) dX12_allowed_60
def f_X12_parts_L50 (rc : CW → Int32 → Int32 → Option (CW)) (a1 : Int32) (a2 : Int32) : Nat → Int32 → CW → Option (CW)
  | 0, _, _ => none
  | n50 + 1, v50_3, w50_ => (if a2 < v50_3 then (some w50_) else (if 10 ≤ v50_3 then (some w50_) else (nmk (fun (z76_0 : Int32) => (if (a1 < 0 ∨ 10 ≤ a1.toNatClampNeg) then none else (nmk (fun (w131_ : CW) => (nmk (v50_3 + 1) fun (x131 : Int32) => (f_X12_parts_L50 rc a1 a2 n50 x131 w131_))) fun j131 => (if (z76_0 &&& ((w50_.1 14 a1.toNatClampNeg) ^^^ (-1))) = 0 then (if (v50_3 < 0 ∨ 10 ≤ v50_3.toNatClampNeg) then none else (nmk (sC w50_ 15 v50_3.toNatClampNeg (z76_0 ||| ((1 : Int32) <<< (a1 &&& 31)))) fun w103 => (Option.bind (rc w103 (a1 + 1) (if a2 ≤ v50_3 then (a2 + 1) else a2)) fun q120 => (if (v50_3 < 0 ∨ 10 ≤ v50_3.toNatClampNeg) then none else (nmk (sC q120 15 v50_3.toNatClampNeg z76_0) fun w130 => (j131 w130)))))) else (j131 w50_))))) fun j76 => (if a2 ≤ v50_3 then (j76 0) else (if (v50_3 < 0 ∨ 10 ≤ v50_3.toNatClampNeg) then none else (j76 (w50_.1 15 v50_3.toNatClampNeg)))))))
def h_X12_parts (rc : CW → Int32 → Int32 → Option (CW)) (w : CW) (a1 : Int32) (a2 : Int32) : Option (CW) := (if a2 ≤ (w.2.2 27) then (if ((7 : Int32) < 0 ∨ 3250 ≤ (7 : Int32).toNatClampNeg) then none else (if a1 = (w.1 0 (7 : Int32).toNatClampNeg) then (nmk (sS w 28 (if (w.2.2 27) ≤ a2 then ((w.2.2 28) + 1) else 1)) fun w39 => (nmk (sS w39 27 a2) fun w44 => (some w44))) else (f_X12_parts_L50 rc a1 a2 FU 0 w))) else (some w))
def f_X12_parts : Nat → CW → Int32 → Int32 → Option (CW)
  | 0 => fun _ _ _ => none
  | d + 1 => h_X12_parts (f_X12_parts d)
abbrev KF_X12_parts : Nat := 2
abbrev KL_X12_parts : Nat := 24
abbrev rmU_X12_parts (rmd : Room) : Room := { frames := rmd.frames + KF_X12_parts, cells := 0, slots := 0, locals := rmd.locals + KL_X12_parts }
def rmR_X12_parts (d : Nat) : Room := { frames := KF_X12_parts * d, cells := 0, slots := 0, locals := KL_X12_parts * d }
theorem cn_X12_parts : CN yX12_parts 2 := ⟨by decide +kernel, by decide +kernel, by decide +kernel⟩
set_option maxHeartbeats 4000000 in
set_option maxRecDepth 100000 in
theorem b_X12_parts (l : Launch) (G : GX) (rmd : Room) (hrz : rmd.cells = 0 ∧ rmd.slots = 0) (rc : CW → Int32 → Int32 → Option (CW)) (hrc : ∀ (w : CW) (a1 : Int32) (a2 : Int32) (q : CW), rc w a1 a2 = some q → MV l G yX12_parts cX12_parts 5 rmd [.ref (G.2.2.1 300), .int a1, .int a2] (rA G) (rH G w) (rH G q)) (w : CW) (a1 : Int32) (a2 : Int32) (q : CW) (hf : h_X12_parts rc w a1 a2 = some q) : MV l G yX12_parts cX12_parts 5 (rmU_X12_parts rmd) [.ref (G.2.2.1 300), .int a1, .int a2] (rA G) (rH G w) (rH G q) := by
  refine cM_start (by decide +kernel) (Nat.le_of_ble_eq_true rfl) ?_
  intro p e s m below meth c ls X hH hl
  have hS : va_S (rA G) s.heap s.heap [] := va_S.rf
  have hx := X.1.1
  have hb := X.1.2.1
  generalize hargs : ([.ref (G.2.2.1 300), .int a1, .int a2] : List Value).toArray = args at X ⊢
  generalize hQ : MQ below (QV (rA G) (rH G q)) args s 0 0 (rA G) = Q
  have hl : lv_has ls 5 [(0, .ref (G.2.2.1 300)), (1, .int a1), (2, .int a2)] := hl
  unfold h_X12_parts at hf
  refine lv_iload_n hx hb dX12_parts_0 rfl (lv_at hl 2 rfl) ?_
  refine lv_aload_n hx hb dX12_parts_1 rfl (lv_at hl 0 rfl) ?_
  refine ro_get (C := RX12) (N := 30) X hH 0 (by decide) rO rfl inBX12 27 (by decide) rfl bw1405 dX12_parts_2 ?_
  refine lv_icmp_le (tgt := 9) hx hb dX12_parts_5 (by decide) (fun hc => ?_) (fun hc => ?_)
  rotate_left
  · have hf := fo_f hc hf
    subst hQ
    exact cEv X (rH1 (so_s hf) hH) hS dX12_parts_8
  have hf := fo_t hc hf
  refine lv_iload_n hx hb dX12_parts_9 rfl (lv_at hl 1 rfl) ?_
  refine lv_aload_n hx hb dX12_parts_10 rfl (lv_at hl 0 rfl) ?_
  refine ro_get (C := RX12) (N := 30) X hH 0 (by decide) rO rfl inBX12 1 (by decide) rfl bw1379 dX12_parts_11 ?_
  refine lv_bipush (v := 7) hx hb dX12_parts_14 (by decide) ?_
  by_cases hc : ((7 : Int32) < 0 ∨ 3250 ≤ (7 : Int32).toNatClampNeg)
  · cases (fo_t hc hf)
  have hf := fo_f hc hf
  refine ra_ld X hH 0 (by decide) (by decide) hc dX12_parts_16 ?_
  refine lv_icmp_ne (tgt := 48) hx hb dX12_parts_17 (by decide) (fun hc => ?_) (fun hc => ?_)
  rotate_left
  · have hf := fo_t hc hf
    refine lv_aload_n hx hb dX12_parts_20 rfl (lv_at hl 0 rfl) ?_
    refine lv_iload_n hx hb dX12_parts_21 rfl (lv_at hl 2 rfl) ?_
    refine lv_aload_n hx hb dX12_parts_22 rfl (lv_at hl 0 rfl) ?_
    refine ro_get (C := RX12) (N := 30) X hH 0 (by decide) rO rfl inBX12 27 (by decide) rfl bw1405 dX12_parts_23 ?_
    have hJ : ∀ (H : Heap) (locs : List Loc), rH G w H → va_S (rA G) s.heap H locs → W p l e (rmU_X12_parts rmd) s m args below meth c H locs 0 0 Q (F0 m 39 ls [.int (if (w.2.2 27) ≤ a2 then ((w.2.2 28) + 1) else 1), .ref (G.2.2.1 300)]) := by
      intro H locs hH hS
      refine ro_put (C := RX12) (N := 30) X hH hS 0 (by decide) rO rfl inBX12 tyX12 tyX12_ok nmX12 28 (by decide) bw1406 rfl rfl rfl (by simp) (sS w 28 (if (w.2.2 27) ≤ a2 then ((w.2.2 28) + 1) else 1)) rfl rE_sS dX12_parts_39 (fun H locs hH hS => ?_)
      obtain ⟨w39, ew39⟩ : ∃ z : CW, z = (sS w 28 (if (w.2.2 27) ≤ a2 then ((w.2.2 28) + 1) else 1)) := ⟨_, rfl⟩
      have hf := nm_s hf w39 ew39
      have hH : rH G w39 H := ew39 ▸ hH
      refine lv_aload_n hx hb dX12_parts_42 rfl (lv_at hl 0 rfl) ?_
      refine lv_iload_n hx hb dX12_parts_43 rfl (lv_at hl 2 rfl) ?_
      refine ro_put (C := RX12) (N := 30) X hH hS 0 (by decide) rO rfl inBX12 tyX12 tyX12_ok nmX12 27 (by decide) bw1405 rfl rfl rfl (by simp) (sS w39 27 a2) rfl rE_sS dX12_parts_44 (fun H locs hH hS => ?_)
      obtain ⟨w44, ew44⟩ : ∃ z : CW, z = (sS w39 27 a2) := ⟨_, rfl⟩
      have hf := nm_s hf w44 ew44
      have hH : rH G w44 H := ew44 ▸ hH
      subst hQ
      exact cEv X (rH1 (so_s hf) hH) hS dX12_parts_47
    refine lv_icmp_ge (tgt := 33) hx hb dX12_parts_26 (by decide) (fun hc26 => ?_) (fun hc26 => ?_)
    · refine lv_aload_n hx hb dX12_parts_33 rfl (lv_at hl 0 rfl) ?_
      refine ro_get (C := RX12) (N := 30) X hH 0 (by decide) rO rfl inBX12 28 (by decide) rfl bw1406 dX12_parts_34 ?_
      refine lv_iconst (v := 1) hx hb dX12_parts_37 (by decide) ?_
      refine lv_iadd hx hb dX12_parts_38 ?_
      exact W.eq (by rw [if_pos hc26] <;> rfl) (hJ _ _ hH hS)
    · refine lv_iconst (v := 1) hx hb dX12_parts_29 (by decide) ?_
      refine lv_goto (tgt := 39) hx hb dX12_parts_30 (by decide) ?_
      exact W.eq (by rw [if_neg hc26] <;> rfl) (hJ _ _ hH hS)
  have hf := fo_f hc hf
  refine lv_iconst (v := 0) hx hb dX12_parts_48 (by decide) ?_
  refine lv_istore_n (lv' := [(3, .int 0), (0, .ref (G.2.2.1 300)), (1, .int a1), (2, .int a2)]) hx hb dX12_parts_49 rfl hl (by decide) rfl (fun ls hl => ?_)
  have hL50 : ∀ (n50 : Nat) (v50_3 : Int32) (w50_ : CW) (H : Heap) (locs : List Loc) (ls : Array Slot), f_X12_parts_L50 rc a1 a2 n50 v50_3 w50_ = some q → rH G w50_ H → va_S (rA G) s.heap H locs → lv_has ls 5 [(3, .int v50_3), (0, .ref (G.2.2.1 300)), (1, .int a1), (2, .int a2)] → W p l e (rmU_X12_parts rmd) s m args below meth c H locs 0 0 Q (F0 m 50 ls []) := by
    intro n50
    induction n50 with
    | zero => intro v50_3 w50_ H locs ls hf; rw [f_X12_parts_L50] at hf; cases hf
    | succ n50 ih50 =>
      intro v50_3 w50_ H locs ls hf hH hS hl
      rw [f_X12_parts_L50] at hf
      refine lv_iload_n hx hb dX12_parts_50 rfl (lv_at hl 0 rfl) ?_
      refine lv_iload_n hx hb dX12_parts_51 rfl (lv_at hl 3 rfl) ?_
      refine lv_icmp_gt (tgt := 137) hx hb dX12_parts_52 (by decide) (fun hc => ?_) (fun hc => ?_)
      · have hf := fo_t hc hf
        subst hQ
        exact cEv X (rH1 (so_s hf) hH) hS dX12_parts_137
      have hf := fo_f hc hf
      refine lv_iload_n hx hb dX12_parts_55 rfl (lv_at hl 0 rfl) ?_
      refine lv_bipush (v := 10) hx hb dX12_parts_56 (by decide) ?_
      refine lv_icmp_ge (tgt := 137) hx hb dX12_parts_58 (by decide) (fun hc => ?_) (fun hc => ?_)
      · have hf := fo_t hc hf
        subst hQ
        exact cEv X (rH1 (so_s hf) hH) hS dX12_parts_137
      have hf := fo_f hc hf
      refine lv_iload_n hx hb dX12_parts_61 rfl (lv_at hl 0 rfl) ?_
      refine lv_iload_n hx hb dX12_parts_62 rfl (lv_at hl 3 rfl) ?_
      obtain ⟨j76, ej76, hf⟩ := nm_x hf
      have hj76 : ∀ (z76_0 : Int32) (H : Heap) (locs : List Loc) (ls : Array Slot), j76 z76_0 = some q → rH G w50_ H → va_S (rA G) s.heap H locs → lv_has ls 5 [(3, .int v50_3), (0, .ref (G.2.2.1 300)), (1, .int a1), (2, .int a2)] → W p l e (rmU_X12_parts rmd) s m args below meth c H locs 0 0 Q (F0 m 76 ls [.int z76_0]) := by
        intro z76_0 H locs ls hf hH hS hl
        have hf := jb1 ej76 hf
        refine lv_istore (lv' := [(4, .int z76_0), (3, .int v50_3), (0, .ref (G.2.2.1 300)), (1, .int a1), (2, .int a2)]) hx hb dX12_parts_76 hl (by decide) rfl (fun ls hl => ?_)
        refine lv_iload hx hb dX12_parts_78 (lv_at hl 0 rfl) ?_
        refine lv_aload_n hx hb dX12_parts_80 rfl (lv_at hl 2 rfl) ?_
        refine ro_get (C := RX12) (N := 30) X hH 0 (by decide) rO rfl inBX12 25 (by decide) rfl bw1403 dX12_parts_81 ?_
        refine lv_iload_n hx hb dX12_parts_84 rfl (lv_at hl 3 rfl) ?_
        by_cases hc : (a1 < 0 ∨ 10 ≤ a1.toNatClampNeg)
        · cases (fo_t hc hf)
        have hf := fo_f hc hf
        refine ra_ld X hH 14 (by decide) (by decide) hc dX12_parts_85 ?_
        refine lv_iconst (v := (-1)) hx hb dX12_parts_86 (by decide) ?_
        refine lv_ixor hx hb dX12_parts_87 ?_
        refine lv_iand hx hb dX12_parts_88 ?_
        obtain ⟨j131, ej131, hf⟩ := nm_x hf
        have hj131 : ∀ (w131_ : CW) (H : Heap) (locs : List Loc) (ls : Array Slot), j131 w131_ = some q → rH G w131_ H → va_S (rA G) s.heap H locs → lv_has ls 5 [(3, .int v50_3), (0, .ref (G.2.2.1 300)), (1, .int a1), (2, .int a2)] → W p l e (rmU_X12_parts rmd) s m args below meth c H locs 0 0 Q (F0 m 131 ls []) := by
          intro w131_ H locs ls hf hH hS hl
          have hf := jb1 ej131 hf
          obtain ⟨x131, ex131⟩ : ∃ z : Int32, z = (v50_3 + 1) := ⟨_, rfl⟩
          have hf := nm_s hf x131 ex131
          refine lv_iinc (v := x131) (lv' := [(3, .int x131), (0, .ref (G.2.2.1 300)), (1, .int a1), (2, .int a2)]) hx hb dX12_parts_131 hl (k := 0) rfl (by rw [ex131]; rfl) (by decide) rfl (fun ls hl => ?_)
          refine lv_goto (tgt := 50) hx hb dX12_parts_134 (by decide) ?_
          exact ih50 _ _ _ _ _ hf hH hS (lv_sub hl [0, 1, 2, 3] rfl)
        refine lv_if_ne (tgt := 131) hx hb dX12_parts_89 (by decide) (fun hc => ?_) (fun hc => ?_)
        · have hf := fo_f hc hf
          exact hj131 _ _ _ _ hf hH hS (lv_sub hl [1, 2, 3, 4] rfl)
        have hf := fo_t hc hf
        refine lv_aload_n hx hb dX12_parts_92 rfl (lv_at hl 2 rfl) ?_
        refine ro_get (C := RX12) (N := 30) X hH 0 (by decide) rO rfl inBX12 26 (by decide) rfl bw1404 dX12_parts_93 ?_
        refine lv_iload_n hx hb dX12_parts_96 rfl (lv_at hl 1 rfl) ?_
        refine lv_iload hx hb dX12_parts_97 (lv_at hl 0 rfl) ?_
        refine lv_iconst (v := 1) hx hb dX12_parts_99 (by decide) ?_
        refine lv_iload_n hx hb dX12_parts_100 rfl (lv_at hl 3 rfl) ?_
        refine lv_ishl hx hb dX12_parts_101 ?_
        refine lv_ior hx hb dX12_parts_102 ?_
        by_cases hc : (v50_3 < 0 ∨ 10 ≤ v50_3.toNatClampNeg)
        · cases (fo_t hc hf)
        have hf := fo_f hc hf
        refine ra_st X hH hS 15 (by decide) (by decide) hc dX12_parts_103 (fun H locs hH hS => ?_)
        obtain ⟨w103, ew103⟩ : ∃ z : CW, z = (sC w50_ 15 v50_3.toNatClampNeg (z76_0 ||| ((1 : Int32) <<< (a1 &&& 31)))) := ⟨_, rfl⟩
        have hf := nm_s hf w103 ew103
        have hH : rH G w103 H := ew103 ▸ hH
        refine lv_aload_n hx hb dX12_parts_104 rfl (lv_at hl 2 rfl) ?_
        refine lv_iload_n hx hb dX12_parts_105 rfl (lv_at hl 3 rfl) ?_
        refine lv_iconst (v := 1) hx hb dX12_parts_106 (by decide) ?_
        refine lv_iadd hx hb dX12_parts_107 ?_
        refine lv_iload_n hx hb dX12_parts_108 rfl (lv_at hl 1 rfl) ?_
        refine lv_iload_n hx hb dX12_parts_109 rfl (lv_at hl 4 rfl) ?_
        have hJ : ∀ (H : Heap) (locs : List Loc), rH G w103 H → va_S (rA G) s.heap H locs → W p l e (rmU_X12_parts rmd) s m args below meth c H locs 0 0 Q (F0 m 120 ls [.int (if a2 ≤ v50_3 then (a2 + 1) else a2), .int (a1 + 1), .ref (G.2.2.1 300)]) := by
          intro H locs hH hS
          obtain ⟨q120, hq120, hf⟩ := bd_s hf
          refine cGv (cVrun (rest := []) X (hrc w103 (a1 + 1) (if a2 ≤ v50_3 then (a2 + 1) else a2) q120 hq120) bw1730 bw1732 bw82 bw105 bw1733 cn_X12_parts ⟨hrz.1, hrz.2, Nat.add_le_add_left (Nat.le_of_ble_eq_true rfl) _, Nat.le_trans (Nat.le_of_eq (Nat.add_comm _ _)) (Nat.add_le_add_left (Nat.le_of_ble_eq_true rfl) _)⟩ (r_rec X hH) rA_g hH hS hl rfl (Nat.le_of_ble_eq_true rfl) dX12_parts_120) hS (fun H locs hH hS => ?_)
          refine lv_aload_n hx hb dX12_parts_123 rfl (lv_at hl 2 rfl) ?_
          refine ro_get (C := RX12) (N := 30) X hH 0 (by decide) rO rfl inBX12 26 (by decide) rfl bw1404 dX12_parts_124 ?_
          refine lv_iload_n hx hb dX12_parts_127 rfl (lv_at hl 1 rfl) ?_
          refine lv_iload hx hb dX12_parts_128 (lv_at hl 0 rfl) ?_
          by_cases hc : (v50_3 < 0 ∨ 10 ≤ v50_3.toNatClampNeg)
          · cases (fo_t hc hf)
          have hf := fo_f hc hf
          refine ra_st X hH hS 15 (by decide) (by decide) hc dX12_parts_130 (fun H locs hH hS => ?_)
          obtain ⟨w130, ew130⟩ : ∃ z : CW, z = (sC q120 15 v50_3.toNatClampNeg z76_0) := ⟨_, rfl⟩
          have hf := nm_s hf w130 ew130
          have hH : rH G w130 H := ew130 ▸ hH
          exact hj131 _ _ _ _ hf hH hS (lv_sub hl [1, 2, 3, 4] rfl)
        refine lv_icmp_ge (tgt := 117) hx hb dX12_parts_110 (by decide) (fun hc110 => ?_) (fun hc110 => ?_)
        · refine lv_iload_n hx hb dX12_parts_117 rfl (lv_at hl 4 rfl) ?_
          refine lv_iconst (v := 1) hx hb dX12_parts_118 (by decide) ?_
          refine lv_iadd hx hb dX12_parts_119 ?_
          exact W.eq (by rw [if_pos hc110] <;> rfl) (hJ _ _ hH hS)
        · refine lv_iload_n hx hb dX12_parts_113 rfl (lv_at hl 4 rfl) ?_
          refine lv_goto (tgt := 120) hx hb dX12_parts_114 (by decide) ?_
          exact W.eq (by rw [if_neg hc110] <;> rfl) (hJ _ _ hH hS)
      refine lv_icmp_ge (tgt := 75) hx hb dX12_parts_63 (by decide) (fun hc => ?_) (fun hc => ?_)
      · have hf := fo_t hc hf
        refine lv_iconst (v := 0) hx hb dX12_parts_75 (by decide) ?_
        exact hj76 _ _ _ _ hf hH hS (lv_sub hl [0, 1, 2, 3] rfl)
      have hf := fo_f hc hf
      refine lv_aload_n hx hb dX12_parts_66 rfl (lv_at hl 1 rfl) ?_
      refine ro_get (C := RX12) (N := 30) X hH 0 (by decide) rO rfl inBX12 26 (by decide) rfl bw1404 dX12_parts_67 ?_
      refine lv_iload_n hx hb dX12_parts_70 rfl (lv_at hl 0 rfl) ?_
      by_cases hc : (v50_3 < 0 ∨ 10 ≤ v50_3.toNatClampNeg)
      · cases (fo_t hc hf)
      have hf := fo_f hc hf
      refine ra_ld X hH 15 (by decide) (by decide) hc dX12_parts_71 ?_
      refine lv_goto (tgt := 76) hx hb dX12_parts_72 (by decide) ?_
      exact hj76 _ _ _ _ hf hH hS (lv_sub hl [0, 1, 2, 3] rfl)
  exact hL50 _ _ _ _ _ _ hf hH hS (lv_sub hl [0, 1, 2, 3] rfl)
theorem cr_X12_parts (l : Launch) (G : GX) : ∀ (d : Nat) (w : CW) (a1 : Int32) (a2 : Int32) (q : CW), f_X12_parts d w a1 a2 = some q → MV l G yX12_parts cX12_parts 5 (rmR_X12_parts d) [.ref (G.2.2.1 300), .int a1, .int a2] (rA G) (rH G w) (rH G q) := by
  intro d
  induction d with
  | zero => intro w a1 a2 q hf; cases hf
  | succ d ih =>
    intro w a1 a2 q hf
    have h := b_X12_parts l G (rmR_X12_parts d) ⟨rfl, rfl⟩ (f_X12_parts d) ih w a1 a2 q hf
    exact h
abbrev rm_X12_parts : Room := { frames := 24, cells := 0, slots := 0, locals := 288 }
theorem c_X12_parts (l : Launch) (G : GX) (w : CW) (a1 : Int32) (a2 : Int32) (q : CW) (hf : f_X12_parts 12 w a1 a2 = some q) : MV l G yX12_parts cX12_parts 5 rm_X12_parts [.ref (G.2.2.1 300), .int a1, .int a2] (rA G) (rH G w) (rH G q) := cr_X12_parts l G 12 w a1 a2 q hf
def f_X12_rival_L47 (a1 : Int32) (v26_3 : Int32) (j110 : CW → Option (Int32 × CW)) : Nat → Int32 → CW → Option (Int32 × CW)
  | 0, _, _ => none
  | n47 + 1, v47_4, w47_ => (if ((7 : Int32) < 0 ∨ 3250 ≤ (7 : Int32).toNatClampNeg) then none else (if (w47_.1 0 (7 : Int32).toNatClampNeg) ≤ v47_4 then (j110 w47_) else (if (v26_3 < 0 ∨ 10 ≤ v26_3.toNatClampNeg) then none else (if ((3090 + v26_3) < 0 ∨ 3250 ≤ (3090 + v26_3).toNatClampNeg) then none else (if ((3090 + v47_4) < 0 ∨ 3250 ≤ (3090 + v47_4).toNatClampNeg) then none else (Option.bind (f_X12_apart (w47_.1 0 (3090 + v26_3).toNatClampNeg) (w47_.1 0 (3090 + v47_4).toNatClampNeg)) fun q87 => (if (v26_3 < 0 ∨ 10 ≤ v26_3.toNatClampNeg) then none else (nmk (sC w47_ 14 v26_3.toNatClampNeg ((w47_.1 14 v26_3.toNatClampNeg) ||| (if a1 < q87 then 0 else ((1 : Int32) <<< (v47_4 &&& 31))))) fun w103 => (nmk (v47_4 + 1) fun (x104 : Int32) => (f_X12_rival_L47 a1 v26_3 j110 n47 x104 w103))))))))))
def f_X12_rival_L26 (a1 : Int32) (j116 : CW → Option (Int32 × CW)) : Nat → Int32 → CW → Option (Int32 × CW)
  | 0, _, _ => none
  | n26 + 1, v26_3, w26_ => (if ((7 : Int32) < 0 ∨ 3250 ≤ (7 : Int32).toNatClampNeg) then none else (if (w26_.1 0 (7 : Int32).toNatClampNeg) ≤ v26_3 then (j116 w26_) else (if (v26_3 < 0 ∨ 10 ≤ v26_3.toNatClampNeg) then none else (nmk (sC w26_ 14 v26_3.toNatClampNeg 0) fun w43 => (nmk (fun (w110_ : CW) => (nmk (v26_3 + 1) fun (x110 : Int32) => (f_X12_rival_L26 a1 j116 n26 x110 w110_))) fun j110 => (f_X12_rival_L47 a1 v26_3 j110 FU 0 w43))))))
def f_X12_rival (w : CW) (a1 : Int32) (a2 : Int32) : Option (Int32 × CW) := (if (f_X12_in a2 0 1) = 0 then (some ((-1), w)) else (if (f_X12_in a1 0 36) = 0 then (some ((-2), w)) else (nmk (fun (w116_ : CW) => (nmk (sS w116_ 27 11) fun w119 => (nmk (sS w119 28 0) fun w124 => (Option.bind (f_X12_parts 12 w124 0 0) fun q130 => (some ((if a2 = 0 then (q130.2.2 27) else (q130.2.2 28)), q130)))))) fun j116 => (f_X12_rival_L26 a1 j116 FU 0 w))))
abbrev rm_X12_rival : Room := { frames := 25, cells := 0, slots := 0, locals := 312 }
theorem cn_X12_rival : CN yX12_rival 2 := ⟨by decide +kernel, by decide +kernel, by decide +kernel⟩
set_option maxHeartbeats 4000000 in
set_option maxRecDepth 100000 in
theorem c_X12_rival (l : Launch) (G : GX) (w : CW) (a1 : Int32) (a2 : Int32) (q : Int32 × CW) (hf : f_X12_rival w a1 a2 = some q) : MI l G yX12_rival cX12_rival 5 (some .int) rm_X12_rival [.ref (G.2.2.1 300), .int a1, .int a2] (rA G) (rH G w) (rH G q.2) q.1 := by
  refine cM_start (by decide +kernel) (Nat.le_of_ble_eq_true rfl) ?_
  intro p e s m below meth c ls X hH hl
  have hS : va_S (rA G) s.heap s.heap [] := va_S.rf
  have hx := X.1.1
  have hb := X.1.2.1
  generalize hargs : ([.ref (G.2.2.1 300), .int a1, .int a2] : List Value).toArray = args at X ⊢
  generalize hQ : MQ below (QI (rA G) (rH G q.2) q.1) args s 0 0 (rA G) = Q
  have hl : lv_has ls 5 [(0, .ref (G.2.2.1 300)), (1, .int a1), (2, .int a2)] := hl
  unfold f_X12_rival at hf
  refine lv_iload_n hx hb dX12_rival_0 rfl (lv_at hl 2 rfl) ?_
  refine lv_iconst (v := 0) hx hb dX12_rival_1 (by decide) ?_
  refine lv_iconst (v := 1) hx hb dX12_rival_2 (by decide) ?_
  refine cGi (cSrun (rest := []) X (c_X12_in l G (rH G w) (rA G) rA_g a2 0 1 _ rfl) bw1477 bw1478 bw105 bw1479 cn_X12_in ⟨rfl, rfl, Nat.le_of_ble_eq_true rfl, Nat.le_of_ble_eq_true rfl⟩ rA_g hH hS hl rfl (Nat.le_of_ble_eq_true rfl) dX12_rival_3) hS (fun H locs hH hS => ?_)
  refine lv_if_ne (tgt := 11) hx hb dX12_rival_6 (by decide) (fun hc => ?_) (fun hc => ?_)
  rotate_left
  · have hf := fo_t hc hf
    refine lv_iconst (v := (-1)) hx hb dX12_rival_9 (by decide) ?_
    subst hQ
    exact cEi X (rH2 (so_s hf) hH) hS (pf1 (so_s hf)) dX12_rival_10
  have hf := fo_f hc hf
  refine lv_iload_n hx hb dX12_rival_11 rfl (lv_at hl 1 rfl) ?_
  refine lv_iconst (v := 0) hx hb dX12_rival_12 (by decide) ?_
  refine lv_bipush (v := 36) hx hb dX12_rival_13 (by decide) ?_
  refine cGi (cSrun (rest := []) X (c_X12_in l G (rH G w) (rA G) rA_g a1 0 36 _ rfl) bw1477 bw1478 bw105 bw1479 cn_X12_in ⟨rfl, rfl, Nat.le_of_ble_eq_true rfl, Nat.le_of_ble_eq_true rfl⟩ rA_g hH hS hl rfl (Nat.le_of_ble_eq_true rfl) dX12_rival_15) hS (fun H locs hH hS => ?_)
  refine lv_if_ne (tgt := 24) hx hb dX12_rival_18 (by decide) (fun hc => ?_) (fun hc => ?_)
  rotate_left
  · have hf := fo_t hc hf
    refine lv_bipush (v := (-2)) hx hb dX12_rival_21 (by decide) ?_
    subst hQ
    exact cEi X (rH2 (so_s hf) hH) hS (pf1 (so_s hf)) dX12_rival_23
  have hf := fo_f hc hf
  refine lv_iconst (v := 0) hx hb dX12_rival_24 (by decide) ?_
  refine lv_istore_n (lv' := [(3, .int 0), (0, .ref (G.2.2.1 300)), (1, .int a1), (2, .int a2)]) hx hb dX12_rival_25 rfl hl (by decide) rfl (fun ls hl => ?_)
  obtain ⟨j116, ej116, hf⟩ := nm_x hf
  have hj116 : ∀ (w116_ : CW) (H : Heap) (locs : List Loc) (ls : Array Slot), j116 w116_ = some q → rH G w116_ H → va_S (rA G) s.heap H locs → lv_has ls 5 [(0, .ref (G.2.2.1 300)), (2, .int a2)] → W p l e rm_X12_rival s m args below meth c H locs 0 0 Q (F0 m 116 ls []) := by
    intro w116_ H locs ls hf hH hS hl
    have hf := jb1 ej116 hf
    refine lv_aload_n hx hb dX12_rival_116 rfl (lv_at hl 0 rfl) ?_
    refine lv_bipush (v := 11) hx hb dX12_rival_117 (by decide) ?_
    refine ro_put (C := RX12) (N := 30) X hH hS 0 (by decide) rO rfl inBX12 tyX12 tyX12_ok nmX12 27 (by decide) bw1405 rfl rfl rfl (by simp) (sS w116_ 27 11) rfl rE_sS dX12_rival_119 (fun H locs hH hS => ?_)
    obtain ⟨w119, ew119⟩ : ∃ z : CW, z = (sS w116_ 27 11) := ⟨_, rfl⟩
    have hf := nm_s hf w119 ew119
    have hH : rH G w119 H := ew119 ▸ hH
    refine lv_aload_n hx hb dX12_rival_122 rfl (lv_at hl 0 rfl) ?_
    refine lv_iconst (v := 0) hx hb dX12_rival_123 (by decide) ?_
    refine ro_put (C := RX12) (N := 30) X hH hS 0 (by decide) rO rfl inBX12 tyX12 tyX12_ok nmX12 28 (by decide) bw1406 rfl rfl rfl (by simp) (sS w119 28 0) rfl rE_sS dX12_rival_124 (fun H locs hH hS => ?_)
    obtain ⟨w124, ew124⟩ : ∃ z : CW, z = (sS w119 28 0) := ⟨_, rfl⟩
    have hf := nm_s hf w124 ew124
    have hH : rH G w124 H := ew124 ▸ hH
    refine lv_aload_n hx hb dX12_rival_127 rfl (lv_at hl 0 rfl) ?_
    refine lv_iconst (v := 0) hx hb dX12_rival_128 (by decide) ?_
    refine lv_iconst (v := 0) hx hb dX12_rival_129 (by decide) ?_
    obtain ⟨q130, hq130, hf⟩ := bd_s hf
    refine cGv (cVrun (rest := []) X (c_X12_parts l G w124 0 0 q130 hq130) bw1730 bw1732 bw82 bw105 bw1733 cn_X12_parts ⟨rfl, rfl, Nat.le_of_ble_eq_true rfl, Nat.le_of_ble_eq_true rfl⟩ (r_rec X hH) rA_g hH hS hl rfl (Nat.le_of_ble_eq_true rfl) dX12_rival_130) hS (fun H locs hH hS => ?_)
    refine lv_iload_n hx hb dX12_rival_133 rfl (lv_at hl 1 rfl) ?_
    have hJ : ∀ (H : Heap) (locs : List Loc), rH G q130 H → va_S (rA G) s.heap H locs → W p l e rm_X12_rival s m args below meth c H locs 0 0 Q (F0 m 148 ls [.int (if a2 = 0 then (q130.2.2 27) else (q130.2.2 28))]) := by
      intro H locs hH hS
      subst hQ
      exact cEi X (rH2 (so_s hf) hH) hS (pf1 (so_s hf)) dX12_rival_148
    refine lv_if_ne (tgt := 144) hx hb dX12_rival_134 (by decide) (fun hc134 => ?_) (fun hc134 => ?_)
    · refine lv_aload_n hx hb dX12_rival_144 rfl (lv_at hl 0 rfl) ?_
      refine ro_get (C := RX12) (N := 30) X hH 0 (by decide) rO rfl inBX12 28 (by decide) rfl bw1406 dX12_rival_145 ?_
      exact W.eq (by rw [if_neg hc134] <;> rfl) (hJ _ _ hH hS)
    · refine lv_aload_n hx hb dX12_rival_137 rfl (lv_at hl 0 rfl) ?_
      refine ro_get (C := RX12) (N := 30) X hH 0 (by decide) rO rfl inBX12 27 (by decide) rfl bw1405 dX12_rival_138 ?_
      refine lv_goto (tgt := 148) hx hb dX12_rival_141 (by decide) ?_
      exact W.eq (by rw [if_pos hc134] <;> rfl) (hJ _ _ hH hS)
  have hL26 : ∀ (n26 : Nat) (v26_3 : Int32) (w26_ : CW) (H : Heap) (locs : List Loc) (ls : Array Slot), f_X12_rival_L26 a1 j116 n26 v26_3 w26_ = some q → rH G w26_ H → va_S (rA G) s.heap H locs → lv_has ls 5 [(3, .int v26_3), (0, .ref (G.2.2.1 300)), (1, .int a1), (2, .int a2)] → W p l e rm_X12_rival s m args below meth c H locs 0 0 Q (F0 m 26 ls []) := by
    intro n26
    induction n26 with
    | zero => intro v26_3 w26_ H locs ls hf; rw [f_X12_rival_L26] at hf; cases hf
    | succ n26 ih26 =>
      intro v26_3 w26_ H locs ls hf hH hS hl
      rw [f_X12_rival_L26] at hf
      refine lv_iload_n hx hb dX12_rival_26 rfl (lv_at hl 0 rfl) ?_
      refine lv_aload_n hx hb dX12_rival_27 rfl (lv_at hl 1 rfl) ?_
      refine ro_get (C := RX12) (N := 30) X hH 0 (by decide) rO rfl inBX12 1 (by decide) rfl bw1379 dX12_rival_28 ?_
      refine lv_bipush (v := 7) hx hb dX12_rival_31 (by decide) ?_
      by_cases hc : ((7 : Int32) < 0 ∨ 3250 ≤ (7 : Int32).toNatClampNeg)
      · cases (fo_t hc hf)
      have hf := fo_f hc hf
      refine ra_ld X hH 0 (by decide) (by decide) hc dX12_rival_33 ?_
      refine lv_icmp_ge (tgt := 116) hx hb dX12_rival_34 (by decide) (fun hc => ?_) (fun hc => ?_)
      · have hf := fo_t hc hf
        exact hj116 _ _ _ _ hf hH hS (lv_sub hl [1, 3] rfl)
      have hf := fo_f hc hf
      refine lv_aload_n hx hb dX12_rival_37 rfl (lv_at hl 1 rfl) ?_
      refine ro_get (C := RX12) (N := 30) X hH 0 (by decide) rO rfl inBX12 25 (by decide) rfl bw1403 dX12_rival_38 ?_
      refine lv_iload_n hx hb dX12_rival_41 rfl (lv_at hl 0 rfl) ?_
      refine lv_iconst (v := 0) hx hb dX12_rival_42 (by decide) ?_
      by_cases hc : (v26_3 < 0 ∨ 10 ≤ v26_3.toNatClampNeg)
      · cases (fo_t hc hf)
      have hf := fo_f hc hf
      refine ra_st X hH hS 14 (by decide) (by decide) hc dX12_rival_43 (fun H locs hH hS => ?_)
      obtain ⟨w43, ew43⟩ : ∃ z : CW, z = (sC w26_ 14 v26_3.toNatClampNeg 0) := ⟨_, rfl⟩
      have hf := nm_s hf w43 ew43
      have hH : rH G w43 H := ew43 ▸ hH
      refine lv_iconst (v := 0) hx hb dX12_rival_44 (by decide) ?_
      refine lv_istore (lv' := [(4, .int 0), (3, .int v26_3), (0, .ref (G.2.2.1 300)), (1, .int a1), (2, .int a2)]) hx hb dX12_rival_45 hl (by decide) rfl (fun ls hl => ?_)
      obtain ⟨j110, ej110, hf⟩ := nm_x hf
      have hj110 : ∀ (w110_ : CW) (H : Heap) (locs : List Loc) (ls : Array Slot), j110 w110_ = some q → rH G w110_ H → va_S (rA G) s.heap H locs → lv_has ls 5 [(3, .int v26_3), (0, .ref (G.2.2.1 300)), (1, .int a1), (2, .int a2)] → W p l e rm_X12_rival s m args below meth c H locs 0 0 Q (F0 m 110 ls []) := by
        intro w110_ H locs ls hf hH hS hl
        have hf := jb1 ej110 hf
        obtain ⟨x110, ex110⟩ : ∃ z : Int32, z = (v26_3 + 1) := ⟨_, rfl⟩
        have hf := nm_s hf x110 ex110
        refine lv_iinc (v := x110) (lv' := [(3, .int x110), (0, .ref (G.2.2.1 300)), (1, .int a1), (2, .int a2)]) hx hb dX12_rival_110 hl (k := 0) rfl (by rw [ex110]; rfl) (by decide) rfl (fun ls hl => ?_)
        refine lv_goto (tgt := 26) hx hb dX12_rival_113 (by decide) ?_
        exact ih26 _ _ _ _ _ hf hH hS (lv_sub hl [0, 1, 2, 3] rfl)
      have hL47 : ∀ (n47 : Nat) (v47_4 : Int32) (w47_ : CW) (H : Heap) (locs : List Loc) (ls : Array Slot), f_X12_rival_L47 a1 v26_3 j110 n47 v47_4 w47_ = some q → rH G w47_ H → va_S (rA G) s.heap H locs → lv_has ls 5 [(4, .int v47_4), (3, .int v26_3), (0, .ref (G.2.2.1 300)), (1, .int a1), (2, .int a2)] → W p l e rm_X12_rival s m args below meth c H locs 0 0 Q (F0 m 47 ls []) := by
        intro n47
        induction n47 with
        | zero => intro v47_4 w47_ H locs ls hf; rw [f_X12_rival_L47] at hf; cases hf
        | succ n47 ih47 =>
          intro v47_4 w47_ H locs ls hf hH hS hl
          rw [f_X12_rival_L47] at hf
          refine lv_iload hx hb dX12_rival_47 (lv_at hl 0 rfl) ?_
          refine lv_aload_n hx hb dX12_rival_49 rfl (lv_at hl 2 rfl) ?_
          refine ro_get (C := RX12) (N := 30) X hH 0 (by decide) rO rfl inBX12 1 (by decide) rfl bw1379 dX12_rival_50 ?_
          refine lv_bipush (v := 7) hx hb dX12_rival_53 (by decide) ?_
          by_cases hc : ((7 : Int32) < 0 ∨ 3250 ≤ (7 : Int32).toNatClampNeg)
          · cases (fo_t hc hf)
          have hf := fo_f hc hf
          refine ra_ld X hH 0 (by decide) (by decide) hc dX12_rival_55 ?_
          refine lv_icmp_ge (tgt := 110) hx hb dX12_rival_56 (by decide) (fun hc => ?_) (fun hc => ?_)
          · have hf := fo_t hc hf
            exact hj110 _ _ _ _ hf hH hS (lv_sub hl [1, 2, 3, 4] rfl)
          have hf := fo_f hc hf
          refine lv_aload_n hx hb dX12_rival_59 rfl (lv_at hl 2 rfl) ?_
          refine ro_get (C := RX12) (N := 30) X hH 0 (by decide) rO rfl inBX12 25 (by decide) rfl bw1403 dX12_rival_60 ?_
          refine lv_iload_n hx hb dX12_rival_63 rfl (lv_at hl 1 rfl) ?_
          refine lv_dup2_11 hx hb dX12_rival_64 rfl rfl ?_
          by_cases hc : (v26_3 < 0 ∨ 10 ≤ v26_3.toNatClampNeg)
          · cases (fo_t hc hf)
          have hf := fo_f hc hf
          refine ra_ld X hH 14 (by decide) (by decide) hc dX12_rival_65 ?_
          refine lv_aload_n hx hb dX12_rival_66 rfl (lv_at hl 2 rfl) ?_
          refine ro_get (C := RX12) (N := 30) X hH 0 (by decide) rO rfl inBX12 1 (by decide) rfl bw1379 dX12_rival_67 ?_
          refine lv_sipush (v := 3090) hx hb dX12_rival_70 (by decide) ?_
          refine lv_iload_n hx hb dX12_rival_73 rfl (lv_at hl 1 rfl) ?_
          refine lv_iadd hx hb dX12_rival_74 ?_
          by_cases hc : ((3090 + v26_3) < 0 ∨ 3250 ≤ (3090 + v26_3).toNatClampNeg)
          · cases (fo_t hc hf)
          have hf := fo_f hc hf
          refine ra_ld X hH 0 (by decide) (by decide) hc dX12_rival_75 ?_
          refine lv_aload_n hx hb dX12_rival_76 rfl (lv_at hl 2 rfl) ?_
          refine ro_get (C := RX12) (N := 30) X hH 0 (by decide) rO rfl inBX12 1 (by decide) rfl bw1379 dX12_rival_77 ?_
          refine lv_sipush (v := 3090) hx hb dX12_rival_80 (by decide) ?_
          refine lv_iload hx hb dX12_rival_83 (lv_at hl 0 rfl) ?_
          refine lv_iadd hx hb dX12_rival_85 ?_
          by_cases hc : ((3090 + v47_4) < 0 ∨ 3250 ≤ (3090 + v47_4).toNatClampNeg)
          · cases (fo_t hc hf)
          have hf := fo_f hc hf
          refine ra_ld X hH 0 (by decide) (by decide) hc dX12_rival_86 ?_
          obtain ⟨q87, hq87, hf⟩ := bd_s hf
          refine cGi (cSrun (rest := [.int (w47_.1 14 v26_3.toNatClampNeg), .int v26_3, .ref (G.2.2.1 315)]) X (c_X12_apart l G (rH G w47_) (rA G) rA_g (w47_.1 0 (3090 + v26_3).toNatClampNeg) (w47_.1 0 (3090 + v47_4).toNatClampNeg) q87 hq87) bw1727 bw1728 bw105 bw1729 cn_X12_apart ⟨rfl, rfl, Nat.le_of_ble_eq_true rfl, Nat.le_of_ble_eq_true rfl⟩ rA_g hH hS hl rfl (Nat.le_of_ble_eq_true rfl) dX12_rival_87) hS (fun H locs hH hS => ?_)
          refine lv_iload_n hx hb dX12_rival_90 rfl (lv_at hl 3 rfl) ?_
          have hJ : ∀ (H : Heap) (locs : List Loc), rH G w47_ H → va_S (rA G) s.heap H locs → W p l e rm_X12_rival s m args below meth c H locs 0 0 Q (F0 m 102 ls [.int (if a1 < q87 then 0 else ((1 : Int32) <<< (v47_4 &&& 31))), .int (w47_.1 14 v26_3.toNatClampNeg), .int v26_3, .ref (G.2.2.1 315)]) := by
            intro H locs hH hS
            refine lv_ior hx hb dX12_rival_102 ?_
            by_cases hc : (v26_3 < 0 ∨ 10 ≤ v26_3.toNatClampNeg)
            · cases (fo_t hc hf)
            have hf := fo_f hc hf
            refine ra_st X hH hS 14 (by decide) (by decide) hc dX12_rival_103 (fun H locs hH hS => ?_)
            obtain ⟨w103, ew103⟩ : ∃ z : CW, z = (sC w47_ 14 v26_3.toNatClampNeg ((w47_.1 14 v26_3.toNatClampNeg) ||| (if a1 < q87 then 0 else ((1 : Int32) <<< (v47_4 &&& 31))))) := ⟨_, rfl⟩
            have hf := nm_s hf w103 ew103
            have hH : rH G w103 H := ew103 ▸ hH
            obtain ⟨x104, ex104⟩ : ∃ z : Int32, z = (v47_4 + 1) := ⟨_, rfl⟩
            have hf := nm_s hf x104 ex104
            refine lv_iinc (v := x104) (lv' := [(4, .int x104), (3, .int v26_3), (0, .ref (G.2.2.1 300)), (1, .int a1), (2, .int a2)]) hx hb dX12_rival_104 hl (k := 0) rfl (by rw [ex104]; rfl) (by decide) rfl (fun ls hl => ?_)
            refine lv_goto (tgt := 47) hx hb dX12_rival_107 (by decide) ?_
            exact ih47 _ _ _ _ _ hf hH hS (lv_sub hl [0, 1, 2, 3, 4] rfl)
          refine lv_icmp_gt (tgt := 101) hx hb dX12_rival_91 (by decide) (fun hc91 => ?_) (fun hc91 => ?_)
          · refine lv_iconst (v := 0) hx hb dX12_rival_101 (by decide) ?_
            exact W.eq (by rw [if_pos hc91] <;> rfl) (hJ _ _ hH hS)
          · refine lv_iconst (v := 1) hx hb dX12_rival_94 (by decide) ?_
            refine lv_iload hx hb dX12_rival_95 (lv_at hl 0 rfl) ?_
            refine lv_ishl hx hb dX12_rival_97 ?_
            refine lv_goto (tgt := 102) hx hb dX12_rival_98 (by decide) ?_
            exact W.eq (by rw [if_neg hc91] <;> rfl) (hJ _ _ hH hS)
      exact hL47 _ _ _ _ _ _ hf hH hS (lv_sub hl [0, 1, 2, 3, 4] rfl)
  exact hL26 _ _ _ _ _ _ hf hH hS (lv_sub hl [0, 1, 2, 3] rfl)
def f_X12_tried (w : CW) (a1 : Int32) (a2 : Int32) : Option (Int32 × CW) := (Option.bind (f_X12_isVerse w a1) fun q2 => (if q2 = 0 then (some ((-1), w)) else (if (f_X12_in a2 0 1) = 0 then (some ((-1), w)) else (if ((1 : Int32) < 0 ∨ 3250 ≤ (1 : Int32).toNatClampNeg) then none else (if ((0 : Int32) < 0 ∨ 3250 ≤ (0 : Int32).toNatClampNeg) then none else (Option.bind (f_X12_readsWay w (w.1 0 (1 : Int32).toNatClampNeg) (w.1 0 (0 : Int32).toNatClampNeg)) fun q32 => (if q32.1 = 0 then (some (((-10) - (q32.2.2.2 5)), q32.2)) else (if ((1 : Int32) < 0 ∨ 3250 ≤ (1 : Int32).toNatClampNeg) then none else (if ((1 : Int32) < 0 ∨ 3250 ≤ (1 : Int32).toNatClampNeg) then none else (nmk (sC q32.2 0 (1 : Int32).toNatClampNeg ((q32.2.1 0 (1 : Int32).toNatClampNeg) + 1)) fun w55 => (if ((0 : Int32) < 0 ∨ 3250 ≤ (0 : Int32).toNatClampNeg) then none else (Option.bind (f_X12_sets w55 a1 (w55.1 0 (0 : Int32).toNatClampNeg)) fun q64 => (if ((1 : Int32) < 0 ∨ 3250 ≤ (1 : Int32).toNatClampNeg) then none else (if ((1 : Int32) < 0 ∨ 3250 ≤ (1 : Int32).toNatClampNeg) then none else (nmk (sC q64.2 0 (1 : Int32).toNatClampNeg ((q64.2.1 0 (1 : Int32).toNatClampNeg) - 1)) fun w77 => (some ((if q64.1 = 0 then (-9) else (if a2 = 0 then (w77.2.2 21) else (w77.2.2 18))), w77)))))))))))))))))
abbrev rm_X12_tried : Room := { frames := 9, cells := 0, slots := 0, locals := 173 }
theorem cn_X12_tried : CN yX12_tried 2 := ⟨by decide +kernel, by decide +kernel, by decide +kernel⟩
set_option maxHeartbeats 4000000 in
set_option maxRecDepth 100000 in
theorem c_X12_tried (l : Launch) (G : GX) (w : CW) (a1 : Int32) (a2 : Int32) (q : Int32 × CW) (hf : f_X12_tried w a1 a2 = some q) : MI l G yX12_tried cX12_tried 4 (some .int) rm_X12_tried [.ref (G.2.2.1 300), .int a1, .int a2] (rA G) (rH G w) (rH G q.2) q.1 := by
  refine cM_start (by decide +kernel) (Nat.le_of_ble_eq_true rfl) ?_
  intro p e s m below meth c ls X hH hl
  have hS : va_S (rA G) s.heap s.heap [] := va_S.rf
  have hx := X.1.1
  have hb := X.1.2.1
  generalize hargs : ([.ref (G.2.2.1 300), .int a1, .int a2] : List Value).toArray = args at X ⊢
  generalize hQ : MQ below (QI (rA G) (rH G q.2) q.1) args s 0 0 (rA G) = Q
  have hl : lv_has ls 4 [(0, .ref (G.2.2.1 300)), (1, .int a1), (2, .int a2)] := hl
  unfold f_X12_tried at hf
  refine lv_aload_n hx hb dX12_tried_0 rfl (lv_at hl 0 rfl) ?_
  refine lv_iload_n hx hb dX12_tried_1 rfl (lv_at hl 1 rfl) ?_
  obtain ⟨q2, hq2, hf⟩ := bd_s hf
  refine cGz (cVrun (rest := []) X (c_X12_isVerse l G w a1 q2 hq2) bw1585 bw1587 bw63 bw105 bw1588 cn_X12_isVerse ⟨rfl, rfl, Nat.le_of_ble_eq_true rfl, Nat.le_of_ble_eq_true rfl⟩ (r_rec X hH) rA_g hH hS hl rfl (Nat.le_of_ble_eq_true rfl) dX12_tried_2) hS (fun hz2 H locs hH hS => ?_)
  refine lv_if_eq (tgt := 17) hx hb dX12_tried_5 (by decide) (fun hc => ?_) (fun hc => ?_)
  · have hf := fo_t hc hf
    refine lv_iconst (v := (-1)) hx hb dX12_tried_17 (by decide) ?_
    subst hQ
    exact cEi X (rH2 (so_s hf) hH) hS (pf1 (so_s hf)) dX12_tried_18
  have hf := fo_f hc hf
  refine lv_iload_n hx hb dX12_tried_8 rfl (lv_at hl 2 rfl) ?_
  refine lv_iconst (v := 0) hx hb dX12_tried_9 (by decide) ?_
  refine lv_iconst (v := 1) hx hb dX12_tried_10 (by decide) ?_
  refine cGi (cSrun (rest := []) X (c_X12_in l G (rH G w) (rA G) rA_g a2 0 1 _ rfl) bw1477 bw1478 bw105 bw1479 cn_X12_in ⟨rfl, rfl, Nat.le_of_ble_eq_true rfl, Nat.le_of_ble_eq_true rfl⟩ rA_g hH hS hl rfl (Nat.le_of_ble_eq_true rfl) dX12_tried_11) hS (fun H locs hH hS => ?_)
  refine lv_if_ne (tgt := 19) hx hb dX12_tried_14 (by decide) (fun hc => ?_) (fun hc => ?_)
  rotate_left
  · have hf := fo_t hc hf
    refine lv_iconst (v := (-1)) hx hb dX12_tried_17 (by decide) ?_
    subst hQ
    exact cEi X (rH2 (so_s hf) hH) hS (pf1 (so_s hf)) dX12_tried_18
  have hf := fo_f hc hf
  refine lv_aload_n hx hb dX12_tried_19 rfl (lv_at hl 0 rfl) ?_
  refine lv_aload_n hx hb dX12_tried_20 rfl (lv_at hl 0 rfl) ?_
  refine ro_get (C := RX12) (N := 30) X hH 0 (by decide) rO rfl inBX12 1 (by decide) rfl bw1379 dX12_tried_21 ?_
  refine lv_iconst (v := 1) hx hb dX12_tried_24 (by decide) ?_
  by_cases hc : ((1 : Int32) < 0 ∨ 3250 ≤ (1 : Int32).toNatClampNeg)
  · cases (fo_t hc hf)
  have hf := fo_f hc hf
  refine ra_ld X hH 0 (by decide) (by decide) hc dX12_tried_25 ?_
  refine lv_aload_n hx hb dX12_tried_26 rfl (lv_at hl 0 rfl) ?_
  refine ro_get (C := RX12) (N := 30) X hH 0 (by decide) rO rfl inBX12 1 (by decide) rfl bw1379 dX12_tried_27 ?_
  refine lv_iconst (v := 0) hx hb dX12_tried_30 (by decide) ?_
  by_cases hc : ((0 : Int32) < 0 ∨ 3250 ≤ (0 : Int32).toNatClampNeg)
  · cases (fo_t hc hf)
  have hf := fo_f hc hf
  refine ra_ld X hH 0 (by decide) (by decide) hc dX12_tried_31 ?_
  obtain ⟨q32, hq32, hf⟩ := bd_s hf
  refine cGz (cVrun (rest := []) X (c_X12_readsWay l G w (w.1 0 (1 : Int32).toNatClampNeg) (w.1 0 (0 : Int32).toNatClampNeg) q32 hq32) bw1508 bw1510 bw50 bw105 bw1511 cn_X12_readsWay ⟨rfl, rfl, Nat.le_of_ble_eq_true rfl, Nat.le_of_ble_eq_true rfl⟩ (r_rec X hH) rA_g hH hS hl rfl (Nat.le_of_ble_eq_true rfl) dX12_tried_32) hS (fun hz32 H locs hH hS => ?_)
  refine lv_if_ne (tgt := 46) hx hb dX12_tried_35 (by decide) (fun hc => ?_) (fun hc => ?_)
  rotate_left
  · have hf := fo_t hc hf
    refine lv_bipush (v := (-10)) hx hb dX12_tried_38 (by decide) ?_
    refine lv_aload_n hx hb dX12_tried_40 rfl (lv_at hl 0 rfl) ?_
    refine ro_get (C := RX12) (N := 30) X hH 0 (by decide) rO rfl inBX12 5 (by decide) rfl bw1383 dX12_tried_41 ?_
    refine lv_isub hx hb dX12_tried_44 ?_
    subst hQ
    exact cEi X (rH2 (so_s hf) hH) hS (pf1 (so_s hf)) dX12_tried_45
  have hf := fo_f hc hf
  refine lv_aload_n hx hb dX12_tried_46 rfl (lv_at hl 0 rfl) ?_
  refine ro_get (C := RX12) (N := 30) X hH 0 (by decide) rO rfl inBX12 1 (by decide) rfl bw1379 dX12_tried_47 ?_
  refine lv_iconst (v := 1) hx hb dX12_tried_50 (by decide) ?_
  refine lv_dup2_11 hx hb dX12_tried_51 rfl rfl ?_
  by_cases hc : ((1 : Int32) < 0 ∨ 3250 ≤ (1 : Int32).toNatClampNeg)
  · cases (fo_t hc hf)
  have hf := fo_f hc hf
  refine ra_ld X hH 0 (by decide) (by decide) hc dX12_tried_52 ?_
  refine lv_iconst (v := 1) hx hb dX12_tried_53 (by decide) ?_
  refine lv_iadd hx hb dX12_tried_54 ?_
  by_cases hc : ((1 : Int32) < 0 ∨ 3250 ≤ (1 : Int32).toNatClampNeg)
  · cases (fo_t hc hf)
  have hf := fo_f hc hf
  refine ra_st X hH hS 0 (by decide) (by decide) hc dX12_tried_55 (fun H locs hH hS => ?_)
  obtain ⟨w55, ew55⟩ : ∃ z : CW, z = (sC q32.2 0 (1 : Int32).toNatClampNeg ((q32.2.1 0 (1 : Int32).toNatClampNeg) + 1)) := ⟨_, rfl⟩
  have hf := nm_s hf w55 ew55
  have hH : rH G w55 H := ew55 ▸ hH
  refine lv_aload_n hx hb dX12_tried_56 rfl (lv_at hl 0 rfl) ?_
  refine lv_iload_n hx hb dX12_tried_57 rfl (lv_at hl 1 rfl) ?_
  refine lv_aload_n hx hb dX12_tried_58 rfl (lv_at hl 0 rfl) ?_
  refine ro_get (C := RX12) (N := 30) X hH 0 (by decide) rO rfl inBX12 1 (by decide) rfl bw1379 dX12_tried_59 ?_
  refine lv_iconst (v := 0) hx hb dX12_tried_62 (by decide) ?_
  by_cases hc : ((0 : Int32) < 0 ∨ 3250 ≤ (0 : Int32).toNatClampNeg)
  · cases (fo_t hc hf)
  have hf := fo_f hc hf
  refine ra_ld X hH 0 (by decide) (by decide) hc dX12_tried_63 ?_
  obtain ⟨q64, hq64, hf⟩ := bd_s hf
  refine cGz (cVrun (rest := []) X (c_X12_sets l G w55 a1 (w55.1 0 (0 : Int32).toNatClampNeg) q64 hq64) bw1589 bw1591 bw64 bw105 bw1592 cn_X12_sets ⟨rfl, rfl, Nat.le_of_ble_eq_true rfl, Nat.le_of_ble_eq_true rfl⟩ (r_rec X hH) rA_g hH hS hl rfl (Nat.le_of_ble_eq_true rfl) dX12_tried_64) hS (fun hz64 H locs hH hS => ?_)
  refine lv_istore_n (lv' := [(3, .int q64.1), (0, .ref (G.2.2.1 300)), (1, .int a1), (2, .int a2)]) hx hb dX12_tried_67 rfl hl (by decide) rfl (fun ls hl => ?_)
  refine lv_aload_n hx hb dX12_tried_68 rfl (lv_at hl 1 rfl) ?_
  refine ro_get (C := RX12) (N := 30) X hH 0 (by decide) rO rfl inBX12 1 (by decide) rfl bw1379 dX12_tried_69 ?_
  refine lv_iconst (v := 1) hx hb dX12_tried_72 (by decide) ?_
  refine lv_dup2_11 hx hb dX12_tried_73 rfl rfl ?_
  by_cases hc : ((1 : Int32) < 0 ∨ 3250 ≤ (1 : Int32).toNatClampNeg)
  · cases (fo_t hc hf)
  have hf := fo_f hc hf
  refine ra_ld X hH 0 (by decide) (by decide) hc dX12_tried_74 ?_
  refine lv_iconst (v := 1) hx hb dX12_tried_75 (by decide) ?_
  refine lv_isub hx hb dX12_tried_76 ?_
  by_cases hc : ((1 : Int32) < 0 ∨ 3250 ≤ (1 : Int32).toNatClampNeg)
  · cases (fo_t hc hf)
  have hf := fo_f hc hf
  refine ra_st X hH hS 0 (by decide) (by decide) hc dX12_tried_77 (fun H locs hH hS => ?_)
  obtain ⟨w77, ew77⟩ : ∃ z : CW, z = (sC q64.2 0 (1 : Int32).toNatClampNeg ((q64.2.1 0 (1 : Int32).toNatClampNeg) - 1)) := ⟨_, rfl⟩
  have hf := nm_s hf w77 ew77
  have hH : rH G w77 H := ew77 ▸ hH
  refine lv_iload_n hx hb dX12_tried_78 rfl (lv_at hl 0 rfl) ?_
  have hJ : ∀ (H : Heap) (locs : List Loc), rH G w77 H → va_S (rA G) s.heap H locs → W p l e rm_X12_tried s m args below meth c H locs 0 0 Q (F0 m 102 ls [.int (if q64.1 = 0 then (-9) else (if a2 = 0 then (w77.2.2 21) else (w77.2.2 18)))]) := by
    intro H locs hH hS
    subst hQ
    exact cEi X (rH2 (so_s hf) hH) hS (pf1 (so_s hf)) dX12_tried_102
  refine lv_if_eq (tgt := 100) hx hb dX12_tried_79 (by decide) (fun hc79 => ?_) (fun hc79 => ?_)
  · refine lv_bipush (v := (-9)) hx hb dX12_tried_100 (by decide) ?_
    exact W.eq (by rw [if_pos hc79] <;> rfl) (hJ _ _ hH hS)
  · refine lv_iload_n hx hb dX12_tried_82 rfl (lv_at hl 3 rfl) ?_
    refine lv_if_ne (tgt := 93) hx hb dX12_tried_83 (by decide) (fun hc83 => ?_) (fun hc83 => ?_)
    · refine lv_aload_n hx hb dX12_tried_93 rfl (lv_at hl 1 rfl) ?_
      refine ro_get (C := RX12) (N := 30) X hH 0 (by decide) rO rfl inBX12 18 (by decide) rfl bw1396 dX12_tried_94 ?_
      refine lv_goto (tgt := 102) hx hb dX12_tried_97 (by decide) ?_
      exact W.eq (by rw [if_neg hc79, if_neg hc83] <;> rfl) (hJ _ _ hH hS)
    · refine lv_aload_n hx hb dX12_tried_86 rfl (lv_at hl 1 rfl) ?_
      refine ro_get (C := RX12) (N := 30) X hH 0 (by decide) rO rfl inBX12 21 (by decide) rfl bw1399 dX12_tried_87 ?_
      refine lv_goto (tgt := 102) hx hb dX12_tried_90 (by decide) ?_
      exact W.eq (by rw [if_neg hc79, if_pos hc83] <;> rfl) (hJ _ _ hH hS)
