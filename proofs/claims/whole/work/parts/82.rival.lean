/-! rival -/
theorem l_hands {w : CW} {hb : Nat → Nat} {d n : Nat} (hn : n ≤ 10) (n1 : w.2.1 28 = nI n) (g : ∀ j, j < n → w.1 28 j = nI (hb j) ∧ hb j < 10000) (hd : d ≤ 36) : ∃ (w' : CW) (a y : Nat), f_X1_findHands w (nI d) = some w' ∧ (∀ k, k ≠ 53 → k ≠ 55 → k ≠ 56 → k ≠ 57 → w'.1 k = w.1 k) ∧ w'.2 = w.2 ∧ w'.1 56 (2 ^ n - 1) = nI a ∧ w'.1 57 (2 ^ n - 1) = nI y ∧ Ld (fun m => Cc (Alk hb d n) n m (2 ^ n - 1)) a y ∧ a ≤ 10 := by
  have hp := pow10 hn
  have hpos : 0 < 2 ^ n := Nat.two_pow_pos n
  obtain ⟨w1, e1, a1, a2, a3⟩ := l_prt hn n1 g hd
  have n1' : w1.2.1 28 = nI n := by rw [a2]; exact n1
  have hsh := shl1 (p := n) (by omega)
  let u0 := sC (sC (sC w1 55 0 (nI 1)) 56 0 (nI 0)) 57 0 (nI 1)
  have hu : ∀ k, k ≠ 55 → k ≠ 56 → k ≠ 57 → u0.1 k = w1.1 k := fun k h1 h2 h3 => by
    show (sC (sC (sC w1 55 0 (nI 1)) 56 0 (nI 0)) 57 0 (nI 1)).1 k = _
    simp (disch := omega) only [sC_s, sC_n, sC_2, sN_1, sN_s, sN_n, sN_2, sS_1, sS_2, sS_s, sS_n, upd_s, upd_e, upd_n]
  have hJ0 : Jt (Alk hb d n) n u0 0 := by
    have hc : cqB (Alk hb d n) n 0 = true := cqB_iff.mpr fun a _ h => by rw [Nat.zero_testBit] at h; cases h
    refine ⟨?_, 0, 1, ?_, ?_, ⟨?_, by decide, fun b hb => absurd hb (Nat.not_lt_zero b)⟩, by have := co_le n 0; omega⟩
    · rw [if_pos hc]
      show (sC (sC (sC w1 55 0 (nI 1)) 56 0 (nI 0)) 57 0 (nI 1)).1 55 0 = _
      simp (disch := omega) only [sC_s, sC_n, sC_2, sN_1, sN_s, sN_n, sN_2, sS_1, sS_2, sS_s, sS_n, upd_s, upd_e, upd_n]
    · show (sC (sC (sC w1 55 0 (nI 1)) 56 0 (nI 0)) 57 0 (nI 1)).1 56 0 = _
      simp (disch := omega) only [sC_s, sC_n, sC_2, sN_1, sN_s, sN_n, sN_2, sS_1, sS_2, sS_s, sS_n, upd_s, upd_e, upd_n]
    · show (sC (sC (sC w1 55 0 (nI 1)) 56 0 (nI 0)) 57 0 (nI 1)).1 57 0 = _
      simp (disch := omega) only [sC_s, sC_n, sC_2, sN_1, sN_s, sN_n, sN_2, sS_1, sS_2, sS_s, sS_n, upd_s, upd_e, upd_n]
    · show (if (0 : Nat) = 0 then 1 else 0) = 1
      rfl
  have key := run1 (fun q i (x : CW) => f_X1_findHands_L49 (nI (2 ^ n)) q i x) (fun s x => 1 ≤ s ∧ (∀ k, k ≠ 55 → k ≠ 56 → k ≠ 57 → x.1 k = u0.1 k) ∧ x.2 = u0.2 ∧ ∀ t, t < s → Jt (Alk hb d n) n x t) (2 ^ n) (fun y => ∃ w', y = some w' ∧ (∀ k, k ≠ 55 → k ≠ 56 → k ≠ 57 → w'.1 k = u0.1 k) ∧ w'.2 = u0.2 ∧ Jt (Alk hb d n) n w' (2 ^ n - 1)) ?_ ?_ FU 1 u0 hpos (by unfold FU; omega) ⟨Nat.le_refl _, fun _ _ _ _ => rfl, rfl, fun t ht => by rw [show t = 0 by omega]; exact hJ0⟩
  · obtain ⟨w', b1, b2, b3, -, a, y, b4, b5, b6, b7⟩ := key
    refine ⟨w', a, y, ?_, fun k h1 h2 h3 h4 => ?_, ?_, b4, b5, b6, by omega⟩
    · unfold f_X1_findHands
      have b1 : f_X1_findHands_L49 (nI (2 ^ n)) FU (nI 1) (sC (sC (sC w1 55 0 (nI 1)) 56 0 (nI 0)) 57 0 (nI 1)) = some w' := b1
      by_cases c : n = 10
      · simp (disch := omega) only [↓nmk_e, ↓reduceIte, Option.bind_some, Option.map_some, lit, ofN, nI_add, pk_sub, pk_mul, nI_clamp, nI_leI, nI_ltI, nI_eq, pk_div, nI_an, nleT, nleF, nltT, nltF, neqT, neqF, or_false, false_or, or_self, or_true, true_or, and_self, and_true, true_and, and_false, false_and, not_true_eq_false, not_false_eq_true, f_X12_isSort, f_X12_isDay, f_X11_isSort, f_X11_isDay, inI, inP, f_X5_size, f_X5_isFull, f_X11_now, f_X2_isKind, f_X2_has, f_X3_has, f_X8_hasPage, f_X8_hasAllPages, f_X8_stands, f_X1_isPrinted, f_X1_rule, f_X9_has, f_X9_isFull, f_X12_isPage, f_X12_isVerse, sC_s, sC_n, sC_2, sN_1, sN_s, sN_n, sN_2, sS_1, sS_2, sS_s, sS_n, upd_s, upd_e, upd_n, rAt, rPut, rAdd, rSwap, rPush, rNumber, cp_0, cp_1, cp_2, cp_3, cp_4, cp_5, cp_6, cp_7, cp_8, cp_9, cp_10, cp_11, cp_12, cp_13, cp_14, cp_15, cp_16, cp_17, cp_18, cp_19, cp_20, cp_21, cp_22, cp_23, cp_24, cp_25, cp_26, cp_27, cp_28, cp_29, cp_30, cp_31, cp_32, cp_33, cp_34, cp_35, cp_36, cp_37, cp_38, cp_39, cp_40, cp_41, cp_42, cp_43, cp_44, cp_45, cp_46, cp_47, cp_48, cp_49, cp_50, cp_51, cp_52, cp_53, cp_54, cp_55, cp_56, cp_57, e1, n1', hsh, b1]
      · simp (disch := omega) only [↓nmk_e, ↓reduceIte, Option.bind_some, Option.map_some, lit, ofN, nI_add, pk_sub, pk_mul, nI_clamp, nI_leI, nI_ltI, nI_eq, pk_div, nI_an, nleT, nleF, nltT, nltF, neqT, neqF, or_false, false_or, or_self, or_true, true_or, and_self, and_true, true_and, and_false, false_and, not_true_eq_false, not_false_eq_true, f_X12_isSort, f_X12_isDay, f_X11_isSort, f_X11_isDay, inI, inP, f_X5_size, f_X5_isFull, f_X11_now, f_X2_isKind, f_X2_has, f_X3_has, f_X8_hasPage, f_X8_hasAllPages, f_X8_stands, f_X1_isPrinted, f_X1_rule, f_X9_has, f_X9_isFull, f_X12_isPage, f_X12_isVerse, sC_s, sC_n, sC_2, sN_1, sN_s, sN_n, sN_2, sS_1, sS_2, sS_s, sS_n, upd_s, upd_e, upd_n, rAt, rPut, rAdd, rSwap, rPush, rNumber, cp_0, cp_1, cp_2, cp_3, cp_4, cp_5, cp_6, cp_7, cp_8, cp_9, cp_10, cp_11, cp_12, cp_13, cp_14, cp_15, cp_16, cp_17, cp_18, cp_19, cp_20, cp_21, cp_22, cp_23, cp_24, cp_25, cp_26, cp_27, cp_28, cp_29, cp_30, cp_31, cp_32, cp_33, cp_34, cp_35, cp_36, cp_37, cp_38, cp_39, cp_40, cp_41, cp_42, cp_43, cp_44, cp_45, cp_46, cp_47, cp_48, cp_49, cp_50, cp_51, cp_52, cp_53, cp_54, cp_55, cp_56, cp_57, e1, n1', hsh, b1]
    · rw [b2 k h2 h3 h4, hu k h2 h3 h4, a1 k h1]
    · rw [b3]; exact a2
  · rintro q x ⟨h0, h1, h2, h3⟩
    refine ⟨x, ?_, h1, h2, h3 _ (by omega)⟩
    simp (disch := omega) only [f_X1_findHands_L49, ↓nmk_e, ↓reduceIte, Option.bind_some, Option.map_some, lit, ofN, nI_add, pk_sub, pk_mul, nI_clamp, nI_leI, nI_ltI, nI_eq, pk_div, nI_an, nleT, nleF, nltT, nltF, neqT, neqF, or_false, false_or, or_self, or_true, true_or, and_self, and_true, true_and, and_false, false_and, not_true_eq_false, not_false_eq_true, f_X12_isSort, f_X12_isDay, f_X11_isSort, f_X11_isDay, inI, inP, f_X5_size, f_X5_isFull, f_X11_now, f_X2_isKind, f_X2_has, f_X3_has, f_X8_hasPage, f_X8_hasAllPages, f_X8_stands, f_X1_isPrinted, f_X1_rule, f_X9_has, f_X9_isFull, f_X12_isPage, f_X12_isVerse, sC_s, sC_n, sC_2, sN_1, sN_s, sN_n, sN_2, sS_1, sS_2, sS_s, sS_n, upd_s, upd_e, upd_n, rAt, rPut, rAdd, rSwap, rPush, rNumber, cp_0, cp_1, cp_2, cp_3, cp_4, cp_5, cp_6, cp_7, cp_8, cp_9, cp_10, cp_11, cp_12, cp_13, cp_14, cp_15, cp_16, cp_17, cp_18, cp_19, cp_20, cp_21, cp_22, cp_23, cp_24, cp_25, cp_26, cp_27, cp_28, cp_29, cp_30, cp_31, cp_32, cp_33, cp_34, cp_35, cp_36, cp_37, cp_38, cp_39, cp_40, cp_41, cp_42, cp_43, cp_44, cp_45, cp_46, cp_47, cp_48, cp_49, cp_50, cp_51, cp_52, cp_53, cp_54, cp_55, cp_56, cp_57]
  · rintro q s x hs ⟨h0, h1, h2, h3⟩
    obtain ⟨x', c1, c2, c3, c4⟩ := l_hand1 hn hs (by omega) x (fun a ha => by rw [h1 53 (by decide) (by decide) (by decide), hu 53 (by decide) (by decide) (by decide)]; exact a3 a ha) h3 q
    exact .inr ⟨x', c1, by omega, fun k k1 k2 k3 => by rw [c2 k k1 k2 k3]; exact h1 k k1 k2 k3, by rw [c3]; exact h2, c4⟩
theorem s_rival {w v : CW} (h : Sim w v) (a b : Int32) : Same w v (f_X11_rival w a b) (f_X12_rival v a b) := by
  obtain ⟨n, hb, hn, n1, n2, g⟩ := HRow_of h
  unfold f_X11_rival f_X12_rival
  rcases rng3 b 0 1 with c | ⟨i, hi, rfl, c⟩ | ⟨i, hi0, hi, hi2, rfl⟩
  · simp (disch := omega) only [↓nmk_e, ↓reduceIte, Option.bind_some, Option.map_some, lit, ofN, nI_add, pk_sub, pk_mul, nI_clamp, nI_leI, nI_ltI, nI_eq, pk_div, nI_an, nleT, nleF, nltT, nltF, neqT, neqF, or_false, false_or, or_self, or_true, true_or, and_self, and_true, true_and, and_false, false_and, not_true_eq_false, not_false_eq_true, f_X12_isSort, f_X12_isDay, f_X11_isSort, f_X11_isDay, inI, inP, f_X5_size, f_X5_isFull, f_X11_now, f_X2_isKind, f_X2_has, f_X3_has, f_X8_hasPage, f_X8_hasAllPages, f_X8_stands, f_X1_isPrinted, f_X1_rule, f_X9_has, f_X9_isFull, f_X12_isPage, f_X12_isVerse, sC_s, sC_n, sC_2, sN_1, sN_s, sN_n, sN_2, sS_1, sS_2, sS_s, sS_n, upd_s, upd_e, upd_n, rAt, rPut, rAdd, rSwap, rPush, rNumber, cp_0, cp_1, cp_2, cp_3, cp_4, cp_5, cp_6, cp_7, cp_8, cp_9, cp_10, cp_11, cp_12, cp_13, cp_14, cp_15, cp_16, cp_17, cp_18, cp_19, cp_20, cp_21, cp_22, cp_23, cp_24, cp_25, cp_26, cp_27, cp_28, cp_29, cp_30, cp_31, cp_32, cp_33, cp_34, cp_35, cp_36, cp_37, cp_38, cp_39, cp_40, cp_41, cp_42, cp_43, cp_44, cp_45, cp_46, cp_47, cp_48, cp_49, cp_50, cp_51, cp_52, cp_53, cp_54, cp_55, cp_56, cp_57, ng1 c, ng2 c, ng3 c, ng4 c, ng5 c, inN c]
    exact ⟨_, _, _, rfl, rfl, h⟩
  · simp (disch := omega) only [↓nmk_e, ↓reduceIte, Option.bind_some, Option.map_some, lit, ofN, nI_add, pk_sub, pk_mul, nI_clamp, nI_leI, nI_ltI, nI_eq, pk_div, nI_an, nleT, nleF, nltT, nltF, neqT, neqF, or_false, false_or, or_self, or_true, true_or, and_self, and_true, true_and, and_false, false_and, not_true_eq_false, not_false_eq_true, f_X12_isSort, f_X12_isDay, f_X11_isSort, f_X11_isDay, inI, inP, f_X5_size, f_X5_isFull, f_X11_now, f_X2_isKind, f_X2_has, f_X3_has, f_X8_hasPage, f_X8_hasAllPages, f_X8_stands, f_X1_isPrinted, f_X1_rule, f_X9_has, f_X9_isFull, f_X12_isPage, f_X12_isVerse, sC_s, sC_n, sC_2, sN_1, sN_s, sN_n, sN_2, sS_1, sS_2, sS_s, sS_n, upd_s, upd_e, upd_n, rAt, rPut, rAdd, rSwap, rPush, rNumber, cp_0, cp_1, cp_2, cp_3, cp_4, cp_5, cp_6, cp_7, cp_8, cp_9, cp_10, cp_11, cp_12, cp_13, cp_14, cp_15, cp_16, cp_17, cp_18, cp_19, cp_20, cp_21, cp_22, cp_23, cp_24, cp_25, cp_26, cp_27, cp_28, cp_29, cp_30, cp_31, cp_32, cp_33, cp_34, cp_35, cp_36, cp_37, cp_38, cp_39, cp_40, cp_41, cp_42, cp_43, cp_44, cp_45, cp_46, cp_47, cp_48, cp_49, cp_50, cp_51, cp_52, cp_53, cp_54, cp_55, cp_56, cp_57]
    exact ⟨_, _, _, rfl, rfl, h⟩
  rcases rng3 a 0 36 with c | ⟨d, hd, rfl, c⟩ | ⟨d, hd0, hd, hd2, rfl⟩
  · simp (disch := omega) only [↓nmk_e, ↓reduceIte, Option.bind_some, Option.map_some, lit, ofN, nI_add, pk_sub, pk_mul, nI_clamp, nI_leI, nI_ltI, nI_eq, pk_div, nI_an, nleT, nleF, nltT, nltF, neqT, neqF, or_false, false_or, or_self, or_true, true_or, and_self, and_true, true_and, and_false, false_and, not_true_eq_false, not_false_eq_true, f_X12_isSort, f_X12_isDay, f_X11_isSort, f_X11_isDay, inI, inP, f_X5_size, f_X5_isFull, f_X11_now, f_X2_isKind, f_X2_has, f_X3_has, f_X8_hasPage, f_X8_hasAllPages, f_X8_stands, f_X1_isPrinted, f_X1_rule, f_X9_has, f_X9_isFull, f_X12_isPage, f_X12_isVerse, sC_s, sC_n, sC_2, sN_1, sN_s, sN_n, sN_2, sS_1, sS_2, sS_s, sS_n, upd_s, upd_e, upd_n, rAt, rPut, rAdd, rSwap, rPush, rNumber, cp_0, cp_1, cp_2, cp_3, cp_4, cp_5, cp_6, cp_7, cp_8, cp_9, cp_10, cp_11, cp_12, cp_13, cp_14, cp_15, cp_16, cp_17, cp_18, cp_19, cp_20, cp_21, cp_22, cp_23, cp_24, cp_25, cp_26, cp_27, cp_28, cp_29, cp_30, cp_31, cp_32, cp_33, cp_34, cp_35, cp_36, cp_37, cp_38, cp_39, cp_40, cp_41, cp_42, cp_43, cp_44, cp_45, cp_46, cp_47, cp_48, cp_49, cp_50, cp_51, cp_52, cp_53, cp_54, cp_55, cp_56, cp_57, ng1 c, ng2 c, ng3 c, ng4 c, ng5 c, inN c]
    exact ⟨_, _, _, rfl, rfl, h⟩
  · simp (disch := omega) only [↓nmk_e, ↓reduceIte, Option.bind_some, Option.map_some, lit, ofN, nI_add, pk_sub, pk_mul, nI_clamp, nI_leI, nI_ltI, nI_eq, pk_div, nI_an, nleT, nleF, nltT, nltF, neqT, neqF, or_false, false_or, or_self, or_true, true_or, and_self, and_true, true_and, and_false, false_and, not_true_eq_false, not_false_eq_true, f_X12_isSort, f_X12_isDay, f_X11_isSort, f_X11_isDay, inI, inP, f_X5_size, f_X5_isFull, f_X11_now, f_X2_isKind, f_X2_has, f_X3_has, f_X8_hasPage, f_X8_hasAllPages, f_X8_stands, f_X1_isPrinted, f_X1_rule, f_X9_has, f_X9_isFull, f_X12_isPage, f_X12_isVerse, sC_s, sC_n, sC_2, sN_1, sN_s, sN_n, sN_2, sS_1, sS_2, sS_s, sS_n, upd_s, upd_e, upd_n, rAt, rPut, rAdd, rSwap, rPush, rNumber, cp_0, cp_1, cp_2, cp_3, cp_4, cp_5, cp_6, cp_7, cp_8, cp_9, cp_10, cp_11, cp_12, cp_13, cp_14, cp_15, cp_16, cp_17, cp_18, cp_19, cp_20, cp_21, cp_22, cp_23, cp_24, cp_25, cp_26, cp_27, cp_28, cp_29, cp_30, cp_31, cp_32, cp_33, cp_34, cp_35, cp_36, cp_37, cp_38, cp_39, cp_40, cp_41, cp_42, cp_43, cp_44, cp_45, cp_46, cp_47, cp_48, cp_49, cp_50, cp_51, cp_52, cp_53, cp_54, cp_55, cp_56, cp_57]
    exact ⟨_, _, _, rfl, rfl, h⟩
  obtain ⟨w', x, y, e1, e2, e3, e4, e5, e6, e7⟩ := l_hands (hb := hb) (d := d) hn n1 (fun j hj => ⟨(g j hj).1, (g j hj).2.2⟩) hd
  obtain ⟨u, r1, r2, r3, r4⟩ := l_alk (w := v) (hb := hb) (d := d) hn n2 (fun j hj => (g j hj).2) hd
  let u1 := sS (sS u 27 (nI 11)) 28 (nI 0)
  obtain ⟨v', p1, p2, p3, x', y', p4, p5, p6⟩ := l_parts (hb := hb) (d := d) hn n 12 [] (fun _ => 0) u1 (Nat.le_refl _) (by omega) (by show u.1 0 7 = _; rw [r2 0 (by decide)]; exact n2) (fun a ha => r4 a ha) (by simp) (fun g hg => absurd hg List.not_mem_nil) ⟨fun j hj => absurd hj (Nat.not_lt_zero j), 11, 0, by show (sS (sS u 27 (nI 11)) 28 (nI 0)).2.2 27 = _; simp (disch := omega) only [sC_s, sC_n, sC_2, sN_1, sN_s, sN_n, sN_2, sS_1, sS_2, sS_s, sS_n, upd_s, upd_e, upd_n], by show (sS (sS u 27 (nI 11)) 28 (nI 0)).2.2 28 = _; simp (disch := omega) only [sC_s, sC_n, sC_2, sN_1, sN_s, sN_n, sN_2, sS_1, sS_2, sS_s, sS_n, upd_s, upd_e, upd_n], .inr ⟨rfl, fun _ _ => rfl⟩⟩
  rw [Nat.sub_self] at p1
  have p1 : f_X12_parts 12 (sS (sS u 27 (nI 11)) 28 (nI 0)) (nI 0) (nI 0) = some v' := p1
  have p7 : LdZ (fun m => Cc (Alk hb d n) n m (2 ^ n - 1)) x' y' := p6.congr fun m _ => by
    show 0 + Rg (Alk hb d n) n n [] m = Cc (Alk hb d n) n m (2 ^ n - 1)
    rw [← Ex_Rg hn (Alk_r hb d n) m n (Nat.le_refl _) [] (fun g hg => absurd hg List.not_mem_nil), Rm_full, Nat.zero_add]
    rfl
  obtain ⟨rfl, rfl⟩ := p7.u e6 e7
  have hp := pow10 hn
  have hpos : 0 < 2 ^ n := Nat.two_pow_pos n
  have hsh := shl1 (p := n) (by omega)
  have n1' : w'.2.1 28 = nI n := by rw [e3]; exact n1
  have hS : Sim w' v' := by
    refine Sim_scr h (fun k hk => ⟨e2 k (by omega) (by omega) (by omega) (by omega), by rw [e3]⟩) (by rw [e3]) ?_ ?_ ?_
    · rw [p2.1 0 (by decide)]; exact r2 0 (by decide)
    · rw [p2.1 1 (by decide)]; exact r2 1 (by decide)
    · rw [p2.2.2 3 (by decide) (by decide)]
      show (sS (sS u 27 (nI 11)) 28 (nI 0)).2.2 3 = _
      simp (disch := omega) only [sC_s, sC_n, sC_2, sN_1, sN_s, sN_n, sN_2, sS_1, sS_2, sS_s, sS_n, upd_s, upd_e, upd_n]
      rw [r3]
  by_cases c : i = 0
  · subst c
    simp (disch := omega) only [↓nmk_e, ↓reduceIte, Option.bind_some, Option.map_some, lit, ofN, nI_add, pk_sub, pk_mul, nI_clamp, nI_leI, nI_ltI, nI_eq, pk_div, nI_an, nleT, nleF, nltT, nltF, neqT, neqF, or_false, false_or, or_self, or_true, true_or, and_self, and_true, true_and, and_false, false_and, not_true_eq_false, not_false_eq_true, f_X12_isSort, f_X12_isDay, f_X11_isSort, f_X11_isDay, inI, inP, f_X5_size, f_X5_isFull, f_X11_now, f_X2_isKind, f_X2_has, f_X3_has, f_X8_hasPage, f_X8_hasAllPages, f_X8_stands, f_X1_isPrinted, f_X1_rule, f_X9_has, f_X9_isFull, f_X12_isPage, f_X12_isVerse, sC_s, sC_n, sC_2, sN_1, sN_s, sN_n, sN_2, sS_1, sS_2, sS_s, sS_n, upd_s, upd_e, upd_n, rAt, rPut, rAdd, rSwap, rPush, rNumber, cp_0, cp_1, cp_2, cp_3, cp_4, cp_5, cp_6, cp_7, cp_8, cp_9, cp_10, cp_11, cp_12, cp_13, cp_14, cp_15, cp_16, cp_17, cp_18, cp_19, cp_20, cp_21, cp_22, cp_23, cp_24, cp_25, cp_26, cp_27, cp_28, cp_29, cp_30, cp_31, cp_32, cp_33, cp_34, cp_35, cp_36, cp_37, cp_38, cp_39, cp_40, cp_41, cp_42, cp_43, cp_44, cp_45, cp_46, cp_47, cp_48, cp_49, cp_50, cp_51, cp_52, cp_53, cp_54, cp_55, cp_56, cp_57, e1, r1, p1, f_X1_hands, n1', hsh, e4, p4]
    exact ⟨_, _, _, rfl, rfl, hS⟩
  · have c : i = 1 := by omega
    subst c
    simp (disch := omega) only [↓nmk_e, ↓reduceIte, Option.bind_some, Option.map_some, lit, ofN, nI_add, pk_sub, pk_mul, nI_clamp, nI_leI, nI_ltI, nI_eq, pk_div, nI_an, nleT, nleF, nltT, nltF, neqT, neqF, or_false, false_or, or_self, or_true, true_or, and_self, and_true, true_and, and_false, false_and, not_true_eq_false, not_false_eq_true, f_X12_isSort, f_X12_isDay, f_X11_isSort, f_X11_isDay, inI, inP, f_X5_size, f_X5_isFull, f_X11_now, f_X2_isKind, f_X2_has, f_X3_has, f_X8_hasPage, f_X8_hasAllPages, f_X8_stands, f_X1_isPrinted, f_X1_rule, f_X9_has, f_X9_isFull, f_X12_isPage, f_X12_isVerse, sC_s, sC_n, sC_2, sN_1, sN_s, sN_n, sN_2, sS_1, sS_2, sS_s, sS_n, upd_s, upd_e, upd_n, rAt, rPut, rAdd, rSwap, rPush, rNumber, cp_0, cp_1, cp_2, cp_3, cp_4, cp_5, cp_6, cp_7, cp_8, cp_9, cp_10, cp_11, cp_12, cp_13, cp_14, cp_15, cp_16, cp_17, cp_18, cp_19, cp_20, cp_21, cp_22, cp_23, cp_24, cp_25, cp_26, cp_27, cp_28, cp_29, cp_30, cp_31, cp_32, cp_33, cp_34, cp_35, cp_36, cp_37, cp_38, cp_39, cp_40, cp_41, cp_42, cp_43, cp_44, cp_45, cp_46, cp_47, cp_48, cp_49, cp_50, cp_51, cp_52, cp_53, cp_54, cp_55, cp_56, cp_57, e1, r1, p1, f_X1_rivals, n1', hsh, e5, p5]
    exact ⟨_, _, _, rfl, rfl, hS⟩
