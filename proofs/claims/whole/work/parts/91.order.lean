/-! order -/
theorem order_end {w y : CW} (h : Sim w y) {k m : Nat} {fi de zc zr : Int32} (hk : k < 4) (hm : m < 12) (n0 : w.2.1 20 = nI m) (hz : (∃ e, e ≤ 1000 ∧ zc = nI e ∧ zr = nI e) ∨ (zc = nI 9999 ∧ zr = nI 1001)) : Sim (sN (sC (sN (sC (sN (sC (sC w 19 k zc) 21 m fi) 21 (nI (m + 1))) 22 m de) 22 (nI (m + 1))) 20 m (nI k)) 20 (nI (m + 1))) (sC (sC (sC (sC (sC y 0 (2880 + m) (nI k)) 0 (2892 + m) fi) 0 (2904 + m) de) 0 (2874 + k) zr) 0 4 (nI (m + 1))) := by
  obtain ⟨m', hm', n1, n2, n3, n4, g⟩ := h.g7
  have : m' = m := (nI_eq (by omega) (by omega)).mp (n1.symm.trans n0)
  subst this
  have g6 := h.g6
  refine Sim_u6_7 h (fun j hj h1 h2 => ?_) rfl (fun t ht h1 h2 h3 => ?_) ?_ rfl (Sim.i6 fun j hj => ?_) (Sim.i7 ⟨m' + 1, by omega, ?_, ?_, ?_, ?_, fun j hj => ?_⟩)
  · simp (disch := omega) only [sC_s, sC_n, sC_2, sN_1, sN_s, sN_n, sN_2, sS_1, sS_2, sS_s, sS_n, upd_s, upd_e, upd_n, and_self]
  · simp (disch := omega) only [sC_s, sC_n, sC_2, sN_1, sN_s, sN_n, sN_2, sS_1, sS_2, sS_s, sS_n, upd_s, upd_e, upd_n]
  · simp (disch := omega) only [sC_s, sC_n, sC_2, sN_1, sN_s, sN_n, sN_2, sS_1, sS_2, sS_s, sS_n, upd_s, upd_e, upd_n]
  · obtain ⟨q1, q2, q3⟩ := g6 j hj
    by_cases c : j = k
    · subst c
      simp (disch := omega) only [sC_s, sC_n, sC_2, sN_1, sN_s, sN_n, sN_2, sS_1, sS_2, sS_s, sS_n, upd_s, upd_e, upd_n]
      exact ⟨q1, q2, hz⟩
    · simp (disch := omega) only [sC_s, sC_n, sC_2, sN_1, sN_s, sN_n, sN_2, sS_1, sS_2, sS_s, sS_n, upd_s, upd_e, upd_n]
      exact ⟨q1, q2, q3⟩
  · simp (disch := omega) only [sC_s, sC_n, sC_2, sN_1, sN_s, sN_n, sN_2, sS_1, sS_2, sS_s, sS_n, upd_s, upd_e, upd_n]
  · simp (disch := omega) only [sC_s, sC_n, sC_2, sN_1, sN_s, sN_n, sN_2, sS_1, sS_2, sS_s, sS_n, upd_s, upd_e, upd_n]
  · simp (disch := omega) only [sC_s, sC_n, sC_2, sN_1, sN_s, sN_n, sN_2, sS_1, sS_2, sS_s, sS_n, upd_s, upd_e, upd_n]
  · simp (disch := omega) only [sC_s, sC_n, sC_2, sN_1, sN_s, sN_n, sN_2, sS_1, sS_2, sS_s, sS_n, upd_s, upd_e, upd_n]
  · by_cases c : j = m'
    · subst c
      simp (disch := omega) only [sC_s, sC_n, sC_2, sN_1, sN_s, sN_n, sN_2, sS_1, sS_2, sS_s, sS_n, upd_s, upd_e, upd_n, and_self]
    · have := g j (by omega)
      simp (disch := omega) only [sC_s, sC_n, sC_2, sN_1, sN_s, sN_n, sN_2, sS_1, sS_2, sS_s, sS_n, upd_s, upd_e, upd_n]
      exact this
theorem s_order {w v : CW} (h : Sim w v) (a b : Int32) : Same w v (f_X11_order w a b) (f_X12_order v a b) := by
  obtain ⟨p, hp, p1, p2, -⟩ := h.g5
  obtain ⟨m, hm, n1, n2, n3, n4, g7⟩ := h.g7
  obtain ⟨t0, t, ht, t1⟩ := h.g0
  have g6 := h.g6
  obtain ⟨cf, rf, hf⟩ := FrP_of h ht
  -- the refusals ahead of the presses
  have noP : (f_X8_hasPage w a = nI 0) → (f_X12_isPage v a = some (nI 0)) → Same w v (f_X11_order w a b) (f_X12_order v a b) := fun e1 e2 => by
    refine ⟨-1, w, v, ?_, ?_, h⟩
    · unfold f_X11_order
      rw [e1]; exact if_pos rfl
    · unfold f_X12_order
      rw [e2, Option.bind_some]; exact if_pos rfl
  rcases rng3 a 0 19 with c | ⟨i, hi, rfl, c⟩ | ⟨i, -, hi, hi2, rfl⟩
  · exact noP (by simp (disch := omega) only [↓nmk_e, ↓reduceIte, Option.bind_some, Option.map_some, lit, ofN, nI_add, pk_sub, pk_mul, nI_clamp, nI_leI, nI_ltI, nI_eq, pk_div, nI_an, nleT, nleF, nltT, nltF, neqT, neqF, or_false, false_or, or_self, or_true, true_or, and_self, and_true, true_and, and_false, false_and, not_true_eq_false, not_false_eq_true, f_X12_isSort, f_X12_isDay, f_X11_isSort, f_X11_isDay, inI, inP, f_X5_size, f_X5_isFull, f_X11_now, f_X2_isKind, f_X2_has, f_X3_has, f_X8_hasPage, f_X8_hasAllPages, f_X8_stands, f_X1_isPrinted, f_X1_rule, f_X9_has, f_X9_isFull, f_X12_isPage, f_X12_isVerse, sC_s, sC_n, sC_2, sN_1, sN_s, sN_n, sN_2, sS_1, sS_2, sS_s, sS_n, upd_s, upd_e, upd_n, rAt, rPut, rAdd, rSwap, rPush, rNumber, cp_0, cp_1, cp_2, cp_3, cp_4, cp_5, cp_6, cp_7, cp_8, cp_9, cp_10, cp_11, cp_12, cp_13, cp_14, cp_15, cp_16, cp_17, cp_18, cp_19, cp_20, cp_21, cp_22, cp_23, cp_24, cp_25, cp_26, cp_27, cp_28, cp_29, cp_30, cp_31, cp_32, cp_33, cp_34, cp_35, cp_36, cp_37, cp_38, cp_39, cp_40, cp_41, cp_42, cp_43, cp_44, cp_45, cp_46, cp_47, cp_48, cp_49, cp_50, cp_51, cp_52, cp_53, cp_54, cp_55, cp_56, cp_57, p1, ng1 c, ng2 c, ng3 c, ng4 c, ng5 c, inN c]) (by simp (disch := omega) only [↓nmk_e, ↓reduceIte, Option.bind_some, Option.map_some, lit, ofN, nI_add, pk_sub, pk_mul, nI_clamp, nI_leI, nI_ltI, nI_eq, pk_div, nI_an, nleT, nleF, nltT, nltF, neqT, neqF, or_false, false_or, or_self, or_true, true_or, and_self, and_true, true_and, and_false, false_and, not_true_eq_false, not_false_eq_true, f_X12_isSort, f_X12_isDay, f_X11_isSort, f_X11_isDay, inI, inP, f_X5_size, f_X5_isFull, f_X11_now, f_X2_isKind, f_X2_has, f_X3_has, f_X8_hasPage, f_X8_hasAllPages, f_X8_stands, f_X1_isPrinted, f_X1_rule, f_X9_has, f_X9_isFull, f_X12_isPage, f_X12_isVerse, sC_s, sC_n, sC_2, sN_1, sN_s, sN_n, sN_2, sS_1, sS_2, sS_s, sS_n, upd_s, upd_e, upd_n, rAt, rPut, rAdd, rSwap, rPush, rNumber, cp_0, cp_1, cp_2, cp_3, cp_4, cp_5, cp_6, cp_7, cp_8, cp_9, cp_10, cp_11, cp_12, cp_13, cp_14, cp_15, cp_16, cp_17, cp_18, cp_19, cp_20, cp_21, cp_22, cp_23, cp_24, cp_25, cp_26, cp_27, cp_28, cp_29, cp_30, cp_31, cp_32, cp_33, cp_34, cp_35, cp_36, cp_37, cp_38, cp_39, cp_40, cp_41, cp_42, cp_43, cp_44, cp_45, cp_46, cp_47, cp_48, cp_49, cp_50, cp_51, cp_52, cp_53, cp_54, cp_55, cp_56, cp_57, p2, ng1 c, ng2 c, ng3 c, ng4 c, ng5 c, inN c])
  · exact noP (by simp (disch := omega) only [↓nmk_e, ↓reduceIte, Option.bind_some, Option.map_some, lit, ofN, nI_add, pk_sub, pk_mul, nI_clamp, nI_leI, nI_ltI, nI_eq, pk_div, nI_an, nleT, nleF, nltT, nltF, neqT, neqF, or_false, false_or, or_self, or_true, true_or, and_self, and_true, true_and, and_false, false_and, not_true_eq_false, not_false_eq_true, f_X12_isSort, f_X12_isDay, f_X11_isSort, f_X11_isDay, inI, inP, f_X5_size, f_X5_isFull, f_X11_now, f_X2_isKind, f_X2_has, f_X3_has, f_X8_hasPage, f_X8_hasAllPages, f_X8_stands, f_X1_isPrinted, f_X1_rule, f_X9_has, f_X9_isFull, f_X12_isPage, f_X12_isVerse, sC_s, sC_n, sC_2, sN_1, sN_s, sN_n, sN_2, sS_1, sS_2, sS_s, sS_n, upd_s, upd_e, upd_n, rAt, rPut, rAdd, rSwap, rPush, rNumber, cp_0, cp_1, cp_2, cp_3, cp_4, cp_5, cp_6, cp_7, cp_8, cp_9, cp_10, cp_11, cp_12, cp_13, cp_14, cp_15, cp_16, cp_17, cp_18, cp_19, cp_20, cp_21, cp_22, cp_23, cp_24, cp_25, cp_26, cp_27, cp_28, cp_29, cp_30, cp_31, cp_32, cp_33, cp_34, cp_35, cp_36, cp_37, cp_38, cp_39, cp_40, cp_41, cp_42, cp_43, cp_44, cp_45, cp_46, cp_47, cp_48, cp_49, cp_50, cp_51, cp_52, cp_53, cp_54, cp_55, cp_56, cp_57, p1]) (by simp (disch := omega) only [↓nmk_e, ↓reduceIte, Option.bind_some, Option.map_some, lit, ofN, nI_add, pk_sub, pk_mul, nI_clamp, nI_leI, nI_ltI, nI_eq, pk_div, nI_an, nleT, nleF, nltT, nltF, neqT, neqF, or_false, false_or, or_self, or_true, true_or, and_self, and_true, true_and, and_false, false_and, not_true_eq_false, not_false_eq_true, f_X12_isSort, f_X12_isDay, f_X11_isSort, f_X11_isDay, inI, inP, f_X5_size, f_X5_isFull, f_X11_now, f_X2_isKind, f_X2_has, f_X3_has, f_X8_hasPage, f_X8_hasAllPages, f_X8_stands, f_X1_isPrinted, f_X1_rule, f_X9_has, f_X9_isFull, f_X12_isPage, f_X12_isVerse, sC_s, sC_n, sC_2, sN_1, sN_s, sN_n, sN_2, sS_1, sS_2, sS_s, sS_n, upd_s, upd_e, upd_n, rAt, rPut, rAdd, rSwap, rPush, rNumber, cp_0, cp_1, cp_2, cp_3, cp_4, cp_5, cp_6, cp_7, cp_8, cp_9, cp_10, cp_11, cp_12, cp_13, cp_14, cp_15, cp_16, cp_17, cp_18, cp_19, cp_20, cp_21, cp_22, cp_23, cp_24, cp_25, cp_26, cp_27, cp_28, cp_29, cp_30, cp_31, cp_32, cp_33, cp_34, cp_35, cp_36, cp_37, cp_38, cp_39, cp_40, cp_41, cp_42, cp_43, cp_44, cp_45, cp_46, cp_47, cp_48, cp_49, cp_50, cp_51, cp_52, cp_53, cp_54, cp_55, cp_56, cp_57, p2])
  by_cases ci : i < p
  rotate_left
  · exact noP (by simp (disch := omega) only [↓nmk_e, ↓reduceIte, Option.bind_some, Option.map_some, lit, ofN, nI_add, pk_sub, pk_mul, nI_clamp, nI_leI, nI_ltI, nI_eq, pk_div, nI_an, nleT, nleF, nltT, nltF, neqT, neqF, or_false, false_or, or_self, or_true, true_or, and_self, and_true, true_and, and_false, false_and, not_true_eq_false, not_false_eq_true, f_X12_isSort, f_X12_isDay, f_X11_isSort, f_X11_isDay, inI, inP, f_X5_size, f_X5_isFull, f_X11_now, f_X2_isKind, f_X2_has, f_X3_has, f_X8_hasPage, f_X8_hasAllPages, f_X8_stands, f_X1_isPrinted, f_X1_rule, f_X9_has, f_X9_isFull, f_X12_isPage, f_X12_isVerse, sC_s, sC_n, sC_2, sN_1, sN_s, sN_n, sN_2, sS_1, sS_2, sS_s, sS_n, upd_s, upd_e, upd_n, rAt, rPut, rAdd, rSwap, rPush, rNumber, cp_0, cp_1, cp_2, cp_3, cp_4, cp_5, cp_6, cp_7, cp_8, cp_9, cp_10, cp_11, cp_12, cp_13, cp_14, cp_15, cp_16, cp_17, cp_18, cp_19, cp_20, cp_21, cp_22, cp_23, cp_24, cp_25, cp_26, cp_27, cp_28, cp_29, cp_30, cp_31, cp_32, cp_33, cp_34, cp_35, cp_36, cp_37, cp_38, cp_39, cp_40, cp_41, cp_42, cp_43, cp_44, cp_45, cp_46, cp_47, cp_48, cp_49, cp_50, cp_51, cp_52, cp_53, cp_54, cp_55, cp_56, cp_57, p1]) (by simp (disch := omega) only [↓nmk_e, ↓reduceIte, Option.bind_some, Option.map_some, lit, ofN, nI_add, pk_sub, pk_mul, nI_clamp, nI_leI, nI_ltI, nI_eq, pk_div, nI_an, nleT, nleF, nltT, nltF, neqT, neqF, or_false, false_or, or_self, or_true, true_or, and_self, and_true, true_and, and_false, false_and, not_true_eq_false, not_false_eq_true, f_X12_isSort, f_X12_isDay, f_X11_isSort, f_X11_isDay, inI, inP, f_X5_size, f_X5_isFull, f_X11_now, f_X2_isKind, f_X2_has, f_X3_has, f_X8_hasPage, f_X8_hasAllPages, f_X8_stands, f_X1_isPrinted, f_X1_rule, f_X9_has, f_X9_isFull, f_X12_isPage, f_X12_isVerse, sC_s, sC_n, sC_2, sN_1, sN_s, sN_n, sN_2, sS_1, sS_2, sS_s, sS_n, upd_s, upd_e, upd_n, rAt, rPut, rAdd, rSwap, rPush, rNumber, cp_0, cp_1, cp_2, cp_3, cp_4, cp_5, cp_6, cp_7, cp_8, cp_9, cp_10, cp_11, cp_12, cp_13, cp_14, cp_15, cp_16, cp_17, cp_18, cp_19, cp_20, cp_21, cp_22, cp_23, cp_24, cp_25, cp_26, cp_27, cp_28, cp_29, cp_30, cp_31, cp_32, cp_33, cp_34, cp_35, cp_36, cp_37, cp_38, cp_39, cp_40, cp_41, cp_42, cp_43, cp_44, cp_45, cp_46, cp_47, cp_48, cp_49, cp_50, cp_51, cp_52, cp_53, cp_54, cp_55, cp_56, cp_57, p2])
  have eC0 : ¬ f_X8_hasPage w (nI i) = 0 := by
    have : f_X8_hasPage w (nI i) = nI 1 := by simp (disch := omega) only [↓nmk_e, ↓reduceIte, Option.bind_some, Option.map_some, lit, ofN, nI_add, pk_sub, pk_mul, nI_clamp, nI_leI, nI_ltI, nI_eq, pk_div, nI_an, nleT, nleF, nltT, nltF, neqT, neqF, or_false, false_or, or_self, or_true, true_or, and_self, and_true, true_and, and_false, false_and, not_true_eq_false, not_false_eq_true, f_X12_isSort, f_X12_isDay, f_X11_isSort, f_X11_isDay, inI, inP, f_X5_size, f_X5_isFull, f_X11_now, f_X2_isKind, f_X2_has, f_X3_has, f_X8_hasPage, f_X8_hasAllPages, f_X8_stands, f_X1_isPrinted, f_X1_rule, f_X9_has, f_X9_isFull, f_X12_isPage, f_X12_isVerse, sC_s, sC_n, sC_2, sN_1, sN_s, sN_n, sN_2, sS_1, sS_2, sS_s, sS_n, upd_s, upd_e, upd_n, rAt, rPut, rAdd, rSwap, rPush, rNumber, cp_0, cp_1, cp_2, cp_3, cp_4, cp_5, cp_6, cp_7, cp_8, cp_9, cp_10, cp_11, cp_12, cp_13, cp_14, cp_15, cp_16, cp_17, cp_18, cp_19, cp_20, cp_21, cp_22, cp_23, cp_24, cp_25, cp_26, cp_27, cp_28, cp_29, cp_30, cp_31, cp_32, cp_33, cp_34, cp_35, cp_36, cp_37, cp_38, cp_39, cp_40, cp_41, cp_42, cp_43, cp_44, cp_45, cp_46, cp_47, cp_48, cp_49, cp_50, cp_51, cp_52, cp_53, cp_54, cp_55, cp_56, cp_57, p1]
    rw [this]; decide
  have eR0 : f_X12_isPage v (nI i) = some (nI 1) := by simp (disch := omega) only [↓nmk_e, ↓reduceIte, Option.bind_some, Option.map_some, lit, ofN, nI_add, pk_sub, pk_mul, nI_clamp, nI_leI, nI_ltI, nI_eq, pk_div, nI_an, nleT, nleF, nltT, nltF, neqT, neqF, or_false, false_or, or_self, or_true, true_or, and_self, and_true, true_and, and_false, false_and, not_true_eq_false, not_false_eq_true, f_X12_isSort, f_X12_isDay, f_X11_isSort, f_X11_isDay, inI, inP, f_X5_size, f_X5_isFull, f_X11_now, f_X2_isKind, f_X2_has, f_X3_has, f_X8_hasPage, f_X8_hasAllPages, f_X8_stands, f_X1_isPrinted, f_X1_rule, f_X9_has, f_X9_isFull, f_X12_isPage, f_X12_isVerse, sC_s, sC_n, sC_2, sN_1, sN_s, sN_n, sN_2, sS_1, sS_2, sS_s, sS_n, upd_s, upd_e, upd_n, rAt, rPut, rAdd, rSwap, rPush, rNumber, cp_0, cp_1, cp_2, cp_3, cp_4, cp_5, cp_6, cp_7, cp_8, cp_9, cp_10, cp_11, cp_12, cp_13, cp_14, cp_15, cp_16, cp_17, cp_18, cp_19, cp_20, cp_21, cp_22, cp_23, cp_24, cp_25, cp_26, cp_27, cp_28, cp_29, cp_30, cp_31, cp_32, cp_33, cp_34, cp_35, cp_36, cp_37, cp_38, cp_39, cp_40, cp_41, cp_42, cp_43, cp_44, cp_45, cp_46, cp_47, cp_48, cp_49, cp_50, cp_51, cp_52, cp_53, cp_54, cp_55, cp_56, cp_57, p2]
  have k10 : ¬ nI 1 = 0 := by decide
  rcases rng3 b 1 999 with d | ⟨n, hn, rfl, d⟩ | ⟨n, h1n, hn, hn2, rfl⟩
  · refine ⟨-2, w, v, ?_, ?_, h⟩
    · unfold f_X11_order
      rw [if_neg eC0]
      exact if_pos (of_eq_true (ng1 d (by decide)))
    · unfold f_X12_order
      rw [eR0, Option.bind_some, if_neg k10]
      exact if_pos (inN d (by decide))
  · have e3 : f_X12_in (nI n) (nI 1) (nI 999) = nI 0 := by rw [inI (by omega) (by decide) (by decide), if_neg (by omega)]
    refine ⟨-2, w, v, ?_, ?_, h⟩
    · unfold f_X11_order
      rw [if_neg eC0]
      by_cases c2 : n < 1
      · exact if_pos (nI_lt c2 (by decide))
      · have h1 : ¬ nI n < 1 := nI_nlt (a := n) (b := 1) (by omega) (by omega)
        have h2 : ¬ nI n ≤ 999 := nI_ge (a := 999) (b := n) (by omega) (by omega)
        rw [if_neg h1]; exact if_neg h2
    · unfold f_X12_order
      rw [eR0, Option.bind_some, if_neg k10]
      exact if_pos e3
  have hm5 : ¬ nI 0 ≤ -nI 1 := by decide
  have e3 : ¬ f_X12_in (nI n) 1 999 = 0 := by
    have : f_X12_in (nI n) (nI 1) (nI 999) = nI 1 := by rw [inI (by omega) (by decide) (by decide), if_pos (by omega)]
    have this : f_X12_in (nI n) 1 999 = nI 1 := this
    rw [this]; decide
  have z4 : ¬ ((4 : Int32) < 0 ∨ 3250 ≤ (4 : Int32).toNatClampNeg) := by decide
  have y4 : (4 : Int32).toNatClampNeg = 4 := by decide
  -- the reference as far as the presses
  have eRR : ∀ x y, (∀ j, f_X12_order_L32 v j FU (-nI 1) (nI 0) (nI 0) = j x y) → ∃ J : Int32 → Int32 → Option (Int32 × CW), f_X12_order v (nI i) (nI n) = J x y ∧ J = (fun (y119_3 : Int32) (y119_4 : Int32) => (if y119_3 = (-1) then (some ((-3), v)) else (if ((4 : Int32) < 0 ∨ 3250 ≤ (4 : Int32).toNatClampNeg) then none else (if (v.1 0 (4 : Int32).toNatClampNeg) = 12 then (some ((-4), v)) else (if ((2870 + y119_3) < 0 ∨ 3250 ≤ (2870 + y119_3).toNatClampNeg) then none else (if ((2870 + y119_3) < 0 ∨ 3250 ≤ (2870 + y119_3).toNatClampNeg) then none else (if (v.1 0 (2870 + y119_3).toNatClampNeg) = 0 then none else (nmk ((((nI n) + (v.1 0 (2870 + y119_3).toNatClampNeg)) - 1) / (v.1 0 (2870 + y119_3).toNatClampNeg)) fun (x166 : Int32) => (nmk (fun (y243_6 : Int32) (y243_7 : Int32) (w243_ : CW) => (if ((4 : Int32) < 0 ∨ 3250 ≤ (4 : Int32).toNatClampNeg) then none else (nmk (w243_.1 0 (4 : Int32).toNatClampNeg) fun (x249 : Int32) => (if ((2880 + x249) < 0 ∨ 3250 ≤ (2880 + x249).toNatClampNeg) then none else (nmk (sC w243_ 0 (2880 + x249).toNatClampNeg y119_3) fun w262 => (if ((2892 + x249) < 0 ∨ 3250 ≤ (2892 + x249).toNatClampNeg) then none else (nmk (sC w262 0 (2892 + x249).toNatClampNeg y243_6) fun w275 => (if ((2904 + x249) < 0 ∨ 3250 ≤ (2904 + x249).toNatClampNeg) then none else (nmk (sC w275 0 (2904 + x249).toNatClampNeg y243_7) fun w288 => (if ((2874 + y119_3) < 0 ∨ 3250 ≤ (2874 + y119_3).toNatClampNeg) then none else (nmk (sC w288 0 (2874 + y119_3).toNatClampNeg (if y243_7 = (-5) then 1001 else y243_7)) fun w313 => (if ((4 : Int32) < 0 ∨ 3250 ≤ (4 : Int32).toNatClampNeg) then none else (if ((4 : Int32) < 0 ∨ 3250 ≤ (4 : Int32).toNatClampNeg) then none else (nmk (sC w313 0 (4 : Int32).toNatClampNeg ((w313.1 0 (4 : Int32).toNatClampNeg) + 1)) fun w323 => (some (x249, w323)))))))))))))))) fun j243 => (f_X12_order_L180 j243 FU x166 (-5) (-5) y119_4 v)))))))))) := fun x y e2 => by
    refine ⟨_, ?_, rfl⟩
    unfold f_X12_order
    rw [eR0, Option.bind_some, if_neg k10, if_neg e3, nmk_e]
    exact e2 _
  rcases l_free h ht t1 hf with ⟨e1, z, e2⟩ | ⟨k, r, hk, h1r, hr, e0, e1, e2⟩
  · obtain ⟨J, j1, j2⟩ := eRR _ _ e2
    refine ⟨-3, w, v, ?_, ?_, h⟩
    · unfold f_X11_order
      simp (disch := omega) only [↓nmk_e, ↓reduceIte, Option.bind_some, Option.map_some, lit, ofN, nI_add, pk_sub, pk_mul, nI_clamp, nI_leI, nI_ltI, nI_eq, pk_div, nI_an, nleT, nleF, nltT, nltF, neqT, neqF, or_false, false_or, or_self, or_true, true_or, and_self, and_true, true_and, and_false, false_and, not_true_eq_false, not_false_eq_true, f_X12_isSort, f_X12_isDay, f_X11_isSort, f_X11_isDay, inI, inP, f_X5_size, f_X5_isFull, f_X11_now, f_X2_isKind, f_X2_has, f_X3_has, f_X8_hasPage, f_X8_hasAllPages, f_X8_stands, f_X1_isPrinted, f_X1_rule, f_X9_has, f_X9_isFull, f_X12_isPage, f_X12_isVerse, sC_s, sC_n, sC_2, sN_1, sN_s, sN_n, sN_2, sS_1, sS_2, sS_s, sS_n, upd_s, upd_e, upd_n, rAt, rPut, rAdd, rSwap, rPush, rNumber, cp_0, cp_1, cp_2, cp_3, cp_4, cp_5, cp_6, cp_7, cp_8, cp_9, cp_10, cp_11, cp_12, cp_13, cp_14, cp_15, cp_16, cp_17, cp_18, cp_19, cp_20, cp_21, cp_22, cp_23, cp_24, cp_25, cp_26, cp_27, cp_28, cp_29, cp_30, cp_31, cp_32, cp_33, cp_34, cp_35, cp_36, cp_37, cp_38, cp_39, cp_40, cp_41, cp_42, cp_43, cp_44, cp_45, cp_46, cp_47, cp_48, cp_49, cp_50, cp_51, cp_52, cp_53, cp_54, cp_55, cp_56, cp_57, p1, t0, t1, e1, hm5]
    · rw [j1, j2]
      exact if_pos rfl
  have hn1 : ¬ nI k = -1 := fun z => by
    have := congrArg Int32.toInt z
    rw [nI_toInt (by omega), show (-1 : Int32).toInt = -1 from rfl] at this
    omega
  obtain ⟨J, j1, j2⟩ := eRR _ _ e2
  by_cases cm : m = 12
  · refine ⟨-4, w, v, ?_, ?_, h⟩
    · unfold f_X11_order
      simp (disch := omega) only [↓nmk_e, ↓reduceIte, Option.bind_some, Option.map_some, lit, ofN, nI_add, pk_sub, pk_mul, nI_clamp, nI_leI, nI_ltI, nI_eq, pk_div, nI_an, nleT, nleF, nltT, nltF, neqT, neqF, or_false, false_or, or_self, or_true, true_or, and_self, and_true, true_and, and_false, false_and, not_true_eq_false, not_false_eq_true, f_X12_isSort, f_X12_isDay, f_X11_isSort, f_X11_isDay, inI, inP, f_X5_size, f_X5_isFull, f_X11_now, f_X2_isKind, f_X2_has, f_X3_has, f_X8_hasPage, f_X8_hasAllPages, f_X8_stands, f_X1_isPrinted, f_X1_rule, f_X9_has, f_X9_isFull, f_X12_isPage, f_X12_isVerse, sC_s, sC_n, sC_2, sN_1, sN_s, sN_n, sN_2, sS_1, sS_2, sS_s, sS_n, upd_s, upd_e, upd_n, rAt, rPut, rAdd, rSwap, rPush, rNumber, cp_0, cp_1, cp_2, cp_3, cp_4, cp_5, cp_6, cp_7, cp_8, cp_9, cp_10, cp_11, cp_12, cp_13, cp_14, cp_15, cp_16, cp_17, cp_18, cp_19, cp_20, cp_21, cp_22, cp_23, cp_24, cp_25, cp_26, cp_27, cp_28, cp_29, cp_30, cp_31, cp_32, cp_33, cp_34, cp_35, cp_36, cp_37, cp_38, cp_39, cp_40, cp_41, cp_42, cp_43, cp_44, cp_45, cp_46, cp_47, cp_48, cp_49, cp_50, cp_51, cp_52, cp_53, cp_54, cp_55, cp_56, cp_57, p1, t0, t1, e1, n1]
    · rw [j1, j2]
      dsimp only
      rw [if_neg hn1, if_neg z4, y4, n4, cm]
      exact if_pos rfl
  obtain ⟨f1, f2, f3⟩ := hf k hk
  have g18 : w.1 18 k = nI r := (g6 k hk).1.trans e0
  -- the days
  obtain ⟨fi, de, y', q1, q2, q3, q4⟩ : ∃ (fi de : Int32) (y' : CW), (∀ j, f_X4_give_L19 w (nI k) j FU (-nI 5) (-nI 5) (nI n) (nI (cf k)) = j fi de) ∧ (∀ j, f_X12_order_L180 j FU (nI ((n + r - 1) / r)) (-nI 5) (-nI 5) (nI (rf k)) v = j fi de y') ∧ RFr v y' ∧ (de = -nI 5 ∨ ∃ e, e ≤ 1000 ∧ de = nI e) := by
    rcases f3 with ⟨z1, z2⟩ | ⟨z1, z2⟩
    · rw [z1]
      exact l_give h hk h1r hr h1n hn z2 g18
    · have hF : FU = 9999 + 1 := rfl
      refine ⟨-nI 5, -nI 5, v, fun j => ?_, fun j => ?_, RFr.refl v, .inl rfl⟩
      · rw [z1, hF]
        simp (disch := omega) only [f_X4_give_L19, ↓nmk_e, ↓reduceIte, Option.bind_some, Option.map_some, lit, ofN, nI_add, pk_sub, pk_mul, nI_clamp, nI_leI, nI_ltI, nI_eq, pk_div, nI_an, nleT, nleF, nltT, nltF, neqT, neqF, or_false, false_or, or_self, or_true, true_or, and_self, and_true, true_and, and_false, false_and, not_true_eq_false, not_false_eq_true, f_X12_isSort, f_X12_isDay, f_X11_isSort, f_X11_isDay, inI, inP, f_X5_size, f_X5_isFull, f_X11_now, f_X2_isKind, f_X2_has, f_X3_has, f_X8_hasPage, f_X8_hasAllPages, f_X8_stands, f_X1_isPrinted, f_X1_rule, f_X9_has, f_X9_isFull, f_X12_isPage, f_X12_isVerse, sC_s, sC_n, sC_2, sN_1, sN_s, sN_n, sN_2, sS_1, sS_2, sS_s, sS_n, upd_s, upd_e, upd_n, rAt, rPut, rAdd, rSwap, rPush, rNumber, cp_0, cp_1, cp_2, cp_3, cp_4, cp_5, cp_6, cp_7, cp_8, cp_9, cp_10, cp_11, cp_12, cp_13, cp_14, cp_15, cp_16, cp_17, cp_18, cp_19, cp_20, cp_21, cp_22, cp_23, cp_24, cp_25, cp_26, cp_27, cp_28, cp_29, cp_30, cp_31, cp_32, cp_33, cp_34, cp_35, cp_36, cp_37, cp_38, cp_39, cp_40, cp_41, cp_42, cp_43, cp_44, cp_45, cp_46, cp_47, cp_48, cp_49, cp_50, cp_51, cp_52, cp_53, cp_54, cp_55, cp_56, cp_57]
      · rw [z2, hF]
        simp (disch := omega) only [f_X12_order_L180, ↓nmk_e, ↓reduceIte, Option.bind_some, Option.map_some, lit, ofN, nI_add, pk_sub, pk_mul, nI_clamp, nI_leI, nI_ltI, nI_eq, pk_div, nI_an, nleT, nleF, nltT, nltF, neqT, neqF, or_false, false_or, or_self, or_true, true_or, and_self, and_true, true_and, and_false, false_and, not_true_eq_false, not_false_eq_true, f_X12_isSort, f_X12_isDay, f_X11_isSort, f_X11_isDay, inI, inP, f_X5_size, f_X5_isFull, f_X11_now, f_X2_isKind, f_X2_has, f_X3_has, f_X8_hasPage, f_X8_hasAllPages, f_X8_stands, f_X1_isPrinted, f_X1_rule, f_X9_has, f_X9_isFull, f_X12_isPage, f_X12_isVerse, sC_s, sC_n, sC_2, sN_1, sN_s, sN_n, sN_2, sS_1, sS_2, sS_s, sS_n, upd_s, upd_e, upd_n, rAt, rPut, rAdd, rSwap, rPush, rNumber, cp_0, cp_1, cp_2, cp_3, cp_4, cp_5, cp_6, cp_7, cp_8, cp_9, cp_10, cp_11, cp_12, cp_13, cp_14, cp_15, cp_16, cp_17, cp_18, cp_19, cp_20, cp_21, cp_22, cp_23, cp_24, cp_25, cp_26, cp_27, cp_28, cp_29, cp_30, cp_31, cp_32, cp_33, cp_34, cp_35, cp_36, cp_37, cp_38, cp_39, cp_40, cp_41, cp_42, cp_43, cp_44, cp_45, cp_46, cp_47, cp_48, cp_49, cp_50, cp_51, cp_52, cp_53, cp_54, cp_55, cp_56, cp_57]
  have hS := Sim_CR h (CFr.refl w) q3
  have y0 : y'.1 0 = v.1 0 := q3.1 0 (by decide)
  have y70 : (2870 + nI k).toNatClampNeg = 2870 + k := by
    rw [show (2870 : Int32) + nI k = nI (2870 + k) from nI_add 2870 k, nI_clamp (by omega)]
  have z70 : ¬ ((2870 + nI k) < 0 ∨ 3250 ≤ (2870 + nI k).toNatClampNeg) := by
    rw [y70, show (2870 : Int32) + nI k = nI (2870 + k) from nI_add 2870 k]
    rintro (z | z)
    · exact nI_pos (by omega) z
    · omega
  have ed : (nI n + nI r - 1) / nI r = nI ((n + r - 1) / r) := by
    rw [nI_add, show nI (n + r) - 1 = nI (n + r - 1) from pk_sub (a := n + r) (b := 1) (by omega), pk_div (by omega) (by omega) (by omega)]
  have r0 : ¬ nI r = 0 := nI_ne0 (by omega) (by omega)
  have m12 : ¬ nI m = 12 := fun z => cm ((nI_eq (b := 12) (by omega) (by decide)).mp z)
  have eC : ∀ zc, (if de = -nI 5 then nI 9999 else de) = zc → f_X11_order w (nI i) (nI n) = some (nI m, sN (sC (sN (sC (sN (sC (sC w 19 k zc) 21 m fi) 21 (nI (m + 1))) 22 m de) 22 (nI (m + 1))) 20 m (nI k)) 20 (nI (m + 1))) := fun zc hzc => by
    unfold f_X11_order
    simp (disch := omega) only [↓nmk_e, ↓reduceIte, Option.bind_some, Option.map_some, lit, ofN, nI_add, pk_sub, pk_mul, nI_clamp, nI_leI, nI_ltI, nI_eq, pk_div, nI_an, nleT, nleF, nltT, nltF, neqT, neqF, or_false, false_or, or_self, or_true, true_or, and_self, and_true, true_and, and_false, false_and, not_true_eq_false, not_false_eq_true, f_X12_isSort, f_X12_isDay, f_X11_isSort, f_X11_isDay, inI, inP, f_X5_size, f_X5_isFull, f_X11_now, f_X2_isKind, f_X2_has, f_X3_has, f_X8_hasPage, f_X8_hasAllPages, f_X8_stands, f_X1_isPrinted, f_X1_rule, f_X9_has, f_X9_isFull, f_X12_isPage, f_X12_isVerse, sC_s, sC_n, sC_2, sN_1, sN_s, sN_n, sN_2, sS_1, sS_2, sS_s, sS_n, upd_s, upd_e, upd_n, rAt, rPut, rAdd, rSwap, rPush, rNumber, cp_0, cp_1, cp_2, cp_3, cp_4, cp_5, cp_6, cp_7, cp_8, cp_9, cp_10, cp_11, cp_12, cp_13, cp_14, cp_15, cp_16, cp_17, cp_18, cp_19, cp_20, cp_21, cp_22, cp_23, cp_24, cp_25, cp_26, cp_27, cp_28, cp_29, cp_30, cp_31, cp_32, cp_33, cp_34, cp_35, cp_36, cp_37, cp_38, cp_39, cp_40, cp_41, cp_42, cp_43, cp_44, cp_45, cp_46, cp_47, cp_48, cp_49, cp_50, cp_51, cp_52, cp_53, cp_54, cp_55, cp_56, cp_57, p1, t0, t1, e1, n1, n2, n3, f_X4_give, f1, q1, hzc]
  have eR : ∀ zr, (if de = -nI 5 then nI 1001 else de) = zr → f_X12_order v (nI i) (nI n) = some (nI m, sC (sC (sC (sC (sC y' 0 (2880 + m) (nI k)) 0 (2892 + m) fi) 0 (2904 + m) de) 0 (2874 + k) zr) 0 4 (nI (m + 1))) := fun zr hzr => by
    rw [j1, j2]
    dsimp only
    rw [if_neg hn1, if_neg z4, y4, n4, if_neg m12, if_neg z70, if_neg z70, y70, e0, if_neg r0, ed, nmk_e, nmk_e]
    refine (q2 _).trans ?_
    simp (disch := omega) only [↓nmk_e, ↓reduceIte, Option.bind_some, Option.map_some, lit, ofN, nI_add, pk_sub, pk_mul, nI_clamp, nI_leI, nI_ltI, nI_eq, pk_div, nI_an, nleT, nleF, nltT, nltF, neqT, neqF, or_false, false_or, or_self, or_true, true_or, and_self, and_true, true_and, and_false, false_and, not_true_eq_false, not_false_eq_true, f_X12_isSort, f_X12_isDay, f_X11_isSort, f_X11_isDay, inI, inP, f_X5_size, f_X5_isFull, f_X11_now, f_X2_isKind, f_X2_has, f_X3_has, f_X8_hasPage, f_X8_hasAllPages, f_X8_stands, f_X1_isPrinted, f_X1_rule, f_X9_has, f_X9_isFull, f_X12_isPage, f_X12_isVerse, sC_s, sC_n, sC_2, sN_1, sN_s, sN_n, sN_2, sS_1, sS_2, sS_s, sS_n, upd_s, upd_e, upd_n, rAt, rPut, rAdd, rSwap, rPush, rNumber, cp_0, cp_1, cp_2, cp_3, cp_4, cp_5, cp_6, cp_7, cp_8, cp_9, cp_10, cp_11, cp_12, cp_13, cp_14, cp_15, cp_16, cp_17, cp_18, cp_19, cp_20, cp_21, cp_22, cp_23, cp_24, cp_25, cp_26, cp_27, cp_28, cp_29, cp_30, cp_31, cp_32, cp_33, cp_34, cp_35, cp_36, cp_37, cp_38, cp_39, cp_40, cp_41, cp_42, cp_43, cp_44, cp_45, cp_46, cp_47, cp_48, cp_49, cp_50, cp_51, cp_52, cp_53, cp_54, cp_55, cp_56, cp_57, y0, n4, hzr]
  rcases q4 with rfl | ⟨e, he, rfl⟩
  · exact ⟨_, _, _, eC _ (if_pos rfl), eR _ (if_pos rfl), order_end hS hk (by omega) n1 (.inr ⟨rfl, rfl⟩)⟩
  · have h5 : ¬ nI e = -nI 5 := of_eq_false (m5 (by omega))
    exact ⟨_, _, _, eC _ (if_neg h5), eR _ (if_neg h5), order_end hS hk (by omega) n1 (.inl ⟨e, he, rfl, rfl⟩)⟩
