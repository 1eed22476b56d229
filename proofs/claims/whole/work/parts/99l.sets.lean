/-! the reference sets a verse -/
def St0 (y : CW) : Prop := y.2.2 18 = nI 1 ∧ y.2.2 19 = nI 0 ∧ y.2.2 20 = nI 0 ∧ y.1 10 0 = nI 0 ∧ (∀ c, c < 27 → y.1 11 c = nI 0) ∧ ∀ i, i < 61 → y.1 9 i = nI 0
theorem r_sets {v y0 : CW} {a2 : Int32} {x z : Nat} {ch WD : Nat → Nat} {A : CA} (hl : f_X12_looks v a2 = some y0) (h : EnvR y0 x z ch WD A) : ∃ y1, (∀ a, a ≠ 8 → y1.1 a = y0.1 a) ∧ y1.2.1 = y0.2.1 ∧ (∀ a, a ≠ 21 → y1.2.2 a = y0.2.2 a) ∧ EnvR y1 x z ch WD A ∧ TabA y1 z ch WD A 0 ∧ y1.2.2 21 = nI (TA y1 0 0 0) ∧ ((TA y1 0 0 0 < EE ∧ ∃ y5, KpR y1 y5 ∧ St0 y5 ∧ f_X12_sets v (nI x) a2 = f_X12_sets_L203 (nI x) (nI z) FU (nI 0) (nI 0) (nI 0) y5) ∨ (¬ TA y1 0 0 0 < EE ∧ f_X12_sets v (nI x) a2 = some (nI 0, y1))) := by
  have hEE : EE = 1000000 := rfl
  have hx := h.1.1
  have hz := h.1.2.2.1
  have e16 := h.1.2.2.2.1
  obtain ⟨y', e1, e2, e3, e4⟩ := l_tabA h
  obtain ⟨t1, t2⟩ := e4.1 0 (Nat.zero_le _) (Nat.zero_le _) 0 (Nat.zero_le _) 0 (by decide)
  have hta : TA (sS y' 21 (nI (TA y' 0 0 0))) = TA y' := rfl
  have hE' : EnvR y' x z ch WD A := h.w e2 e3
  have hE1 : EnvR (sS y' 21 (nI (TA y' 0 0 0))) x z ch WD A := by
    obtain ⟨hV, ⟨r1, r2, r3, r4, r5, r6, r7, r8⟩, hA, hW⟩ := hE'
    exact ⟨hV, ⟨r1, r2, r3, r4, r5, (sS_n _ _ (by decide)).trans r6, r7, r8⟩, hA, hW⟩
  refine ⟨sS y' 21 (nI (TA y' 0 0 0)), fun a ha => e2 a ha, by show y'.2.1 = _; rw [e3], fun a ha => ?_, hE1, e4, ?_, ?_⟩
  · rw [sS_n _ _ ha, e3]
  · rw [hta, sS_s]
  · rw [hta]
    have cidx : ¬ (1660 + nI x < 0 ∨ 3250 ≤ (1660 + nI x).toNatClampNeg) := by
      simp (disch := omega) only [↓nmk_e, ↓reduceIte, Option.bind_some, Option.map_some, lit, ofN, nI_add, pk_sub, pk_mul, nI_clamp, nI_leI, nI_ltI, nI_eq, pk_div, nI_an, nleT, nleF, nltT, nltF, neqT, neqF, or_false, false_or, or_self, or_true, true_or, and_self, and_true, true_and, and_false, false_and, not_true_eq_false, not_false_eq_true, f_X12_isSort, f_X12_isDay, f_X11_isSort, f_X11_isDay, inI, inP, f_X5_size, f_X5_isFull, f_X11_now, f_X2_isKind, f_X2_has, f_X3_has, f_X8_hasPage, f_X8_hasAllPages, f_X8_stands, f_X1_isPrinted, f_X1_rule, f_X9_has, f_X9_isFull, f_X12_isPage, f_X12_isVerse, sC_s, sC_n, sC_2, sN_1, sN_s, sN_n, sN_2, sS_1, sS_2, sS_s, sS_n, upd_s, upd_e, upd_n, rAt, rPut, rAdd, rSwap, rPush, rNumber, cp_0, cp_1, cp_2, cp_3, cp_4, cp_5, cp_6, cp_7, cp_8, cp_9, cp_10, cp_11, cp_12, cp_13, cp_14, cp_15, cp_16, cp_17, cp_18, cp_19, cp_20, cp_21, cp_22, cp_23, cp_24, cp_25, cp_26, cp_27, cp_28, cp_29, cp_30, cp_31, cp_32, cp_33, cp_34, cp_35, cp_36, cp_37, cp_38, cp_39, cp_40, cp_41, cp_42, cp_43, cp_44, cp_45, cp_46, cp_47, cp_48, cp_49, cp_50, cp_51, cp_52, cp_53, cp_54, cp_55, cp_56, cp_57]
    have e16' : y0.1 0 (1660 + nI x).toNatClampNeg = nI z := by
      rw [← e16]; simp (disch := omega) only [↓nmk_e, ↓reduceIte, Option.bind_some, Option.map_some, lit, ofN, nI_add, pk_sub, pk_mul, nI_clamp, nI_leI, nI_ltI, nI_eq, pk_div, nI_an, nleT, nleF, nltT, nltF, neqT, neqF, or_false, false_or, or_self, or_true, true_or, and_self, and_true, true_and, and_false, false_and, not_true_eq_false, not_false_eq_true, f_X12_isSort, f_X12_isDay, f_X11_isSort, f_X11_isDay, inI, inP, f_X5_size, f_X5_isFull, f_X11_now, f_X2_isKind, f_X2_has, f_X3_has, f_X8_hasPage, f_X8_hasAllPages, f_X8_stands, f_X1_isPrinted, f_X1_rule, f_X9_has, f_X9_isFull, f_X12_isPage, f_X12_isVerse, sC_s, sC_n, sC_2, sN_1, sN_s, sN_n, sN_2, sS_1, sS_2, sS_s, sS_n, upd_s, upd_e, upd_n, rAt, rPut, rAdd, rSwap, rPush, rNumber, cp_0, cp_1, cp_2, cp_3, cp_4, cp_5, cp_6, cp_7, cp_8, cp_9, cp_10, cp_11, cp_12, cp_13, cp_14, cp_15, cp_16, cp_17, cp_18, cp_19, cp_20, cp_21, cp_22, cp_23, cp_24, cp_25, cp_26, cp_27, cp_28, cp_29, cp_30, cp_31, cp_32, cp_33, cp_34, cp_35, cp_36, cp_37, cp_38, cp_39, cp_40, cp_41, cp_42, cp_43, cp_44, cp_45, cp_46, cp_47, cp_48, cp_49, cp_50, cp_51, cp_52, cp_53, cp_54, cp_55, cp_56, cp_57]
    have c0 : ¬ ((0 : Int32) < 0 ∨ 5002 ≤ (0 : Int32).toNatClampNeg) := by decide
    have e21 : y'.1 8 (0 : Int32).toNatClampNeg = nI (TA y' 0 0 0) := t1
    have head : ∀ R, ((if (sS y' 21 (nI (TA y' 0 0 0))).2.2 21 < 1000000 then R else some (0, sS y' 21 (nI (TA y' 0 0 0)))) : Option (Int32 × CW)) = (if TA y' 0 0 0 < EE then R else some (nI 0, sS y' 21 (nI (TA y' 0 0 0)))) := fun R => by
      rw [sS_s]
      by_cases c : TA y' 0 0 0 < EE
      · rw [if_pos c, if_pos (show nI (TA y' 0 0 0) < (1000000 : Int32) from nI_lt (b := 1000000) c (by decide))]
      · rw [if_neg c, if_neg (show ¬ nI (TA y' 0 0 0) < (1000000 : Int32) from (show ¬ nI (TA y' 0 0 0) < nI 1000000 from nI_nlt (by omega) (by omega)))]; rfl
    by_cases c : TA y' 0 0 0 < EE
    · refine .inl ⟨c, ?_⟩
      obtain ⟨y2, a1, a2, a3, a4⟩ := l_127 (sS y' 21 (nI (TA y' 0 0 0)))
      obtain ⟨y3, b1, b2, b3, b4⟩ := l_151 y2
      refine ⟨sS (sS (sC (sS y3 18 (nI 1)) 10 0 (nI 0)) 19 (nI 0)) 20 (nI 0), ⟨fun a ha => ?_, fun a ha => ?_⟩, ⟨?_, ?_, ?_, ?_, fun d hd => ?_, fun i hi => ?_⟩, ?_⟩
      · simp (disch := omega) only [sC_s, sC_n, sC_2, sN_1, sN_s, sN_n, sN_2, sS_1, sS_2, sS_s, sS_n, upd_s, upd_e, upd_n]
        rw [b3 a (by omega), a3 a (by omega)]; rfl
      · simp (disch := omega) only [sC_s, sC_n, sC_2, sN_1, sN_s, sN_n, sN_2, sS_1, sS_2, sS_s, sS_n, upd_s, upd_e, upd_n]
        rw [b2, a2]
      · simp (disch := omega) only [sC_s, sC_n, sC_2, sN_1, sN_s, sN_n, sN_2, sS_1, sS_2, sS_s, sS_n, upd_s, upd_e, upd_n]
      · simp (disch := omega) only [sC_s, sC_n, sC_2, sN_1, sN_s, sN_n, sN_2, sS_1, sS_2, sS_s, sS_n, upd_s, upd_e, upd_n]
      · simp (disch := omega) only [sC_s, sC_n, sC_2, sN_1, sN_s, sN_n, sN_2, sS_1, sS_2, sS_s, sS_n, upd_s, upd_e, upd_n]
      · simp (disch := omega) only [sC_s, sC_n, sC_2, sN_1, sN_s, sN_n, sN_2, sS_1, sS_2, sS_s, sS_n, upd_s, upd_e, upd_n]
      · simp (disch := omega) only [sC_s, sC_n, sC_2, sN_1, sN_s, sN_n, sN_2, sS_1, sS_2, sS_s, sS_n, upd_s, upd_e, upd_n]; exact b4 d hd
      · simp (disch := omega) only [sC_s, sC_n, sC_2, sN_1, sN_s, sN_n, sN_2, sS_1, sS_2, sS_s, sS_n, upd_s, upd_e, upd_n]; rw [b3 9 (by decide)]; exact a4 i hi
      · unfold f_X12_sets
        rw [hl, Option.bind_some, if_neg cidx, nmk_e, e16', nmk_e]
        refine (e1 _).trans ?_
        try dsimp only
        rw [if_neg c0, nmk_e, e21, head, if_pos c, nmk_e]
        refine (a1 _).trans ?_
        try dsimp only
        rw [nmk_e]
        refine (b1 _).trans ?_
        simp (disch := omega) only [↓nmk_e, ↓reduceIte, Option.bind_some, Option.map_some, lit, ofN, nI_add, pk_sub, pk_mul, nI_clamp, nI_leI, nI_ltI, nI_eq, pk_div, nI_an, nleT, nleF, nltT, nltF, neqT, neqF, or_false, false_or, or_self, or_true, true_or, and_self, and_true, true_and, and_false, false_and, not_true_eq_false, not_false_eq_true, f_X12_isSort, f_X12_isDay, f_X11_isSort, f_X11_isDay, inI, inP, f_X5_size, f_X5_isFull, f_X11_now, f_X2_isKind, f_X2_has, f_X3_has, f_X8_hasPage, f_X8_hasAllPages, f_X8_stands, f_X1_isPrinted, f_X1_rule, f_X9_has, f_X9_isFull, f_X12_isPage, f_X12_isVerse, sC_s, sC_n, sC_2, sN_1, sN_s, sN_n, sN_2, sS_1, sS_2, sS_s, sS_n, upd_s, upd_e, upd_n, rAt, rPut, rAdd, rSwap, rPush, rNumber, cp_0, cp_1, cp_2, cp_3, cp_4, cp_5, cp_6, cp_7, cp_8, cp_9, cp_10, cp_11, cp_12, cp_13, cp_14, cp_15, cp_16, cp_17, cp_18, cp_19, cp_20, cp_21, cp_22, cp_23, cp_24, cp_25, cp_26, cp_27, cp_28, cp_29, cp_30, cp_31, cp_32, cp_33, cp_34, cp_35, cp_36, cp_37, cp_38, cp_39, cp_40, cp_41, cp_42, cp_43, cp_44, cp_45, cp_46, cp_47, cp_48, cp_49, cp_50, cp_51, cp_52, cp_53, cp_54, cp_55, cp_56, cp_57]
    · refine .inr ⟨c, ?_⟩
      unfold f_X12_sets
      rw [hl, Option.bind_some, if_neg cidx, nmk_e, e16', nmk_e]
      refine (e1 _).trans ?_
      try dsimp only
      rw [if_neg c0, nmk_e, e21, head, if_neg c]
