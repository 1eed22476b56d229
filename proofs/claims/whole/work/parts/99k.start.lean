/-! the start of setting -/
theorem l_127 (y : CW) : ∃ y', (∀ j, f_X12_sets_L127 j FU (nI 0) y = j y') ∧ y'.2 = y.2 ∧ (∀ a, a ≠ 9 → y'.1 a = y.1 a) ∧ ∀ i, i < 61 → y'.1 9 i = nI 0 := by
  refine run1 (fun q i u => fun j => f_X12_sets_L127 j q i u) (fun i u => u.2 = y.2 ∧ (∀ a, a ≠ 9 → u.1 a = y.1 a) ∧ ∀ t, t < i → u.1 9 t = nI 0) 61 (fun r => ∃ y', (∀ j, r j = j y') ∧ y'.2 = y.2 ∧ (∀ a, a ≠ 9 → y'.1 a = y.1 a) ∧ ∀ i, i < 61 → y'.1 9 i = nI 0) ?_ ?_ FU 0 y (Nat.zero_le _) (by unfold FU; omega) ⟨rfl, fun _ _ => rfl, fun t ht => absurd ht (Nat.not_lt_zero t)⟩
  · rintro q u ⟨h1, h2, h3⟩
    refine ⟨u, fun j => ?_, h1, h2, h3⟩
    simp (disch := omega) only [f_X12_sets_L127, ↓nmk_e, ↓reduceIte, Option.bind_some, Option.map_some, lit, ofN, nI_add, pk_sub, pk_mul, nI_clamp, nI_leI, nI_ltI, nI_eq, pk_div, nI_an, nleT, nleF, nltT, nltF, neqT, neqF, or_false, false_or, or_self, or_true, true_or, and_self, and_true, true_and, and_false, false_and, not_true_eq_false, not_false_eq_true, f_X12_isSort, f_X12_isDay, f_X11_isSort, f_X11_isDay, inI, inP, f_X5_size, f_X5_isFull, f_X11_now, f_X2_isKind, f_X2_has, f_X3_has, f_X8_hasPage, f_X8_hasAllPages, f_X8_stands, f_X1_isPrinted, f_X1_rule, f_X9_has, f_X9_isFull, f_X12_isPage, f_X12_isVerse, sC_s, sC_n, sC_2, sN_1, sN_s, sN_n, sN_2, sS_1, sS_2, sS_s, sS_n, upd_s, upd_e, upd_n, rAt, rPut, rAdd, rSwap, rPush, rNumber, cp_0, cp_1, cp_2, cp_3, cp_4, cp_5, cp_6, cp_7, cp_8, cp_9, cp_10, cp_11, cp_12, cp_13, cp_14, cp_15, cp_16, cp_17, cp_18, cp_19, cp_20, cp_21, cp_22, cp_23, cp_24, cp_25, cp_26, cp_27, cp_28, cp_29, cp_30, cp_31, cp_32, cp_33, cp_34, cp_35, cp_36, cp_37, cp_38, cp_39, cp_40, cp_41, cp_42, cp_43, cp_44, cp_45, cp_46, cp_47, cp_48, cp_49, cp_50, cp_51, cp_52, cp_53, cp_54, cp_55, cp_56, cp_57]
  · rintro q i u hi ⟨h1, h2, h3⟩
    refine .inr ⟨sC u 9 i (nI 0), funext fun j => ?_, h1, fun a ha => ?_, fun t ht => ?_⟩
    · simp (disch := omega) only [f_X12_sets_L127, ↓nmk_e, ↓reduceIte, Option.bind_some, Option.map_some, lit, ofN, nI_add, pk_sub, pk_mul, nI_clamp, nI_leI, nI_ltI, nI_eq, pk_div, nI_an, nleT, nleF, nltT, nltF, neqT, neqF, or_false, false_or, or_self, or_true, true_or, and_self, and_true, true_and, and_false, false_and, not_true_eq_false, not_false_eq_true, f_X12_isSort, f_X12_isDay, f_X11_isSort, f_X11_isDay, inI, inP, f_X5_size, f_X5_isFull, f_X11_now, f_X2_isKind, f_X2_has, f_X3_has, f_X8_hasPage, f_X8_hasAllPages, f_X8_stands, f_X1_isPrinted, f_X1_rule, f_X9_has, f_X9_isFull, f_X12_isPage, f_X12_isVerse, sC_s, sC_n, sC_2, sN_1, sN_s, sN_n, sN_2, sS_1, sS_2, sS_s, sS_n, upd_s, upd_e, upd_n, rAt, rPut, rAdd, rSwap, rPush, rNumber, cp_0, cp_1, cp_2, cp_3, cp_4, cp_5, cp_6, cp_7, cp_8, cp_9, cp_10, cp_11, cp_12, cp_13, cp_14, cp_15, cp_16, cp_17, cp_18, cp_19, cp_20, cp_21, cp_22, cp_23, cp_24, cp_25, cp_26, cp_27, cp_28, cp_29, cp_30, cp_31, cp_32, cp_33, cp_34, cp_35, cp_36, cp_37, cp_38, cp_39, cp_40, cp_41, cp_42, cp_43, cp_44, cp_45, cp_46, cp_47, cp_48, cp_49, cp_50, cp_51, cp_52, cp_53, cp_54, cp_55, cp_56, cp_57]
    · simp (disch := omega) only [sC_s, sC_n, sC_2, sN_1, sN_s, sN_n, sN_2, sS_1, sS_2, sS_s, sS_n, upd_s, upd_e, upd_n]; exact h2 a ha
    · by_cases c : t = i
      · subst c; simp (disch := omega) only [sC_s, sC_n, sC_2, sN_1, sN_s, sN_n, sN_2, sS_1, sS_2, sS_s, sS_n, upd_s, upd_e, upd_n]
      · simp (disch := omega) only [sC_s, sC_n, sC_2, sN_1, sN_s, sN_n, sN_2, sS_1, sS_2, sS_s, sS_n, upd_s, upd_e, upd_n]; exact h3 t (by omega)
theorem l_151 (y : CW) : ∃ y', (∀ j, f_X12_sets_L151 j FU (nI 0) y = j y') ∧ y'.2 = y.2 ∧ (∀ a, a ≠ 11 → y'.1 a = y.1 a) ∧ ∀ i, i < 27 → y'.1 11 i = nI 0 := by
  refine run1 (fun q i u => fun j => f_X12_sets_L151 j q i u) (fun i u => u.2 = y.2 ∧ (∀ a, a ≠ 11 → u.1 a = y.1 a) ∧ ∀ t, t < i → u.1 11 t = nI 0) 27 (fun r => ∃ y', (∀ j, r j = j y') ∧ y'.2 = y.2 ∧ (∀ a, a ≠ 11 → y'.1 a = y.1 a) ∧ ∀ i, i < 27 → y'.1 11 i = nI 0) ?_ ?_ FU 0 y (Nat.zero_le _) (by unfold FU; omega) ⟨rfl, fun _ _ => rfl, fun t ht => absurd ht (Nat.not_lt_zero t)⟩
  · rintro q u ⟨h1, h2, h3⟩
    refine ⟨u, fun j => ?_, h1, h2, h3⟩
    simp (disch := omega) only [f_X12_sets_L151, ↓nmk_e, ↓reduceIte, Option.bind_some, Option.map_some, lit, ofN, nI_add, pk_sub, pk_mul, nI_clamp, nI_leI, nI_ltI, nI_eq, pk_div, nI_an, nleT, nleF, nltT, nltF, neqT, neqF, or_false, false_or, or_self, or_true, true_or, and_self, and_true, true_and, and_false, false_and, not_true_eq_false, not_false_eq_true, f_X12_isSort, f_X12_isDay, f_X11_isSort, f_X11_isDay, inI, inP, f_X5_size, f_X5_isFull, f_X11_now, f_X2_isKind, f_X2_has, f_X3_has, f_X8_hasPage, f_X8_hasAllPages, f_X8_stands, f_X1_isPrinted, f_X1_rule, f_X9_has, f_X9_isFull, f_X12_isPage, f_X12_isVerse, sC_s, sC_n, sC_2, sN_1, sN_s, sN_n, sN_2, sS_1, sS_2, sS_s, sS_n, upd_s, upd_e, upd_n, rAt, rPut, rAdd, rSwap, rPush, rNumber, cp_0, cp_1, cp_2, cp_3, cp_4, cp_5, cp_6, cp_7, cp_8, cp_9, cp_10, cp_11, cp_12, cp_13, cp_14, cp_15, cp_16, cp_17, cp_18, cp_19, cp_20, cp_21, cp_22, cp_23, cp_24, cp_25, cp_26, cp_27, cp_28, cp_29, cp_30, cp_31, cp_32, cp_33, cp_34, cp_35, cp_36, cp_37, cp_38, cp_39, cp_40, cp_41, cp_42, cp_43, cp_44, cp_45, cp_46, cp_47, cp_48, cp_49, cp_50, cp_51, cp_52, cp_53, cp_54, cp_55, cp_56, cp_57]
  · rintro q i u hi ⟨h1, h2, h3⟩
    refine .inr ⟨sC u 11 i (nI 0), funext fun j => ?_, h1, fun a ha => ?_, fun t ht => ?_⟩
    · simp (disch := omega) only [f_X12_sets_L151, ↓nmk_e, ↓reduceIte, Option.bind_some, Option.map_some, lit, ofN, nI_add, pk_sub, pk_mul, nI_clamp, nI_leI, nI_ltI, nI_eq, pk_div, nI_an, nleT, nleF, nltT, nltF, neqT, neqF, or_false, false_or, or_self, or_true, true_or, and_self, and_true, true_and, and_false, false_and, not_true_eq_false, not_false_eq_true, f_X12_isSort, f_X12_isDay, f_X11_isSort, f_X11_isDay, inI, inP, f_X5_size, f_X5_isFull, f_X11_now, f_X2_isKind, f_X2_has, f_X3_has, f_X8_hasPage, f_X8_hasAllPages, f_X8_stands, f_X1_isPrinted, f_X1_rule, f_X9_has, f_X9_isFull, f_X12_isPage, f_X12_isVerse, sC_s, sC_n, sC_2, sN_1, sN_s, sN_n, sN_2, sS_1, sS_2, sS_s, sS_n, upd_s, upd_e, upd_n, rAt, rPut, rAdd, rSwap, rPush, rNumber, cp_0, cp_1, cp_2, cp_3, cp_4, cp_5, cp_6, cp_7, cp_8, cp_9, cp_10, cp_11, cp_12, cp_13, cp_14, cp_15, cp_16, cp_17, cp_18, cp_19, cp_20, cp_21, cp_22, cp_23, cp_24, cp_25, cp_26, cp_27, cp_28, cp_29, cp_30, cp_31, cp_32, cp_33, cp_34, cp_35, cp_36, cp_37, cp_38, cp_39, cp_40, cp_41, cp_42, cp_43, cp_44, cp_45, cp_46, cp_47, cp_48, cp_49, cp_50, cp_51, cp_52, cp_53, cp_54, cp_55, cp_56, cp_57]
    · simp (disch := omega) only [sC_s, sC_n, sC_2, sN_1, sN_s, sN_n, sN_2, sS_1, sS_2, sS_s, sS_n, upd_s, upd_e, upd_n]; exact h2 a ha
    · by_cases c : t = i
      · subst c; simp (disch := omega) only [sC_s, sC_n, sC_2, sN_1, sN_s, sN_n, sN_2, sS_1, sS_2, sS_s, sS_n, upd_s, upd_e, upd_n]
      · simp (disch := omega) only [sC_s, sC_n, sC_2, sN_1, sN_s, sN_n, sN_2, sS_1, sS_2, sS_s, sS_n, upd_s, upd_e, upd_n]; exact h3 t (by omega)
theorem sF_s (w : CW) (k : Nat) (f : Nat → Int32) : (sF w k f).1 k = f := by show (if k = k then f else _) = f; rw [if_pos rfl]
theorem sF_n (w : CW) {k a : Nat} (f : Nat → Int32) (h : a ≠ k) : (sF w k f).1 a = w.1 a := by show (if a = k then f else _) = _; rw [if_neg h]
theorem l_anew (u : CW) : KpC u (f_X6_startAnew u) ∧ (f_X6_startAnew u).2.2 8 = nI 1 ∧ (f_X6_startAnew u).2.2 9 = nI 0 ∧ (f_X6_startAnew u).1 47 0 = nI 0 ∧ (∀ c, c < 27 → (f_X6_startAnew u).1 48 c = nI 0) ∧ ∀ i, i < 60 → (f_X6_startAnew u).1 49 i = nI 0 := by
  have e : f_X6_startAnew u = sS (sS (sC (rFill (rFill u 48 (nI 0)) 49 (nI 0)) 47 0 (nI 0)) 8 (nI 1)) 9 (nI 0) := by
    unfold f_X6_startAnew
    simp (disch := omega) only [↓nmk_e, ↓reduceIte, Option.bind_some, Option.map_some, lit, ofN, nI_add, pk_sub, pk_mul, nI_clamp, nI_leI, nI_ltI, nI_eq, pk_div, nI_an, nleT, nleF, nltT, nltF, neqT, neqF, or_false, false_or, or_self, or_true, true_or, and_self, and_true, true_and, and_false, false_and, not_true_eq_false, not_false_eq_true, f_X12_isSort, f_X12_isDay, f_X11_isSort, f_X11_isDay, inI, inP, f_X5_size, f_X5_isFull, f_X11_now, f_X2_isKind, f_X2_has, f_X3_has, f_X8_hasPage, f_X8_hasAllPages, f_X8_stands, f_X1_isPrinted, f_X1_rule, f_X9_has, f_X9_isFull, f_X12_isPage, f_X12_isVerse, sC_s, sC_n, sC_2, sN_1, sN_s, sN_n, sN_2, sS_1, sS_2, sS_s, sS_n, upd_s, upd_e, upd_n, rAt, rPut, rAdd, rSwap, rPush, rNumber, cp_0, cp_1, cp_2, cp_3, cp_4, cp_5, cp_6, cp_7, cp_8, cp_9, cp_10, cp_11, cp_12, cp_13, cp_14, cp_15, cp_16, cp_17, cp_18, cp_19, cp_20, cp_21, cp_22, cp_23, cp_24, cp_25, cp_26, cp_27, cp_28, cp_29, cp_30, cp_31, cp_32, cp_33, cp_34, cp_35, cp_36, cp_37, cp_38, cp_39, cp_40, cp_41, cp_42, cp_43, cp_44, cp_45, cp_46, cp_47, cp_48, cp_49, cp_50, cp_51, cp_52, cp_53, cp_54, cp_55, cp_56, cp_57]
  rw [e]
  have f1 : ∀ a, a ≠ 47 → (sS (sS (sC (rFill (rFill u 48 (nI 0)) 49 (nI 0)) 47 0 (nI 0)) 8 (nI 1)) 9 (nI 0)).1 a = (rFill (rFill u 48 (nI 0)) 49 (nI 0)).1 a := fun a ha => by simp (disch := omega) only [sC_s, sC_n, sC_2, sN_1, sN_s, sN_n, sN_2, sS_1, sS_2, sS_s, sS_n, upd_s, upd_e, upd_n]
  have f2 : ∀ a, a ≠ 48 → a ≠ 49 → (rFill (rFill u 48 (nI 0)) 49 (nI 0)).1 a = u.1 a := fun a h1 h2 => by
    unfold rFill; rw [sF_n _ _ h2, sF_n _ _ h1]
  have f3 : ∀ a, a ≠ 8 → a ≠ 9 → (sS (sS (sC (rFill (rFill u 48 (nI 0)) 49 (nI 0)) 47 0 (nI 0)) 8 (nI 1)) 9 (nI 0)).2.2 a = u.2.2 a := fun a h1 h2 => by
    simp (disch := omega) only [sC_s, sC_n, sC_2, sN_1, sN_s, sN_n, sN_2, sS_1, sS_2, sS_s, sS_n, upd_s, upd_e, upd_n]; rfl
  refine ⟨⟨⟨fun k hk => ?_, fun k hk => rfl, fun k hk => f3 k (by omega) (by omega)⟩, fun a ha => ?_, ?_, f3 7 (by decide) (by decide)⟩, ?_, ?_, ?_, fun c hc => ?_, fun i hi => ?_⟩
  · rw [f1 k (by omega), f2 k (by omega) (by omega)]
  · rw [f1 a (by omega), f2 a (by omega) (by omega)]
  · rw [f1 46 (by decide), f2 46 (by decide) (by decide)]
  · simp (disch := omega) only [sC_s, sC_n, sC_2, sN_1, sN_s, sN_n, sN_2, sS_1, sS_2, sS_s, sS_n, upd_s, upd_e, upd_n]
  · simp (disch := omega) only [sC_s, sC_n, sC_2, sN_1, sN_s, sN_n, sN_2, sS_1, sS_2, sS_s, sS_n, upd_s, upd_e, upd_n]
  · simp (disch := omega) only [sC_s, sC_n, sC_2, sN_1, sN_s, sN_n, sN_2, sS_1, sS_2, sS_s, sS_n, upd_s, upd_e, upd_n]
  · rw [f1 48 (by decide)]
    show (sF (sF u 48 _) 49 _).1 48 c = _
    rw [sF_n _ _ (by decide), sF_s]
    exact if_pos hc
  · rw [f1 49 (by decide)]
    show (sF (rFill u 48 (nI 0)) 49 _).1 49 i = _
    rw [sF_s]
    exact if_pos hi
