/-! the reference fills its table -/
theorem lsA_congr {P : PP} {lt : Nat → Bool} {pw pu : Nat → Nat → Nat} {T T' : Nat → Nat → Nat → Nat} {k : Nat} (h : ∀ k', k < k' → T k' = T' k') (w h' : Nat) : lsA P lt pw pu T k w h' = lsA P lt pw pu T' k w h' := by
  simp only [lsA, goA, brA, blA, enA, h (k + 3) (by omega), h (k + 2) (by omega), h (k + 1) (by omega)]
theorem EnvR.w {y y' : CW} {x z : Nat} {ch WD : Nat → Nat} {A : CA} (h : EnvR y x z ch WD A) (h1 : ∀ a, a ≠ 8 → y'.1 a = y.1 a) (h2 : y'.2 = y.2) : EnvR y' x z ch WD A := by
  obtain ⟨hV, ⟨r1, r2, r3, r4, r5, r6, r7, r8⟩, hA, hW⟩ := h
  refine ⟨by rw [h1 0 (by decide)]; exact hV, ?_, hA, by rw [h1 0 (by decide)]; exact hW⟩
  refine ⟨?_, ?_, ?_, ?_, ?_, ?_, r7, ?_⟩
  · rw [h1 3 (by decide)]; exact r1
  · rw [h1 3 (by decide)]; exact r2
  · rw [h1 3 (by decide)]; exact r3
  · rw [h1 3 (by decide)]; exact r4
  · rw [h1 3 (by decide)]; exact r5
  · rw [h2]; exact r6
  · rw [h1 4 (by decide), h1 5 (by decide), h1 6 (by decide)]; exact r8
theorem TA_eq {y y' : CW} {k : Nat} (h : ∀ i, 82 * (k + 1) ≤ i → y'.1 8 i = y.1 8 i) : ∀ k', k < k' → TA y' k' = TA y k' := fun k' hk' => by
  funext w h'
  unfold TA
  rw [h _ (by omega)]
theorem TAok.w {y y' : CW} {A : CA} {z k : Nat} (hT : TAok y A z (k + 1)) (h : ∀ i, 82 * (k + 1) ≤ i → y'.1 8 i = y.1 8 i) : TAok y' A z (k + 1) := fun k' h1 h2 w hw h' hh => by
  rw [TA_eq h k' (by omega), h _ (by omega)]
  exact hT k' h1 h2 w hw h' hh
/-- a row's value -/
def vlA (y : CW) (z : Nat) (ch WD : Nat → Nat) (A : CA) (k w h : Nat) : Nat := if k = z then 0 else lsA (PA z A WD) (ltF z ch) (pwF WD A.2.1 z ch) (puF A.2.1 z ch) (TA y) k w h
theorem l_cellA {y : CW} {x z k w : Nat} {ch WD : Nat → Nat} {A : CA} (h : EnvR y x z ch WD A) (hT : TAok y A z (k + 1)) (hk : k ≤ z) (hw : w ≤ colN A) : ∃ y', (∀ j, f_X12_sets_L40 (nI x) (nI z) (nI k) (nI w) j FU (nI 0) y = j y') ∧ (∀ a, a ≠ 8 → y'.1 a = y.1 a) ∧ y'.2 = y.2 ∧ (∀ i, i < 82 * k + 2 * w ∨ 82 * k + 2 * w + 2 ≤ i → y'.1 8 i = y.1 8 i) ∧ ∀ h', h' < 2 → y'.1 8 (82 * k + 2 * w + h') = nI (vlA y z ch WD A k w h') ∧ vlA y z ch WD A k w h' ≤ EE := by
  have hb := colN_b A
  have hz := h.1.2.2.1
  have hEE : EE = 1000000 := rfl
  refine run1 (fun q i u => fun j => f_X12_sets_L40 (nI x) (nI z) (nI k) (nI w) j q i u) (fun i u => (∀ a, a ≠ 8 → u.1 a = y.1 a) ∧ u.2 = y.2 ∧ (∀ t, t < 82 * k + 2 * w ∨ 82 * k + 2 * w + 2 ≤ t → u.1 8 t = y.1 8 t) ∧ ∀ h', h' < i → u.1 8 (82 * k + 2 * w + h') = nI (vlA y z ch WD A k w h') ∧ vlA y z ch WD A k w h' ≤ EE) 2 (fun r => ∃ y', (∀ j, r j = j y') ∧ (∀ a, a ≠ 8 → y'.1 a = y.1 a) ∧ y'.2 = y.2 ∧ (∀ i, i < 82 * k + 2 * w ∨ 82 * k + 2 * w + 2 ≤ i → y'.1 8 i = y.1 8 i) ∧ ∀ h', h' < 2 → y'.1 8 (82 * k + 2 * w + h') = nI (vlA y z ch WD A k w h') ∧ vlA y z ch WD A k w h' ≤ EE) ?_ ?_ FU 0 y (Nat.zero_le _) (by unfold FU; omega) ⟨fun _ _ => rfl, rfl, fun _ _ => rfl, fun h' hh => absurd hh (Nat.not_lt_zero h')⟩
  · rintro q u ⟨h1, h2, h3, h4⟩
    refine ⟨u, fun j => ?_, h1, h2, h3, h4⟩
    simp (disch := omega) only [f_X12_sets_L40, ↓nmk_e, ↓reduceIte, Option.bind_some, Option.map_some, lit, ofN, nI_add, pk_sub, pk_mul, nI_clamp, nI_leI, nI_ltI, nI_eq, pk_div, nI_an, nleT, nleF, nltT, nltF, neqT, neqF, or_false, false_or, or_self, or_true, true_or, and_self, and_true, true_and, and_false, false_and, not_true_eq_false, not_false_eq_true, f_X12_isSort, f_X12_isDay, f_X11_isSort, f_X11_isDay, inI, inP, f_X5_size, f_X5_isFull, f_X11_now, f_X2_isKind, f_X2_has, f_X3_has, f_X8_hasPage, f_X8_hasAllPages, f_X8_stands, f_X1_isPrinted, f_X1_rule, f_X9_has, f_X9_isFull, f_X12_isPage, f_X12_isVerse, sC_s, sC_n, sC_2, sN_1, sN_s, sN_n, sN_2, sS_1, sS_2, sS_s, sS_n, upd_s, upd_e, upd_n, rAt, rPut, rAdd, rSwap, rPush, rNumber, cp_0, cp_1, cp_2, cp_3, cp_4, cp_5, cp_6, cp_7, cp_8, cp_9, cp_10, cp_11, cp_12, cp_13, cp_14, cp_15, cp_16, cp_17, cp_18, cp_19, cp_20, cp_21, cp_22, cp_23, cp_24, cp_25, cp_26, cp_27, cp_28, cp_29, cp_30, cp_31, cp_32, cp_33, cp_34, cp_35, cp_36, cp_37, cp_38, cp_39, cp_40, cp_41, cp_42, cp_43, cp_44, cp_45, cp_46, cp_47, cp_48, cp_49, cp_50, cp_51, cp_52, cp_53, cp_54, cp_55, cp_56, cp_57]
  · rintro q i u hi ⟨h1, h2, h3, h4⟩
    have hun : ∀ t, 82 * (k + 1) ≤ t → u.1 8 t = y.1 8 t := fun t ht => h3 t (by omega)
    have hval : ∃ val, val = vlA y z ch WD A k w i ∧ val ≤ EE ∧ (k ≠ z → f_X12_leastOf u (nI x) (nI k) (nI w) (nI i) = some (nI val)) := by
      refine ⟨_, rfl, ?_, ?_⟩
      · unfold vlA
        by_cases c : k = z
        · rw [if_pos c]; omega
        · rw [if_neg c]; exact (l_least h hT (by omega) hw hi).2
      · intro c
        have := (l_least (h.w h1 h2) (hT.w hun) (show k < z by omega) hw hi).1
        rw [this]
        unfold vlA
        rw [if_neg c, lsA_congr (fun k' hk' => TA_eq hun k' hk')]
    obtain ⟨val, v1, v2, v3⟩ := hval
    have hstep : ∀ j, f_X12_sets_L40 (nI x) (nI z) (nI k) (nI w) j (q + 1) (nI i) u = f_X12_sets_L40 (nI x) (nI z) (nI k) (nI w) j q (nI (i + 1)) (sC u 8 (82 * k + 2 * w + i) (nI val)) := fun j => by
      by_cases c : k = z
      · have : val = 0 := by rw [v1]; exact if_pos c
        rw [this]
        simp (disch := omega) only [f_X12_sets_L40, ↓nmk_e, ↓reduceIte, Option.bind_some, Option.map_some, lit, ofN, nI_add, pk_sub, pk_mul, nI_clamp, nI_leI, nI_ltI, nI_eq, pk_div, nI_an, nleT, nleF, nltT, nltF, neqT, neqF, or_false, false_or, or_self, or_true, true_or, and_self, and_true, true_and, and_false, false_and, not_true_eq_false, not_false_eq_true, f_X12_isSort, f_X12_isDay, f_X11_isSort, f_X11_isDay, inI, inP, f_X5_size, f_X5_isFull, f_X11_now, f_X2_isKind, f_X2_has, f_X3_has, f_X8_hasPage, f_X8_hasAllPages, f_X8_stands, f_X1_isPrinted, f_X1_rule, f_X9_has, f_X9_isFull, f_X12_isPage, f_X12_isVerse, sC_s, sC_n, sC_2, sN_1, sN_s, sN_n, sN_2, sS_1, sS_2, sS_s, sS_n, upd_s, upd_e, upd_n, rAt, rPut, rAdd, rSwap, rPush, rNumber, cp_0, cp_1, cp_2, cp_3, cp_4, cp_5, cp_6, cp_7, cp_8, cp_9, cp_10, cp_11, cp_12, cp_13, cp_14, cp_15, cp_16, cp_17, cp_18, cp_19, cp_20, cp_21, cp_22, cp_23, cp_24, cp_25, cp_26, cp_27, cp_28, cp_29, cp_30, cp_31, cp_32, cp_33, cp_34, cp_35, cp_36, cp_37, cp_38, cp_39, cp_40, cp_41, cp_42, cp_43, cp_44, cp_45, cp_46, cp_47, cp_48, cp_49, cp_50, cp_51, cp_52, cp_53, cp_54, cp_55, cp_56, cp_57]
      · simp (disch := omega) only [f_X12_sets_L40, ↓nmk_e, ↓reduceIte, Option.bind_some, Option.map_some, lit, ofN, nI_add, pk_sub, pk_mul, nI_clamp, nI_leI, nI_ltI, nI_eq, pk_div, nI_an, nleT, nleF, nltT, nltF, neqT, neqF, or_false, false_or, or_self, or_true, true_or, and_self, and_true, true_and, and_false, false_and, not_true_eq_false, not_false_eq_true, f_X12_isSort, f_X12_isDay, f_X11_isSort, f_X11_isDay, inI, inP, f_X5_size, f_X5_isFull, f_X11_now, f_X2_isKind, f_X2_has, f_X3_has, f_X8_hasPage, f_X8_hasAllPages, f_X8_stands, f_X1_isPrinted, f_X1_rule, f_X9_has, f_X9_isFull, f_X12_isPage, f_X12_isVerse, sC_s, sC_n, sC_2, sN_1, sN_s, sN_n, sN_2, sS_1, sS_2, sS_s, sS_n, upd_s, upd_e, upd_n, rAt, rPut, rAdd, rSwap, rPush, rNumber, cp_0, cp_1, cp_2, cp_3, cp_4, cp_5, cp_6, cp_7, cp_8, cp_9, cp_10, cp_11, cp_12, cp_13, cp_14, cp_15, cp_16, cp_17, cp_18, cp_19, cp_20, cp_21, cp_22, cp_23, cp_24, cp_25, cp_26, cp_27, cp_28, cp_29, cp_30, cp_31, cp_32, cp_33, cp_34, cp_35, cp_36, cp_37, cp_38, cp_39, cp_40, cp_41, cp_42, cp_43, cp_44, cp_45, cp_46, cp_47, cp_48, cp_49, cp_50, cp_51, cp_52, cp_53, cp_54, cp_55, cp_56, cp_57, v3 c]
    refine .inr ⟨sC u 8 (82 * k + 2 * w + i) (nI val), funext hstep, fun a ha => ?_, h2, fun t ht => ?_, fun h' hh => ?_⟩
    · simp (disch := omega) only [sC_s, sC_n, sC_2, sN_1, sN_s, sN_n, sN_2, sS_1, sS_2, sS_s, sS_n, upd_s, upd_e, upd_n]; exact h1 a ha
    · simp (disch := omega) only [sC_s, sC_n, sC_2, sN_1, sN_s, sN_n, sN_2, sS_1, sS_2, sS_s, sS_n, upd_s, upd_e, upd_n]; exact h3 t ht
    · by_cases c : h' = i
      · subst c
        simp (disch := omega) only [sC_s, sC_n, sC_2, sN_1, sN_s, sN_n, sN_2, sS_1, sS_2, sS_s, sS_n, upd_s, upd_e, upd_n]
        exact ⟨by rw [v1], by rw [← v1]; exact v2⟩
      · simp (disch := omega) only [sC_s, sC_n, sC_2, sN_1, sN_s, sN_n, sN_2, sS_1, sS_2, sS_s, sS_n, upd_s, upd_e, upd_n]
        exact h4 h' (by omega)
theorem vlA_congr {y y' : CW} {z k : Nat} {ch WD : Nat → Nat} {A : CA} (h : ∀ i, 82 * (k + 1) ≤ i → y'.1 8 i = y.1 8 i) (w h' : Nat) : vlA y' z ch WD A k w h' = vlA y z ch WD A k w h' := by
  unfold vlA
  rw [lsA_congr (fun k' hk' => TA_eq h k' hk')]
theorem l_rowA {y : CW} {x z k : Nat} {ch WD : Nat → Nat} {A : CA} (h : EnvR y x z ch WD A) (hT : TAok y A z (k + 1)) (hk : k ≤ z) : ∃ y', (∀ j, f_X12_sets_L32 (nI x) (nI z) (nI k) j FU (nI (colN A)) y = j y') ∧ (∀ a, a ≠ 8 → y'.1 a = y.1 a) ∧ y'.2 = y.2 ∧ (∀ i, 82 * (k + 1) ≤ i → y'.1 8 i = y.1 8 i) ∧ ∀ w, w ≤ colN A → ∀ h', h' < 2 → y'.1 8 (82 * k + 2 * w + h') = nI (vlA y z ch WD A k w h') ∧ vlA y z ch WD A k w h' ≤ EE := by
  have hb := colN_b A
  have hz := h.1.2.2.1
  have key := run1d (fun q i u => fun j => f_X12_sets_L32 (nI x) (nI z) (nI k) j q i u) (fun i u => i ≤ colN A + 1 ∧ (∀ a, a ≠ 8 → u.1 a = y.1 a) ∧ u.2 = y.2 ∧ (∀ t, 82 * (k + 1) ≤ t → u.1 8 t = y.1 8 t) ∧ ∀ w, i ≤ w → w ≤ colN A → ∀ h', h' < 2 → u.1 8 (82 * k + 2 * w + h') = nI (vlA y z ch WD A k w h') ∧ vlA y z ch WD A k w h' ≤ EE) (fun r => ∃ y', (∀ j, r j = j y') ∧ (∀ a, a ≠ 8 → y'.1 a = y.1 a) ∧ y'.2 = y.2 ∧ (∀ i, 82 * (k + 1) ≤ i → y'.1 8 i = y.1 8 i) ∧ ∀ w, w ≤ colN A → ∀ h', h' < 2 → y'.1 8 (82 * k + 2 * w + h') = nI (vlA y z ch WD A k w h') ∧ vlA y z ch WD A k w h' ≤ EE) ?_ ?_ FU (colN A + 1) y (by unfold FU; omega) ⟨Nat.le_refl _, fun _ _ => rfl, rfl, fun _ _ => rfl, fun w h1 h2 => by omega⟩
  · exact key
  · rintro q u ⟨-, h1, h2, h3, h4⟩
    refine ⟨u, fun j => ?_, h1, h2, h3, fun w hw => h4 w (Nat.zero_le _) hw⟩
    simp (disch := omega) only [f_X12_sets_L32, ↓nmk_e, ↓reduceIte, Option.bind_some, Option.map_some, lit, ofN, nI_add, pk_sub, pk_mul, nI_clamp, nI_leI, nI_ltI, nI_eq, pk_div, nI_an, nleT, nleF, nltT, nltF, neqT, neqF, or_false, false_or, or_self, or_true, true_or, and_self, and_true, true_and, and_false, false_and, not_true_eq_false, not_false_eq_true, f_X12_isSort, f_X12_isDay, f_X11_isSort, f_X11_isDay, inI, inP, f_X5_size, f_X5_isFull, f_X11_now, f_X2_isKind, f_X2_has, f_X3_has, f_X8_hasPage, f_X8_hasAllPages, f_X8_stands, f_X1_isPrinted, f_X1_rule, f_X9_has, f_X9_isFull, f_X12_isPage, f_X12_isVerse, sC_s, sC_n, sC_2, sN_1, sN_s, sN_n, sN_2, sS_1, sS_2, sS_s, sS_n, upd_s, upd_e, upd_n, rAt, rPut, rAdd, rSwap, rPush, rNumber, cp_0, cp_1, cp_2, cp_3, cp_4, cp_5, cp_6, cp_7, cp_8, cp_9, cp_10, cp_11, cp_12, cp_13, cp_14, cp_15, cp_16, cp_17, cp_18, cp_19, cp_20, cp_21, cp_22, cp_23, cp_24, cp_25, cp_26, cp_27, cp_28, cp_29, cp_30, cp_31, cp_32, cp_33, cp_34, cp_35, cp_36, cp_37, cp_38, cp_39, cp_40, cp_41, cp_42, cp_43, cp_44, cp_45, cp_46, cp_47, cp_48, cp_49, cp_50, cp_51, cp_52, cp_53, cp_54, cp_55, cp_56, cp_57, mlt]
  · rintro q i u ⟨hi, h1, h2, h3, h4⟩
    obtain ⟨y', e1, e2, e3, e4, e5⟩ := l_cellA (h.w h1 h2) (hT.w h3) hk (w := i) (by omega)
    refine .inr ⟨y', funext fun j => ?_, by omega, fun a ha => (e2 a ha).trans (h1 a ha), e3.trans h2, fun t ht => (e4 t (by omega)).trans (h3 t ht), fun w hw1 hw2 h' hh => ?_⟩
    · simp (disch := omega) only [f_X12_sets_L32, ↓nmk_e, ↓reduceIte, Option.bind_some, Option.map_some, lit, ofN, nI_add, pk_sub, pk_mul, nI_clamp, nI_leI, nI_ltI, nI_eq, pk_div, nI_an, nleT, nleF, nltT, nltF, neqT, neqF, or_false, false_or, or_self, or_true, true_or, and_self, and_true, true_and, and_false, false_and, not_true_eq_false, not_false_eq_true, f_X12_isSort, f_X12_isDay, f_X11_isSort, f_X11_isDay, inI, inP, f_X5_size, f_X5_isFull, f_X11_now, f_X2_isKind, f_X2_has, f_X3_has, f_X8_hasPage, f_X8_hasAllPages, f_X8_stands, f_X1_isPrinted, f_X1_rule, f_X9_has, f_X9_isFull, f_X12_isPage, f_X12_isVerse, sC_s, sC_n, sC_2, sN_1, sN_s, sN_n, sN_2, sS_1, sS_2, sS_s, sS_n, upd_s, upd_e, upd_n, rAt, rPut, rAdd, rSwap, rPush, rNumber, cp_0, cp_1, cp_2, cp_3, cp_4, cp_5, cp_6, cp_7, cp_8, cp_9, cp_10, cp_11, cp_12, cp_13, cp_14, cp_15, cp_16, cp_17, cp_18, cp_19, cp_20, cp_21, cp_22, cp_23, cp_24, cp_25, cp_26, cp_27, cp_28, cp_29, cp_30, cp_31, cp_32, cp_33, cp_34, cp_35, cp_36, cp_37, cp_38, cp_39, cp_40, cp_41, cp_42, cp_43, cp_44, cp_45, cp_46, cp_47, cp_48, cp_49, cp_50, cp_51, cp_52, cp_53, cp_54, cp_55, cp_56, cp_57, e1, dn_s]
    · by_cases c : w = i
      · subst c
        have := e5 h' hh
        rw [vlA_congr h3] at this
        exact this
      · rw [e4 _ (by omega)]
        exact h4 w (by omega) hw2 h' hh
/-- the table is right from a place on -/
def TabA (y : CW) (z : Nat) (ch WD : Nat → Nat) (A : CA) (k0 : Nat) : Prop := TAok y A z k0 ∧ ∀ k, k0 ≤ k → k ≤ z → ∀ w, w ≤ colN A → ∀ h, h < 2 → TA y k w h = vlA y z ch WD A k w h
theorem TabA.isA {y : CW} {z : Nat} {ch WD : Nat → Nat} {A : CA} (h : TabA y z ch WD A 0) : isA (PA z A WD) (ltF z ch) (pwF WD A.2.1 z ch) (puF A.2.1 z ch) (TA y) := by
  refine ⟨fun w h' hw hh => ?_, fun k hk w hw h' hh => ?_⟩
  · have := h.2 z (Nat.zero_le _) (Nat.le_refl _) w hw h' hh
    rw [show (PA z A WD).1 = z from rfl, this]
    exact if_pos rfl
  · have hk : k < z := hk
    have := h.2 k (Nat.zero_le _) (by omega) w hw h' hh
    rw [this]
    exact if_neg (by omega)
theorem l_tabA {y : CW} {x z : Nat} {ch WD : Nat → Nat} {A : CA} (h : EnvR y x z ch WD A) : ∃ y', (∀ j, f_X12_sets_L19 (nI x) (nI z) j FU (nI z) y = j y') ∧ (∀ a, a ≠ 8 → y'.1 a = y.1 a) ∧ y'.2 = y.2 ∧ TabA y' z ch WD A 0 := by
  have hb := colN_b A
  have hz := h.1.2.2.1
  have hEE : EE = 1000000 := rfl
  have key := run1d (fun q i u => fun j => f_X12_sets_L19 (nI x) (nI z) j q i u) (fun i u => i ≤ z + 1 ∧ (∀ a, a ≠ 8 → u.1 a = y.1 a) ∧ u.2 = y.2 ∧ TabA u z ch WD A i) (fun r => ∃ y', (∀ j, r j = j y') ∧ (∀ a, a ≠ 8 → y'.1 a = y.1 a) ∧ y'.2 = y.2 ∧ TabA y' z ch WD A 0) ?_ ?_ FU (z + 1) y (by unfold FU; omega) ⟨Nat.le_refl _, fun _ _ => rfl, rfl, fun k h1 h2 => by omega, fun k h1 h2 => by omega⟩
  · exact key
  · rintro q u ⟨-, h1, h2, h3⟩
    refine ⟨u, fun j => ?_, h1, h2, h3⟩
    simp (disch := omega) only [f_X12_sets_L19, ↓nmk_e, ↓reduceIte, Option.bind_some, Option.map_some, lit, ofN, nI_add, pk_sub, pk_mul, nI_clamp, nI_leI, nI_ltI, nI_eq, pk_div, nI_an, nleT, nleF, nltT, nltF, neqT, neqF, or_false, false_or, or_self, or_true, true_or, and_self, and_true, true_and, and_false, false_and, not_true_eq_false, not_false_eq_true, f_X12_isSort, f_X12_isDay, f_X11_isSort, f_X11_isDay, inI, inP, f_X5_size, f_X5_isFull, f_X11_now, f_X2_isKind, f_X2_has, f_X3_has, f_X8_hasPage, f_X8_hasAllPages, f_X8_stands, f_X1_isPrinted, f_X1_rule, f_X9_has, f_X9_isFull, f_X12_isPage, f_X12_isVerse, sC_s, sC_n, sC_2, sN_1, sN_s, sN_n, sN_2, sS_1, sS_2, sS_s, sS_n, upd_s, upd_e, upd_n, rAt, rPut, rAdd, rSwap, rPush, rNumber, cp_0, cp_1, cp_2, cp_3, cp_4, cp_5, cp_6, cp_7, cp_8, cp_9, cp_10, cp_11, cp_12, cp_13, cp_14, cp_15, cp_16, cp_17, cp_18, cp_19, cp_20, cp_21, cp_22, cp_23, cp_24, cp_25, cp_26, cp_27, cp_28, cp_29, cp_30, cp_31, cp_32, cp_33, cp_34, cp_35, cp_36, cp_37, cp_38, cp_39, cp_40, cp_41, cp_42, cp_43, cp_44, cp_45, cp_46, cp_47, cp_48, cp_49, cp_50, cp_51, cp_52, cp_53, cp_54, cp_55, cp_56, cp_57, mlt]
  · rintro q k u ⟨hk, h1, h2, h3, h4⟩
    have hE := h.w h1 h2
    obtain ⟨y', e1, e2, e3, e4, e5⟩ := l_rowA hE h3 (show k ≤ z by omega)
    have hc := hE.2.1.1
    refine .inr ⟨y', funext fun j => ?_, by omega, fun a ha => (e2 a ha).trans (h1 a ha), e3.trans h2, fun k' q1 q2 w hw h' hh => ?_, fun k' q1 q2 w hw h' hh => ?_⟩
    · simp (disch := omega) only [f_X12_sets_L19, ↓nmk_e, ↓reduceIte, Option.bind_some, Option.map_some, lit, ofN, nI_add, pk_sub, pk_mul, nI_clamp, nI_leI, nI_ltI, nI_eq, pk_div, nI_an, nleT, nleF, nltT, nltF, neqT, neqF, or_false, false_or, or_self, or_true, true_or, and_self, and_true, true_and, and_false, false_and, not_true_eq_false, not_false_eq_true, f_X12_isSort, f_X12_isDay, f_X11_isSort, f_X11_isDay, inI, inP, f_X5_size, f_X5_isFull, f_X11_now, f_X2_isKind, f_X2_has, f_X3_has, f_X8_hasPage, f_X8_hasAllPages, f_X8_stands, f_X1_isPrinted, f_X1_rule, f_X9_has, f_X9_isFull, f_X12_isPage, f_X12_isVerse, sC_s, sC_n, sC_2, sN_1, sN_s, sN_n, sN_2, sS_1, sS_2, sS_s, sS_n, upd_s, upd_e, upd_n, rAt, rPut, rAdd, rSwap, rPush, rNumber, cp_0, cp_1, cp_2, cp_3, cp_4, cp_5, cp_6, cp_7, cp_8, cp_9, cp_10, cp_11, cp_12, cp_13, cp_14, cp_15, cp_16, cp_17, cp_18, cp_19, cp_20, cp_21, cp_22, cp_23, cp_24, cp_25, cp_26, cp_27, cp_28, cp_29, cp_30, cp_31, cp_32, cp_33, cp_34, cp_35, cp_36, cp_37, cp_38, cp_39, cp_40, cp_41, cp_42, cp_43, cp_44, cp_45, cp_46, cp_47, cp_48, cp_49, cp_50, cp_51, cp_52, cp_53, cp_54, cp_55, cp_56, cp_57, hc, e1, dn_s]
    · by_cases c : k' = k
      · subst c
        obtain ⟨v1, v2⟩ := e5 w hw h' hh
        have : TA y' k' w h' = vlA u z ch WD A k' w h' := by unfold TA; rw [v1]; exact nI_clamp (by omega)
        rw [this]; exact ⟨v1, v2⟩
      · rw [TA_eq e4 k' (by omega), e4 _ (by omega)]
        exact h3 k' (by omega) q2 w hw h' hh
    · by_cases c : k' = k
      · subst c
        obtain ⟨v1, v2⟩ := e5 w hw h' hh
        have : TA y' k' w h' = vlA u z ch WD A k' w h' := by unfold TA; rw [v1]; exact nI_clamp (by omega)
        rw [this, vlA_congr e4]
      · rw [TA_eq e4 k' (by omega), h4 k' (by omega) q2 w hw h' hh]
        exact (vlA_congr (fun i hi => e4 i (by omega)) w h').symm
