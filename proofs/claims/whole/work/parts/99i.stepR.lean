/-! a blank of the reference; the two side by side -/
theorem refB {y : CW} {x z k w h' L n V : Nat} {ch WD : Nat → Nat} {A : CA} (h : EnvR y x z ch WD A) (hT : TabA y z ch WD A 0) (hkz : k < z) (hk : ¬ ltF z ch k = true) (hw : w ≤ colN A) (hh : h' < 2) (hn : n ≤ mosN A + 1) (hV : TA y k w h' = V) (hVE : V ≤ EE) (h465 : ∀ j, f_X12_sets_L465 (nI k) (nI w) y (nI V) j FU (nI (leaN A)) = j (nI n)) (h18 : y.2.2 18 = nI L) (hL : L < 61) (q : Nat) : (n ≤ mosN A → f_X12_sets_L203 (nI x) (nI z) (q + 1) (nI k) (nI w) (nI h') y = f_X12_sets_L203 (nI x) (nI z) q (nI (k + 1)) (nI (w + n)) (nI 0) y) ∧ (¬ n ≤ mosN A → f_X12_sets_L203 (nI x) (nI z) (q + 1) (nI k) (nI w) (nI h') y = f_X12_sets_L203 (nI x) (nI z) q (nI (k + 1)) (nI 0) (nI 0) (yE y L (k + 1))) := by
  have hEE : EE = 1000000 := rfl
  have hb := colN_b A
  have hlb := leaN_b A
  have hmb := mosN_b A
  have hz := h.1.2.2.1
  have c1 : ¬ nI z ≤ nI k := nI_ge hkz (by omega)
  have e8 : y.1 8 (82 * k + 2 * w + h') = nI V := by
    rw [← hV]; exact (hT.1 k (Nat.zero_le _) (by omega) w hw h' hh).1
  have isl := l_isL h.1 (k := k) (by omega)
  rw [if_neg hk] at isl
  have cidx : ¬ (82 * nI k + 2 * nI w + nI h' < 0 ∨ 5002 ≤ (82 * nI k + 2 * nI w + nI h').toNatClampNeg) := by
    simp (disch := omega) only [↓nmk_e, ↓reduceIte, Option.bind_some, Option.map_some, lit, ofN, nI_add, pk_sub, pk_mul, nI_clamp, nI_leI, nI_ltI, nI_eq, pk_div, nI_an, nleT, nleF, nltT, nltF, neqT, neqF, or_false, false_or, or_self, or_true, true_or, and_self, and_true, true_and, and_false, false_and, not_true_eq_false, not_false_eq_true, f_X12_isSort, f_X12_isDay, f_X11_isSort, f_X11_isDay, inI, inP, f_X5_size, f_X5_isFull, f_X11_now, f_X2_isKind, f_X2_has, f_X3_has, f_X8_hasPage, f_X8_hasAllPages, f_X8_stands, f_X1_isPrinted, f_X1_rule, f_X9_has, f_X9_isFull, f_X12_isPage, f_X12_isVerse, sC_s, sC_n, sC_2, sN_1, sN_s, sN_n, sN_2, sS_1, sS_2, sS_s, sS_n, upd_s, upd_e, upd_n, rAt, rPut, rAdd, rSwap, rPush, rNumber, cp_0, cp_1, cp_2, cp_3, cp_4, cp_5, cp_6, cp_7, cp_8, cp_9, cp_10, cp_11, cp_12, cp_13, cp_14, cp_15, cp_16, cp_17, cp_18, cp_19, cp_20, cp_21, cp_22, cp_23, cp_24, cp_25, cp_26, cp_27, cp_28, cp_29, cp_30, cp_31, cp_32, cp_33, cp_34, cp_35, cp_36, cp_37, cp_38, cp_39, cp_40, cp_41, cp_42, cp_43, cp_44, cp_45, cp_46, cp_47, cp_48, cp_49, cp_50, cp_51, cp_52, cp_53, cp_54, cp_55, cp_56, cp_57]
  have e8' : y.1 8 (82 * nI k + 2 * nI w + nI h').toNatClampNeg = nI V := by
    rw [← e8]; simp (disch := omega) only [↓nmk_e, ↓reduceIte, Option.bind_some, Option.map_some, lit, ofN, nI_add, pk_sub, pk_mul, nI_clamp, nI_leI, nI_ltI, nI_eq, pk_div, nI_an, nleT, nleF, nltT, nltF, neqT, neqF, or_false, false_or, or_self, or_true, true_or, and_self, and_true, true_and, and_false, false_and, not_true_eq_false, not_false_eq_true, f_X12_isSort, f_X12_isDay, f_X11_isSort, f_X11_isDay, inI, inP, f_X5_size, f_X5_isFull, f_X11_now, f_X2_isKind, f_X2_has, f_X3_has, f_X8_hasPage, f_X8_hasAllPages, f_X8_stands, f_X1_isPrinted, f_X1_rule, f_X9_has, f_X9_isFull, f_X12_isPage, f_X12_isVerse, sC_s, sC_n, sC_2, sN_1, sN_s, sN_n, sN_2, sS_1, sS_2, sS_s, sS_n, upd_s, upd_e, upd_n, rAt, rPut, rAdd, rSwap, rPush, rNumber, cp_0, cp_1, cp_2, cp_3, cp_4, cp_5, cp_6, cp_7, cp_8, cp_9, cp_10, cp_11, cp_12, cp_13, cp_14, cp_15, cp_16, cp_17, cp_18, cp_19, cp_20, cp_21, cp_22, cp_23, cp_24, cp_25, cp_26, cp_27, cp_28, cp_29, cp_30, cp_31, cp_32, cp_33, cp_34, cp_35, cp_36, cp_37, cp_38, cp_39, cp_40, cp_41, cp_42, cp_43, cp_44, cp_45, cp_46, cp_47, cp_48, cp_49, cp_50, cp_51, cp_52, cp_53, cp_54, cp_55, cp_56, cp_57]
  have e33 : y.1 3 (3 : Int32).toNatClampNeg = nI (leaN A) := h.2.1.2.1
  have h34 := h.2.1.2.2.1
  have c3 : ¬ ((3 : Int32) < 0 ∨ 8 ≤ (3 : Int32).toNatClampNeg) := by decide
  constructor
  · intro hnm
    rw [f_X12_sets_L203, if_neg c1, if_neg cidx, nmk_e, e8', isl, Option.bind_some, nmk_e, if_pos (show nI 0 = (0 : Int32) from rfl), if_neg c3, nmk_e, e33, nmk_e]
    refine (h465 _).trans ?_
    simp (disch := omega) only [↓nmk_e, ↓reduceIte, Option.bind_some, Option.map_some, lit, ofN, nI_add, pk_sub, pk_mul, nI_clamp, nI_leI, nI_ltI, nI_eq, pk_div, nI_an, nleT, nleF, nltT, nltF, neqT, neqF, or_false, false_or, or_self, or_true, true_or, and_self, and_true, true_and, and_false, false_and, not_true_eq_false, not_false_eq_true, f_X12_isSort, f_X12_isDay, f_X11_isSort, f_X11_isDay, inI, inP, f_X5_size, f_X5_isFull, f_X11_now, f_X2_isKind, f_X2_has, f_X3_has, f_X8_hasPage, f_X8_hasAllPages, f_X8_stands, f_X1_isPrinted, f_X1_rule, f_X9_has, f_X9_isFull, f_X12_isPage, f_X12_isVerse, sC_s, sC_n, sC_2, sN_1, sN_s, sN_n, sN_2, sS_1, sS_2, sS_s, sS_n, upd_s, upd_e, upd_n, rAt, rPut, rAdd, rSwap, rPush, rNumber, cp_0, cp_1, cp_2, cp_3, cp_4, cp_5, cp_6, cp_7, cp_8, cp_9, cp_10, cp_11, cp_12, cp_13, cp_14, cp_15, cp_16, cp_17, cp_18, cp_19, cp_20, cp_21, cp_22, cp_23, cp_24, cp_25, cp_26, cp_27, cp_28, cp_29, cp_30, cp_31, cp_32, cp_33, cp_34, cp_35, cp_36, cp_37, cp_38, cp_39, cp_40, cp_41, cp_42, cp_43, cp_44, cp_45, cp_46, cp_47, cp_48, cp_49, cp_50, cp_51, cp_52, cp_53, cp_54, cp_55, cp_56, cp_57, h34]
  · intro hnm
    rw [f_X12_sets_L203, if_neg c1, if_neg cidx, nmk_e, e8', isl, Option.bind_some, nmk_e, if_pos (show nI 0 = (0 : Int32) from rfl), if_neg c3, nmk_e, e33, nmk_e]
    refine (h465 _).trans ?_
    unfold yE
    simp (disch := omega) only [↓nmk_e, ↓reduceIte, Option.bind_some, Option.map_some, lit, ofN, nI_add, pk_sub, pk_mul, nI_clamp, nI_leI, nI_ltI, nI_eq, pk_div, nI_an, nleT, nleF, nltT, nltF, neqT, neqF, or_false, false_or, or_self, or_true, true_or, and_self, and_true, true_and, and_false, false_and, not_true_eq_false, not_false_eq_true, f_X12_isSort, f_X12_isDay, f_X11_isSort, f_X11_isDay, inI, inP, f_X5_size, f_X5_isFull, f_X11_now, f_X2_isKind, f_X2_has, f_X3_has, f_X8_hasPage, f_X8_hasAllPages, f_X8_stands, f_X1_isPrinted, f_X1_rule, f_X9_has, f_X9_isFull, f_X12_isPage, f_X12_isVerse, sC_s, sC_n, sC_2, sN_1, sN_s, sN_n, sN_2, sS_1, sS_2, sS_s, sS_n, upd_s, upd_e, upd_n, rAt, rPut, rAdd, rSwap, rPush, rNumber, cp_0, cp_1, cp_2, cp_3, cp_4, cp_5, cp_6, cp_7, cp_8, cp_9, cp_10, cp_11, cp_12, cp_13, cp_14, cp_15, cp_16, cp_17, cp_18, cp_19, cp_20, cp_21, cp_22, cp_23, cp_24, cp_25, cp_26, cp_27, cp_28, cp_29, cp_30, cp_31, cp_32, cp_33, cp_34, cp_35, cp_36, cp_37, cp_38, cp_39, cp_40, cp_41, cp_42, cp_43, cp_44, cp_45, cp_46, cp_47, cp_48, cp_49, cp_50, cp_51, cp_52, cp_53, cp_54, cp_55, cp_56, cp_57, h34, h18]
/-- what both have set so far -/
def Outs (u y : CW) (k L : Nat) : Prop := u.2.2 8 = nI L ∧ y.2.2 18 = nI L ∧ 1 ≤ L ∧ L ≤ k + 1 ∧ (∀ i, i < L → u.1 47 i = y.1 10 i) ∧ u.2.2 9 = y.2.2 19 ∧ (∀ c, c < 27 → u.1 48 c = y.1 11 c) ∧ y.2.2 20 = y.1 11 26 ∧ (∀ i, i < 60 → u.1 49 i = nI (if y.1 9 i = nI 1 then 1 else 0)) ∧ ∀ i, k ≤ i → i < 61 → y.1 9 i = nI 0
theorem Outs.lfr {u u1 y : CW} {k L : Nat} (h : Outs u y k L) (hF : LFr u u1) : Outs u1 y k L := by
  obtain ⟨a1, a2, a3, a4, a5, a6, a7, a8, a9, a10⟩ := h
  refine ⟨?_, a2, a3, a4, ?_, ?_, ?_, a8, ?_, a10⟩
  · rw [hF.2.2 8 (by decide)]; exact a1
  · rw [hF.1 47 (by decide)]; exact a5
  · rw [hF.2.2 9 (by decide)]; exact a6
  · rw [hF.1 48 (by decide)]; exact a7
  · rw [hF.1 49 (by decide)]; exact a9
theorem Outs.up {u y : CW} {k k' L : Nat} (h : Outs u y k L) (hk : k ≤ k') : Outs u y k' L := by
  obtain ⟨a1, a2, a3, a4, a5, a6, a7, a8, a9, a10⟩ := h
  exact ⟨a1, a2, a3, by omega, a5, a6, a7, a8, a9, fun i h1 h2 => a10 i (by omega) h2⟩
theorem add0 (x : Int32) : x + nI 0 = x := by
  show x + 0 = x
  exact Int32.add_zero x
/-- after a piece -/
theorem Outs.pieceOne {u y : CW} {k c L : Nat} (h : Outs u y k L) (hk : k < 60) (hc : c < 26) : Outs (sC (sC u 48 c (u.1 48 c + nI 1)) 49 k (nI 1)) (yA y k 1 c) (k + 1) L := by
  obtain ⟨a1, a2, a3, a4, a5, a6, a7, a8, a9, a10⟩ := h
  unfold yA
  refine ⟨a1, ?_, a3, by omega, fun i hi => ?_, ?_, fun d hd => ?_, ?_, fun i hi => ?_, fun i h1 h2 => ?_⟩
  · simp (disch := omega) only [sC_s, sC_n, sC_2, sN_1, sN_s, sN_n, sN_2, sS_1, sS_2, sS_s, sS_n, upd_s, upd_e, upd_n]; exact a2
  · simp (disch := omega) only [sC_s, sC_n, sC_2, sN_1, sN_s, sN_n, sN_2, sS_1, sS_2, sS_s, sS_n, upd_s, upd_e, upd_n]; exact a5 i hi
  · simp (disch := omega) only [sC_s, sC_n, sC_2, sN_1, sN_s, sN_n, sN_2, sS_1, sS_2, sS_s, sS_n, upd_s, upd_e, upd_n, ↓reduceIte, add0]; exact a6
  · by_cases e : d = c
    · subst e
      simp (disch := omega) only [sC_s, sC_n, sC_2, sN_1, sN_s, sN_n, sN_2, sS_1, sS_2, sS_s, sS_n, upd_s, upd_e, upd_n, ↓reduceIte]
      rw [a7 d hd]
    · simp (disch := omega) only [sC_s, sC_n, sC_2, sN_1, sN_s, sN_n, sN_2, sS_1, sS_2, sS_s, sS_n, upd_s, upd_e, upd_n]; exact a7 d hd
  · simp (disch := omega) only [sC_s, sC_n, sC_2, sN_1, sN_s, sN_n, sN_2, sS_1, sS_2, sS_s, sS_n, upd_s, upd_e, upd_n, ↓reduceIte, add0]; exact a8
  · by_cases e : i = k
    · subst e
      simp (disch := omega) only [sC_s, sC_n, sC_2, sN_1, sN_s, sN_n, sN_2, sS_1, sS_2, sS_s, sS_n, upd_s, upd_e, upd_n, ↓reduceIte]
    · simp (disch := omega) only [sC_s, sC_n, sC_2, sN_1, sN_s, sN_n, sN_2, sS_1, sS_2, sS_s, sS_n, upd_s, upd_e, upd_n]; exact a9 i hi
  · simp (disch := omega) only [sC_s, sC_n, sC_2, sN_1, sN_s, sN_n, sN_2, sS_1, sS_2, sS_s, sS_n, upd_s, upd_e, upd_n]; exact a10 i (by omega) h2
theorem Outs.pieceMore {u y : CW} {k c n L : Nat} (h : Outs u y k L) (hk : k < 60) (hc : c < 26) (hn : n = 2 ∨ n = 3) : Outs (sS u 9 (u.2.2 9 + nI 1)) (yA y k n c) (k + n) L := by
  obtain ⟨a1, a2, a3, a4, a5, a6, a7, a8, a9, a10⟩ := h
  have n1 : ¬ n = 1 := by omega
  have nn : ¬ nI n = nI 1 := by rcases hn with rfl | rfl <;> decide
  unfold yA
  rw [if_neg n1, if_neg n1]
  refine ⟨?_, ?_, a3, by omega, fun i hi => ?_, ?_, fun d hd => ?_, ?_, fun i hi => ?_, fun i h1 h2 => ?_⟩
  · simp (disch := omega) only [sC_s, sC_n, sC_2, sN_1, sN_s, sN_n, sN_2, sS_1, sS_2, sS_s, sS_n, upd_s, upd_e, upd_n]; exact a1
  · simp (disch := omega) only [sC_s, sC_n, sC_2, sN_1, sN_s, sN_n, sN_2, sS_1, sS_2, sS_s, sS_n, upd_s, upd_e, upd_n]; exact a2
  · simp (disch := omega) only [sC_s, sC_n, sC_2, sN_1, sN_s, sN_n, sN_2, sS_1, sS_2, sS_s, sS_n, upd_s, upd_e, upd_n]; exact a5 i hi
  · simp (disch := omega) only [sC_s, sC_n, sC_2, sN_1, sN_s, sN_n, sN_2, sS_1, sS_2, sS_s, sS_n, upd_s, upd_e, upd_n]; rw [a6]
  · by_cases e : d = c
    · subst e
      simp (disch := omega) only [sC_s, sC_n, sC_2, sN_1, sN_s, sN_n, sN_2, sS_1, sS_2, sS_s, sS_n, upd_s, upd_e, upd_n, add0]
      exact a7 d hd
    · simp (disch := omega) only [sC_s, sC_n, sC_2, sN_1, sN_s, sN_n, sN_2, sS_1, sS_2, sS_s, sS_n, upd_s, upd_e, upd_n]; exact a7 d hd
  · simp (disch := omega) only [sC_s, sC_n, sC_2, sN_1, sN_s, sN_n, sN_2, sS_1, sS_2, sS_s, sS_n, upd_s, upd_e, upd_n]; exact a8
  · by_cases e : i = k
    · subst e
      have h9 := a9 i hi
      rw [a10 i (Nat.le_refl _) (by omega), if_neg (by decide)] at h9
      simp (disch := omega) only [sC_s, sC_n, sC_2, sN_1, sN_s, sN_n, sN_2, sS_1, sS_2, sS_s, sS_n, upd_s, upd_e, upd_n]
      rw [if_neg nn]; exact h9
    · simp (disch := omega) only [sC_s, sC_n, sC_2, sN_1, sN_s, sN_n, sN_2, sS_1, sS_2, sS_s, sS_n, upd_s, upd_e, upd_n]; exact a9 i hi
  · simp (disch := omega) only [sC_s, sC_n, sC_2, sN_1, sN_s, sN_n, sN_2, sS_1, sS_2, sS_s, sS_n, upd_s, upd_e, upd_n]; exact a10 i (by omega) h2
theorem Outs.endB {u y : CW} {k L : Nat} (h : Outs u y k L) (hk : k < 60) : Outs (sS (sC u 47 L (nI (k + 1))) 8 (nI (L + 1))) (yE y L (k + 1)) (k + 1) (L + 1) := by
  obtain ⟨a1, a2, a3, a4, a5, a6, a7, a8, a9, a10⟩ := h
  unfold yE
  refine ⟨?_, ?_, by omega, by omega, fun i hi => ?_, ?_, fun d hd => ?_, ?_, fun i hi => ?_, fun i h1 h2 => ?_⟩
  · simp (disch := omega) only [sC_s, sC_n, sC_2, sN_1, sN_s, sN_n, sN_2, sS_1, sS_2, sS_s, sS_n, upd_s, upd_e, upd_n]
  · simp (disch := omega) only [sC_s, sC_n, sC_2, sN_1, sN_s, sN_n, sN_2, sS_1, sS_2, sS_s, sS_n, upd_s, upd_e, upd_n]
  · by_cases e : i = L
    · subst e
      simp (disch := omega) only [sC_s, sC_n, sC_2, sN_1, sN_s, sN_n, sN_2, sS_1, sS_2, sS_s, sS_n, upd_s, upd_e, upd_n]
    · simp (disch := omega) only [sC_s, sC_n, sC_2, sN_1, sN_s, sN_n, sN_2, sS_1, sS_2, sS_s, sS_n, upd_s, upd_e, upd_n]; exact a5 i (by omega)
  · simp (disch := omega) only [sC_s, sC_n, sC_2, sN_1, sN_s, sN_n, sN_2, sS_1, sS_2, sS_s, sS_n, upd_s, upd_e, upd_n]; exact a6
  · simp (disch := omega) only [sC_s, sC_n, sC_2, sN_1, sN_s, sN_n, sN_2, sS_1, sS_2, sS_s, sS_n, upd_s, upd_e, upd_n]; exact a7 d hd
  · simp (disch := omega) only [sC_s, sC_n, sC_2, sN_1, sN_s, sN_n, sN_2, sS_1, sS_2, sS_s, sS_n, upd_s, upd_e, upd_n]; exact a8
  · simp (disch := omega) only [sC_s, sC_n, sC_2, sN_1, sN_s, sN_n, sN_2, sS_1, sS_2, sS_s, sS_n, upd_s, upd_e, upd_n]; exact a9 i hi
  · simp (disch := omega) only [sC_s, sC_n, sC_2, sN_1, sN_s, sN_n, sN_2, sS_1, sS_2, sS_s, sS_n, upd_s, upd_e, upd_n]; exact a10 i (by omega) h2
theorem Outs.endL {u y : CW} {k L : Nat} (h : Outs u y k L) (hk : k ≤ 60) (hL : L ≤ k) : Outs (sS (sC (sC u 48 26 (u.1 48 26 + nI 1)) 47 L (nI k)) 8 (nI (L + 1))) (yB y L k) k (L + 1) := by
  obtain ⟨a1, a2, a3, a4, a5, a6, a7, a8, a9, a10⟩ := h
  unfold yB
  refine ⟨?_, ?_, by omega, by omega, fun i hi => ?_, ?_, fun d hd => ?_, ?_, fun i hi => ?_, fun i h1 h2 => ?_⟩
  · simp (disch := omega) only [sC_s, sC_n, sC_2, sN_1, sN_s, sN_n, sN_2, sS_1, sS_2, sS_s, sS_n, upd_s, upd_e, upd_n]
  · simp (disch := omega) only [sC_s, sC_n, sC_2, sN_1, sN_s, sN_n, sN_2, sS_1, sS_2, sS_s, sS_n, upd_s, upd_e, upd_n]
  · by_cases e : i = L
    · subst e
      simp (disch := omega) only [sC_s, sC_n, sC_2, sN_1, sN_s, sN_n, sN_2, sS_1, sS_2, sS_s, sS_n, upd_s, upd_e, upd_n]
    · simp (disch := omega) only [sC_s, sC_n, sC_2, sN_1, sN_s, sN_n, sN_2, sS_1, sS_2, sS_s, sS_n, upd_s, upd_e, upd_n]; exact a5 i (by omega)
  · simp (disch := omega) only [sC_s, sC_n, sC_2, sN_1, sN_s, sN_n, sN_2, sS_1, sS_2, sS_s, sS_n, upd_s, upd_e, upd_n]; exact a6
  · by_cases e : d = 26
    · subst e
      simp (disch := omega) only [sC_s, sC_n, sC_2, sN_1, sN_s, sN_n, sN_2, sS_1, sS_2, sS_s, sS_n, upd_s, upd_e, upd_n]
      rw [a7 26 (by decide)]
    · simp (disch := omega) only [sC_s, sC_n, sC_2, sN_1, sN_s, sN_n, sN_2, sS_1, sS_2, sS_s, sS_n, upd_s, upd_e, upd_n]; exact a7 d hd
  · simp (disch := omega) only [sC_s, sC_n, sC_2, sN_1, sN_s, sN_n, sN_2, sS_1, sS_2, sS_s, sS_n, upd_s, upd_e, upd_n]; rw [a8]
  · simp (disch := omega) only [sC_s, sC_n, sC_2, sN_1, sN_s, sN_n, sN_2, sS_1, sS_2, sS_s, sS_n, upd_s, upd_e, upd_n]; exact a9 i hi
  · simp (disch := omega) only [sC_s, sC_n, sC_2, sN_1, sN_s, sN_n, sN_2, sS_1, sS_2, sS_s, sS_n, upd_s, upd_e, upd_n]; exact a10 i h1 h2
