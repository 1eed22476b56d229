/-! the reference's table -/
/-- what the reference's world holds as it reckons -/
def EnvR (y : CW) (x z : Nat) (ch WD : Nat → Nat) (A : CA) : Prop := VR (y.1 0) x z ch ∧ RQ3 y A ∧ okA A ∧ (∀ c, c < 27 → y.1 0 (20 + c) = nI (WD c) ∧ 1 ≤ WD c ∧ WD c ≤ 9)
def PA (z : Nat) (A : CA) (WD : Nat → Nat) : PP := (z, colN A, leaN A, mosN A, tN (A.1 5), tN (A.1 6), WD 26)
def TA (y : CW) (k w h : Nat) : Nat := tN (y.1 8 (82 * k + 2 * w + h))
def TAok (y : CW) (A : CA) (z k0 : Nat) : Prop := ∀ k, k0 ≤ k → k ≤ z → ∀ w, w ≤ colN A → ∀ h, h < 2 → y.1 8 (82 * k + 2 * w + h) = nI (TA y k w h) ∧ TA y k w h ≤ EE
theorem EnvR.ok {y : CW} {x z : Nat} {ch WD : Nat → Nat} {A : CA} (h : EnvR y x z ch WD A) : okP (PA z A WD) (ltF z ch) (pwF WD A.2.1 z ch) (puF A.2.1 z ch) ∧ y.1 3 5 = nI (tN (A.1 5)) ∧ y.1 3 6 = nI (tN (A.1 6)) ∧ tN (A.1 5) ≤ 9 ∧ tN (A.1 6) ≤ 9 := by
  obtain ⟨hV, ⟨r1, r2, r3, r4, r5, r6⟩, ⟨o1, o2, o3, o4⟩, hW⟩ := h
  obtain ⟨b5, c5⟩ := bdt (by decide) o2
  obtain ⟨b6, c6⟩ := bdt (by decide) o3
  refine ⟨⟨fun k hk => (ltF_iff.mp hk).1, fun k n n1 n3 hp => ?_, fun k n => ?_, c5⟩, r4.trans b5, r5.trans b6, c5, c6⟩
  · unfold pwF at hp
    show k + n ≤ z
    by_cases e1 : n = 1
    · rw [if_pos e1] at hp
      by_cases e2 : ltF z ch k = true
      · have := (ltF_iff.mp e2).1; omega
      · rw [if_neg e2] at hp; omega
    · rw [if_neg e1] at hp
      by_cases e2 : fit z ch k n = true
      · unfold fit at e2
        rw [Bool.and_eq_true, Bool.and_eq_true, Bool.or_eq_true, decide_eq_true_iff] at e2
        obtain ⟨⟨f1, f2⟩, f3⟩ := e2
        have g2 := (ltF_iff.mp f2).1
        rcases f3 with f3 | f3
        · omega
        · have := (ltF_iff.mp f3).1; omega
      · rw [if_neg e2] at hp; omega
  · unfold puF
    split
    · omega
    · split
      · cases hm : A.2.1 (nI (fkN ch k n)) with
        | none => exact Nat.zero_le _
        | some p => exact (bdt (by decide) (o4 _ p.1 p.2 hm).2.2).2
      · omega
theorem l_rest {y : CW} {A : CA} {z k0 k w h : Nat} (hc : y.1 3 2 = nI (colN A)) (hT : TAok y A z k0) (hk0 : k0 ≤ k) (hk : k ≤ z) (hz : z ≤ 60) (hw : w ≤ 80) (hh : h < 2) : f_X12_restOf y (nI k) (nI w) (nI h) = some (nI (if colN A < w then EE else TA y k w h)) ∧ (if colN A < w then EE else TA y k w h) ≤ EE := by
  have hb := colN_b A
  unfold f_X12_restOf
  by_cases c : colN A < w
  · rw [if_pos c]
    refine ⟨?_, Nat.le_refl _⟩
    simp (disch := omega) only [↓nmk_e, ↓reduceIte, Option.bind_some, Option.map_some, lit, ofN, nI_add, pk_sub, pk_mul, nI_clamp, nI_leI, nI_ltI, nI_eq, pk_div, nI_an, nleT, nleF, nltT, nltF, neqT, neqF, or_false, false_or, or_self, or_true, true_or, and_self, and_true, true_and, and_false, false_and, not_true_eq_false, not_false_eq_true, f_X12_isSort, f_X12_isDay, f_X11_isSort, f_X11_isDay, inI, inP, f_X5_size, f_X5_isFull, f_X11_now, f_X2_isKind, f_X2_has, f_X3_has, f_X8_hasPage, f_X8_hasAllPages, f_X8_stands, f_X1_isPrinted, f_X1_rule, f_X9_has, f_X9_isFull, f_X12_isPage, f_X12_isVerse, sC_s, sC_n, sC_2, sN_1, sN_s, sN_n, sN_2, sS_1, sS_2, sS_s, sS_n, upd_s, upd_e, upd_n, rAt, rPut, rAdd, rSwap, rPush, rNumber, cp_0, cp_1, cp_2, cp_3, cp_4, cp_5, cp_6, cp_7, cp_8, cp_9, cp_10, cp_11, cp_12, cp_13, cp_14, cp_15, cp_16, cp_17, cp_18, cp_19, cp_20, cp_21, cp_22, cp_23, cp_24, cp_25, cp_26, cp_27, cp_28, cp_29, cp_30, cp_31, cp_32, cp_33, cp_34, cp_35, cp_36, cp_37, cp_38, cp_39, cp_40, cp_41, cp_42, cp_43, cp_44, cp_45, cp_46, cp_47, cp_48, cp_49, cp_50, cp_51, cp_52, cp_53, cp_54, cp_55, cp_56, cp_57, hc]
  · rw [if_neg c]
    obtain ⟨e1, e2⟩ := hT k hk0 hk w (by omega) h hh
    refine ⟨?_, e2⟩
    simp (disch := omega) only [↓nmk_e, ↓reduceIte, Option.bind_some, Option.map_some, lit, ofN, nI_add, pk_sub, pk_mul, nI_clamp, nI_leI, nI_ltI, nI_eq, pk_div, nI_an, nleT, nleF, nltT, nltF, neqT, neqF, or_false, false_or, or_self, or_true, true_or, and_self, and_true, true_and, and_false, false_and, not_true_eq_false, not_false_eq_true, f_X12_isSort, f_X12_isDay, f_X11_isSort, f_X11_isDay, inI, inP, f_X5_size, f_X5_isFull, f_X11_now, f_X2_isKind, f_X2_has, f_X3_has, f_X8_hasPage, f_X8_hasAllPages, f_X8_stands, f_X1_isPrinted, f_X1_rule, f_X9_has, f_X9_isFull, f_X12_isPage, f_X12_isVerse, sC_s, sC_n, sC_2, sN_1, sN_s, sN_n, sN_2, sS_1, sS_2, sS_s, sS_n, upd_s, upd_e, upd_n, rAt, rPut, rAdd, rSwap, rPush, rNumber, cp_0, cp_1, cp_2, cp_3, cp_4, cp_5, cp_6, cp_7, cp_8, cp_9, cp_10, cp_11, cp_12, cp_13, cp_14, cp_15, cp_16, cp_17, cp_18, cp_19, cp_20, cp_21, cp_22, cp_23, cp_24, cp_25, cp_26, cp_27, cp_28, cp_29, cp_30, cp_31, cp_32, cp_33, cp_34, cp_35, cp_36, cp_37, cp_38, cp_39, cp_40, cp_41, cp_42, cp_43, cp_44, cp_45, cp_46, cp_47, cp_48, cp_49, cp_50, cp_51, cp_52, cp_53, cp_54, cp_55, cp_56, cp_57, hc, e1]
theorem l_go {y : CW} {x z k n w : Nat} {ch WD : Nat → Nat} {A : CA} (h : EnvR y x z ch WD A) (hT : TAok y A z (k + 1)) (hk : ltF z ch k = true) (hn : n = 1 ∨ n = 2 ∨ n = 3) (hw : w ≤ colN A) : f_X12_goingOn y (nI x) (nI k) (nI n) (nI w) = some (nI (goA (PA z A WD) (ltF z ch) (pwF WD A.2.1 z ch) (puF A.2.1 z ch) (TA y) k n w)) ∧ goA (PA z A WD) (ltF z ch) (pwF WD A.2.1 z ch) (puF A.2.1 z ch) (TA y) k n w ≤ EE + 9 := by
  have hb := colN_b A
  obtain ⟨hP, -⟩ := h.ok
  obtain ⟨hV, hQ, hA, hW⟩ := h
  have hz := hV.2.2.1
  obtain ⟨w1, w2, w3, w4⟩ := l_wide (n := n) hV hQ.2.2.2.2.2 hQ.2.2.2.2.2.2.1 hA.2.2.2 (fun c hc => hW c (by omega)) hk hn
  have hkn := hP.2.1 k n (by omega) (by omega)
  unfold f_X12_goingOn goA
  rw [w1]
  generalize pwF WD A.2.1 z ch k n = p at *
  generalize puF A.2.1 z ch k n = u at *
  by_cases c0 : p = 0
  · rw [if_pos c0, c0]
    refine ⟨?_, by omega⟩
    simp (disch := omega) only [↓nmk_e, ↓reduceIte, Option.bind_some, Option.map_some, lit, ofN, nI_add, pk_sub, pk_mul, nI_clamp, nI_leI, nI_ltI, nI_eq, pk_div, nI_an, nleT, nleF, nltT, nltF, neqT, neqF, or_false, false_or, or_self, or_true, true_or, and_self, and_true, true_and, and_false, false_and, not_true_eq_false, not_false_eq_true, f_X12_isSort, f_X12_isDay, f_X11_isSort, f_X11_isDay, inI, inP, f_X5_size, f_X5_isFull, f_X11_now, f_X2_isKind, f_X2_has, f_X3_has, f_X8_hasPage, f_X8_hasAllPages, f_X8_stands, f_X1_isPrinted, f_X1_rule, f_X9_has, f_X9_isFull, f_X12_isPage, f_X12_isVerse, sC_s, sC_n, sC_2, sN_1, sN_s, sN_n, sN_2, sS_1, sS_2, sS_s, sS_n, upd_s, upd_e, upd_n, rAt, rPut, rAdd, rSwap, rPush, rNumber, cp_0, cp_1, cp_2, cp_3, cp_4, cp_5, cp_6, cp_7, cp_8, cp_9, cp_10, cp_11, cp_12, cp_13, cp_14, cp_15, cp_16, cp_17, cp_18, cp_19, cp_20, cp_21, cp_22, cp_23, cp_24, cp_25, cp_26, cp_27, cp_28, cp_29, cp_30, cp_31, cp_32, cp_33, cp_34, cp_35, cp_36, cp_37, cp_38, cp_39, cp_40, cp_41, cp_42, cp_43, cp_44, cp_45, cp_46, cp_47, cp_48, cp_49, cp_50, cp_51, cp_52, cp_53, cp_54, cp_55, cp_56, cp_57]
  · rw [if_neg c0]
    have hle : k + n ≤ z := hkn (by omega)
    have i1 := l_isL hV (k := k + n) (by omega)
    have hq : ∃ q, q = (if ltF z ch (k + n) = true then 1 else 0) ∧ q < 2 := ⟨_, rfl, by split <;> omega⟩
    obtain ⟨q, hq, hq2⟩ := hq
    rw [← hq] at i1
    obtain ⟨r1, r2⟩ := l_rest hQ.1 hT (k := k + n) (w := w + p) (h := q) (by omega) hle hz (by omega) hq2
    have e : (if (PA z A WD).2.1 < w + p then EE else TA y (k + n) (w + p) (if ltF z ch (k + n) = true then 1 else 0)) = (if colN A < w + p then EE else TA y (k + n) (w + p) q) := by rw [hq]; rfl
    rw [e]
    generalize (if colN A < w + p then EE else TA y (k + n) (w + p) q) = R at *
    by_cases cq : q = 0
    · rw [cq] at i1 r1
      refine ⟨?_, by omega⟩
      simp (disch := omega) only [↓nmk_e, ↓reduceIte, Option.bind_some, Option.map_some, lit, ofN, nI_add, pk_sub, pk_mul, nI_clamp, nI_leI, nI_ltI, nI_eq, pk_div, nI_an, nleT, nleF, nltT, nltF, neqT, neqF, or_false, false_or, or_self, or_true, true_or, and_self, and_true, true_and, and_false, false_and, not_true_eq_false, not_false_eq_true, f_X12_isSort, f_X12_isDay, f_X11_isSort, f_X11_isDay, inI, inP, f_X5_size, f_X5_isFull, f_X11_now, f_X2_isKind, f_X2_has, f_X3_has, f_X8_hasPage, f_X8_hasAllPages, f_X8_stands, f_X1_isPrinted, f_X1_rule, f_X9_has, f_X9_isFull, f_X12_isPage, f_X12_isVerse, sC_s, sC_n, sC_2, sN_1, sN_s, sN_n, sN_2, sS_1, sS_2, sS_s, sS_n, upd_s, upd_e, upd_n, rAt, rPut, rAdd, rSwap, rPush, rNumber, cp_0, cp_1, cp_2, cp_3, cp_4, cp_5, cp_6, cp_7, cp_8, cp_9, cp_10, cp_11, cp_12, cp_13, cp_14, cp_15, cp_16, cp_17, cp_18, cp_19, cp_20, cp_21, cp_22, cp_23, cp_24, cp_25, cp_26, cp_27, cp_28, cp_29, cp_30, cp_31, cp_32, cp_33, cp_34, cp_35, cp_36, cp_37, cp_38, cp_39, cp_40, cp_41, cp_42, cp_43, cp_44, cp_45, cp_46, cp_47, cp_48, cp_49, cp_50, cp_51, cp_52, cp_53, cp_54, cp_55, cp_56, cp_57, w3 (by omega), i1, r1]
    · have cq : q = 1 := by omega
      rw [cq] at i1 r1
      refine ⟨?_, by omega⟩
      simp (disch := omega) only [↓nmk_e, ↓reduceIte, Option.bind_some, Option.map_some, lit, ofN, nI_add, pk_sub, pk_mul, nI_clamp, nI_leI, nI_ltI, nI_eq, pk_div, nI_an, nleT, nleF, nltT, nltF, neqT, neqF, or_false, false_or, or_self, or_true, true_or, and_self, and_true, true_and, and_false, false_and, not_true_eq_false, not_false_eq_true, f_X12_isSort, f_X12_isDay, f_X11_isSort, f_X11_isDay, inI, inP, f_X5_size, f_X5_isFull, f_X11_now, f_X2_isKind, f_X2_has, f_X3_has, f_X8_hasPage, f_X8_hasAllPages, f_X8_stands, f_X1_isPrinted, f_X1_rule, f_X9_has, f_X9_isFull, f_X12_isPage, f_X12_isVerse, sC_s, sC_n, sC_2, sN_1, sN_s, sN_n, sN_2, sS_1, sS_2, sS_s, sS_n, upd_s, upd_e, upd_n, rAt, rPut, rAdd, rSwap, rPush, rNumber, cp_0, cp_1, cp_2, cp_3, cp_4, cp_5, cp_6, cp_7, cp_8, cp_9, cp_10, cp_11, cp_12, cp_13, cp_14, cp_15, cp_16, cp_17, cp_18, cp_19, cp_20, cp_21, cp_22, cp_23, cp_24, cp_25, cp_26, cp_27, cp_28, cp_29, cp_30, cp_31, cp_32, cp_33, cp_34, cp_35, cp_36, cp_37, cp_38, cp_39, cp_40, cp_41, cp_42, cp_43, cp_44, cp_45, cp_46, cp_47, cp_48, cp_49, cp_50, cp_51, cp_52, cp_53, cp_54, cp_55, cp_56, cp_57, w3 (by omega), i1, r1]
theorem l_br {y : CW} {x z k n w h' : Nat} {ch WD : Nat → Nat} {A : CA} (h : EnvR y x z ch WD A) (hT : TAok y A z (k + 1)) (hk : ltF z ch k = true) (hn : n = 1 ∨ n = 2 ∨ n = 3) (hw : w ≤ colN A) (hh : h' < 2) : f_X12_breaking y (nI x) (nI k) (nI n) (nI w) (nI h') = some (nI (brA (PA z A WD) (ltF z ch) (pwF WD A.2.1 z ch) (puF A.2.1 z ch) (TA y) k n w h')) ∧ brA (PA z A WD) (ltF z ch) (pwF WD A.2.1 z ch) (puF A.2.1 z ch) (TA y) k n w h' ≤ EE + 18 := by
  have hb := colN_b A
  obtain ⟨hP, o5, o6, b5, b6⟩ := h.ok
  obtain ⟨hV, hQ, hA, hW⟩ := h
  have hz := hV.2.2.1
  have hc := hQ.1
  obtain ⟨w1, w2, w3, w4⟩ := l_wide (n := n) hV hQ.2.2.2.2.2 hQ.2.2.2.2.2.2.1 hA.2.2.2 (fun c hc => hW c (by omega)) hk hn
  have hkn := hP.2.1 k n (by omega) (by omega)
  obtain ⟨d1, d2, d3⟩ := hW 26 (by decide)
  have d1 : y.1 0 46 = nI (WD 26) := d1
  unfold f_X12_breaking brA
  rw [w1]
  generalize pwF WD A.2.1 z ch k n = p at *
  generalize puF A.2.1 z ch k n = u at *
  have eP : (PA z A WD).2.2.2.2.2.2 = WD 26 := rfl
  have eQ : (PA z A WD).2.1 = colN A := rfl
  have eB : (PA z A WD).2.2.2.2.1 = tN (A.1 5) := rfl
  rw [eP, eQ, eB]
  by_cases c0 : p = 0
  · rw [if_neg (fun z => by omega), c0]
    refine ⟨?_, by omega⟩
    simp (disch := omega) only [↓nmk_e, ↓reduceIte, Option.bind_some, Option.map_some, lit, ofN, nI_add, pk_sub, pk_mul, nI_clamp, nI_leI, nI_ltI, nI_eq, pk_div, nI_an, nleT, nleF, nltT, nltF, neqT, neqF, or_false, false_or, or_self, or_true, true_or, and_self, and_true, true_and, and_false, false_and, not_true_eq_false, not_false_eq_true, f_X12_isSort, f_X12_isDay, f_X11_isSort, f_X11_isDay, inI, inP, f_X5_size, f_X5_isFull, f_X11_now, f_X2_isKind, f_X2_has, f_X3_has, f_X8_hasPage, f_X8_hasAllPages, f_X8_stands, f_X1_isPrinted, f_X1_rule, f_X9_has, f_X9_isFull, f_X12_isPage, f_X12_isVerse, sC_s, sC_n, sC_2, sN_1, sN_s, sN_n, sN_2, sS_1, sS_2, sS_s, sS_n, upd_s, upd_e, upd_n, rAt, rPut, rAdd, rSwap, rPush, rNumber, cp_0, cp_1, cp_2, cp_3, cp_4, cp_5, cp_6, cp_7, cp_8, cp_9, cp_10, cp_11, cp_12, cp_13, cp_14, cp_15, cp_16, cp_17, cp_18, cp_19, cp_20, cp_21, cp_22, cp_23, cp_24, cp_25, cp_26, cp_27, cp_28, cp_29, cp_30, cp_31, cp_32, cp_33, cp_34, cp_35, cp_36, cp_37, cp_38, cp_39, cp_40, cp_41, cp_42, cp_43, cp_44, cp_45, cp_46, cp_47, cp_48, cp_49, cp_50, cp_51, cp_52, cp_53, cp_54, cp_55, cp_56, cp_57]
  by_cases c1 : h' = 1
  · have hle : k + n ≤ z := hkn (by omega)
    have i1 := l_isL hV (k := k + n) (by omega)
    by_cases c2 : ltF z ch (k + n) = true
    · rw [if_pos c2] at i1
      by_cases c3 : w + p + WD 26 = colN A
      · rw [if_pos ⟨by omega, c1, c2, c3⟩]
        obtain ⟨r1, r2⟩ := l_rest hQ.1 hT (k := k + n) (w := 0) (h := 0) (by omega) hle hz (by omega) (by decide)
        rw [if_neg (Nat.not_lt_zero _)] at r1 r2
        generalize TA y (k + n) 0 0 = R at *
        refine ⟨?_, by omega⟩
        simp (disch := omega) only [↓nmk_e, ↓reduceIte, Option.bind_some, Option.map_some, lit, ofN, nI_add, pk_sub, pk_mul, nI_clamp, nI_leI, nI_ltI, nI_eq, pk_div, nI_an, nleT, nleF, nltT, nltF, neqT, neqF, or_false, false_or, or_self, or_true, true_or, and_self, and_true, true_and, and_false, false_and, not_true_eq_false, not_false_eq_true, f_X12_isSort, f_X12_isDay, f_X11_isSort, f_X11_isDay, inI, inP, f_X5_size, f_X5_isFull, f_X11_now, f_X2_isKind, f_X2_has, f_X3_has, f_X8_hasPage, f_X8_hasAllPages, f_X8_stands, f_X1_isPrinted, f_X1_rule, f_X9_has, f_X9_isFull, f_X12_isPage, f_X12_isVerse, sC_s, sC_n, sC_2, sN_1, sN_s, sN_n, sN_2, sS_1, sS_2, sS_s, sS_n, upd_s, upd_e, upd_n, rAt, rPut, rAdd, rSwap, rPush, rNumber, cp_0, cp_1, cp_2, cp_3, cp_4, cp_5, cp_6, cp_7, cp_8, cp_9, cp_10, cp_11, cp_12, cp_13, cp_14, cp_15, cp_16, cp_17, cp_18, cp_19, cp_20, cp_21, cp_22, cp_23, cp_24, cp_25, cp_26, cp_27, cp_28, cp_29, cp_30, cp_31, cp_32, cp_33, cp_34, cp_35, cp_36, cp_37, cp_38, cp_39, cp_40, cp_41, cp_42, cp_43, cp_44, cp_45, cp_46, cp_47, cp_48, cp_49, cp_50, cp_51, cp_52, cp_53, cp_54, cp_55, cp_56, cp_57, i1, d1, hc, w3 (by omega), o5, r1]
      · rw [if_neg (fun z => c3 z.2.2.2)]
        refine ⟨?_, by omega⟩
        simp (disch := omega) only [↓nmk_e, ↓reduceIte, Option.bind_some, Option.map_some, lit, ofN, nI_add, pk_sub, pk_mul, nI_clamp, nI_leI, nI_ltI, nI_eq, pk_div, nI_an, nleT, nleF, nltT, nltF, neqT, neqF, or_false, false_or, or_self, or_true, true_or, and_self, and_true, true_and, and_false, false_and, not_true_eq_false, not_false_eq_true, f_X12_isSort, f_X12_isDay, f_X11_isSort, f_X11_isDay, inI, inP, f_X5_size, f_X5_isFull, f_X11_now, f_X2_isKind, f_X2_has, f_X3_has, f_X8_hasPage, f_X8_hasAllPages, f_X8_stands, f_X1_isPrinted, f_X1_rule, f_X9_has, f_X9_isFull, f_X12_isPage, f_X12_isVerse, sC_s, sC_n, sC_2, sN_1, sN_s, sN_n, sN_2, sS_1, sS_2, sS_s, sS_n, upd_s, upd_e, upd_n, rAt, rPut, rAdd, rSwap, rPush, rNumber, cp_0, cp_1, cp_2, cp_3, cp_4, cp_5, cp_6, cp_7, cp_8, cp_9, cp_10, cp_11, cp_12, cp_13, cp_14, cp_15, cp_16, cp_17, cp_18, cp_19, cp_20, cp_21, cp_22, cp_23, cp_24, cp_25, cp_26, cp_27, cp_28, cp_29, cp_30, cp_31, cp_32, cp_33, cp_34, cp_35, cp_36, cp_37, cp_38, cp_39, cp_40, cp_41, cp_42, cp_43, cp_44, cp_45, cp_46, cp_47, cp_48, cp_49, cp_50, cp_51, cp_52, cp_53, cp_54, cp_55, cp_56, cp_57, i1, d1, hc]
    · rw [if_neg c2] at i1
      rw [if_neg (fun z => c2 z.2.2.1)]
      refine ⟨?_, by omega⟩
      simp (disch := omega) only [↓nmk_e, ↓reduceIte, Option.bind_some, Option.map_some, lit, ofN, nI_add, pk_sub, pk_mul, nI_clamp, nI_leI, nI_ltI, nI_eq, pk_div, nI_an, nleT, nleF, nltT, nltF, neqT, neqF, or_false, false_or, or_self, or_true, true_or, and_self, and_true, true_and, and_false, false_and, not_true_eq_false, not_false_eq_true, f_X12_isSort, f_X12_isDay, f_X11_isSort, f_X11_isDay, inI, inP, f_X5_size, f_X5_isFull, f_X11_now, f_X2_isKind, f_X2_has, f_X3_has, f_X8_hasPage, f_X8_hasAllPages, f_X8_stands, f_X1_isPrinted, f_X1_rule, f_X9_has, f_X9_isFull, f_X12_isPage, f_X12_isVerse, sC_s, sC_n, sC_2, sN_1, sN_s, sN_n, sN_2, sS_1, sS_2, sS_s, sS_n, upd_s, upd_e, upd_n, rAt, rPut, rAdd, rSwap, rPush, rNumber, cp_0, cp_1, cp_2, cp_3, cp_4, cp_5, cp_6, cp_7, cp_8, cp_9, cp_10, cp_11, cp_12, cp_13, cp_14, cp_15, cp_16, cp_17, cp_18, cp_19, cp_20, cp_21, cp_22, cp_23, cp_24, cp_25, cp_26, cp_27, cp_28, cp_29, cp_30, cp_31, cp_32, cp_33, cp_34, cp_35, cp_36, cp_37, cp_38, cp_39, cp_40, cp_41, cp_42, cp_43, cp_44, cp_45, cp_46, cp_47, cp_48, cp_49, cp_50, cp_51, cp_52, cp_53, cp_54, cp_55, cp_56, cp_57, i1]
  · rw [if_neg (fun z => c1 z.2.1)]
    refine ⟨?_, by omega⟩
    simp (disch := omega) only [↓nmk_e, ↓reduceIte, Option.bind_some, Option.map_some, lit, ofN, nI_add, pk_sub, pk_mul, nI_clamp, nI_leI, nI_ltI, nI_eq, pk_div, nI_an, nleT, nleF, nltT, nltF, neqT, neqF, or_false, false_or, or_self, or_true, true_or, and_self, and_true, true_and, and_false, false_and, not_true_eq_false, not_false_eq_true, f_X12_isSort, f_X12_isDay, f_X11_isSort, f_X11_isDay, inI, inP, f_X5_size, f_X5_isFull, f_X11_now, f_X2_isKind, f_X2_has, f_X3_has, f_X8_hasPage, f_X8_hasAllPages, f_X8_stands, f_X1_isPrinted, f_X1_rule, f_X9_has, f_X9_isFull, f_X12_isPage, f_X12_isVerse, sC_s, sC_n, sC_2, sN_1, sN_s, sN_n, sN_2, sS_1, sS_2, sS_s, sS_n, upd_s, upd_e, upd_n, rAt, rPut, rAdd, rSwap, rPush, rNumber, cp_0, cp_1, cp_2, cp_3, cp_4, cp_5, cp_6, cp_7, cp_8, cp_9, cp_10, cp_11, cp_12, cp_13, cp_14, cp_15, cp_16, cp_17, cp_18, cp_19, cp_20, cp_21, cp_22, cp_23, cp_24, cp_25, cp_26, cp_27, cp_28, cp_29, cp_30, cp_31, cp_32, cp_33, cp_34, cp_35, cp_36, cp_37, cp_38, cp_39, cp_40, cp_41, cp_42, cp_43, cp_44, cp_45, cp_46, cp_47, cp_48, cp_49, cp_50, cp_51, cp_52, cp_53, cp_54, cp_55, cp_56, cp_57]
theorem l_bl {y : CW} {x z k w u : Nat} {ch WD : Nat → Nat} {A : CA} (h : EnvR y x z ch WD A) (hT : TAok y A z (k + 1)) (hk : k < z) (hw : w ≤ colN A) (hu : leaN A ≤ u) (hu2 : u ≤ mosN A) : f_X12_blanked y (nI k) (nI w) (nI u) = some (nI (blA (PA z A WD) (TA y) k w u)) ∧ blA (PA z A WD) (TA y) k w u ≤ EE + 81 := by
  have hb := colN_b A
  have hb2 := leaN_b A
  have hb3 := mosN_b A
  obtain ⟨hP, o5, o6, b5, b6⟩ := h.ok
  obtain ⟨hV, hQ, hA, hW⟩ := h
  have hz := hV.2.2.1
  obtain ⟨r1, r2⟩ := l_rest hQ.1 hT (k := k + 1) (w := w + u) (h := 0) (by omega) (by omega) hz (by omega) (by decide)
  have hm : tN (A.1 6) * (u - leaN A) ≤ 9 * 9 := Nat.mul_le_mul b6 (by omega)
  unfold f_X12_blanked blA
  have e : (if (PA z A WD).2.1 < w + u then EE else TA y (k + 1) (w + u) 0) = (if colN A < w + u then EE else TA y (k + 1) (w + u) 0) := rfl
  rw [e]
  generalize (if colN A < w + u then EE else TA y (k + 1) (w + u) 0) = R at *
  have e2 : (PA z A WD).2.2.2.2.2.1 * (u - (PA z A WD).2.2.1) = tN (A.1 6) * (u - leaN A) := rfl
  rw [e2]
  have h2 := hQ.2.1
  refine ⟨?_, by omega⟩
  simp (disch := omega) only [↓nmk_e, ↓reduceIte, Option.bind_some, Option.map_some, lit, ofN, nI_add, pk_sub, pk_mul, nI_clamp, nI_leI, nI_ltI, nI_eq, pk_div, nI_an, nleT, nleF, nltT, nltF, neqT, neqF, or_false, false_or, or_self, or_true, true_or, and_self, and_true, true_and, and_false, false_and, not_true_eq_false, not_false_eq_true, f_X12_isSort, f_X12_isDay, f_X11_isSort, f_X11_isDay, inI, inP, f_X5_size, f_X5_isFull, f_X11_now, f_X2_isKind, f_X2_has, f_X3_has, f_X8_hasPage, f_X8_hasAllPages, f_X8_stands, f_X1_isPrinted, f_X1_rule, f_X9_has, f_X9_isFull, f_X12_isPage, f_X12_isVerse, sC_s, sC_n, sC_2, sN_1, sN_s, sN_n, sN_2, sS_1, sS_2, sS_s, sS_n, upd_s, upd_e, upd_n, rAt, rPut, rAdd, rSwap, rPush, rNumber, cp_0, cp_1, cp_2, cp_3, cp_4, cp_5, cp_6, cp_7, cp_8, cp_9, cp_10, cp_11, cp_12, cp_13, cp_14, cp_15, cp_16, cp_17, cp_18, cp_19, cp_20, cp_21, cp_22, cp_23, cp_24, cp_25, cp_26, cp_27, cp_28, cp_29, cp_30, cp_31, cp_32, cp_33, cp_34, cp_35, cp_36, cp_37, cp_38, cp_39, cp_40, cp_41, cp_42, cp_43, cp_44, cp_45, cp_46, cp_47, cp_48, cp_49, cp_50, cp_51, cp_52, cp_53, cp_54, cp_55, cp_56, cp_57, r1, o6, h2]
theorem l_en {y : CW} {x z k w : Nat} {ch WD : Nat → Nat} {A : CA} (h : EnvR y x z ch WD A) (hT : TAok y A z (k + 1)) (hk : k < z) (hw : w ≤ colN A) : f_X12_ended y (nI k) (nI w) = some (nI (enA (PA z A WD) (TA y) k w)) ∧ enA (PA z A WD) (TA y) k w ≤ EE := by
  have hb := colN_b A
  obtain ⟨hV, hQ, hA, hW⟩ := h
  have hz := hV.2.2.1
  have hc := hQ.1
  obtain ⟨r1, r2⟩ := l_rest hQ.1 hT (k := k + 1) (w := 0) (h := 0) (by omega) (by omega) hz (by omega) (by decide)
  rw [if_neg (Nat.not_lt_zero _)] at r1 r2
  unfold f_X12_ended enA
  have eQ : (PA z A WD).2.1 = colN A := rfl
  rw [eQ]
  by_cases c : w = colN A
  · rw [if_pos c, c]
    refine ⟨?_, r2⟩
    simp (disch := omega) only [↓nmk_e, ↓reduceIte, Option.bind_some, Option.map_some, lit, ofN, nI_add, pk_sub, pk_mul, nI_clamp, nI_leI, nI_ltI, nI_eq, pk_div, nI_an, nleT, nleF, nltT, nltF, neqT, neqF, or_false, false_or, or_self, or_true, true_or, and_self, and_true, true_and, and_false, false_and, not_true_eq_false, not_false_eq_true, f_X12_isSort, f_X12_isDay, f_X11_isSort, f_X11_isDay, inI, inP, f_X5_size, f_X5_isFull, f_X11_now, f_X2_isKind, f_X2_has, f_X3_has, f_X8_hasPage, f_X8_hasAllPages, f_X8_stands, f_X1_isPrinted, f_X1_rule, f_X9_has, f_X9_isFull, f_X12_isPage, f_X12_isVerse, sC_s, sC_n, sC_2, sN_1, sN_s, sN_n, sN_2, sS_1, sS_2, sS_s, sS_n, upd_s, upd_e, upd_n, rAt, rPut, rAdd, rSwap, rPush, rNumber, cp_0, cp_1, cp_2, cp_3, cp_4, cp_5, cp_6, cp_7, cp_8, cp_9, cp_10, cp_11, cp_12, cp_13, cp_14, cp_15, cp_16, cp_17, cp_18, cp_19, cp_20, cp_21, cp_22, cp_23, cp_24, cp_25, cp_26, cp_27, cp_28, cp_29, cp_30, cp_31, cp_32, cp_33, cp_34, cp_35, cp_36, cp_37, cp_38, cp_39, cp_40, cp_41, cp_42, cp_43, cp_44, cp_45, cp_46, cp_47, cp_48, cp_49, cp_50, cp_51, cp_52, cp_53, cp_54, cp_55, cp_56, cp_57, hc, r1]
  · rw [if_neg c]
    refine ⟨?_, Nat.le_refl _⟩
    simp (disch := omega) only [↓nmk_e, ↓reduceIte, Option.bind_some, Option.map_some, lit, ofN, nI_add, pk_sub, pk_mul, nI_clamp, nI_leI, nI_ltI, nI_eq, pk_div, nI_an, nleT, nleF, nltT, nltF, neqT, neqF, or_false, false_or, or_self, or_true, true_or, and_self, and_true, true_and, and_false, false_and, not_true_eq_false, not_false_eq_true, f_X12_isSort, f_X12_isDay, f_X11_isSort, f_X11_isDay, inI, inP, f_X5_size, f_X5_isFull, f_X11_now, f_X2_isKind, f_X2_has, f_X3_has, f_X8_hasPage, f_X8_hasAllPages, f_X8_stands, f_X1_isPrinted, f_X1_rule, f_X9_has, f_X9_isFull, f_X12_isPage, f_X12_isVerse, sC_s, sC_n, sC_2, sN_1, sN_s, sN_n, sN_2, sS_1, sS_2, sS_s, sS_n, upd_s, upd_e, upd_n, rAt, rPut, rAdd, rSwap, rPush, rNumber, cp_0, cp_1, cp_2, cp_3, cp_4, cp_5, cp_6, cp_7, cp_8, cp_9, cp_10, cp_11, cp_12, cp_13, cp_14, cp_15, cp_16, cp_17, cp_18, cp_19, cp_20, cp_21, cp_22, cp_23, cp_24, cp_25, cp_26, cp_27, cp_28, cp_29, cp_30, cp_31, cp_32, cp_33, cp_34, cp_35, cp_36, cp_37, cp_38, cp_39, cp_40, cp_41, cp_42, cp_43, cp_44, cp_45, cp_46, cp_47, cp_48, cp_49, cp_50, cp_51, cp_52, cp_53, cp_54, cp_55, cp_56, cp_57, hc]
theorem min_nI {a b : Nat} (ha : a < 2 ^ 31) (hb : b < 2 ^ 31) : (if nI a ≤ nI b then nI a else nI b) = nI (min a b) := by
  by_cases c : a ≤ b
  · rw [if_pos (nI_le c hb), Nat.min_eq_left c]
  · rw [if_neg (nI_ge (by omega) ha), Nat.min_eq_right (by omega)]
theorem mf_le (f : Nat → Nat) (n : Nat) : mf f n ≤ EE := by
  induction n with
  | zero => exact Nat.le_refl _
  | succ n ih => exact Nat.le_trans (Nat.min_le_left _ _) ih
theorem l_least {y : CW} {x z k w h' : Nat} {ch WD : Nat → Nat} {A : CA} (h : EnvR y x z ch WD A) (hT : TAok y A z (k + 1)) (hk : k < z) (hw : w ≤ colN A) (hh : h' < 2) : f_X12_leastOf y (nI x) (nI k) (nI w) (nI h') = some (nI (lsA (PA z A WD) (ltF z ch) (pwF WD A.2.1 z ch) (puF A.2.1 z ch) (TA y) k w h')) ∧ lsA (PA z A WD) (ltF z ch) (pwF WD A.2.1 z ch) (puF A.2.1 z ch) (TA y) k w h' ≤ EE := by
  have hb := colN_b A
  have hb2 := leaN_b A
  have hb3 := mosN_b A
  have hV := h.1
  have hQ := h.2.1
  have hz := hV.2.2.1
  have i1 := l_isL hV (k := k) (by omega)
  have hF : FU = 9996 + 1 + 1 + 1 + 1 := rfl
  have hEE : EE = 1000000 := rfl
  unfold f_X12_leastOf lsA
  by_cases c : ltF z ch k = true
  · rw [if_pos c] at i1
    rw [if_pos c]
    obtain ⟨g1, l1⟩ := l_go h hT c (n := 1) (.inl rfl) hw
    obtain ⟨g2, l2⟩ := l_go h hT c (n := 2) (.inr (.inl rfl)) hw
    obtain ⟨g3, l3⟩ := l_go h hT c (n := 3) (.inr (.inr rfl)) hw
    obtain ⟨k1, m1⟩ := l_br h hT c (n := 1) (.inl rfl) hw hh
    obtain ⟨k2, m2⟩ := l_br h hT c (n := 2) (.inr (.inl rfl)) hw hh
    obtain ⟨k3, m3⟩ := l_br h hT c (n := 3) (.inr (.inr rfl)) hw hh
    generalize goA (PA z A WD) (ltF z ch) (pwF WD A.2.1 z ch) (puF A.2.1 z ch) (TA y) k 1 w = a1 at *
    generalize goA (PA z A WD) (ltF z ch) (pwF WD A.2.1 z ch) (puF A.2.1 z ch) (TA y) k 2 w = a2 at *
    generalize goA (PA z A WD) (ltF z ch) (pwF WD A.2.1 z ch) (puF A.2.1 z ch) (TA y) k 3 w = a3 at *
    generalize brA (PA z A WD) (ltF z ch) (pwF WD A.2.1 z ch) (puF A.2.1 z ch) (TA y) k 1 w h' = b1 at *
    generalize brA (PA z A WD) (ltF z ch) (pwF WD A.2.1 z ch) (puF A.2.1 z ch) (TA y) k 2 w h' = b2 at *
    generalize brA (PA z A WD) (ltF z ch) (pwF WD A.2.1 z ch) (puF A.2.1 z ch) (TA y) k 3 w h' = b3 at *
    have step : ∀ q m n a b, n ≤ 3 → 1 ≤ n → m ≤ EE → a ≤ EE + 100 → b ≤ EE + 100 → f_X12_goingOn y (nI x) (nI k) (nI n) (nI w) = some (nI a) → f_X12_breaking y (nI x) (nI k) (nI n) (nI w) (nI h') = some (nI b) → f_X12_leastOf_L16 y (nI x) (nI k) (nI w) (nI h') (q + 1) (nI m) (nI n) = f_X12_leastOf_L16 y (nI x) (nI k) (nI w) (nI h') q (nI (min (min m a) b)) (nI (n - 1)) := fun q m n a b n3 n1 hm ha hb e1 e2 => by
      rw [f_X12_leastOf_L16, if_neg (nI_nle (by omega) (by omega)), e1, Option.bind_some, e2, Option.bind_some, nmk_e, nmk_e, nmk_e, min_nI (by omega) (by omega), min_nI (by omega) (by omega), show nI n + (-1) = nI (n - 1) from nI_an (a := n) (b := 1) n1]
    rw [i1, Option.bind_some, if_neg (show ¬ nI 1 = 0 by decide), hF]
    show f_X12_leastOf_L16 y (nI x) (nI k) (nI w) (nI h') (9996 + 1 + 1 + 1 + 1) (nI EE) (nI 3) = _ ∧ _
    rw [step _ EE 3 a3 b3 (by decide) (by decide) (Nat.le_refl _) (by omega) (by omega) g3 k3, step _ _ 2 a2 b2 (by decide) (by decide) (by omega) (by omega) (by omega) g2 k2, step _ _ 1 a1 b1 (by decide) (by decide) (by omega) (by omega) (by omega) g1 k1]
    refine ⟨?_, by omega⟩
    rw [f_X12_leastOf_L16, if_pos (show nI (1 - 1) ≤ 0 by decide)]
  · rw [if_neg c] at i1
    rw [if_neg c]
    obtain ⟨e1, e2⟩ := l_en h hT hk hw
    have h3 := hQ.2.1
    have h4 := hQ.2.2.1
    have key : ∀ J : Int32 → Option Int32, f_X12_leastOf_L94 y (nI k) (nI w) J FU (nI EE) (nI (leaN A)) = J (nI (mf (fun i => blA (PA z A WD) (TA y) k w (leaN A + i)) (mosN A + 1 - leaN A))) := fun J => by
      refine run1 (fun q i m => f_X12_leastOf_L94 y (nI k) (nI w) J q m i) (fun i m => leaN A ≤ i ∧ m = nI (mf (fun i => blA (PA z A WD) (TA y) k w (leaN A + i)) (i - leaN A))) (mosN A + 1) (fun r => r = J (nI (mf (fun i => blA (PA z A WD) (TA y) k w (leaN A + i)) (mosN A + 1 - leaN A)))) ?_ ?_ FU (leaN A) (nI EE) (by omega) (by unfold FU; omega) ⟨Nat.le_refl _, by rw [Nat.sub_self]; rfl⟩
      · rintro q m ⟨-, rfl⟩
        simp (disch := omega) only [f_X12_leastOf_L94, ↓nmk_e, ↓reduceIte, Option.bind_some, Option.map_some, lit, ofN, nI_add, pk_sub, pk_mul, nI_clamp, nI_leI, nI_ltI, nI_eq, pk_div, nI_an, nleT, nleF, nltT, nltF, neqT, neqF, or_false, false_or, or_self, or_true, true_or, and_self, and_true, true_and, and_false, false_and, not_true_eq_false, not_false_eq_true, f_X12_isSort, f_X12_isDay, f_X11_isSort, f_X11_isDay, inI, inP, f_X5_size, f_X5_isFull, f_X11_now, f_X2_isKind, f_X2_has, f_X3_has, f_X8_hasPage, f_X8_hasAllPages, f_X8_stands, f_X1_isPrinted, f_X1_rule, f_X9_has, f_X9_isFull, f_X12_isPage, f_X12_isVerse, sC_s, sC_n, sC_2, sN_1, sN_s, sN_n, sN_2, sS_1, sS_2, sS_s, sS_n, upd_s, upd_e, upd_n, rAt, rPut, rAdd, rSwap, rPush, rNumber, cp_0, cp_1, cp_2, cp_3, cp_4, cp_5, cp_6, cp_7, cp_8, cp_9, cp_10, cp_11, cp_12, cp_13, cp_14, cp_15, cp_16, cp_17, cp_18, cp_19, cp_20, cp_21, cp_22, cp_23, cp_24, cp_25, cp_26, cp_27, cp_28, cp_29, cp_30, cp_31, cp_32, cp_33, cp_34, cp_35, cp_36, cp_37, cp_38, cp_39, cp_40, cp_41, cp_42, cp_43, cp_44, cp_45, cp_46, cp_47, cp_48, cp_49, cp_50, cp_51, cp_52, cp_53, cp_54, cp_55, cp_56, cp_57, h4]
      · rintro q i m hi ⟨j1, rfl⟩
        obtain ⟨b1, b2⟩ := l_bl h hT hk hw (u := i) j1 (by omega)
        have hml := mf_le (fun i => blA (PA z A WD) (TA y) k w (leaN A + i)) (i - leaN A)
        refine .inr ⟨_, ?_, by omega, rfl⟩
        rw [show i + 1 - leaN A = (i - leaN A) + 1 by omega]
        show _ = f_X12_leastOf_L94 y (nI k) (nI w) J q (nI (min (mf _ (i - leaN A)) (blA (PA z A WD) (TA y) k w (leaN A + (i - leaN A))))) _
        rw [show leaN A + (i - leaN A) = i by omega, ← min_nI (by omega) (by omega)]
        simp (disch := omega) only [f_X12_leastOf_L94, ↓nmk_e, ↓reduceIte, Option.bind_some, lit, nI_add, nI_clamp, nI_ltI, nleT, nleF, nltT, nltF, neqT, neqF, or_false, false_or, or_self, or_true, true_or, and_self, and_true, true_and, and_false, false_and, not_true_eq_false, not_false_eq_true, h4, b1]
    have hml := mf_le (fun i => blA (PA z A WD) (TA y) k w (leaN A + i)) (mosN A + 1 - leaN A)
    have ePa : (PA z A WD).2.2.1 = leaN A := rfl
    have ePb : (PA z A WD).2.2.2.1 = mosN A := rfl
    rw [ePa, ePb]
    have key : ∀ J : Int32 → Option Int32, f_X12_leastOf_L94 y (nI k) (nI w) J FU (nI 1000000) (nI (leaN A)) = _ := key
    generalize mf (fun i => blA (PA z A WD) (TA y) k w (leaN A + i)) (mosN A + 1 - leaN A) = m at *
    generalize enA (PA z A WD) (TA y) k w = b at *
    refine ⟨?_, by omega⟩
    rw [← min_nI (by omega) (by omega)]
    simp (disch := omega) only [↓nmk_e, ↓reduceIte, Option.bind_some, lit, nI_clamp, nI_ltI, nI_eq, nleT, nleF, nltT, nltF, neqT, neqF, or_false, false_or, or_self, or_true, true_or, and_self, and_true, true_and, and_false, false_and, not_true_eq_false, not_false_eq_true, i1, h3, key, e1]
