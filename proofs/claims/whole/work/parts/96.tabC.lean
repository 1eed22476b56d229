/-! the class's table: choices -/
def EnvC (x : CW) (z : Nat) (ch WD : Nat → Nat) (A : CA) : Prop := 1 ≤ z ∧ z ≤ 60 ∧ x.2.1 40 = nI z ∧ (∀ i, i < z → x.1 40 i = (if 97 ≤ ch i then nI (ch i - 97) else -nI 1) ∧ (ch i = 32 ∨ (97 ≤ ch i ∧ ch i ≤ 122))) ∧ CQ3 x A ∧ okA A ∧ ∀ c, c < 27 → x.1 12 c = nI (WD c) ∧ 1 ≤ WD c ∧ WD c ≤ 9
theorem nIm1 {n : Nat} (h : n < 2 ^ 30) : (nI n = -nI 1) = False := eq_false fun z => by
  have := congrArg Int32.toInt z
  rw [nI_toInt (by omega), show (-nI 1).toInt = -1 from rfl] at this
  omega
theorem l_blk {x : CW} {z k : Nat} {ch WD : Nat → Nat} {A : CA} (h : EnvC x z ch WD A) (hk : k < z) : f_X6_isBlank x (nI k) = nI (if ltF z ch k = true then 0 else 1) := by
  obtain ⟨h1, h2, h3, h4, -⟩ := h
  obtain ⟨e, b⟩ := h4 k hk
  unfold f_X6_isBlank
  by_cases c : 97 ≤ ch k
  · rw [if_pos (ltF_iff.mpr ⟨hk, c⟩)]
    rw [if_pos c] at e
    simp (disch := omega) only [↓nmk_e, ↓reduceIte, Option.bind_some, Option.map_some, lit, ofN, nI_add, pk_sub, pk_mul, nI_clamp, nI_leI, nI_ltI, nI_eq, pk_div, nI_an, nleT, nleF, nltT, nltF, neqT, neqF, or_false, false_or, or_self, or_true, true_or, and_self, and_true, true_and, and_false, false_and, not_true_eq_false, not_false_eq_true, f_X12_isSort, f_X12_isDay, f_X11_isSort, f_X11_isDay, inI, inP, f_X5_size, f_X5_isFull, f_X11_now, f_X2_isKind, f_X2_has, f_X3_has, f_X8_hasPage, f_X8_hasAllPages, f_X8_stands, f_X1_isPrinted, f_X1_rule, f_X9_has, f_X9_isFull, f_X12_isPage, f_X12_isVerse, sC_s, sC_n, sC_2, sN_1, sN_s, sN_n, sN_2, sS_1, sS_2, sS_s, sS_n, upd_s, upd_e, upd_n, rAt, rPut, rAdd, rSwap, rPush, rNumber, cp_0, cp_1, cp_2, cp_3, cp_4, cp_5, cp_6, cp_7, cp_8, cp_9, cp_10, cp_11, cp_12, cp_13, cp_14, cp_15, cp_16, cp_17, cp_18, cp_19, cp_20, cp_21, cp_22, cp_23, cp_24, cp_25, cp_26, cp_27, cp_28, cp_29, cp_30, cp_31, cp_32, cp_33, cp_34, cp_35, cp_36, cp_37, cp_38, cp_39, cp_40, cp_41, cp_42, cp_43, cp_44, cp_45, cp_46, cp_47, cp_48, cp_49, cp_50, cp_51, cp_52, cp_53, cp_54, cp_55, cp_56, cp_57, e, nIm1]
  · rw [if_neg (fun q => c (ltF_iff.mp q).2)]
    rw [if_neg c] at e
    simp (disch := omega) only [↓nmk_e, ↓reduceIte, Option.bind_some, Option.map_some, lit, ofN, nI_add, pk_sub, pk_mul, nI_clamp, nI_leI, nI_ltI, nI_eq, pk_div, nI_an, nleT, nleF, nltT, nltF, neqT, neqF, or_false, false_or, or_self, or_true, true_or, and_self, and_true, true_and, and_false, false_and, not_true_eq_false, not_false_eq_true, f_X12_isSort, f_X12_isDay, f_X11_isSort, f_X11_isDay, inI, inP, f_X5_size, f_X5_isFull, f_X11_now, f_X2_isKind, f_X2_has, f_X3_has, f_X8_hasPage, f_X8_hasAllPages, f_X8_stands, f_X1_isPrinted, f_X1_rule, f_X9_has, f_X9_isFull, f_X12_isPage, f_X12_isVerse, sC_s, sC_n, sC_2, sN_1, sN_s, sN_n, sN_2, sS_1, sS_2, sS_s, sS_n, upd_s, upd_e, upd_n, rAt, rPut, rAdd, rSwap, rPush, rNumber, cp_0, cp_1, cp_2, cp_3, cp_4, cp_5, cp_6, cp_7, cp_8, cp_9, cp_10, cp_11, cp_12, cp_13, cp_14, cp_15, cp_16, cp_17, cp_18, cp_19, cp_20, cp_21, cp_22, cp_23, cp_24, cp_25, cp_26, cp_27, cp_28, cp_29, cp_30, cp_31, cp_32, cp_33, cp_34, cp_35, cp_36, cp_37, cp_38, cp_39, cp_40, cp_41, cp_42, cp_43, cp_44, cp_45, cp_46, cp_47, cp_48, cp_49, cp_50, cp_51, cp_52, cp_53, cp_54, cp_55, cp_56, cp_57, e]
theorem l_join {x : CW} {z k n : Nat} {ch WD : Nat → Nat} {A : CA} (h : EnvC x z ch WD A) (hk : k < z) (hn : n = 2 ∨ n = 3) : f_X6_joined x (nI k) (nI n) = some (nI (if fit z ch k n = true then 1 else 0)) := by
  have hz := h.2.1
  have e40 := h.2.2.1
  have hF : FU = 9996 + 1 + 1 + 1 + 1 := rfl
  have b0 := l_blk h hk
  unfold f_X6_joined
  rw [hF]
  by_cases t0 : ltF z ch k = true
  · rw [if_pos t0] at b0
    by_cases c1 : k + 1 < z
    · have b1 := l_blk h c1
      by_cases t1 : ltF z ch (k + 1) = true
      · rw [if_pos t1] at b1
        rcases hn with rfl | rfl
        · have hfit : fit z ch k 2 = true := by unfold fit; rw [t0, t1]; rfl
          rw [if_pos hfit]
          simp (disch := omega) only [f_X6_joined_L2, ↓nmk_e, ↓reduceIte, Option.bind_some, Option.map_some, lit, ofN, nI_add, pk_sub, pk_mul, nI_clamp, nI_leI, nI_ltI, nI_eq, pk_div, nI_an, nleT, nleF, nltT, nltF, neqT, neqF, or_false, false_or, or_self, or_true, true_or, and_self, and_true, true_and, and_false, false_and, not_true_eq_false, not_false_eq_true, f_X12_isSort, f_X12_isDay, f_X11_isSort, f_X11_isDay, inI, inP, f_X5_size, f_X5_isFull, f_X11_now, f_X2_isKind, f_X2_has, f_X3_has, f_X8_hasPage, f_X8_hasAllPages, f_X8_stands, f_X1_isPrinted, f_X1_rule, f_X9_has, f_X9_isFull, f_X12_isPage, f_X12_isVerse, sC_s, sC_n, sC_2, sN_1, sN_s, sN_n, sN_2, sS_1, sS_2, sS_s, sS_n, upd_s, upd_e, upd_n, rAt, rPut, rAdd, rSwap, rPush, rNumber, cp_0, cp_1, cp_2, cp_3, cp_4, cp_5, cp_6, cp_7, cp_8, cp_9, cp_10, cp_11, cp_12, cp_13, cp_14, cp_15, cp_16, cp_17, cp_18, cp_19, cp_20, cp_21, cp_22, cp_23, cp_24, cp_25, cp_26, cp_27, cp_28, cp_29, cp_30, cp_31, cp_32, cp_33, cp_34, cp_35, cp_36, cp_37, cp_38, cp_39, cp_40, cp_41, cp_42, cp_43, cp_44, cp_45, cp_46, cp_47, cp_48, cp_49, cp_50, cp_51, cp_52, cp_53, cp_54, cp_55, cp_56, cp_57, Nat.add_assoc, Nat.reduceAdd, e40, b0, b1]
        · by_cases c2 : k + 2 < z
          · have b2 := l_blk h c2
            by_cases t2 : ltF z ch (k + 2) = true
            · rw [if_pos t2] at b2
              have hfit : fit z ch k 3 = true := by unfold fit; rw [t0, t1, t2]; rfl
              rw [if_pos hfit]
              simp (disch := omega) only [f_X6_joined_L2, ↓nmk_e, ↓reduceIte, Option.bind_some, Option.map_some, lit, ofN, nI_add, pk_sub, pk_mul, nI_clamp, nI_leI, nI_ltI, nI_eq, pk_div, nI_an, nleT, nleF, nltT, nltF, neqT, neqF, or_false, false_or, or_self, or_true, true_or, and_self, and_true, true_and, and_false, false_and, not_true_eq_false, not_false_eq_true, f_X12_isSort, f_X12_isDay, f_X11_isSort, f_X11_isDay, inI, inP, f_X5_size, f_X5_isFull, f_X11_now, f_X2_isKind, f_X2_has, f_X3_has, f_X8_hasPage, f_X8_hasAllPages, f_X8_stands, f_X1_isPrinted, f_X1_rule, f_X9_has, f_X9_isFull, f_X12_isPage, f_X12_isVerse, sC_s, sC_n, sC_2, sN_1, sN_s, sN_n, sN_2, sS_1, sS_2, sS_s, sS_n, upd_s, upd_e, upd_n, rAt, rPut, rAdd, rSwap, rPush, rNumber, cp_0, cp_1, cp_2, cp_3, cp_4, cp_5, cp_6, cp_7, cp_8, cp_9, cp_10, cp_11, cp_12, cp_13, cp_14, cp_15, cp_16, cp_17, cp_18, cp_19, cp_20, cp_21, cp_22, cp_23, cp_24, cp_25, cp_26, cp_27, cp_28, cp_29, cp_30, cp_31, cp_32, cp_33, cp_34, cp_35, cp_36, cp_37, cp_38, cp_39, cp_40, cp_41, cp_42, cp_43, cp_44, cp_45, cp_46, cp_47, cp_48, cp_49, cp_50, cp_51, cp_52, cp_53, cp_54, cp_55, cp_56, cp_57, Nat.add_assoc, Nat.reduceAdd, e40, b0, b1, b2]
            · rw [if_neg t2] at b2
              have e2 : ltF z ch (k + 2) = false := Bool.eq_false_iff.mpr t2
              have hfit : ¬ fit z ch k 3 = true := by unfold fit; rw [e2]; simp
              rw [if_neg hfit]
              simp (disch := omega) only [f_X6_joined_L2, ↓nmk_e, ↓reduceIte, Option.bind_some, Option.map_some, lit, ofN, nI_add, pk_sub, pk_mul, nI_clamp, nI_leI, nI_ltI, nI_eq, pk_div, nI_an, nleT, nleF, nltT, nltF, neqT, neqF, or_false, false_or, or_self, or_true, true_or, and_self, and_true, true_and, and_false, false_and, not_true_eq_false, not_false_eq_true, f_X12_isSort, f_X12_isDay, f_X11_isSort, f_X11_isDay, inI, inP, f_X5_size, f_X5_isFull, f_X11_now, f_X2_isKind, f_X2_has, f_X3_has, f_X8_hasPage, f_X8_hasAllPages, f_X8_stands, f_X1_isPrinted, f_X1_rule, f_X9_has, f_X9_isFull, f_X12_isPage, f_X12_isVerse, sC_s, sC_n, sC_2, sN_1, sN_s, sN_n, sN_2, sS_1, sS_2, sS_s, sS_n, upd_s, upd_e, upd_n, rAt, rPut, rAdd, rSwap, rPush, rNumber, cp_0, cp_1, cp_2, cp_3, cp_4, cp_5, cp_6, cp_7, cp_8, cp_9, cp_10, cp_11, cp_12, cp_13, cp_14, cp_15, cp_16, cp_17, cp_18, cp_19, cp_20, cp_21, cp_22, cp_23, cp_24, cp_25, cp_26, cp_27, cp_28, cp_29, cp_30, cp_31, cp_32, cp_33, cp_34, cp_35, cp_36, cp_37, cp_38, cp_39, cp_40, cp_41, cp_42, cp_43, cp_44, cp_45, cp_46, cp_47, cp_48, cp_49, cp_50, cp_51, cp_52, cp_53, cp_54, cp_55, cp_56, cp_57, Nat.add_assoc, Nat.reduceAdd, e40, b0, b1, b2]
          · have e2 : ltF z ch (k + 2) = false := Bool.eq_false_iff.mpr fun q => c2 (ltF_iff.mp q).1
            have hfit : ¬ fit z ch k 3 = true := by unfold fit; rw [e2]; simp
            rw [if_neg hfit]
            simp (disch := omega) only [f_X6_joined_L2, ↓nmk_e, ↓reduceIte, Option.bind_some, Option.map_some, lit, ofN, nI_add, pk_sub, pk_mul, nI_clamp, nI_leI, nI_ltI, nI_eq, pk_div, nI_an, nleT, nleF, nltT, nltF, neqT, neqF, or_false, false_or, or_self, or_true, true_or, and_self, and_true, true_and, and_false, false_and, not_true_eq_false, not_false_eq_true, f_X12_isSort, f_X12_isDay, f_X11_isSort, f_X11_isDay, inI, inP, f_X5_size, f_X5_isFull, f_X11_now, f_X2_isKind, f_X2_has, f_X3_has, f_X8_hasPage, f_X8_hasAllPages, f_X8_stands, f_X1_isPrinted, f_X1_rule, f_X9_has, f_X9_isFull, f_X12_isPage, f_X12_isVerse, sC_s, sC_n, sC_2, sN_1, sN_s, sN_n, sN_2, sS_1, sS_2, sS_s, sS_n, upd_s, upd_e, upd_n, rAt, rPut, rAdd, rSwap, rPush, rNumber, cp_0, cp_1, cp_2, cp_3, cp_4, cp_5, cp_6, cp_7, cp_8, cp_9, cp_10, cp_11, cp_12, cp_13, cp_14, cp_15, cp_16, cp_17, cp_18, cp_19, cp_20, cp_21, cp_22, cp_23, cp_24, cp_25, cp_26, cp_27, cp_28, cp_29, cp_30, cp_31, cp_32, cp_33, cp_34, cp_35, cp_36, cp_37, cp_38, cp_39, cp_40, cp_41, cp_42, cp_43, cp_44, cp_45, cp_46, cp_47, cp_48, cp_49, cp_50, cp_51, cp_52, cp_53, cp_54, cp_55, cp_56, cp_57, Nat.add_assoc, Nat.reduceAdd, e40, b0, b1]
      · rw [if_neg t1] at b1
        have e2 : ltF z ch (k + 1) = false := Bool.eq_false_iff.mpr t1
        have hfit : ¬ fit z ch k n = true := by unfold fit; rw [e2]; simp
        rw [if_neg hfit]
        rcases hn with rfl | rfl <;> simp (disch := omega) only [f_X6_joined_L2, ↓nmk_e, ↓reduceIte, Option.bind_some, Option.map_some, lit, ofN, nI_add, pk_sub, pk_mul, nI_clamp, nI_leI, nI_ltI, nI_eq, pk_div, nI_an, nleT, nleF, nltT, nltF, neqT, neqF, or_false, false_or, or_self, or_true, true_or, and_self, and_true, true_and, and_false, false_and, not_true_eq_false, not_false_eq_true, f_X12_isSort, f_X12_isDay, f_X11_isSort, f_X11_isDay, inI, inP, f_X5_size, f_X5_isFull, f_X11_now, f_X2_isKind, f_X2_has, f_X3_has, f_X8_hasPage, f_X8_hasAllPages, f_X8_stands, f_X1_isPrinted, f_X1_rule, f_X9_has, f_X9_isFull, f_X12_isPage, f_X12_isVerse, sC_s, sC_n, sC_2, sN_1, sN_s, sN_n, sN_2, sS_1, sS_2, sS_s, sS_n, upd_s, upd_e, upd_n, rAt, rPut, rAdd, rSwap, rPush, rNumber, cp_0, cp_1, cp_2, cp_3, cp_4, cp_5, cp_6, cp_7, cp_8, cp_9, cp_10, cp_11, cp_12, cp_13, cp_14, cp_15, cp_16, cp_17, cp_18, cp_19, cp_20, cp_21, cp_22, cp_23, cp_24, cp_25, cp_26, cp_27, cp_28, cp_29, cp_30, cp_31, cp_32, cp_33, cp_34, cp_35, cp_36, cp_37, cp_38, cp_39, cp_40, cp_41, cp_42, cp_43, cp_44, cp_45, cp_46, cp_47, cp_48, cp_49, cp_50, cp_51, cp_52, cp_53, cp_54, cp_55, cp_56, cp_57, Nat.add_assoc, Nat.reduceAdd, e40, b0, b1]
    · have e2 : ltF z ch (k + 1) = false := Bool.eq_false_iff.mpr fun q => c1 (ltF_iff.mp q).1
      have hfit : ¬ fit z ch k n = true := by unfold fit; rw [e2]; simp
      rw [if_neg hfit]
      rcases hn with rfl | rfl <;> simp (disch := omega) only [f_X6_joined_L2, ↓nmk_e, ↓reduceIte, Option.bind_some, Option.map_some, lit, ofN, nI_add, pk_sub, pk_mul, nI_clamp, nI_leI, nI_ltI, nI_eq, pk_div, nI_an, nleT, nleF, nltT, nltF, neqT, neqF, or_false, false_or, or_self, or_true, true_or, and_self, and_true, true_and, and_false, false_and, not_true_eq_false, not_false_eq_true, f_X12_isSort, f_X12_isDay, f_X11_isSort, f_X11_isDay, inI, inP, f_X5_size, f_X5_isFull, f_X11_now, f_X2_isKind, f_X2_has, f_X3_has, f_X8_hasPage, f_X8_hasAllPages, f_X8_stands, f_X1_isPrinted, f_X1_rule, f_X9_has, f_X9_isFull, f_X12_isPage, f_X12_isVerse, sC_s, sC_n, sC_2, sN_1, sN_s, sN_n, sN_2, sS_1, sS_2, sS_s, sS_n, upd_s, upd_e, upd_n, rAt, rPut, rAdd, rSwap, rPush, rNumber, cp_0, cp_1, cp_2, cp_3, cp_4, cp_5, cp_6, cp_7, cp_8, cp_9, cp_10, cp_11, cp_12, cp_13, cp_14, cp_15, cp_16, cp_17, cp_18, cp_19, cp_20, cp_21, cp_22, cp_23, cp_24, cp_25, cp_26, cp_27, cp_28, cp_29, cp_30, cp_31, cp_32, cp_33, cp_34, cp_35, cp_36, cp_37, cp_38, cp_39, cp_40, cp_41, cp_42, cp_43, cp_44, cp_45, cp_46, cp_47, cp_48, cp_49, cp_50, cp_51, cp_52, cp_53, cp_54, cp_55, cp_56, cp_57, Nat.add_assoc, Nat.reduceAdd, e40, b0]
  · rw [if_neg t0] at b0
    have e2 : ltF z ch k = false := Bool.eq_false_iff.mpr t0
    have hfit : ¬ fit z ch k n = true := by unfold fit; rw [e2]; simp
    rw [if_neg hfit]
    rcases hn with rfl | rfl <;> simp (disch := omega) only [f_X6_joined_L2, ↓nmk_e, ↓reduceIte, Option.bind_some, Option.map_some, lit, ofN, nI_add, pk_sub, pk_mul, nI_clamp, nI_leI, nI_ltI, nI_eq, pk_div, nI_an, nleT, nleF, nltT, nltF, neqT, neqF, or_false, false_or, or_self, or_true, true_or, and_self, and_true, true_and, and_false, false_and, not_true_eq_false, not_false_eq_true, f_X12_isSort, f_X12_isDay, f_X11_isSort, f_X11_isDay, inI, inP, f_X5_size, f_X5_isFull, f_X11_now, f_X2_isKind, f_X2_has, f_X3_has, f_X8_hasPage, f_X8_hasAllPages, f_X8_stands, f_X1_isPrinted, f_X1_rule, f_X9_has, f_X9_isFull, f_X12_isPage, f_X12_isVerse, sC_s, sC_n, sC_2, sN_1, sN_s, sN_n, sN_2, sS_1, sS_2, sS_s, sS_n, upd_s, upd_e, upd_n, rAt, rPut, rAdd, rSwap, rPush, rNumber, cp_0, cp_1, cp_2, cp_3, cp_4, cp_5, cp_6, cp_7, cp_8, cp_9, cp_10, cp_11, cp_12, cp_13, cp_14, cp_15, cp_16, cp_17, cp_18, cp_19, cp_20, cp_21, cp_22, cp_23, cp_24, cp_25, cp_26, cp_27, cp_28, cp_29, cp_30, cp_31, cp_32, cp_33, cp_34, cp_35, cp_36, cp_37, cp_38, cp_39, cp_40, cp_41, cp_42, cp_43, cp_44, cp_45, cp_46, cp_47, cp_48, cp_49, cp_50, cp_51, cp_52, cp_53, cp_54, cp_55, cp_56, cp_57, e40, b0]
/-- what stands for a form at a place: its number, or -1 -/
def FoP (x : CW) (z : Nat) (ch : Nat → Nat) (A : CA) (k n : Nat) (r : Int32) : Prop := (r = -nI 1 ∧ ¬ (fit z ch k n = true ∧ A.2.1 (nI (fkN ch k n)) ≠ none)) ∨ ∃ i, i < A.2.2 ∧ r = nI i ∧ fit z ch k n = true ∧ x.1 37 i = nI (fkN ch k n) ∧ A.2.1 (nI (fkN ch k n)) = some (x.1 38 i, x.1 39 i)
theorem l_fof {x : CW} {z k n : Nat} {ch WD : Nat → Nat} {A : CA} (h : EnvC x z ch WD A) {key : Int32} (hk : fit z ch k n = true → key = nI (fkN ch k n)) : FoP x z ch A k n (if nI (if fit z ch k n = true then 1 else 0) = nI 0 then -nI 1 else f_X0_formOf x key) := by
  obtain ⟨-, -, -, -, ⟨-, -, -, -, -, m1, m2, m3⟩, -⟩ := h
  by_cases c : fit z ch k n = true
  · rw [if_pos c, if_neg (show ¬ nI 1 = nI 0 by decide)]
    have hk := hk c
    subst hk
    unfold f_X0_formOf
    rcases ixOf (nI (fkN ch k n)) m1 (show A.2.2 ≤ 72 from m2) with ⟨e1, e2⟩ | ⟨i, hi, e1, -, e2⟩
    · rw [e1]
      exact .inl ⟨rfl, fun q => q.2 ((Mp_none m3 _).mpr e2)⟩
    · rw [e2]
      refine .inr ⟨i, hi, rfl, c, e1, ?_⟩
      rw [← e1]; exact Mp_some m3 hi
  · rw [if_neg c, if_pos rfl]
    exact .inl ⟨rfl, fun q => c q.1⟩
theorem FoP.pw {x : CW} {z k n : Nat} {ch WD : Nat → Nat} {A : CA} {r : Int32} (h : FoP x z ch A k n r) (hA : okA A) (hf : A.2.2 ≤ 72) (hn : n = 2 ∨ n = 3) : rAt x 38 r = nI (pwF WD A.2.1 z ch k n) ∧ rAt x 39 r = nI (puF A.2.1 z ch k n) ∧ pwF WD A.2.1 z ch k n ≤ 9 ∧ puF A.2.1 z ch k n ≤ 9 := by
  have c1 : ¬ n = 1 := by omega
  rcases h with ⟨rfl, e2⟩ | ⟨i, hi, rfl, e2, e3, e4⟩
  · have z1 : pwF WD A.2.1 z ch k n = 0 := by
      unfold pwF
      rw [if_neg c1]
      by_cases cf : fit z ch k n = true
      · rw [if_pos cf]
        cases hm : A.2.1 (nI (fkN ch k n)) with
        | none => rfl
        | some p => exact absurd ⟨cf, by rw [hm]; exact fun q => by cases q⟩ e2
      · rw [if_neg cf]
    have z2 : puF A.2.1 z ch k n = 0 := by
      unfold puF
      rw [if_neg c1]
      by_cases cf : fit z ch k n = true
      · rw [if_pos cf]
        cases hm : A.2.1 (nI (fkN ch k n)) with
        | none => rfl
        | some p => exact absurd ⟨cf, by rw [hm]; exact fun q => by cases q⟩ e2
      · rw [if_neg cf]
    rw [z1, z2]
    exact ⟨aN m1n x 38, aN m1n x 39, by omega, by omega⟩
  · obtain ⟨-, o1, o2⟩ := hA.2.2.2 _ _ _ e4
    obtain ⟨q1, q2, q3⟩ := brt (by decide) o1
    obtain ⟨q4, q5⟩ := bdt (by decide) o2
    have z1 : pwF WD A.2.1 z ch k n = tN (x.1 38 i) := by
      unfold pwF
      rw [if_neg c1, if_pos e2, e4]
    have z2 : puF A.2.1 z ch k n = tN (x.1 39 i) := by
      unfold puF
      rw [if_neg c1, if_pos e2, e4]
    rw [z1, z2]
    exact ⟨(aT x (by omega) (show i < 72 by omega)).trans q1, (aT x (by omega) (show i < 72 by omega)).trans q4, q3, q5⟩
/-- what the class writes as it reckons a setting: rows 40 .. 49 but letters, scalars 6 .. 9 -/
def SFr (x x' : CW) : Prop := (∀ k, k < 41 ∨ 49 < k → x'.1 k = x.1 k) ∧ (∀ k, k < 43 ∨ 45 < k → x'.2.1 k = x.2.1 k) ∧ ∀ k, k < 6 ∨ 9 < k → x'.2.2 k = x.2.2 k
theorem SFr.refl (x : CW) : SFr x x := ⟨fun _ _ => rfl, fun _ _ => rfl, fun _ _ => rfl⟩
theorem SFr.trans {a b c : CW} (h : SFr a b) (h' : SFr b c) : SFr a c := ⟨fun k x => (h'.1 k x).trans (h.1 k x), fun k x => (h'.2.1 k x).trans (h.2.1 k x), fun k x => (h'.2.2 k x).trans (h.2.2 k x)⟩
theorem EnvC.f {x x' : CW} {z : Nat} {ch WD : Nat → Nat} {A : CA} (h : EnvC x z ch WD A) (hF : SFr x x') : EnvC x' z ch WD A := by
  obtain ⟨h1, h2, h3, h4, ⟨q1, q2, q3, q4, q5, q6, q7, q8⟩, h6, h7⟩ := h
  obtain ⟨f1, f2, f3⟩ := hF
  refine ⟨h1, h2, by rw [f2 40 (by omega)]; exact h3, by rw [f1 40 (by omega)]; exact h4, ⟨?_, ?_, ?_, ?_, ?_, ?_, q7, ?_⟩, h6, by rw [f1 12 (by omega)]; exact h7⟩
  · rw [f3 1 (by omega)]; exact q1
  · rw [f3 2 (by omega)]; exact q2
  · rw [f3 3 (by omega)]; exact q3
  · rw [f3 4 (by omega)]; exact q4
  · rw [f3 5 (by omega)]; exact q5
  · rw [f2 37 (by omega)]; exact q6
  · rw [f1 37 (by omega), f1 38 (by omega), f1 39 (by omega)]; exact q8
theorem FoP.f {x x' : CW} {z k n : Nat} {ch : Nat → Nat} {A : CA} {r : Int32} (h : FoP x z ch A k n r) (hF : SFr x x') : FoP x' z ch A k n r := by
  unfold FoP at h ⊢
  rw [hF.1 37 (by omega), hF.1 38 (by omega), hF.1 39 (by omega)]
  exact h
/-- threes and twos are found -/
def Fnd (x : CW) (z : Nat) (ch : Nat → Nat) (A : CA) (m : Nat) : Prop := ∀ k, k < m → FoP x z ch A k 2 (x.1 42 k) ∧ FoP x z ch A k 3 (x.1 41 k)
theorem l_find {x : CW} {z : Nat} {ch WD : Nat → Nat} {A : CA} (h : EnvC x z ch WD A) : ∃ x', f_X6_findForms x = some x' ∧ SFr x x' ∧ Fnd x' z ch A z ∧ (∀ k, k ≠ 41 → k ≠ 42 → x'.1 k = x.1 k) ∧ x'.2 = x.2 := by
  have hz := h.2.1
  unfold f_X6_findForms
  refine run1 (fun q i u => f_X6_findForms_L2 q i u) (fun i u => SFr x u ∧ Fnd u z ch A i ∧ (∀ k, k ≠ 41 → k ≠ 42 → u.1 k = x.1 k) ∧ u.2 = x.2) z (fun r => ∃ x', r = some x' ∧ SFr x x' ∧ Fnd x' z ch A z ∧ (∀ k, k ≠ 41 → k ≠ 42 → x'.1 k = x.1 k) ∧ x'.2 = x.2) ?_ ?_ FU 0 x (Nat.zero_le _) (by unfold FU; omega) ⟨SFr.refl x, fun k hk => absurd hk (Nat.not_lt_zero k), fun _ _ _ => rfl, rfl⟩
  · rintro q u ⟨h1, h2, h3, h4⟩
    have e40 := (h.f h1).2.2.1
    refine ⟨u, ?_, h1, h2, h3, h4⟩
    simp (disch := omega) only [f_X6_findForms_L2, ↓nmk_e, ↓reduceIte, Option.bind_some, Option.map_some, lit, ofN, nI_add, pk_sub, pk_mul, nI_clamp, nI_leI, nI_ltI, nI_eq, pk_div, nI_an, nleT, nleF, nltT, nltF, neqT, neqF, or_false, false_or, or_self, or_true, true_or, and_self, and_true, true_and, and_false, false_and, not_true_eq_false, not_false_eq_true, f_X12_isSort, f_X12_isDay, f_X11_isSort, f_X11_isDay, inI, inP, f_X5_size, f_X5_isFull, f_X11_now, f_X2_isKind, f_X2_has, f_X3_has, f_X8_hasPage, f_X8_hasAllPages, f_X8_stands, f_X1_isPrinted, f_X1_rule, f_X9_has, f_X9_isFull, f_X12_isPage, f_X12_isVerse, sC_s, sC_n, sC_2, sN_1, sN_s, sN_n, sN_2, sS_1, sS_2, sS_s, sS_n, upd_s, upd_e, upd_n, rAt, rPut, rAdd, rSwap, rPush, rNumber, cp_0, cp_1, cp_2, cp_3, cp_4, cp_5, cp_6, cp_7, cp_8, cp_9, cp_10, cp_11, cp_12, cp_13, cp_14, cp_15, cp_16, cp_17, cp_18, cp_19, cp_20, cp_21, cp_22, cp_23, cp_24, cp_25, cp_26, cp_27, cp_28, cp_29, cp_30, cp_31, cp_32, cp_33, cp_34, cp_35, cp_36, cp_37, cp_38, cp_39, cp_40, cp_41, cp_42, cp_43, cp_44, cp_45, cp_46, cp_47, cp_48, cp_49, cp_50, cp_51, cp_52, cp_53, cp_54, cp_55, cp_56, cp_57, e40]
  · rintro q i u hi ⟨h1, h2, h3, h4⟩
    have hE := h.f h1
    have e40 := hE.2.2.1
    have lets : ∀ t, t < z → ltF z ch t = true → u.1 40 t = nI (ch t - 97) := fun t ht hl => by
      rw [(hE.2.2.2.1 t ht).1, if_pos (ltF_iff.mp hl).2]
    have key2 : fit z ch i 2 = true → (rAt u 40 (nI i) * nI 100 + rAt u 40 (nI (i + 1))) * nI 100 + nI 99 = nI (fkN ch i 2) := fun hf => by
      unfold fit at hf
      rw [Bool.and_eq_true, Bool.and_eq_true] at hf
      obtain ⟨⟨f1, f2⟩, -⟩ := hf
      have g2 := (ltF_iff.mp f2).1
      rw [aT u (by omega) (show i < 60 by omega), aT u (by omega) (show i + 1 < 60 by omega), lets i hi f1, lets (i + 1) g2 f2]
      rw [pk_mul, nI_add, pk_mul, nI_add]
      unfold fkN
      rw [if_pos rfl]; congr 1; omega
    have key3 : fit z ch i 3 = true → (rAt u 40 (nI i) * nI 100 + rAt u 40 (nI (i + 1))) * nI 100 + rAt u 40 (nI (i + 2)) = nI (fkN ch i 3) := fun hf => by
      unfold fit at hf
      rw [Bool.and_eq_true, Bool.and_eq_true, Bool.or_eq_true, decide_eq_true_iff] at hf
      obtain ⟨⟨f1, f2⟩, f3⟩ := hf
      have f3 : ltF z ch (i + 2) = true := f3.resolve_left (by decide)
      have g2 := (ltF_iff.mp f2).1
      have g3 := (ltF_iff.mp f3).1
      rw [aT u (by omega) (show i < 60 by omega), aT u (by omega) (show i + 1 < 60 by omega), aT u (by omega) (show i + 2 < 60 by omega), lets i hi f1, lets (i + 1) g2 f2, lets (i + 2) g3 f3]
      rw [pk_mul, nI_add, pk_mul, nI_add]
      unfold fkN
      rw [if_neg (by decide)]; congr 1; omega
    have j2 := l_join hE hi (n := 2) (.inl rfl)
    have p2 := l_fof hE (k := i) (n := 2) key2
    generalize hr2 : (if nI (if fit z ch i 2 = true then 1 else 0) = nI 0 then -nI 1 else f_X0_formOf u ((rAt u 40 (nI i) * nI 100 + rAt u 40 (nI (i + 1))) * nI 100 + nI 99)) = r2 at p2
    let u1 := sC u 42 i r2
    have F1 : SFr u u1 := ⟨fun k hk => sC_n _ _ _ (by omega), fun _ _ => rfl, fun _ _ => rfl⟩
    have hE1 := hE.f F1
    have j3 := l_join hE1 hi (n := 3) (.inr rfl)
    have e40' : u1.1 40 = u.1 40 := F1.1 40 (by omega)
    have p3 := l_fof hE1 (k := i) (n := 3) (key := (rAt u 40 (nI i) * nI 100 + rAt u 40 (nI (i + 1))) * nI 100 + rAt u 40 (nI (i + 2))) key3
    generalize hr3 : (if nI (if fit z ch i 3 = true then 1 else 0) = nI 0 then -nI 1 else f_X0_formOf u1 ((rAt u 40 (nI i) * nI 100 + rAt u 40 (nI (i + 1))) * nI 100 + rAt u 40 (nI (i + 2)))) = r3 at p3
    let u2 := sC u1 41 i r3
    have F2 : SFr u1 u2 := ⟨fun k hk => sC_n _ _ _ (by omega), fun _ _ => rfl, fun _ _ => rfl⟩
    have hx : rAt u1 40 (nI (i + 2)) = rAt u 40 (nI (i + 2)) := by unfold rAt; rw [e40']
    refine .inr ⟨u2, ?_, (h1.trans F1).trans F2, fun k hk => ?_, fun k k1 k2 => ?_, h4⟩
    · rw [f_X6_findForms_L2]
      have s1 : ¬ f_X5_size u 40 ≤ nI i := by
        unfold f_X5_size; rw [e40]; exact nI_ge hi (by omega)
      have i1 : nI i + 1 = nI (i + 1) := nI_1 i
      have i2 : nI i + 2 = nI (i + 2) := nI_add i 2
      rw [if_neg s1, nmk_e, i1, i2]
      have j2 : f_X6_joined u (nI i) 2 = some (nI (if fit z ch i 2 = true then 1 else 0)) := j2
      rw [j2, Option.bind_some, nmk_e]
      have hr2 : (if nI (if fit z ch i 2 = true then 1 else 0) = 0 then -1 else f_X0_formOf u ((rAt u 40 (nI i) * 100 + rAt u 40 (nI (i + 1))) * 100 + 99)) = r2 := hr2
      rw [hr2, pT u (by omega) (show i < 60 by omega)]
      have j3 : f_X6_joined (sC u 42 i r2) (nI i) 3 = some (nI (if fit z ch i 3 = true then 1 else 0)) := j3
      rw [j3, Option.bind_some, nmk_e, nmk_e]
      have hx : rAt (sC u 42 i r2) 40 (nI (i + 2)) = rAt u 40 (nI (i + 2)) := hx
      have hr3 : (if nI (if fit z ch i 3 = true then 1 else 0) = 0 then -1 else f_X0_formOf (sC u 42 i r2) ((rAt u 40 (nI i) * 100 + rAt u 40 (nI (i + 1))) * 100 + rAt u 40 (nI (i + 2)))) = r3 := hr3
      rw [hx, hr3, pT (sC u 42 i r2) (by omega) (show i < 60 by omega)]
    · by_cases c : k = i
      · subst c
        have a2 : u2.1 42 k = r2 := by
          show (sC (sC u 42 k r2) 41 k r3).1 42 k = r2
          simp (disch := omega) only [sC_s, sC_n, sC_2, sN_1, sN_s, sN_n, sN_2, sS_1, sS_2, sS_s, sS_n, upd_s, upd_e, upd_n]
        have a3 : u2.1 41 k = r3 := by
          show (sC (sC u 42 k r2) 41 k r3).1 41 k = r3
          simp (disch := omega) only [sC_s, sC_n, sC_2, sN_1, sN_s, sN_n, sN_2, sS_1, sS_2, sS_s, sS_n, upd_s, upd_e, upd_n]
        rw [a2, a3]
        exact ⟨(p2.f F1).f F2, p3.f F2⟩
      · obtain ⟨b2, b3⟩ := h2 k (by omega)
        have a2 : u2.1 42 k = u.1 42 k := by
          show (sC (sC u 42 i r2) 41 i r3).1 42 k = _
          simp (disch := omega) only [sC_s, sC_n, sC_2, sN_1, sN_s, sN_n, sN_2, sS_1, sS_2, sS_s, sS_n, upd_s, upd_e, upd_n]
        have a3 : u2.1 41 k = u.1 41 k := by
          show (sC (sC u 42 i r2) 41 i r3).1 41 k = _
          simp (disch := omega) only [sC_s, sC_n, sC_2, sN_1, sN_s, sN_n, sN_2, sS_1, sS_2, sS_s, sS_n, upd_s, upd_e, upd_n]
        rw [a2, a3]
        exact ⟨(b2.f F1).f F2, (b3.f F1).f F2⟩
    · show (sC (sC u 42 i r2) 41 i r3).1 k = _
      simp (disch := omega) only [sC_s, sC_n, sC_2, sN_1, sN_s, sN_n, sN_2, sS_1, sS_2, sS_s, sS_n, upd_s, upd_e, upd_n]
      exact h3 k k1 k2
