/-! readers: numbers, letters -/
theorem sC_sC (x : CW) (k i : Nat) (a b : Int32) : sC (sC x k i a) k i b = sC x k i b := by
  refine Prod.ext (funext fun j => ?_) rfl
  by_cases c : j = k
  · subst c; rw [sC_s, sC_s, sC_s, upd_upd]
  · rw [sC_n _ _ _ c, sC_n _ _ _ c, sC_n _ _ _ c]
theorem cm_sC (x : CW) (p k i : Nat) (v : Int32) : sC (cm x p) k i v = cm (sC x k i v) p := rfl
theorem mv_sC (y : CW) (e p k i : Nat) (v : Int32) : sC (mv y e p) k i v = mv (sC y k i v) e p := rfl
theorem cm_0 (x : CW) (p q : Nat) : sS (cm x p) 0 (nI q) = cm x q := cm_cm x p q
theorem mv_5 (y : CW) (e p q : Nat) : sS (mv y e p) 5 (nI q) = mv y e q := by
  show (y.1, y.2.1, upd (upd (upd y.2.2 6 (nI e)) 5 (nI p)) 5 (nI q)) = (y.1, y.2.1, upd (upd y.2.2 6 (nI e)) 5 (nI q))
  rw [upd_upd]
theorem mv_6 {y : CW} {e p f : Nat} : sS (mv y e p) 6 (nI f) = mv y f p := by
  show (y.1, y.2.1, upd (upd (upd y.2.2 6 (nI e)) 5 (nI p)) 6 (nI f)) = (y.1, y.2.1, upd (upd y.2.2 6 (nI f)) 5 (nI p))
  rw [upd_comm (upd y.2.2 6 (nI e)) (by decide), upd_upd]
theorem l_numW {y : CW} {B : Nat → Int32} {m n p : Nat} (h : RAt y m B n p 1) : ∃ q, f_X12_number y = some (q, mv y 1 p) := by
  rw [← mv_self h.2.1 h.2.2.1]
  refine ⟨nI 0, ?_⟩
  unfold f_X12_number
  rw [show FU = 9999 + 1 from rfl]
  simp (disch := omega) only [↓nmk_e, ↓reduceIte, Option.bind_some, Option.map_some, lit, ofN, nI_add, pk_sub, pk_mul, nI_clamp, nI_leI, nI_ltI, nI_eq, pk_div, nI_an, nleT, nleF, nltT, nltF, neqT, neqF, or_false, false_or, or_self, or_true, true_or, and_self, and_true, true_and, and_false, false_and, not_true_eq_false, not_false_eq_true, f_X12_number_L34, mv_6, mv_g6, mv_mv]
theorem l_num {x y : CW} {B : Nat → Int32} {m n p i : Nat} (hB : Tx B n) (hC : CAt x B n p) (hR : RAt y m B n p 0) (hi : i < 72) : (∃ N p', N ≤ 99 ∧ p' ≤ n ∧ f_X10_readNumber x (nI i) = (nI 1, cm (sC x 8 i (nI N)) p') ∧ f_X12_number y = some (nI N, mv y 0 p')) ∨ (f_X10_readNumber x (nI i) = (nI 0, x) ∧ ∃ q, f_X12_number y = some (q, mv y 1 p)) := by
  have k8 : (8 = 8 ∨ 8 = 9) ∧ i < 72 := ⟨.inl rfl, hi⟩
  have hFU : FU = 9997 + 1 + 1 + 1 := rfl
  have h5 := hR.2.2.2.2.1
  have ey := mv_self hR.2.1 hR.2.2.1
  have f0 := l_here hB (hR.mv h5 (show 0 ≤ 1 by decide))
  rcases l_fig (lo := 0) hB hC hR (by decide) k8 with ⟨v, -, v9, hp, eB, c1, -⟩ | ⟨eN, c1, -⟩
  · have hC2 : CAt (cm (sC x 8 i (nI v)) (p + 1)) B n (p + 1) := (hC.sC (by decide)).cm (by omega)
    have hR2 : RAt (mv y 0 (p + 1)) m B n (p + 1) 0 := hR.mv (by omega) (by decide)
    have g0 := l_here hB hR2
    have e8 : rAt (cm (sC x 8 i (nI v)) (p + 1)) 8 (nI i) = nI v := by
      unfold cm
      simp (disch := omega) only [↓nmk_e, ↓reduceIte, Option.bind_some, Option.map_some, lit, ofN, nI_add, pk_sub, pk_mul, nI_clamp, nI_leI, nI_ltI, nI_eq, pk_div, nI_an, nleT, nleF, nltT, nltF, neqT, neqF, or_false, false_or, or_self, or_true, true_or, and_self, and_true, true_and, and_false, false_and, not_true_eq_false, not_false_eq_true, f_X12_isSort, f_X12_isDay, f_X11_isSort, f_X11_isDay, inI, inP, f_X5_size, f_X5_isFull, f_X11_now, f_X2_isKind, f_X2_has, f_X3_has, f_X8_hasPage, f_X8_hasAllPages, f_X8_stands, f_X1_isPrinted, f_X1_rule, f_X9_has, f_X9_isFull, f_X12_isPage, f_X12_isVerse, sC_s, sC_n, sC_2, sN_1, sN_s, sN_n, sN_2, sS_1, sS_2, sS_s, sS_n, upd_s, upd_e, upd_n, rAt, rPut, rAdd, rSwap, rPush, rNumber, cp_0, cp_1, cp_2, cp_3, cp_4, cp_5, cp_6, cp_7, cp_8, cp_9, cp_10, cp_11, cp_12, cp_13, cp_14, cp_15, cp_16, cp_17, cp_18, cp_19, cp_20, cp_21, cp_22, cp_23, cp_24, cp_25, cp_26, cp_27, cp_28, cp_29, cp_30, cp_31, cp_32, cp_33, cp_34, cp_35, cp_36, cp_37, cp_38, cp_39, cp_40, cp_41, cp_42, cp_43, cp_44, cp_45, cp_46, cp_47, cp_48, cp_49, cp_50, cp_51, cp_52, cp_53, cp_54, cp_55, cp_56, cp_57]
    by_cases cv : v = 0
    · subst cv
      refine .inl ⟨0, p + 1, by decide, by omega, ?_, ?_⟩
      · unfold f_X10_readNumber
        rw [show (0 : Int32) = nI 0 from rfl, c1, nmk_e, if_neg (show ¬ nI 1 = nI 0 by decide), e8, nmk_e, if_pos (show nI 0 ≤ nI 0 by decide)]
        rfl
      · rw [← ey]
        unfold f_X12_number
        rw [hFU]
        rcases hB.or (p + 1) with eB2 | ⟨b, hb, eB2⟩
        · simp (disch := omega) only [↓nmk_e, ↓reduceIte, Option.bind_some, Option.map_some, lit, ofN, nI_add, pk_sub, pk_mul, nI_clamp, nI_leI, nI_ltI, nI_eq, pk_div, nI_an, nleT, nleF, nltT, nltF, neqT, neqF, or_false, false_or, or_self, or_true, true_or, and_self, and_true, true_and, and_false, false_and, not_true_eq_false, not_false_eq_true, f_X12_number_L34, mv_6, mv_5, mv_g5, mv_g6, mv_mv, f0, g0, eB, eB2, inI, inN m1n]
        · by_cases c : 48 ≤ b ∧ b ≤ 57
          · simp (disch := omega) only [↓nmk_e, ↓reduceIte, Option.bind_some, Option.map_some, lit, ofN, nI_add, pk_sub, pk_mul, nI_clamp, nI_leI, nI_ltI, nI_eq, pk_div, nI_an, nleT, nleF, nltT, nltF, neqT, neqF, or_false, false_or, or_self, or_true, true_or, and_self, and_true, true_and, and_false, false_and, not_true_eq_false, not_false_eq_true, f_X12_number_L34, mv_6, mv_5, mv_g5, mv_g6, mv_mv, f0, g0, eB, eB2, inI, c]
          · simp (disch := omega) only [↓nmk_e, ↓reduceIte, Option.bind_some, Option.map_some, lit, ofN, nI_add, pk_sub, pk_mul, nI_clamp, nI_leI, nI_ltI, nI_eq, pk_div, nI_an, nleT, nleF, nltT, nltF, neqT, neqF, or_false, false_or, or_self, or_true, true_or, and_self, and_true, true_and, and_false, false_and, not_true_eq_false, not_false_eq_true, f_X12_number_L34, mv_6, mv_5, mv_g5, mv_g6, mv_mv, f0, g0, eB, eB2, inI, c]
    · rcases l_fig (lo := 0) hB hC2 hR2 (by decide) k8 with ⟨u, -, u9, hp2, eB2, c2, -⟩ | ⟨eN, c2, -⟩
      · refine .inl ⟨10 * v + u, p + 2, by omega, by omega, ?_, ?_⟩
        · have e9 : rAdd (cm (sC (cm (sC x 8 i (nI v)) (p + 1)) 8 i (nI u)) (p + 1 + 1)) 8 (nI i) (10 * nI v) = cm (sC x 8 i (nI (10 * v + u))) (p + 2) := by
            rw [cm_sC, cm_cm, sC_sC]
            have : u + 10 * v = 10 * v + u := by omega
            unfold cm
            simp (disch := omega) only [↓nmk_e, ↓reduceIte, Option.bind_some, Option.map_some, lit, ofN, nI_add, pk_sub, pk_mul, nI_clamp, nI_leI, nI_ltI, nI_eq, pk_div, nI_an, nleT, nleF, nltT, nltF, neqT, neqF, or_false, false_or, or_self, or_true, true_or, and_self, and_true, true_and, and_false, false_and, not_true_eq_false, not_false_eq_true, f_X12_isSort, f_X12_isDay, f_X11_isSort, f_X11_isDay, inI, inP, f_X5_size, f_X5_isFull, f_X11_now, f_X2_isKind, f_X2_has, f_X3_has, f_X8_hasPage, f_X8_hasAllPages, f_X8_stands, f_X1_isPrinted, f_X1_rule, f_X9_has, f_X9_isFull, f_X12_isPage, f_X12_isVerse, sC_s, sC_n, sC_2, sN_1, sN_s, sN_n, sN_2, sS_1, sS_2, sS_s, sS_n, upd_s, upd_e, upd_n, rAt, rPut, rAdd, rSwap, rPush, rNumber, cp_0, cp_1, cp_2, cp_3, cp_4, cp_5, cp_6, cp_7, cp_8, cp_9, cp_10, cp_11, cp_12, cp_13, cp_14, cp_15, cp_16, cp_17, cp_18, cp_19, cp_20, cp_21, cp_22, cp_23, cp_24, cp_25, cp_26, cp_27, cp_28, cp_29, cp_30, cp_31, cp_32, cp_33, cp_34, cp_35, cp_36, cp_37, cp_38, cp_39, cp_40, cp_41, cp_42, cp_43, cp_44, cp_45, cp_46, cp_47, cp_48, cp_49, cp_50, cp_51, cp_52, cp_53, cp_54, cp_55, cp_56, cp_57, this]
            exact congrArg (fun z => cm z (p + 2)) (sC_sC x 8 i (nI u) (nI (10 * v + u)))
          unfold f_X10_readNumber
          rw [show (0 : Int32) = nI 0 from rfl, c1, nmk_e, if_neg (show ¬ nI 1 = nI 0 by decide), e8, nmk_e, if_neg (show ¬ nI v ≤ nI 0 from of_eq_true (by simp (disch := omega) only [↓nmk_e, ↓reduceIte, Option.bind_some, Option.map_some, lit, ofN, nI_add, pk_sub, pk_mul, nI_clamp, nI_leI, nI_ltI, nI_eq, pk_div, nI_an, nleT, nleF, nltT, nltF, neqT, neqF, or_false, false_or, or_self, or_true, true_or, and_self, and_true, true_and, and_false, false_and, not_true_eq_false, not_false_eq_true])), c2, nmk_e, if_neg (show ¬ nI 1 = nI 0 by decide), e9]
          rfl
        · have g1 := l_here hB (hR.mv (q := p + 2) (by omega) (show 0 ≤ 1 by decide))
          have e10 : 10 * v + (48 + u) - 48 = 10 * v + u := by omega
          rw [← ey]
          unfold f_X12_number
          rw [hFU]
          simp (disch := omega) only [↓nmk_e, ↓reduceIte, Option.bind_some, Option.map_some, lit, ofN, nI_add, pk_sub, pk_mul, nI_clamp, nI_leI, nI_ltI, nI_eq, pk_div, nI_an, nleT, nleF, nltT, nltF, neqT, neqF, or_false, false_or, or_self, or_true, true_or, and_self, and_true, true_and, and_false, false_and, not_true_eq_false, not_false_eq_true, f_X12_number_L34, mv_6, mv_5, mv_g5, mv_g6, mv_mv, f0, g0, g1, eB, eB2, inI, Nat.mul_zero, Nat.zero_add, Nat.add_sub_cancel_left, e10]
      · refine .inl ⟨v, p + 1, by omega, by omega, ?_, ?_⟩
        · unfold f_X10_readNumber
          rw [show (0 : Int32) = nI 0 from rfl, c1, nmk_e, if_neg (show ¬ nI 1 = nI 0 by decide), e8, nmk_e, if_neg (show ¬ nI v ≤ nI 0 from of_eq_true (by simp (disch := omega) only [↓nmk_e, ↓reduceIte, Option.bind_some, Option.map_some, lit, ofN, nI_add, pk_sub, pk_mul, nI_clamp, nI_leI, nI_ltI, nI_eq, pk_div, nI_an, nleT, nleF, nltT, nltF, neqT, neqF, or_false, false_or, or_self, or_true, true_or, and_self, and_true, true_and, and_false, false_and, not_true_eq_false, not_false_eq_true])), c2, nmk_e, if_pos rfl]
          rfl
        · have eN : f_X12_in (B (p + 1)) (nI 48) (nI 57) = nI 0 := eN
          rw [← ey]
          unfold f_X12_number
          rw [hFU]
          simp (disch := omega) only [↓nmk_e, ↓reduceIte, Option.bind_some, Option.map_some, lit, ofN, nI_add, pk_sub, pk_mul, nI_clamp, nI_leI, nI_ltI, nI_eq, pk_div, nI_an, nleT, nleF, nltT, nltF, neqT, neqF, or_false, false_or, or_self, or_true, true_or, and_self, and_true, true_and, and_false, false_and, not_true_eq_false, not_false_eq_true, f_X12_number_L34, mv_6, mv_5, mv_g5, mv_g6, mv_mv, f0, g0, eB, eN, inI, Nat.mul_zero, Nat.zero_add, Nat.add_sub_cancel_left]
  · refine .inr ⟨?_, nI 0, ?_⟩
    · unfold f_X10_readNumber
      rw [show (0 : Int32) = nI 0 from rfl, c1, nmk_e, if_pos rfl]
    · have eN : f_X12_in (B p) (nI 48) (nI 57) = nI 0 := eN
      rw [← ey]
      unfold f_X12_number
      rw [hFU]
      simp (disch := omega) only [↓nmk_e, ↓reduceIte, Option.bind_some, Option.map_some, lit, ofN, nI_add, pk_sub, pk_mul, nI_clamp, nI_leI, nI_ltI, nI_eq, pk_div, nI_an, nleT, nleF, nltT, nltF, neqT, neqF, or_false, false_or, or_self, or_true, true_or, and_self, and_true, true_and, and_false, false_and, not_true_eq_false, not_false_eq_true, f_X12_number_L34, mv_6, mv_5, mv_g5, mv_g6, mv_mv, f0, eN]
/-- letters -/
theorem l_letW {y : CW} {B : Nat → Int32} {m n p : Nat} (hB : Tx B n) (h : RAt y m B n p 1) : ∃ q, f_X12_letter y = some (q, mv y 1 p) := by
  have e1 := l_here hB (h.mv h.2.2.2.2.1 (show 1 ≤ 1 by decide))
  rw [← mv_self h.2.1 h.2.2.1]
  refine ⟨?_, ?_⟩
  rotate_left
  · unfold f_X12_letter
    simp (disch := omega) only [↓nmk_e, ↓reduceIte, Option.bind_some, Option.map_some, lit, ofN, nI_add, pk_sub, pk_mul, nI_clamp, nI_leI, nI_ltI, nI_eq, pk_div, nI_an, nleT, nleF, nltT, nltF, neqT, neqF, or_false, false_or, or_self, or_true, true_or, and_self, and_true, true_and, and_false, false_and, not_true_eq_false, not_false_eq_true, e1, mv_6, mv_5, mv_g5, mv_g6, mv_mv]
    rfl
theorem l_let {y : CW} {B : Nat → Int32} {m n p : Nat} (hB : Tx B n) (hR : RAt y m B n p 0) : (∃ a, a < 26 ∧ p < n ∧ B p = nI (97 + a) ∧ f_X10_isLetter (B p) = nI 1 ∧ f_X12_in (B p) (nI 97) (nI 122) = nI 1 ∧ f_X12_letter y = some (nI a, mv y 0 (p + 1))) ∨ (f_X10_isLetter (B p) = nI 0 ∧ f_X12_in (B p) (nI 97) (nI 122) = nI 0 ∧ ∃ q, f_X12_letter y = some (q, mv y 1 p)) := by
  have h5 := hR.2.2.2.2.1
  have ey := mv_self hR.2.1 hR.2.2.1
  have f0 := l_here hB (hR.mv h5 (show 0 ≤ 1 by decide))
  have f1 := l_here hB (hR.mv h5 (show 1 ≤ 1 by decide))
  rw [← ey]
  unfold f_X10_isLetter f_X12_letter
  rcases hB.or p with eB | ⟨b, hb, eB⟩
  · refine .inr ⟨?_, ?_, ?_, ?_⟩
    · simp (disch := omega) only [↓nmk_e, ↓reduceIte, Option.bind_some, Option.map_some, lit, ofN, nI_add, pk_sub, pk_mul, nI_clamp, nI_leI, nI_ltI, nI_eq, pk_div, nI_an, nleT, nleF, nltT, nltF, neqT, neqF, or_false, false_or, or_self, or_true, true_or, and_self, and_true, true_and, and_false, false_and, not_true_eq_false, not_false_eq_true, eB, ng1 m1n]
    · simp (disch := omega) only [↓nmk_e, ↓reduceIte, Option.bind_some, Option.map_some, lit, ofN, nI_add, pk_sub, pk_mul, nI_clamp, nI_leI, nI_ltI, nI_eq, pk_div, nI_an, nleT, nleF, nltT, nltF, neqT, neqF, or_false, false_or, or_self, or_true, true_or, and_self, and_true, true_and, and_false, false_and, not_true_eq_false, not_false_eq_true, eB, inN m1n]
    rotate_left
    · simp (disch := omega) only [↓nmk_e, ↓reduceIte, Option.bind_some, Option.map_some, lit, ofN, nI_add, pk_sub, pk_mul, nI_clamp, nI_leI, nI_ltI, nI_eq, pk_div, nI_an, nleT, nleF, nltT, nltF, neqT, neqF, or_false, false_or, or_self, or_true, true_or, and_self, and_true, true_and, and_false, false_and, not_true_eq_false, not_false_eq_true, f0, f1, eB, mv_6, mv_5, mv_g5, mv_g6, mv_mv, inN m1n]
      rfl
  · by_cases c : 97 ≤ b ∧ b ≤ 122
    · refine .inl ⟨b - 97, by omega, hB.lt (by omega) eB, by rw [eB]; congr 1; omega, ?_, ?_, ?_⟩
      · simp (disch := omega) only [↓nmk_e, ↓reduceIte, Option.bind_some, Option.map_some, lit, ofN, nI_add, pk_sub, pk_mul, nI_clamp, nI_leI, nI_ltI, nI_eq, pk_div, nI_an, nleT, nleF, nltT, nltF, neqT, neqF, or_false, false_or, or_self, or_true, true_or, and_self, and_true, true_and, and_false, false_and, not_true_eq_false, not_false_eq_true, eB]
      · simp (disch := omega) only [↓nmk_e, ↓reduceIte, Option.bind_some, Option.map_some, lit, ofN, nI_add, pk_sub, pk_mul, nI_clamp, nI_leI, nI_ltI, nI_eq, pk_div, nI_an, nleT, nleF, nltT, nltF, neqT, neqF, or_false, false_or, or_self, or_true, true_or, and_self, and_true, true_and, and_false, false_and, not_true_eq_false, not_false_eq_true, eB, inI, c]
      · simp (disch := omega) only [↓nmk_e, ↓reduceIte, Option.bind_some, Option.map_some, lit, ofN, nI_add, pk_sub, pk_mul, nI_clamp, nI_leI, nI_ltI, nI_eq, pk_div, nI_an, nleT, nleF, nltT, nltF, neqT, neqF, or_false, false_or, or_self, or_true, true_or, and_self, and_true, true_and, and_false, false_and, not_true_eq_false, not_false_eq_true, f0, eB, mv_6, mv_5, mv_g5, mv_g6, mv_mv, inI, c]
    · refine .inr ⟨?_, ?_, ?_, ?_⟩
      · by_cases c1 : b < 97
        · simp (disch := omega) only [↓nmk_e, ↓reduceIte, Option.bind_some, Option.map_some, lit, ofN, nI_add, pk_sub, pk_mul, nI_clamp, nI_leI, nI_ltI, nI_eq, pk_div, nI_an, nleT, nleF, nltT, nltF, neqT, neqF, or_false, false_or, or_self, or_true, true_or, and_self, and_true, true_and, and_false, false_and, not_true_eq_false, not_false_eq_true, eB]
        · simp (disch := omega) only [↓nmk_e, ↓reduceIte, Option.bind_some, Option.map_some, lit, ofN, nI_add, pk_sub, pk_mul, nI_clamp, nI_leI, nI_ltI, nI_eq, pk_div, nI_an, nleT, nleF, nltT, nltF, neqT, neqF, or_false, false_or, or_self, or_true, true_or, and_self, and_true, true_and, and_false, false_and, not_true_eq_false, not_false_eq_true, eB]
      · simp (disch := omega) only [↓nmk_e, ↓reduceIte, Option.bind_some, Option.map_some, lit, ofN, nI_add, pk_sub, pk_mul, nI_clamp, nI_leI, nI_ltI, nI_eq, pk_div, nI_an, nleT, nleF, nltT, nltF, neqT, neqF, or_false, false_or, or_self, or_true, true_or, and_self, and_true, true_and, and_false, false_and, not_true_eq_false, not_false_eq_true, eB, inI, c]
      rotate_left
      · simp (disch := omega) only [↓nmk_e, ↓reduceIte, Option.bind_some, Option.map_some, lit, ofN, nI_add, pk_sub, pk_mul, nI_clamp, nI_leI, nI_ltI, nI_eq, pk_div, nI_an, nleT, nleF, nltT, nltF, neqT, neqF, or_false, false_or, or_self, or_true, true_or, and_self, and_true, true_and, and_false, false_and, not_true_eq_false, not_false_eq_true, f0, f1, eB, mv_6, mv_5, mv_g5, mv_g6, mv_mv, inI, c]
        rfl
