/-! runs, class -/
theorem fill_s (w : CW) {k i : Nat} (x : Int32) (h : i < cp k) : (rFill w k x).1 k i = x := by
  unfold rFill sF
  simp only [↓reduceIte, h]
theorem fill_n (w : CW) {k a : Nat} (x : Int32) (h : a ≠ k) : (rFill w k x).1 a = w.1 a := by
  unfold rFill sF
  simp only [h, ↓reduceIte]
def Mk (f : Nat → Int32) (n : Nat) (u : CW) (m : Nat) : Prop := ∀ p, p < 10 → ∃ q, q < 1024 ∧ u.1 54 p = nI q ∧ ∀ a, q.testBit a = true ↔ p < n ∧ ∃ r, r < m ∧ RfB f r = p ∧ RfA f r = a ∧ a < n
theorem l_can {f : Nat → Int32} {u : CW} {n p s : Nat} (R : RRow f) (h : Mk f n u (RfM f)) (hn : n ≤ 10) (hp : p < n) (hs : s < 1024) : f_X1_canFollow u (nI p) (nI s) = nI (if mcb f n p s = true then 1 else 0) := by
  obtain ⟨q, hq, e, hb⟩ := h p (by omega)
  have sb := tb01 s p
  have ha := andn (a := q) (b := s) (by omega) (by omega)
  have ha0 := andn0 (a := q) (b := s) (by omega)
  have hall : (∀ i, q.testBit i = true → s.testBit i = true) ↔ ∀ r, r < RfM f → rcond f n p s r := by
    constructor
    · intro z r hr h1 h2
      exact z _ ((hb _).mpr ⟨hp, r, hr, h1, rfl, h2⟩)
    · intro z i hi
      obtain ⟨-, r, hr, h1, h2, h3⟩ := (hb i).mp hi
      rw [← h2]
      exact z r hr h1 (by rw [h2]; exact h3)
  have hlt : q &&& (s ^^^ (2 ^ 31 - 1)) < 2 ^ 31 := Nat.lt_of_le_of_lt Nat.and_le_left (by omega)
  unfold f_X1_canFollow
  by_cases c : s.testBit p = true
  · rw [if_pos c] at sb
    have hm : ¬ mcb f n p s = true := fun z => by rw [(mcb_iff.mp z).1] at c; cases c
    rw [if_neg hm]
    simp (disch := omega) only [↓nmk_e, ↓reduceIte, Option.bind_some, Option.map_some, lit, ofN, nI_add, pk_sub, pk_mul, nI_clamp, nI_leI, nI_ltI, nI_eq, pk_div, nI_an, nleT, nleF, nltT, nltF, neqT, neqF, or_false, false_or, or_self, or_true, true_or, and_self, and_true, true_and, and_false, false_and, not_true_eq_false, not_false_eq_true, f_X12_isSort, f_X12_isDay, f_X11_isSort, f_X11_isDay, inI, inP, f_X5_size, f_X5_isFull, f_X11_now, f_X2_isKind, f_X2_has, f_X3_has, f_X8_hasPage, f_X8_hasAllPages, f_X8_stands, f_X1_isPrinted, f_X1_rule, f_X9_has, f_X9_isFull, f_X12_isPage, f_X12_isVerse, sC_s, sC_n, sC_2, sN_1, sN_s, sN_n, sN_2, sS_1, sS_2, sS_s, sS_n, upd_s, upd_e, upd_n, rAt, rPut, rAdd, rSwap, rPush, rNumber, cp_0, cp_1, cp_2, cp_3, cp_4, cp_5, cp_6, cp_7, cp_8, cp_9, cp_10, cp_11, cp_12, cp_13, cp_14, cp_15, cp_16, cp_17, cp_18, cp_19, cp_20, cp_21, cp_22, cp_23, cp_24, cp_25, cp_26, cp_27, cp_28, cp_29, cp_30, cp_31, cp_32, cp_33, cp_34, cp_35, cp_36, cp_37, cp_38, cp_39, cp_40, cp_41, cp_42, cp_43, cp_44, cp_45, cp_46, cp_47, cp_48, cp_49, cp_50, cp_51, cp_52, cp_53, cp_54, cp_55, cp_56, cp_57, sbit, sb]
  · rw [if_neg c] at sb
    by_cases c2 : q &&& (s ^^^ (2 ^ 31 - 1)) = 0
    · rw [if_pos (mcb_iff.mpr ⟨Bool.eq_false_iff.mpr c, hall.mp (ha0.mp c2)⟩)]
      simp (disch := omega) only [↓nmk_e, ↓reduceIte, Option.bind_some, Option.map_some, lit, ofN, nI_add, pk_sub, pk_mul, nI_clamp, nI_leI, nI_ltI, nI_eq, pk_div, nI_an, nleT, nleF, nltT, nltF, neqT, neqF, or_false, false_or, or_self, or_true, true_or, and_self, and_true, true_and, and_false, false_and, not_true_eq_false, not_false_eq_true, f_X12_isSort, f_X12_isDay, f_X11_isSort, f_X11_isDay, inI, inP, f_X5_size, f_X5_isFull, f_X11_now, f_X2_isKind, f_X2_has, f_X3_has, f_X8_hasPage, f_X8_hasAllPages, f_X8_stands, f_X1_isPrinted, f_X1_rule, f_X9_has, f_X9_isFull, f_X12_isPage, f_X12_isVerse, sC_s, sC_n, sC_2, sN_1, sN_s, sN_n, sN_2, sS_1, sS_2, sS_s, sS_n, upd_s, upd_e, upd_n, rAt, rPut, rAdd, rSwap, rPush, rNumber, cp_0, cp_1, cp_2, cp_3, cp_4, cp_5, cp_6, cp_7, cp_8, cp_9, cp_10, cp_11, cp_12, cp_13, cp_14, cp_15, cp_16, cp_17, cp_18, cp_19, cp_20, cp_21, cp_22, cp_23, cp_24, cp_25, cp_26, cp_27, cp_28, cp_29, cp_30, cp_31, cp_32, cp_33, cp_34, cp_35, cp_36, cp_37, cp_38, cp_39, cp_40, cp_41, cp_42, cp_43, cp_44, cp_45, cp_46, cp_47, cp_48, cp_49, cp_50, cp_51, cp_52, cp_53, cp_54, cp_55, cp_56, cp_57, sbit, sb, e, ha, c2]
    · have hm : ¬ mcb f n p s = true := fun z => c2 (ha0.mpr (hall.mpr (mcb_iff.mp z).2))
      rw [if_neg hm]
      have c3 : ¬ nI (q &&& (s ^^^ (2 ^ 31 - 1))) = nI 0 := fun z => c2 ((nI_eq hlt (by decide)).mp z)
      simp (disch := omega) only [↓nmk_e, ↓reduceIte, lit, nI_clamp, nI_leI, nI_ltI, nleT, nleF, nltT, nltF, neqT, neqF, or_false, false_or, or_self, or_true, true_or, and_self, and_true, true_and, and_false, false_and, not_true_eq_false, not_false_eq_true, rAt, rPut, rAdd, rSwap, rPush, rNumber, cp_0, cp_1, cp_2, cp_3, cp_4, cp_5, cp_6, cp_7, cp_8, cp_9, cp_10, cp_11, cp_12, cp_13, cp_14, cp_15, cp_16, cp_17, cp_18, cp_19, cp_20, cp_21, cp_22, cp_23, cp_24, cp_25, cp_26, cp_27, cp_28, cp_29, cp_30, cp_31, cp_32, cp_33, cp_34, cp_35, cp_36, cp_37, cp_38, cp_39, cp_40, cp_41, cp_42, cp_43, cp_44, cp_45, cp_46, cp_47, cp_48, cp_49, cp_50, cp_51, cp_52, cp_53, cp_54, cp_55, cp_56, cp_57, sbit, sb, e, ha, c3]
theorem l_fore {w : CW} {f : Nat → Int32} (R : RRow f) (hw : w.2.1 29 = nI (RfM f)) (hr : ∀ r, r < RfM f → w.1 29 r = nI (10 * RfA f r + RfB f r)) {n : Nat} (hn : n ≤ 10) : ∃ w', f_X1_findForerunners w (nI n) = some w' ∧ (∀ k, k ≠ 54 → w'.1 k = w.1 k) ∧ w'.2 = w.2 ∧ Mk f n w' (RfM f) := by
  have hm := R.2.1
  unfold f_X1_findForerunners
  simp only [↓nmk_e]
  refine run1 (fun q i x => f_X1_findForerunners_L10 (nI n) q i x) (fun i x => (∀ k, k ≠ 54 → x.1 k = w.1 k) ∧ x.2 = w.2 ∧ Mk f n x i) (RfM f) (fun y => ∃ w', y = some w' ∧ (∀ k, k ≠ 54 → w'.1 k = w.1 k) ∧ w'.2 = w.2 ∧ Mk f n w' (RfM f)) ?_ ?_ FU 0 (rFill w 54 0) (Nat.zero_le _) (by unfold FU; omega) ⟨fun k hk => ?_, rfl, fun p hp => ⟨0, by decide, ?_, fun a => ?_⟩⟩
  · rintro q x ⟨h1, h2, h3⟩
    refine ⟨x, ?_, h1, h2, h3⟩
    have n1 : x.2.1 29 = nI (RfM f) := by rw [h2]; exact hw
    simp (disch := omega) only [f_X1_findForerunners_L10, ↓nmk_e, ↓reduceIte, Option.bind_some, Option.map_some, lit, ofN, nI_add, pk_sub, pk_mul, nI_clamp, nI_leI, nI_ltI, nI_eq, pk_div, nI_an, nleT, nleF, nltT, nltF, neqT, neqF, or_false, false_or, or_self, or_true, true_or, and_self, and_true, true_and, and_false, false_and, not_true_eq_false, not_false_eq_true, f_X12_isSort, f_X12_isDay, f_X11_isSort, f_X11_isDay, inI, inP, f_X5_size, f_X5_isFull, f_X11_now, f_X2_isKind, f_X2_has, f_X3_has, f_X8_hasPage, f_X8_hasAllPages, f_X8_stands, f_X1_isPrinted, f_X1_rule, f_X9_has, f_X9_isFull, f_X12_isPage, f_X12_isVerse, sC_s, sC_n, sC_2, sN_1, sN_s, sN_n, sN_2, sS_1, sS_2, sS_s, sS_n, upd_s, upd_e, upd_n, rAt, rPut, rAdd, rSwap, rPush, rNumber, cp_0, cp_1, cp_2, cp_3, cp_4, cp_5, cp_6, cp_7, cp_8, cp_9, cp_10, cp_11, cp_12, cp_13, cp_14, cp_15, cp_16, cp_17, cp_18, cp_19, cp_20, cp_21, cp_22, cp_23, cp_24, cp_25, cp_26, cp_27, cp_28, cp_29, cp_30, cp_31, cp_32, cp_33, cp_34, cp_35, cp_36, cp_37, cp_38, cp_39, cp_40, cp_41, cp_42, cp_43, cp_44, cp_45, cp_46, cp_47, cp_48, cp_49, cp_50, cp_51, cp_52, cp_53, cp_54, cp_55, cp_56, cp_57, n1]
  · rintro q i x hi ⟨h1, h2, h3⟩
    have n1 : x.2.1 29 = nI (RfM f) := by rw [h2]; exact hw
    have n2 : x.1 29 i = nI (10 * RfA f i + RfB f i) := by rw [h1 29 (by decide)]; exact hr i hi
    obtain ⟨-, ra, -, rb⟩ := R.2.2 i hi
    have d1 : (10 * RfA f i + RfB f i) / 10 = RfA f i := by omega
    have d2 : 10 * RfA f i + RfB f i - RfA f i * 10 = RfB f i := by omega
    have same : ¬ (RfA f i < n ∧ RfB f i < n) → Mk f n x (i + 1) := fun hc p hp => by
      obtain ⟨q, hq, e, hb⟩ := h3 p hp
      refine ⟨q, hq, e, fun a => (hb a).trans ?_⟩
      constructor
      · rintro ⟨z1, r, z2, z3⟩; exact ⟨z1, r, by omega, z3⟩
      · rintro ⟨z1, r, z2, z3, z4, z5⟩
        refine ⟨z1, r, ?_, z3, z4, z5⟩
        by_cases c : r = i
        · subst c; exact absurd ⟨by omega, by omega⟩ hc
        · omega
    by_cases c1 : RfA f i < n
    · by_cases c2 : RfB f i < n
      · obtain ⟨q, hq, e, hb⟩ := h3 (RfB f i) (by omega)
        have ho : nI q ||| (nI 1 <<< (nI (RfA f i) &&& nI 31)) = nI (q ||| 2 ^ RfA f i) := or1 (by omega)
        refine .inr ⟨sC x 54 (RfB f i) (nI (q ||| 2 ^ RfA f i)), ?_, fun k hk => ?_, h2, fun p hp => ?_⟩
        · simp (disch := omega) only [f_X1_findForerunners_L10, ↓nmk_e, ↓reduceIte, Option.bind_some, Option.map_some, lit, ofN, nI_add, pk_sub, pk_mul, nI_clamp, nI_leI, nI_ltI, nI_eq, pk_div, nI_an, nleT, nleF, nltT, nltF, neqT, neqF, or_false, false_or, or_self, or_true, true_or, and_self, and_true, true_and, and_false, false_and, not_true_eq_false, not_false_eq_true, f_X12_isSort, f_X12_isDay, f_X11_isSort, f_X11_isDay, inI, inP, f_X5_size, f_X5_isFull, f_X11_now, f_X2_isKind, f_X2_has, f_X3_has, f_X8_hasPage, f_X8_hasAllPages, f_X8_stands, f_X1_isPrinted, f_X1_rule, f_X9_has, f_X9_isFull, f_X12_isPage, f_X12_isVerse, sC_s, sC_n, sC_2, sN_1, sN_s, sN_n, sN_2, sS_1, sS_2, sS_s, sS_n, upd_s, upd_e, upd_n, rAt, rPut, rAdd, rSwap, rPush, rNumber, cp_0, cp_1, cp_2, cp_3, cp_4, cp_5, cp_6, cp_7, cp_8, cp_9, cp_10, cp_11, cp_12, cp_13, cp_14, cp_15, cp_16, cp_17, cp_18, cp_19, cp_20, cp_21, cp_22, cp_23, cp_24, cp_25, cp_26, cp_27, cp_28, cp_29, cp_30, cp_31, cp_32, cp_33, cp_34, cp_35, cp_36, cp_37, cp_38, cp_39, cp_40, cp_41, cp_42, cp_43, cp_44, cp_45, cp_46, cp_47, cp_48, cp_49, cp_50, cp_51, cp_52, cp_53, cp_54, cp_55, cp_56, cp_57, n1, n2, d1, d2, e, ho]
        · simp (disch := omega) only [sC_s, sC_n, sC_2, sN_1, sN_s, sN_n, sN_2, sS_1, sS_2, sS_s, sS_n, upd_s, upd_e, upd_n]; exact h1 k hk
        · by_cases c : p = RfB f i
          · subst c
            refine ⟨q ||| 2 ^ RfA f i, or_lt (n := 10) hq ra, by simp (disch := omega) only [sC_s, sC_n, sC_2, sN_1, sN_s, sN_n, sN_2, sS_1, sS_2, sS_s, sS_n, upd_s, upd_e, upd_n], fun a => ?_⟩
            rw [or_bit, Bool.or_eq_true, hb a, decide_eq_true_iff]
            constructor
            · rintro (⟨z1, r, z2, z3⟩ | z)
              · exact ⟨z1, r, by omega, z3⟩
              · exact ⟨c2, i, by omega, rfl, z, by omega⟩
            · rintro ⟨z1, r, z2, z3, z4, z5⟩
              by_cases cr : r = i
              · subst cr; exact .inr z4
              · exact .inl ⟨z1, r, by omega, z3, z4, z5⟩
          · obtain ⟨q', hq', e', hb'⟩ := h3 p hp
            refine ⟨q', hq', by simp (disch := omega) only [sC_s, sC_n, sC_2, sN_1, sN_s, sN_n, sN_2, sS_1, sS_2, sS_s, sS_n, upd_s, upd_e, upd_n]; exact e', fun a => (hb' a).trans ?_⟩
            constructor
            · rintro ⟨z1, r, z2, z3⟩; exact ⟨z1, r, by omega, z3⟩
            · rintro ⟨z1, r, z2, z3, z4, z5⟩
              refine ⟨z1, r, ?_, z3, z4, z5⟩
              by_cases cr : r = i
              · subst cr; exact absurd z3.symm c
              · omega
      · refine .inr ⟨x, ?_, h1, h2, same (fun z => c2 z.2)⟩
        simp (disch := omega) only [f_X1_findForerunners_L10, ↓nmk_e, ↓reduceIte, Option.bind_some, Option.map_some, lit, ofN, nI_add, pk_sub, pk_mul, nI_clamp, nI_leI, nI_ltI, nI_eq, pk_div, nI_an, nleT, nleF, nltT, nltF, neqT, neqF, or_false, false_or, or_self, or_true, true_or, and_self, and_true, true_and, and_false, false_and, not_true_eq_false, not_false_eq_true, f_X12_isSort, f_X12_isDay, f_X11_isSort, f_X11_isDay, inI, inP, f_X5_size, f_X5_isFull, f_X11_now, f_X2_isKind, f_X2_has, f_X3_has, f_X8_hasPage, f_X8_hasAllPages, f_X8_stands, f_X1_isPrinted, f_X1_rule, f_X9_has, f_X9_isFull, f_X12_isPage, f_X12_isVerse, sC_s, sC_n, sC_2, sN_1, sN_s, sN_n, sN_2, sS_1, sS_2, sS_s, sS_n, upd_s, upd_e, upd_n, rAt, rPut, rAdd, rSwap, rPush, rNumber, cp_0, cp_1, cp_2, cp_3, cp_4, cp_5, cp_6, cp_7, cp_8, cp_9, cp_10, cp_11, cp_12, cp_13, cp_14, cp_15, cp_16, cp_17, cp_18, cp_19, cp_20, cp_21, cp_22, cp_23, cp_24, cp_25, cp_26, cp_27, cp_28, cp_29, cp_30, cp_31, cp_32, cp_33, cp_34, cp_35, cp_36, cp_37, cp_38, cp_39, cp_40, cp_41, cp_42, cp_43, cp_44, cp_45, cp_46, cp_47, cp_48, cp_49, cp_50, cp_51, cp_52, cp_53, cp_54, cp_55, cp_56, cp_57, n1, n2, d1, d2]
    · refine .inr ⟨x, ?_, h1, h2, same (fun z => c1 z.1)⟩
      simp (disch := omega) only [f_X1_findForerunners_L10, ↓nmk_e, ↓reduceIte, Option.bind_some, Option.map_some, lit, ofN, nI_add, pk_sub, pk_mul, nI_clamp, nI_leI, nI_ltI, nI_eq, pk_div, nI_an, nleT, nleF, nltT, nltF, neqT, neqF, or_false, false_or, or_self, or_true, true_or, and_self, and_true, true_and, and_false, false_and, not_true_eq_false, not_false_eq_true, f_X12_isSort, f_X12_isDay, f_X11_isSort, f_X11_isDay, inI, inP, f_X5_size, f_X5_isFull, f_X11_now, f_X2_isKind, f_X2_has, f_X3_has, f_X8_hasPage, f_X8_hasAllPages, f_X8_stands, f_X1_isPrinted, f_X1_rule, f_X9_has, f_X9_isFull, f_X12_isPage, f_X12_isVerse, sC_s, sC_n, sC_2, sN_1, sN_s, sN_n, sN_2, sS_1, sS_2, sS_s, sS_n, upd_s, upd_e, upd_n, rAt, rPut, rAdd, rSwap, rPush, rNumber, cp_0, cp_1, cp_2, cp_3, cp_4, cp_5, cp_6, cp_7, cp_8, cp_9, cp_10, cp_11, cp_12, cp_13, cp_14, cp_15, cp_16, cp_17, cp_18, cp_19, cp_20, cp_21, cp_22, cp_23, cp_24, cp_25, cp_26, cp_27, cp_28, cp_29, cp_30, cp_31, cp_32, cp_33, cp_34, cp_35, cp_36, cp_37, cp_38, cp_39, cp_40, cp_41, cp_42, cp_43, cp_44, cp_45, cp_46, cp_47, cp_48, cp_49, cp_50, cp_51, cp_52, cp_53, cp_54, cp_55, cp_56, cp_57, n1, n2, d1, d2]
  · exact fill_n w 0 hk
  · exact fill_s w 0 hp
  · rw [Nat.zero_testBit]
    constructor
    · intro z; cases z
    · rintro ⟨-, r, z, -⟩; exact absurd z (Nat.not_lt_zero r)
/-- the class's numbers of orders, set by set -/
def Fw (n : Nat) (u : CW) (W : Nat → Nat) : Prop := ∀ t, t < 2 ^ n → u.1 57 t = nI (W t) ∧ W t ≤ 3628800
theorem fw_le {n N s : Nat} {W : Nat → Nat} {mc : Nat → Nat → Bool} (p : Nat) (hN : N = 2 ^ n) (hn : n ≤ 10) (h : PS mc n N (fun t => fac (co n t)) W s p ≤ 3628800) {t : Nat} (h1 : s < t) (h2 : t < N) : W t ≤ 3628800 := by
  have a := sg_ge (fun t => if s + 1 ≤ t then W t * fac (co n t) else 0) N t h2
  have a : (if s + 1 ≤ t then W t * fac (co n t) else 0) ≤ PH N (fun t => fac (co n t)) W (s + 1) := a
  rw [if_pos (show s + 1 ≤ t from h1)] at a
  unfold PS at h
  have b := Nat.le_mul_of_pos_right (W t) (fac_pos (co n t))
  omega
theorem l_cntI {f : Nat → Int32} {u : CW} {n s b0 : Nat} {W : Nat → Nat} {B : Nat → Nat} (R : RRow f) (hM : Mk f n u (RfM f)) (hn : n ≤ 10) (hs : s < 2 ^ n) (hF : Fw n u W) (hB : PS (mcb f n) n (2 ^ n) B W s 0 = b0) (hD : PS (mcb f n) n (2 ^ n) (fun t => fac (co n t)) W s 0 ≤ 3628800) :
    ∃ (w' : CW) (W' : Nat → Nat), (∀ j, f_X1_countRuns_L45 (nI n) (nI s) j FU (nI 0) u = j w') ∧ (∀ k, k ≠ 57 → w'.1 k = u.1 k) ∧ w'.2 = u.2 ∧ Fw n w' W' ∧ PH (2 ^ n) B W' (s + 1) = b0 ∧ PH (2 ^ n) (fun t => fac (co n t)) W' (s + 1) ≤ 3628800 ∧ (s = 2 ^ n - 1 → W' s = W s) := by
  have hp := pow10 hn
  have hgoal : ∀ (q i : Nat) (x : CW) (W' : Nat → Nat), i ≤ n → (∀ k, k ≠ 57 → x.1 k = u.1 k) → x.2 = u.2 → Fw n x W' → PS (mcb f n) n (2 ^ n) B W' s i = b0 → PS (mcb f n) n (2 ^ n) (fun t => fac (co n t)) W' s i ≤ 3628800 → W' s = W s → (i = n ∨ W' s = 0) → ∃ (w' : CW) (W' : Nat → Nat), (∀ j, f_X1_countRuns_L45 (nI n) (nI s) j (q + 1) (nI i) x = j w') ∧ (∀ k, k ≠ 57 → w'.1 k = u.1 k) ∧ w'.2 = u.2 ∧ Fw n w' W' ∧ PH (2 ^ n) B W' (s + 1) = b0 ∧ PH (2 ^ n) (fun t => fac (co n t)) W' (s + 1) ≤ 3628800 ∧ (s = 2 ^ n - 1 → W' s = W s) := by
    intro q i x W' hi h1 h2 h3 h4 h5 h6 h7
    obtain ⟨e1, e2⟩ := h3 s hs
    refine ⟨x, W', fun j => ?_, h1, h2, h3, ?_, ?_, fun _ => h6⟩
    · rcases h7 with rfl | h7
      · simp (disch := omega) only [f_X1_countRuns_L45, ↓nmk_e, ↓reduceIte, Option.bind_some, Option.map_some, lit, ofN, nI_add, pk_sub, pk_mul, nI_clamp, nI_leI, nI_ltI, nI_eq, pk_div, nI_an, nleT, nleF, nltT, nltF, neqT, neqF, or_false, false_or, or_self, or_true, true_or, and_self, and_true, true_and, and_false, false_and, not_true_eq_false, not_false_eq_true, f_X12_isSort, f_X12_isDay, f_X11_isSort, f_X11_isDay, inI, inP, f_X5_size, f_X5_isFull, f_X11_now, f_X2_isKind, f_X2_has, f_X3_has, f_X8_hasPage, f_X8_hasAllPages, f_X8_stands, f_X1_isPrinted, f_X1_rule, f_X9_has, f_X9_isFull, f_X12_isPage, f_X12_isVerse, sC_s, sC_n, sC_2, sN_1, sN_s, sN_n, sN_2, sS_1, sS_2, sS_s, sS_n, upd_s, upd_e, upd_n, rAt, rPut, rAdd, rSwap, rPush, rNumber, cp_0, cp_1, cp_2, cp_3, cp_4, cp_5, cp_6, cp_7, cp_8, cp_9, cp_10, cp_11, cp_12, cp_13, cp_14, cp_15, cp_16, cp_17, cp_18, cp_19, cp_20, cp_21, cp_22, cp_23, cp_24, cp_25, cp_26, cp_27, cp_28, cp_29, cp_30, cp_31, cp_32, cp_33, cp_34, cp_35, cp_36, cp_37, cp_38, cp_39, cp_40, cp_41, cp_42, cp_43, cp_44, cp_45, cp_46, cp_47, cp_48, cp_49, cp_50, cp_51, cp_52, cp_53, cp_54, cp_55, cp_56, cp_57]
      · by_cases c : i = n
        · subst c
          simp (disch := omega) only [f_X1_countRuns_L45, ↓nmk_e, ↓reduceIte, Option.bind_some, Option.map_some, lit, ofN, nI_add, pk_sub, pk_mul, nI_clamp, nI_leI, nI_ltI, nI_eq, pk_div, nI_an, nleT, nleF, nltT, nltF, neqT, neqF, or_false, false_or, or_self, or_true, true_or, and_self, and_true, true_and, and_false, false_and, not_true_eq_false, not_false_eq_true, f_X12_isSort, f_X12_isDay, f_X11_isSort, f_X11_isDay, inI, inP, f_X5_size, f_X5_isFull, f_X11_now, f_X2_isKind, f_X2_has, f_X3_has, f_X8_hasPage, f_X8_hasAllPages, f_X8_stands, f_X1_isPrinted, f_X1_rule, f_X9_has, f_X9_isFull, f_X12_isPage, f_X12_isVerse, sC_s, sC_n, sC_2, sN_1, sN_s, sN_n, sN_2, sS_1, sS_2, sS_s, sS_n, upd_s, upd_e, upd_n, rAt, rPut, rAdd, rSwap, rPush, rNumber, cp_0, cp_1, cp_2, cp_3, cp_4, cp_5, cp_6, cp_7, cp_8, cp_9, cp_10, cp_11, cp_12, cp_13, cp_14, cp_15, cp_16, cp_17, cp_18, cp_19, cp_20, cp_21, cp_22, cp_23, cp_24, cp_25, cp_26, cp_27, cp_28, cp_29, cp_30, cp_31, cp_32, cp_33, cp_34, cp_35, cp_36, cp_37, cp_38, cp_39, cp_40, cp_41, cp_42, cp_43, cp_44, cp_45, cp_46, cp_47, cp_48, cp_49, cp_50, cp_51, cp_52, cp_53, cp_54, cp_55, cp_56, cp_57]
        · simp (disch := omega) only [f_X1_countRuns_L45, ↓nmk_e, ↓reduceIte, Option.bind_some, Option.map_some, lit, ofN, nI_add, pk_sub, pk_mul, nI_clamp, nI_leI, nI_ltI, nI_eq, pk_div, nI_an, nleT, nleF, nltT, nltF, neqT, neqF, or_false, false_or, or_self, or_true, true_or, and_self, and_true, true_and, and_false, false_and, not_true_eq_false, not_false_eq_true, f_X12_isSort, f_X12_isDay, f_X11_isSort, f_X11_isDay, inI, inP, f_X5_size, f_X5_isFull, f_X11_now, f_X2_isKind, f_X2_has, f_X3_has, f_X8_hasPage, f_X8_hasAllPages, f_X8_stands, f_X1_isPrinted, f_X1_rule, f_X9_has, f_X9_isFull, f_X12_isPage, f_X12_isVerse, sC_s, sC_n, sC_2, sN_1, sN_s, sN_n, sN_2, sS_1, sS_2, sS_s, sS_n, upd_s, upd_e, upd_n, rAt, rPut, rAdd, rSwap, rPush, rNumber, cp_0, cp_1, cp_2, cp_3, cp_4, cp_5, cp_6, cp_7, cp_8, cp_9, cp_10, cp_11, cp_12, cp_13, cp_14, cp_15, cp_16, cp_17, cp_18, cp_19, cp_20, cp_21, cp_22, cp_23, cp_24, cp_25, cp_26, cp_27, cp_28, cp_29, cp_30, cp_31, cp_32, cp_33, cp_34, cp_35, cp_36, cp_37, cp_38, cp_39, cp_40, cp_41, cp_42, cp_43, cp_44, cp_45, cp_46, cp_47, cp_48, cp_49, cp_50, cp_51, cp_52, cp_53, cp_54, cp_55, cp_56, cp_57, e1]
    · rcases h7 with rfl | h7
      · rw [PS_end] at h4; exact h4
      · rw [PS_zero i h7] at h4; exact h4
    · rcases h7 with rfl | h7
      · rw [PS_end] at h5; exact h5
      · rw [PS_zero i h7] at h5; exact h5
  refine run1 (fun q i (x : CW) => fun j => f_X1_countRuns_L45 (nI n) (nI s) j q i x) (fun i x => ∃ W' : Nat → Nat, (∀ k, k ≠ 57 → x.1 k = u.1 k) ∧ x.2 = u.2 ∧ Fw n x W' ∧ PS (mcb f n) n (2 ^ n) B W' s i = b0 ∧ PS (mcb f n) n (2 ^ n) (fun t => fac (co n t)) W' s i ≤ 3628800 ∧ W' s = W s) n (fun y => ∃ (w' : CW) (W' : Nat → Nat), (∀ j, y j = j w') ∧ (∀ k, k ≠ 57 → w'.1 k = u.1 k) ∧ w'.2 = u.2 ∧ Fw n w' W' ∧ PH (2 ^ n) B W' (s + 1) = b0 ∧ PH (2 ^ n) (fun t => fac (co n t)) W' (s + 1) ≤ 3628800 ∧ (s = 2 ^ n - 1 → W' s = W s)) ?_ ?_ FU 0 u (Nat.zero_le _) (by unfold FU; omega) ⟨W, fun _ _ => rfl, rfl, hF, hB, hD, rfl⟩
  · rintro q x ⟨W', h1, h2, h3, h4, h5, h6⟩
    exact hgoal q n x W' (Nat.le_refl _) h1 h2 h3 h4 h5 h6 (.inl rfl)
  · rintro q i x hi ⟨W', h1, h2, h3, h4, h5, h6⟩
    by_cases c0 : W' s = 0
    · exact .inl (hgoal q i x W' (by omega) h1 h2 h3 h4 h5 h6 (.inr c0))
    obtain ⟨e1, e2⟩ := h3 s hs
    have hMx : Mk f n x (RfM f) := fun p hp => by rw [h1 54 (by decide)]; exact hM p hp
    have hc := l_can R hMx hn hi (s := s) (by omega)
    by_cases c : mcb f n i s = true
    · rw [if_pos c] at hc
      have hb := mcb_1 i s c
      have hgt := or_gt hb
      have hlt := or_lt hs hi
      have ho : nI s ||| (nI 1 <<< (nI i &&& nI 31)) = nI (s ||| 2 ^ i) := or1 (by omega)
      obtain ⟨t1, t2⟩ := h3 _ hlt
      let W2 : Nat → Nat := fun t => if t = s ||| 2 ^ i then W' (s ||| 2 ^ i) + W' s else W' t
      have f1 : W2 (s ||| 2 ^ i) = W' (s ||| 2 ^ i) + W' s := if_pos rfl
      have f2 : ∀ t, t ≠ s ||| 2 ^ i → W2 t = W' t := fun t ht => if_neg ht
      have g1 := PS_yes (D := B) (W := W') (W' := W2) hi hlt hb c f1 f2
      have g2 := PS_yes (D := fun t => fac (co n t)) (W := W') (W' := W2) hi hlt hb c f1 f2
      have g3 : PS (mcb f n) n (2 ^ n) (fun t => fac (co n t)) W2 s (i + 1) ≤ 3628800 := by rw [g2]; exact h5
      refine .inr ⟨sC x 57 (s ||| 2 ^ i) (nI (W' (s ||| 2 ^ i) + W' s)), funext fun j => ?_, W2, fun k hk => ?_, h2, fun t ht => ?_, by rw [g1]; exact h4, g3, by rw [f2 s (by omega)]; exact h6⟩
      · simp (disch := omega) only [f_X1_countRuns_L45, ↓nmk_e, ↓reduceIte, Option.bind_some, Option.map_some, lit, ofN, nI_add, pk_sub, pk_mul, nI_clamp, nI_leI, nI_ltI, nI_eq, pk_div, nI_an, nleT, nleF, nltT, nltF, neqT, neqF, or_false, false_or, or_self, or_true, true_or, and_self, and_true, true_and, and_false, false_and, not_true_eq_false, not_false_eq_true, f_X12_isSort, f_X12_isDay, f_X11_isSort, f_X11_isDay, inI, inP, f_X5_size, f_X5_isFull, f_X11_now, f_X2_isKind, f_X2_has, f_X3_has, f_X8_hasPage, f_X8_hasAllPages, f_X8_stands, f_X1_isPrinted, f_X1_rule, f_X9_has, f_X9_isFull, f_X12_isPage, f_X12_isVerse, sC_s, sC_n, sC_2, sN_1, sN_s, sN_n, sN_2, sS_1, sS_2, sS_s, sS_n, upd_s, upd_e, upd_n, rAt, rPut, rAdd, rSwap, rPush, rNumber, cp_0, cp_1, cp_2, cp_3, cp_4, cp_5, cp_6, cp_7, cp_8, cp_9, cp_10, cp_11, cp_12, cp_13, cp_14, cp_15, cp_16, cp_17, cp_18, cp_19, cp_20, cp_21, cp_22, cp_23, cp_24, cp_25, cp_26, cp_27, cp_28, cp_29, cp_30, cp_31, cp_32, cp_33, cp_34, cp_35, cp_36, cp_37, cp_38, cp_39, cp_40, cp_41, cp_42, cp_43, cp_44, cp_45, cp_46, cp_47, cp_48, cp_49, cp_50, cp_51, cp_52, cp_53, cp_54, cp_55, cp_56, cp_57, e1, hc, ho, t1]
      · simp (disch := omega) only [sC_s, sC_n, sC_2, sN_1, sN_s, sN_n, sN_2, sS_1, sS_2, sS_s, sS_n, upd_s, upd_e, upd_n]; exact h1 k hk
      · by_cases ct : t = s ||| 2 ^ i
        · subst ct
          simp (disch := omega) only [sC_s, sC_n, sC_2, sN_1, sN_s, sN_n, sN_2, sS_1, sS_2, sS_s, sS_n, upd_s, upd_e, upd_n]
          rw [f1]
          exact ⟨rfl, by rw [← f1]; exact fw_le (i + 1) rfl hn g3 hgt hlt⟩
        · simp (disch := omega) only [sC_s, sC_n, sC_2, sN_1, sN_s, sN_n, sN_2, sS_1, sS_2, sS_s, sS_n, upd_s, upd_e, upd_n]
          rw [f2 t ct]
          exact h3 t ht
    · rw [if_neg c] at hc
      refine .inr ⟨x, funext fun j => ?_, W', h1, h2, h3, by rw [PS_no c]; exact h4, by rw [PS_no c]; exact h5, h6⟩
      simp (disch := omega) only [f_X1_countRuns_L45, ↓nmk_e, ↓reduceIte, Option.bind_some, Option.map_some, lit, ofN, nI_add, pk_sub, pk_mul, nI_clamp, nI_leI, nI_ltI, nI_eq, pk_div, nI_an, nleT, nleF, nltT, nltF, neqT, neqF, or_false, false_or, or_self, or_true, true_or, and_self, and_true, true_and, and_false, false_and, not_true_eq_false, not_false_eq_true, f_X12_isSort, f_X12_isDay, f_X11_isSort, f_X11_isDay, inI, inP, f_X5_size, f_X5_isFull, f_X11_now, f_X2_isKind, f_X2_has, f_X3_has, f_X8_hasPage, f_X8_hasAllPages, f_X8_stands, f_X1_isPrinted, f_X1_rule, f_X9_has, f_X9_isFull, f_X12_isPage, f_X12_isVerse, sC_s, sC_n, sC_2, sN_1, sN_s, sN_n, sN_2, sS_1, sS_2, sS_s, sS_n, upd_s, upd_e, upd_n, rAt, rPut, rAdd, rSwap, rPush, rNumber, cp_0, cp_1, cp_2, cp_3, cp_4, cp_5, cp_6, cp_7, cp_8, cp_9, cp_10, cp_11, cp_12, cp_13, cp_14, cp_15, cp_16, cp_17, cp_18, cp_19, cp_20, cp_21, cp_22, cp_23, cp_24, cp_25, cp_26, cp_27, cp_28, cp_29, cp_30, cp_31, cp_32, cp_33, cp_34, cp_35, cp_36, cp_37, cp_38, cp_39, cp_40, cp_41, cp_42, cp_43, cp_44, cp_45, cp_46, cp_47, cp_48, cp_49, cp_50, cp_51, cp_52, cp_53, cp_54, cp_55, cp_56, cp_57, e1, hc]
theorem l_cnt {w : CW} {f : Nat → Int32} {n : Nat} {B : Nat → Nat} (R : RRow f) (hw : w.2.1 29 = nI (RfM f)) (hr : ∀ r, r < RfM f → w.1 29 r = nI (10 * RfA f r + RfB f r)) (hn : n ≤ 10) (h1n : 1 ≤ n) (hB : ∀ s, s < 2 ^ n → isB (mcb f n) n B s) : ∃ w', f_X1_countRuns w (nI n) = some (nI (B 0), w') ∧ (∀ k, k ≠ 54 → k ≠ 57 → w'.1 k = w.1 k) ∧ w'.2 = w.2 ∧ Mk f n w' (RfM f) := by
  have hp := pow10 hn
  have hpos : 0 < 2 ^ n := Nat.two_pow_pos n
  obtain ⟨w1, e1, a1, a2, a3⟩ := l_fore R hw hr hn
  have hall : (nI 1 <<< (nI n &&& nI 31)) = nI (2 ^ n) := shl1 (by omega)
  let u0 := sC (rFill w1 57 0) 57 0 (nI 1)
  have hu : ∀ t, t < 2 ^ n → u0.1 57 t = nI (if t = 0 then 1 else 0) := fun t ht => by
    show (sC (rFill w1 57 0) 57 0 (nI 1)).1 57 t = _
    by_cases c : t = 0
    · subst c
      simp (disch := omega) only [sC_s, sC_n, sC_2, sN_1, sN_s, sN_n, sN_2, sS_1, sS_2, sS_s, sS_n, upd_s, upd_e, upd_n, ↓reduceIte]
    · simp (disch := omega) only [sC_s, sC_n, sC_2, sN_1, sN_s, sN_n, sN_2, sS_1, sS_2, sS_s, sS_n, upd_s, upd_e, upd_n]
      rw [if_neg c]
      exact fill_s w1 0 (show t < 1024 by omega)
  have hu1 : ∀ k, k ≠ 57 → u0.1 k = w1.1 k := fun k hk => by
    show (sC (rFill w1 57 0) 57 0 (nI 1)).1 k = _
    rw [sC_n _ _ _ hk]
    exact fill_n w1 0 hk
  have hM0 : Mk f n u0 (RfM f) := fun p hp => by rw [hu1 54 (by decide)]; exact a3 p hp
  have hPH0 : ∀ D : Nat → Nat, PH (2 ^ n) D (fun t => if t = 0 then 1 else 0) 0 = D 0 := fun D => by
    rw [PH_s hpos]
    have : PH (2 ^ n) D (fun t => if t = 0 then 1 else 0) (0 + 1) = 0 := sg_zero _ fun i _ => by
      show (if _ then (if _ then _ else _) * _ else _) = _
      by_cases c : 0 + 1 ≤ i
      · rw [if_pos c, if_neg (by omega), Nat.zero_mul]
      · rw [if_neg c]
    rw [this, Nat.zero_add]
    show (if 0 = 0 then 1 else 0) * D 0 = _
    rw [if_pos rfl, Nat.one_mul]
  have fB : fac (co n 0) ≤ 3628800 := by
    have := fac_mono (a := co n 0) (b := 10) (by have := co_le n 0; omega)
    rw [fac10] at this; exact this
  have key := run1 (fun q i (x : CW) => fun j => f_X1_countRuns_L37 (nI n) (nI (2 ^ n)) j q i x) (fun s x => ∃ W : Nat → Nat, (∀ k, k ≠ 57 → x.1 k = u0.1 k) ∧ x.2 = u0.2 ∧ Fw n x W ∧ (s < 2 ^ n → PH (2 ^ n) B W s = B 0 ∧ PH (2 ^ n) (fun t => fac (co n t)) W s ≤ 3628800) ∧ (s = 2 ^ n → W (2 ^ n - 1) = B 0)) (2 ^ n) (fun y => ∃ (w' : CW) (W : Nat → Nat), (∀ j, y j = j w') ∧ (∀ k, k ≠ 57 → w'.1 k = u0.1 k) ∧ w'.2 = u0.2 ∧ Fw n w' W ∧ W (2 ^ n - 1) = B 0) ?_ ?_ FU 0 u0 (Nat.zero_le _) (by unfold FU; omega) ⟨fun t => if t = 0 then 1 else 0, fun _ _ => rfl, rfl, fun t ht => ⟨hu t ht, by show (if _ then _ else _) ≤ _; split <;> omega⟩, fun _ => ⟨hPH0 B, by rw [hPH0]; exact fB⟩, fun z => by omega⟩
  · obtain ⟨w', W, b1, b2, b3, b4, b5⟩ := key
    have b6 : w'.1 57 (2 ^ n - 1) = nI (B 0) := by rw [(b4 _ (by omega)).1, b5]
    refine ⟨w', ?_, fun k hk1 hk2 => ?_, ?_, fun p hp => ?_⟩
    · unfold f_X1_countRuns
      have b1 : ∀ j, f_X1_countRuns_L37 (nI n) (nI (2 ^ n)) j FU (nI 0) (sC (rFill w1 57 (nI 0)) 57 0 (nI 1)) = j w' := b1
      by_cases c : n = 10
      · simp (disch := omega) only [↓nmk_e, ↓reduceIte, Option.bind_some, Option.map_some, lit, ofN, nI_add, pk_sub, pk_mul, nI_clamp, nI_leI, nI_ltI, nI_eq, pk_div, nI_an, nleT, nleF, nltT, nltF, neqT, neqF, or_false, false_or, or_self, or_true, true_or, and_self, and_true, true_and, and_false, false_and, not_true_eq_false, not_false_eq_true, f_X12_isSort, f_X12_isDay, f_X11_isSort, f_X11_isDay, inI, inP, f_X5_size, f_X5_isFull, f_X11_now, f_X2_isKind, f_X2_has, f_X3_has, f_X8_hasPage, f_X8_hasAllPages, f_X8_stands, f_X1_isPrinted, f_X1_rule, f_X9_has, f_X9_isFull, f_X12_isPage, f_X12_isVerse, sC_s, sC_n, sC_2, sN_1, sN_s, sN_n, sN_2, sS_1, sS_2, sS_s, sS_n, upd_s, upd_e, upd_n, rAt, rPut, rAdd, rSwap, rPush, rNumber, cp_0, cp_1, cp_2, cp_3, cp_4, cp_5, cp_6, cp_7, cp_8, cp_9, cp_10, cp_11, cp_12, cp_13, cp_14, cp_15, cp_16, cp_17, cp_18, cp_19, cp_20, cp_21, cp_22, cp_23, cp_24, cp_25, cp_26, cp_27, cp_28, cp_29, cp_30, cp_31, cp_32, cp_33, cp_34, cp_35, cp_36, cp_37, cp_38, cp_39, cp_40, cp_41, cp_42, cp_43, cp_44, cp_45, cp_46, cp_47, cp_48, cp_49, cp_50, cp_51, cp_52, cp_53, cp_54, cp_55, cp_56, cp_57, e1, hall, b1, b6]
      · simp (disch := omega) only [↓nmk_e, ↓reduceIte, Option.bind_some, Option.map_some, lit, ofN, nI_add, pk_sub, pk_mul, nI_clamp, nI_leI, nI_ltI, nI_eq, pk_div, nI_an, nleT, nleF, nltT, nltF, neqT, neqF, or_false, false_or, or_self, or_true, true_or, and_self, and_true, true_and, and_false, false_and, not_true_eq_false, not_false_eq_true, f_X12_isSort, f_X12_isDay, f_X11_isSort, f_X11_isDay, inI, inP, f_X5_size, f_X5_isFull, f_X11_now, f_X2_isKind, f_X2_has, f_X3_has, f_X8_hasPage, f_X8_hasAllPages, f_X8_stands, f_X1_isPrinted, f_X1_rule, f_X9_has, f_X9_isFull, f_X12_isPage, f_X12_isVerse, sC_s, sC_n, sC_2, sN_1, sN_s, sN_n, sN_2, sS_1, sS_2, sS_s, sS_n, upd_s, upd_e, upd_n, rAt, rPut, rAdd, rSwap, rPush, rNumber, cp_0, cp_1, cp_2, cp_3, cp_4, cp_5, cp_6, cp_7, cp_8, cp_9, cp_10, cp_11, cp_12, cp_13, cp_14, cp_15, cp_16, cp_17, cp_18, cp_19, cp_20, cp_21, cp_22, cp_23, cp_24, cp_25, cp_26, cp_27, cp_28, cp_29, cp_30, cp_31, cp_32, cp_33, cp_34, cp_35, cp_36, cp_37, cp_38, cp_39, cp_40, cp_41, cp_42, cp_43, cp_44, cp_45, cp_46, cp_47, cp_48, cp_49, cp_50, cp_51, cp_52, cp_53, cp_54, cp_55, cp_56, cp_57, e1, hall, b1, b6]
    · rw [b2 k hk2, hu1 k hk2, a1 k hk1]
    · rw [b3]; exact a2
    · rw [b2 54 (by decide)]; exact hM0 p hp
  · rintro q x ⟨W, h1, h2, h3, -, h5⟩
    refine ⟨x, W, fun j => ?_, h1, h2, h3, h5 rfl⟩
    simp (disch := omega) only [f_X1_countRuns_L37, ↓nmk_e, ↓reduceIte, Option.bind_some, Option.map_some, lit, ofN, nI_add, pk_sub, pk_mul, nI_clamp, nI_leI, nI_ltI, nI_eq, pk_div, nI_an, nleT, nleF, nltT, nltF, neqT, neqF, or_false, false_or, or_self, or_true, true_or, and_self, and_true, true_and, and_false, false_and, not_true_eq_false, not_false_eq_true, f_X12_isSort, f_X12_isDay, f_X11_isSort, f_X11_isDay, inI, inP, f_X5_size, f_X5_isFull, f_X11_now, f_X2_isKind, f_X2_has, f_X3_has, f_X8_hasPage, f_X8_hasAllPages, f_X8_stands, f_X1_isPrinted, f_X1_rule, f_X9_has, f_X9_isFull, f_X12_isPage, f_X12_isVerse, sC_s, sC_n, sC_2, sN_1, sN_s, sN_n, sN_2, sS_1, sS_2, sS_s, sS_n, upd_s, upd_e, upd_n, rAt, rPut, rAdd, rSwap, rPush, rNumber, cp_0, cp_1, cp_2, cp_3, cp_4, cp_5, cp_6, cp_7, cp_8, cp_9, cp_10, cp_11, cp_12, cp_13, cp_14, cp_15, cp_16, cp_17, cp_18, cp_19, cp_20, cp_21, cp_22, cp_23, cp_24, cp_25, cp_26, cp_27, cp_28, cp_29, cp_30, cp_31, cp_32, cp_33, cp_34, cp_35, cp_36, cp_37, cp_38, cp_39, cp_40, cp_41, cp_42, cp_43, cp_44, cp_45, cp_46, cp_47, cp_48, cp_49, cp_50, cp_51, cp_52, cp_53, cp_54, cp_55, cp_56, cp_57]
  · rintro q s x hs ⟨W, h1, h2, h3, h4, -⟩
    obtain ⟨h4, h5⟩ := h4 hs
    have hMx : Mk f n x (RfM f) := fun p hp => by rw [h1 54 (by decide)]; exact hM0 p hp
    have hBs := hB s hs
    have c1 := PS_0 (mcb f n) n (2 ^ n) B W s
    have c2 := PS_0 (mcb f n) n (2 ^ n) (fun t => fac (co n t)) W s
    rw [PH_s hs] at h4 h5
    by_cases c : s = 2 ^ n - 1
    · -- the full set
      have z : ∀ D : Nat → Nat, sg (fun q => if mcb f n q s = true then D (s ||| 2 ^ q) else 0) n = 0 := fun D => sg_zero n fun i hi => by
        refine if_neg fun y => ?_
        have y2 := mcb_1 i s y
        rw [c, full_bit hi] at y2; cases y2
      have zP : ∀ D : Nat → Nat, PH (2 ^ n) D W (s + 1) = 0 := fun D => sg_zero _ fun i hi => if_neg (by omega)
      have z2 : sg (fun q => if mcb f n q s = true then fac (co n (s ||| 2 ^ q)) else 0) n = 0 := z (fun t => fac (co n t))
      rw [z, zP] at c1
      rw [z2, zP] at c2
      obtain ⟨w', W', d1, d2, d3, d4, d5, d6, d7⟩ := l_cntI R hMx hn hs h3 (b0 := 0) (B := B) (by rw [c1]; simp) (by rw [c2]; simp)
      have hB1 : B s = 1 := by rw [hBs, if_pos c, z]
      refine .inr ⟨w', funext fun j => ?_, W', fun k hk => ?_, ?_, d4, fun y => ?_, fun y => ?_⟩
      · simp (disch := omega) only [f_X1_countRuns_L37, ↓nmk_e, ↓reduceIte, Option.bind_some, Option.map_some, lit, ofN, nI_add, pk_sub, pk_mul, nI_clamp, nI_leI, nI_ltI, nI_eq, pk_div, nI_an, nleT, nleF, nltT, nltF, neqT, neqF, or_false, false_or, or_self, or_true, true_or, and_self, and_true, true_and, and_false, false_and, not_true_eq_false, not_false_eq_true, f_X12_isSort, f_X12_isDay, f_X11_isSort, f_X11_isDay, inI, inP, f_X5_size, f_X5_isFull, f_X11_now, f_X2_isKind, f_X2_has, f_X3_has, f_X8_hasPage, f_X8_hasAllPages, f_X8_stands, f_X1_isPrinted, f_X1_rule, f_X9_has, f_X9_isFull, f_X12_isPage, f_X12_isVerse, sC_s, sC_n, sC_2, sN_1, sN_s, sN_n, sN_2, sS_1, sS_2, sS_s, sS_n, upd_s, upd_e, upd_n, rAt, rPut, rAdd, rSwap, rPush, rNumber, cp_0, cp_1, cp_2, cp_3, cp_4, cp_5, cp_6, cp_7, cp_8, cp_9, cp_10, cp_11, cp_12, cp_13, cp_14, cp_15, cp_16, cp_17, cp_18, cp_19, cp_20, cp_21, cp_22, cp_23, cp_24, cp_25, cp_26, cp_27, cp_28, cp_29, cp_30, cp_31, cp_32, cp_33, cp_34, cp_35, cp_36, cp_37, cp_38, cp_39, cp_40, cp_41, cp_42, cp_43, cp_44, cp_45, cp_46, cp_47, cp_48, cp_49, cp_50, cp_51, cp_52, cp_53, cp_54, cp_55, cp_56, cp_57, d1]
      · rw [d2 k hk, h1 k hk]
      · rw [d3, h2]
      · omega
      · have := d7 c
        rw [zP, hB1] at h4
        rw [← c, this]; omega
    · have e1 : W s * B s = W s * sg (fun q => if mcb f n q s = true then B (s ||| 2 ^ q) else 0) n := by
        rw [hBs, if_neg c, Nat.zero_add]
      have e2 : W s * sg (fun q => if mcb f n q s = true then fac (co n (s ||| 2 ^ q)) else 0) n ≤ W s * fac (co n s) := Nat.mul_le_mul_left _ (fac_sum hs c (mcb f n) mcb_1)
      have h5 : PH (2 ^ n) (fun t => fac (co n t)) W (s + 1) + W s * fac (co n s) ≤ 3628800 := h5
      obtain ⟨w', W', d1, d2, d3, d4, d5, d6, d7⟩ := l_cntI R hMx hn hs h3 (b0 := B 0) (B := B) (by rw [c1, ← e1]; exact h4) (by rw [c2]; exact Nat.le_trans (Nat.add_le_add_left e2 _) h5)
      refine .inr ⟨w', funext fun j => ?_, W', fun k hk => ?_, ?_, d4, fun y => ⟨d5, d6⟩, fun y => ?_⟩
      · simp (disch := omega) only [f_X1_countRuns_L37, ↓nmk_e, ↓reduceIte, Option.bind_some, Option.map_some, lit, ofN, nI_add, pk_sub, pk_mul, nI_clamp, nI_leI, nI_ltI, nI_eq, pk_div, nI_an, nleT, nleF, nltT, nltF, neqT, neqF, or_false, false_or, or_self, or_true, true_or, and_self, and_true, true_and, and_false, false_and, not_true_eq_false, not_false_eq_true, f_X12_isSort, f_X12_isDay, f_X11_isSort, f_X11_isDay, inI, inP, f_X5_size, f_X5_isFull, f_X11_now, f_X2_isKind, f_X2_has, f_X3_has, f_X8_hasPage, f_X8_hasAllPages, f_X8_stands, f_X1_isPrinted, f_X1_rule, f_X9_has, f_X9_isFull, f_X12_isPage, f_X12_isVerse, sC_s, sC_n, sC_2, sN_1, sN_s, sN_n, sN_2, sS_1, sS_2, sS_s, sS_n, upd_s, upd_e, upd_n, rAt, rPut, rAdd, rSwap, rPush, rNumber, cp_0, cp_1, cp_2, cp_3, cp_4, cp_5, cp_6, cp_7, cp_8, cp_9, cp_10, cp_11, cp_12, cp_13, cp_14, cp_15, cp_16, cp_17, cp_18, cp_19, cp_20, cp_21, cp_22, cp_23, cp_24, cp_25, cp_26, cp_27, cp_28, cp_29, cp_30, cp_31, cp_32, cp_33, cp_34, cp_35, cp_36, cp_37, cp_38, cp_39, cp_40, cp_41, cp_42, cp_43, cp_44, cp_45, cp_46, cp_47, cp_48, cp_49, cp_50, cp_51, cp_52, cp_53, cp_54, cp_55, cp_56, cp_57, d1]
      · rw [d2 k hk, h1 k hk]
      · rw [d3, h2]
      · omega
