/-! loans and things -/
abbrev tN (x : Int32) : Nat := x.toNatClampNeg
theorem bdt {x : Int32} {n : Nat} (hn : n < 2 ^ 31) (h : Bd x n) : x = nI (tN x) ∧ tN x ≤ n := by
  obtain ⟨m, hm, rfl⟩ := h
  have e : tN (nI m) = m := nI_clamp (by omega)
  rw [e]; exact ⟨rfl, hm⟩
theorem brt {x : Int32} {l n : Nat} (hn : n < 2 ^ 31) (h : Br x l n) : x = nI (tN x) ∧ l ≤ tN x ∧ tN x ≤ n := by
  obtain ⟨m, h0, hm, rfl⟩ := h
  have e : tN (nI m) = m := nI_clamp (by omega)
  rw [e]; exact ⟨rfl, h0, hm⟩
def sg (f : Nat → Nat) : Nat → Nat
  | 0 => 0
  | n + 1 => sg f n + f n
theorem sg_le {f : Nat → Nat} {b : Nat} : ∀ n, (∀ i, i < n → f i ≤ b) → sg f n ≤ n * b := by
  intro n
  induction n with
  | zero => intro _; exact Nat.zero_le _
  | succ n ih =>
    intro h
    have h1 := ih (fun i hi => h i (by omega))
    have h2 := h n (by omega)
    show sg f n + f n ≤ _
    rw [Nat.succ_mul]
    omega
theorem sg_congr {f g : Nat → Nat} : ∀ n, (∀ i, i < n → f i = g i) → sg f n = sg g n := by
  intro n
  induction n with
  | zero => intro _; rfl
  | succ n ih =>
    intro h
    show sg f n + f n = sg g n + g n
    rw [ih (fun i hi => h i (by omega)), h n (by omega)]
theorem sg_add (f g : Nat → Nat) : ∀ n, sg (fun i => f i + g i) n = sg f n + sg g n := by
  intro n
  induction n with
  | zero => rfl
  | succ n ih =>
    show sg (fun i => f i + g i) n + (f n + g n) = sg f n + f n + (sg g n + g n)
    rw [ih]; omega
/-- what is paid of a loan from one day to another -/
def PD (v : CW) (L f t : Nat) : Nat := sg (fun i => if tN (v.1 0 (3180 + i)) = L ∧ f ≤ tN (v.1 0 (3200 + i)) ∧ tN (v.1 0 (3200 + i)) ≤ t then tN (v.1 0 (3220 + i)) else 0) (tN (v.1 0 11))
theorem PD_le {w v : CW} (h : Sim w v) (L f t : Nat) : PD v L f t ≤ 200000 := by
  obtain ⟨m, hm, n1, n2, n3, n4, g⟩ := h.g13
  have e : tN (v.1 0 11) = m := by rw [n4]; exact nI_clamp (by omega)
  have := sg_le (f := fun i => if tN (v.1 0 (3180 + i)) = L ∧ f ≤ tN (v.1 0 (3200 + i)) ∧ tN (v.1 0 (3200 + i)) ≤ t then tN (v.1 0 (3220 + i)) else 0) (b := 9999) m (fun i hi => by
    have := (brt (by decide) (g i hi).2.2.2.2.2).2.2
    show (if _ then _ else _) ≤ _
    split <;> omega)
  unfold PD
  rw [e]
  omega
theorem PD_split (v : CW) (L : Nat) {f b : Nat} (h : f ≤ b + 1) : PD v L f (b + 1) = PD v L f b + PD v L (b + 1) (b + 1) := by
  unfold PD
  rw [← sg_add]
  refine sg_congr _ fun i _ => ?_
  show (if _ then _ else _) = (if _ then _ else _) + (if _ then _ else _)
  by_cases c1 : tN (v.1 0 (3180 + i)) = L
  · by_cases c2 : f ≤ tN (v.1 0 (3200 + i))
    · by_cases c3 : tN (v.1 0 (3200 + i)) ≤ b
      · rw [if_pos ⟨c1, c2, by omega⟩, if_pos ⟨c1, c2, c3⟩, if_neg (by omega)]
        omega
      · by_cases c4 : tN (v.1 0 (3200 + i)) ≤ b + 1
        · rw [if_pos ⟨c1, c2, by omega⟩, if_neg (by omega), if_pos ⟨c1, by omega, c4⟩]
          omega
        · rw [if_neg (by omega), if_neg (by omega), if_neg (by omega)]
    · rw [if_neg (by omega), if_neg (by omega), if_neg (by omega)]
  · rw [if_neg (by omega), if_neg (by omega), if_neg (by omega)]
theorem PD_none (v : CW) (L : Nat) {f b : Nat} (h : b < f) : PD v L f b = 0 := by
  unfold PD
  rw [sg_congr (g := fun _ => 0) _ fun i _ => ?_]
  · have : ∀ n, sg (fun _ => 0) n = 0 := fun n => by
      have := sg_le (f := fun _ => 0) (b := 0) n (fun _ _ => Nat.le_refl _)
      omega
    exact this _
  · show (if _ then _ else _) = _
    rw [if_neg (by omega)]
theorem l_paid {w v : CW} (h : Sim w v) {L f t : Nat} (hL : L < 6) (hf : f ≤ 5000) (ht : t ≤ 5000) : f_X3_paid w (nI L) (nI f) (nI t) = some (nI (PD v L f t)) := by
  obtain ⟨m, hm, n1, n2, n3, n4, g⟩ := h.g13
  have e : tN (v.1 0 11) = m := by rw [n4]; exact nI_clamp (by omega)
  unfold f_X3_paid PD
  rw [e]
  refine run1 (fun n i s => f_X3_paid_L6 w (nI L) (nI f) (nI t) n s i) (fun i s => s = nI (sg (fun i => if tN (v.1 0 (3180 + i)) = L ∧ f ≤ tN (v.1 0 (3200 + i)) ∧ tN (v.1 0 (3200 + i)) ≤ t then tN (v.1 0 (3220 + i)) else 0) i)) m (fun x => x = some (nI (sg (fun i => if tN (v.1 0 (3180 + i)) = L ∧ f ≤ tN (v.1 0 (3200 + i)) ∧ tN (v.1 0 (3200 + i)) ≤ t then tN (v.1 0 (3220 + i)) else 0) m))) ?_ ?_ FU 0 0 (Nat.zero_le _) (by unfold FU; omega) rfl
  · rintro n s rfl
    simp (disch := omega) only [f_X3_paid_L6, ↓nmk_e, ↓reduceIte, Option.bind_some, Option.map_some, lit, ofN, nI_add, pk_sub, pk_mul, nI_clamp, nI_leI, nI_ltI, nI_eq, pk_div, nI_an, nleT, nleF, nltT, nltF, neqT, neqF, or_false, false_or, or_self, or_true, true_or, and_self, and_true, true_and, and_false, false_and, not_true_eq_false, not_false_eq_true, f_X12_isSort, f_X12_isDay, f_X11_isSort, f_X11_isDay, inI, inP, f_X5_size, f_X5_isFull, f_X11_now, f_X2_isKind, f_X2_has, f_X3_has, f_X8_hasPage, f_X8_hasAllPages, f_X8_stands, f_X1_isPrinted, f_X1_rule, f_X9_has, f_X9_isFull, f_X12_isPage, f_X12_isVerse, sC_s, sC_n, sC_2, sN_1, sN_s, sN_n, sN_2, sS_1, sS_2, sS_s, sS_n, upd_s, upd_e, upd_n, rAt, rPut, rAdd, rSwap, rPush, rNumber, cp_0, cp_1, cp_2, cp_3, cp_4, cp_5, cp_6, cp_7, cp_8, cp_9, cp_10, cp_11, cp_12, cp_13, cp_14, cp_15, cp_16, cp_17, cp_18, cp_19, cp_20, cp_21, cp_22, cp_23, cp_24, cp_25, cp_26, cp_27, cp_28, cp_29, cp_30, cp_31, cp_32, cp_33, cp_34, cp_35, cp_36, cp_37, cp_38, cp_39, cp_40, cp_41, cp_42, cp_43, cp_44, cp_45, cp_46, cp_47, cp_48, cp_49, cp_50, cp_51, cp_52, cp_53, cp_54, cp_55, cp_56, cp_57, n3]
  · rintro n i s hi rfl
    obtain ⟨g1, g2, g3, g4, g5, g6⟩ := g i hi
    obtain ⟨e1, b1⟩ := bdt (by decide) g4
    obtain ⟨e2, b2⟩ := bdt (by decide) g5
    obtain ⟨e3, b3, b4⟩ := brt (by decide) g6
    have g1 := g1.trans e1
    have g2 := g2.trans e2
    have g3 := g3.trans e3
    refine .inr ⟨_, ?_, rfl⟩
    show _ = f_X3_paid_L6 w (nI L) (nI f) (nI t) n (nI (sg _ i + if _ then _ else _)) _
    generalize tN (v.1 0 (3180 + i)) = a1 at *
    generalize tN (v.1 0 (3200 + i)) = a2 at *
    generalize tN (v.1 0 (3220 + i)) = a3 at *
    by_cases c1 : a1 = L
    · by_cases c2 : f ≤ a2
      · by_cases c3 : a2 ≤ t
        · rw [if_pos ⟨c1, c2, c3⟩]
          simp (disch := omega) only [f_X3_paid_L6, ↓nmk_e, ↓reduceIte, Option.bind_some, Option.map_some, lit, ofN, nI_add, pk_sub, pk_mul, nI_clamp, nI_leI, nI_ltI, nI_eq, pk_div, nI_an, nleT, nleF, nltT, nltF, neqT, neqF, or_false, false_or, or_self, or_true, true_or, and_self, and_true, true_and, and_false, false_and, not_true_eq_false, not_false_eq_true, f_X12_isSort, f_X12_isDay, f_X11_isSort, f_X11_isDay, inI, inP, f_X5_size, f_X5_isFull, f_X11_now, f_X2_isKind, f_X2_has, f_X3_has, f_X8_hasPage, f_X8_hasAllPages, f_X8_stands, f_X1_isPrinted, f_X1_rule, f_X9_has, f_X9_isFull, f_X12_isPage, f_X12_isVerse, sC_s, sC_n, sC_2, sN_1, sN_s, sN_n, sN_2, sS_1, sS_2, sS_s, sS_n, upd_s, upd_e, upd_n, rAt, rPut, rAdd, rSwap, rPush, rNumber, cp_0, cp_1, cp_2, cp_3, cp_4, cp_5, cp_6, cp_7, cp_8, cp_9, cp_10, cp_11, cp_12, cp_13, cp_14, cp_15, cp_16, cp_17, cp_18, cp_19, cp_20, cp_21, cp_22, cp_23, cp_24, cp_25, cp_26, cp_27, cp_28, cp_29, cp_30, cp_31, cp_32, cp_33, cp_34, cp_35, cp_36, cp_37, cp_38, cp_39, cp_40, cp_41, cp_42, cp_43, cp_44, cp_45, cp_46, cp_47, cp_48, cp_49, cp_50, cp_51, cp_52, cp_53, cp_54, cp_55, cp_56, cp_57, n3, g1, g2, g3]
        · rw [if_neg (by omega)]
          simp (disch := omega) only [f_X3_paid_L6, ↓nmk_e, ↓reduceIte, Option.bind_some, Option.map_some, lit, ofN, nI_add, pk_sub, pk_mul, nI_clamp, nI_leI, nI_ltI, nI_eq, pk_div, nI_an, nleT, nleF, nltT, nltF, neqT, neqF, or_false, false_or, or_self, or_true, true_or, and_self, and_true, true_and, and_false, false_and, not_true_eq_false, not_false_eq_true, f_X12_isSort, f_X12_isDay, f_X11_isSort, f_X11_isDay, inI, inP, f_X5_size, f_X5_isFull, f_X11_now, f_X2_isKind, f_X2_has, f_X3_has, f_X8_hasPage, f_X8_hasAllPages, f_X8_stands, f_X1_isPrinted, f_X1_rule, f_X9_has, f_X9_isFull, f_X12_isPage, f_X12_isVerse, sC_s, sC_n, sC_2, sN_1, sN_s, sN_n, sN_2, sS_1, sS_2, sS_s, sS_n, upd_s, upd_e, upd_n, rAt, rPut, rAdd, rSwap, rPush, rNumber, cp_0, cp_1, cp_2, cp_3, cp_4, cp_5, cp_6, cp_7, cp_8, cp_9, cp_10, cp_11, cp_12, cp_13, cp_14, cp_15, cp_16, cp_17, cp_18, cp_19, cp_20, cp_21, cp_22, cp_23, cp_24, cp_25, cp_26, cp_27, cp_28, cp_29, cp_30, cp_31, cp_32, cp_33, cp_34, cp_35, cp_36, cp_37, cp_38, cp_39, cp_40, cp_41, cp_42, cp_43, cp_44, cp_45, cp_46, cp_47, cp_48, cp_49, cp_50, cp_51, cp_52, cp_53, cp_54, cp_55, cp_56, cp_57, n3, g1, g2, g3]
      · rw [if_neg (by omega)]
        simp (disch := omega) only [f_X3_paid_L6, ↓nmk_e, ↓reduceIte, Option.bind_some, Option.map_some, lit, ofN, nI_add, pk_sub, pk_mul, nI_clamp, nI_leI, nI_ltI, nI_eq, pk_div, nI_an, nleT, nleF, nltT, nltF, neqT, neqF, or_false, false_or, or_self, or_true, true_or, and_self, and_true, true_and, and_false, false_and, not_true_eq_false, not_false_eq_true, f_X12_isSort, f_X12_isDay, f_X11_isSort, f_X11_isDay, inI, inP, f_X5_size, f_X5_isFull, f_X11_now, f_X2_isKind, f_X2_has, f_X3_has, f_X8_hasPage, f_X8_hasAllPages, f_X8_stands, f_X1_isPrinted, f_X1_rule, f_X9_has, f_X9_isFull, f_X12_isPage, f_X12_isVerse, sC_s, sC_n, sC_2, sN_1, sN_s, sN_n, sN_2, sS_1, sS_2, sS_s, sS_n, upd_s, upd_e, upd_n, rAt, rPut, rAdd, rSwap, rPush, rNumber, cp_0, cp_1, cp_2, cp_3, cp_4, cp_5, cp_6, cp_7, cp_8, cp_9, cp_10, cp_11, cp_12, cp_13, cp_14, cp_15, cp_16, cp_17, cp_18, cp_19, cp_20, cp_21, cp_22, cp_23, cp_24, cp_25, cp_26, cp_27, cp_28, cp_29, cp_30, cp_31, cp_32, cp_33, cp_34, cp_35, cp_36, cp_37, cp_38, cp_39, cp_40, cp_41, cp_42, cp_43, cp_44, cp_45, cp_46, cp_47, cp_48, cp_49, cp_50, cp_51, cp_52, cp_53, cp_54, cp_55, cp_56, cp_57, n3, g1, g2, g3]
    · rw [if_neg (by omega)]
      simp (disch := omega) only [f_X3_paid_L6, ↓nmk_e, ↓reduceIte, Option.bind_some, Option.map_some, lit, ofN, nI_add, pk_sub, pk_mul, nI_clamp, nI_leI, nI_ltI, nI_eq, pk_div, nI_an, nleT, nleF, nltT, nltF, neqT, neqF, or_false, false_or, or_self, or_true, true_or, and_self, and_true, true_and, and_false, false_and, not_true_eq_false, not_false_eq_true, f_X12_isSort, f_X12_isDay, f_X11_isSort, f_X11_isDay, inI, inP, f_X5_size, f_X5_isFull, f_X11_now, f_X2_isKind, f_X2_has, f_X3_has, f_X8_hasPage, f_X8_hasAllPages, f_X8_stands, f_X1_isPrinted, f_X1_rule, f_X9_has, f_X9_isFull, f_X12_isPage, f_X12_isVerse, sC_s, sC_n, sC_2, sN_1, sN_s, sN_n, sN_2, sS_1, sS_2, sS_s, sS_n, upd_s, upd_e, upd_n, rAt, rPut, rAdd, rSwap, rPush, rNumber, cp_0, cp_1, cp_2, cp_3, cp_4, cp_5, cp_6, cp_7, cp_8, cp_9, cp_10, cp_11, cp_12, cp_13, cp_14, cp_15, cp_16, cp_17, cp_18, cp_19, cp_20, cp_21, cp_22, cp_23, cp_24, cp_25, cp_26, cp_27, cp_28, cp_29, cp_30, cp_31, cp_32, cp_33, cp_34, cp_35, cp_36, cp_37, cp_38, cp_39, cp_40, cp_41, cp_42, cp_43, cp_44, cp_45, cp_46, cp_47, cp_48, cp_49, cp_50, cp_51, cp_52, cp_53, cp_54, cp_55, cp_56, cp_57, n3, g1, g2, g3]
theorem l_paidOn {w v : CW} (h : Sim w v) {L f : Nat} (hL : L < 6) (hf : f ≤ 5000) : f_X12_paidOn v (nI L) (nI f) = some (nI (PD v L f f)) := by
  obtain ⟨m, hm, n1, n2, n3, n4, g⟩ := h.g13
  have e : tN (v.1 0 11) = m := by rw [n4]; exact nI_clamp (by omega)
  unfold f_X12_paidOn PD
  rw [e]
  refine run1 (fun n i s => f_X12_paidOn_L5 v (nI L) (nI f) n s i) (fun i s => s = nI (sg (fun i => if tN (v.1 0 (3180 + i)) = L ∧ f ≤ tN (v.1 0 (3200 + i)) ∧ tN (v.1 0 (3200 + i)) ≤ f then tN (v.1 0 (3220 + i)) else 0) i)) m (fun x => x = some (nI (sg (fun i => if tN (v.1 0 (3180 + i)) = L ∧ f ≤ tN (v.1 0 (3200 + i)) ∧ tN (v.1 0 (3200 + i)) ≤ f then tN (v.1 0 (3220 + i)) else 0) m))) ?_ ?_ FU 0 0 (Nat.zero_le _) (by unfold FU; omega) rfl
  · rintro n s rfl
    simp (disch := omega) only [f_X12_paidOn_L5, ↓nmk_e, ↓reduceIte, Option.bind_some, Option.map_some, lit, ofN, nI_add, pk_sub, pk_mul, nI_clamp, nI_leI, nI_ltI, nI_eq, pk_div, nI_an, nleT, nleF, nltT, nltF, neqT, neqF, or_false, false_or, or_self, or_true, true_or, and_self, and_true, true_and, and_false, false_and, not_true_eq_false, not_false_eq_true, f_X12_isSort, f_X12_isDay, f_X11_isSort, f_X11_isDay, inI, inP, f_X5_size, f_X5_isFull, f_X11_now, f_X2_isKind, f_X2_has, f_X3_has, f_X8_hasPage, f_X8_hasAllPages, f_X8_stands, f_X1_isPrinted, f_X1_rule, f_X9_has, f_X9_isFull, f_X12_isPage, f_X12_isVerse, sC_s, sC_n, sC_2, sN_1, sN_s, sN_n, sN_2, sS_1, sS_2, sS_s, sS_n, upd_s, upd_e, upd_n, rAt, rPut, rAdd, rSwap, rPush, rNumber, cp_0, cp_1, cp_2, cp_3, cp_4, cp_5, cp_6, cp_7, cp_8, cp_9, cp_10, cp_11, cp_12, cp_13, cp_14, cp_15, cp_16, cp_17, cp_18, cp_19, cp_20, cp_21, cp_22, cp_23, cp_24, cp_25, cp_26, cp_27, cp_28, cp_29, cp_30, cp_31, cp_32, cp_33, cp_34, cp_35, cp_36, cp_37, cp_38, cp_39, cp_40, cp_41, cp_42, cp_43, cp_44, cp_45, cp_46, cp_47, cp_48, cp_49, cp_50, cp_51, cp_52, cp_53, cp_54, cp_55, cp_56, cp_57, n4]
  · rintro n i s hi rfl
    obtain ⟨-, -, -, g4, g5, g6⟩ := g i hi
    obtain ⟨e1, b1⟩ := bdt (by decide) g4
    obtain ⟨e2, b2⟩ := bdt (by decide) g5
    obtain ⟨e3, b3, b4⟩ := brt (by decide) g6
    refine .inr ⟨_, ?_, rfl⟩
    show _ = f_X12_paidOn_L5 v (nI L) (nI f) n (nI (sg _ i + if _ then _ else _)) _
    generalize tN (v.1 0 (3180 + i)) = a1 at *
    generalize tN (v.1 0 (3200 + i)) = a2 at *
    generalize tN (v.1 0 (3220 + i)) = a3 at *
    by_cases c1 : a1 = L
    · by_cases c2 : a2 = f
      · rw [if_pos ⟨c1, by omega, by omega⟩]
        simp (disch := omega) only [f_X12_paidOn_L5, ↓nmk_e, ↓reduceIte, Option.bind_some, Option.map_some, lit, ofN, nI_add, pk_sub, pk_mul, nI_clamp, nI_leI, nI_ltI, nI_eq, pk_div, nI_an, nleT, nleF, nltT, nltF, neqT, neqF, or_false, false_or, or_self, or_true, true_or, and_self, and_true, true_and, and_false, false_and, not_true_eq_false, not_false_eq_true, f_X12_isSort, f_X12_isDay, f_X11_isSort, f_X11_isDay, inI, inP, f_X5_size, f_X5_isFull, f_X11_now, f_X2_isKind, f_X2_has, f_X3_has, f_X8_hasPage, f_X8_hasAllPages, f_X8_stands, f_X1_isPrinted, f_X1_rule, f_X9_has, f_X9_isFull, f_X12_isPage, f_X12_isVerse, sC_s, sC_n, sC_2, sN_1, sN_s, sN_n, sN_2, sS_1, sS_2, sS_s, sS_n, upd_s, upd_e, upd_n, rAt, rPut, rAdd, rSwap, rPush, rNumber, cp_0, cp_1, cp_2, cp_3, cp_4, cp_5, cp_6, cp_7, cp_8, cp_9, cp_10, cp_11, cp_12, cp_13, cp_14, cp_15, cp_16, cp_17, cp_18, cp_19, cp_20, cp_21, cp_22, cp_23, cp_24, cp_25, cp_26, cp_27, cp_28, cp_29, cp_30, cp_31, cp_32, cp_33, cp_34, cp_35, cp_36, cp_37, cp_38, cp_39, cp_40, cp_41, cp_42, cp_43, cp_44, cp_45, cp_46, cp_47, cp_48, cp_49, cp_50, cp_51, cp_52, cp_53, cp_54, cp_55, cp_56, cp_57, n4, e1, e2, e3]
      · rw [if_neg (by omega)]
        simp (disch := omega) only [f_X12_paidOn_L5, ↓nmk_e, ↓reduceIte, Option.bind_some, Option.map_some, lit, ofN, nI_add, pk_sub, pk_mul, nI_clamp, nI_leI, nI_ltI, nI_eq, pk_div, nI_an, nleT, nleF, nltT, nltF, neqT, neqF, or_false, false_or, or_self, or_true, true_or, and_self, and_true, true_and, and_false, false_and, not_true_eq_false, not_false_eq_true, f_X12_isSort, f_X12_isDay, f_X11_isSort, f_X11_isDay, inI, inP, f_X5_size, f_X5_isFull, f_X11_now, f_X2_isKind, f_X2_has, f_X3_has, f_X8_hasPage, f_X8_hasAllPages, f_X8_stands, f_X1_isPrinted, f_X1_rule, f_X9_has, f_X9_isFull, f_X12_isPage, f_X12_isVerse, sC_s, sC_n, sC_2, sN_1, sN_s, sN_n, sN_2, sS_1, sS_2, sS_s, sS_n, upd_s, upd_e, upd_n, rAt, rPut, rAdd, rSwap, rPush, rNumber, cp_0, cp_1, cp_2, cp_3, cp_4, cp_5, cp_6, cp_7, cp_8, cp_9, cp_10, cp_11, cp_12, cp_13, cp_14, cp_15, cp_16, cp_17, cp_18, cp_19, cp_20, cp_21, cp_22, cp_23, cp_24, cp_25, cp_26, cp_27, cp_28, cp_29, cp_30, cp_31, cp_32, cp_33, cp_34, cp_35, cp_36, cp_37, cp_38, cp_39, cp_40, cp_41, cp_42, cp_43, cp_44, cp_45, cp_46, cp_47, cp_48, cp_49, cp_50, cp_51, cp_52, cp_53, cp_54, cp_55, cp_56, cp_57, n4, e1, e2, e3]
    · rw [if_neg (by omega)]
      simp (disch := omega) only [f_X12_paidOn_L5, ↓nmk_e, ↓reduceIte, Option.bind_some, Option.map_some, lit, ofN, nI_add, pk_sub, pk_mul, nI_clamp, nI_leI, nI_ltI, nI_eq, pk_div, nI_an, nleT, nleF, nltT, nltF, neqT, neqF, or_false, false_or, or_self, or_true, true_or, and_self, and_true, true_and, and_false, false_and, not_true_eq_false, not_false_eq_true, f_X12_isSort, f_X12_isDay, f_X11_isSort, f_X11_isDay, inI, inP, f_X5_size, f_X5_isFull, f_X11_now, f_X2_isKind, f_X2_has, f_X3_has, f_X8_hasPage, f_X8_hasAllPages, f_X8_stands, f_X1_isPrinted, f_X1_rule, f_X9_has, f_X9_isFull, f_X12_isPage, f_X12_isVerse, sC_s, sC_n, sC_2, sN_1, sN_s, sN_n, sN_2, sS_1, sS_2, sS_s, sS_n, upd_s, upd_e, upd_n, rAt, rPut, rAdd, rSwap, rPush, rNumber, cp_0, cp_1, cp_2, cp_3, cp_4, cp_5, cp_6, cp_7, cp_8, cp_9, cp_10, cp_11, cp_12, cp_13, cp_14, cp_15, cp_16, cp_17, cp_18, cp_19, cp_20, cp_21, cp_22, cp_23, cp_24, cp_25, cp_26, cp_27, cp_28, cp_29, cp_30, cp_31, cp_32, cp_33, cp_34, cp_35, cp_36, cp_37, cp_38, cp_39, cp_40, cp_41, cp_42, cp_43, cp_44, cp_45, cp_46, cp_47, cp_48, cp_49, cp_50, cp_51, cp_52, cp_53, cp_54, cp_55, cp_56, cp_57, n4, e1, e2, e3]
theorem s_pay {w v : CW} (h : Sim w v) (a b c : Int32) : Same w v (f_X11_pay w a b c) (f_X12_pay v a b c) := by
  obtain ⟨m, hm, n1, n2, n3, n4, g⟩ := h.g13
  obtain ⟨l, hl, o1, o2, o3, o4, gl⟩ := h.g12
  unfold f_X11_pay f_X12_pay
  rcases rng3 a 0 5 with q | ⟨i, hi, rfl, q⟩ | ⟨i, hi0, hi, hi2, rfl⟩
  · simp (disch := omega) only [↓nmk_e, ↓reduceIte, Option.bind_some, Option.map_some, lit, ofN, nI_add, pk_sub, pk_mul, nI_clamp, nI_leI, nI_ltI, nI_eq, pk_div, nI_an, nleT, nleF, nltT, nltF, neqT, neqF, or_false, false_or, or_self, or_true, true_or, and_self, and_true, true_and, and_false, false_and, not_true_eq_false, not_false_eq_true, f_X12_isSort, f_X12_isDay, f_X11_isSort, f_X11_isDay, inI, inP, f_X5_size, f_X5_isFull, f_X11_now, f_X2_isKind, f_X2_has, f_X3_has, f_X8_hasPage, f_X8_hasAllPages, f_X8_stands, f_X1_isPrinted, f_X1_rule, f_X9_has, f_X9_isFull, f_X12_isPage, f_X12_isVerse, sC_s, sC_n, sC_2, sN_1, sN_s, sN_n, sN_2, sS_1, sS_2, sS_s, sS_n, upd_s, upd_e, upd_n, rAt, rPut, rAdd, rSwap, rPush, rNumber, cp_0, cp_1, cp_2, cp_3, cp_4, cp_5, cp_6, cp_7, cp_8, cp_9, cp_10, cp_11, cp_12, cp_13, cp_14, cp_15, cp_16, cp_17, cp_18, cp_19, cp_20, cp_21, cp_22, cp_23, cp_24, cp_25, cp_26, cp_27, cp_28, cp_29, cp_30, cp_31, cp_32, cp_33, cp_34, cp_35, cp_36, cp_37, cp_38, cp_39, cp_40, cp_41, cp_42, cp_43, cp_44, cp_45, cp_46, cp_47, cp_48, cp_49, cp_50, cp_51, cp_52, cp_53, cp_54, cp_55, cp_56, cp_57, o1, o4, ng1 q, ng2 q, ng3 q, ng4 q, ng5 q, inN q]
    exact ⟨_, _, _, rfl, rfl, h⟩
  · simp (disch := omega) only [↓nmk_e, ↓reduceIte, Option.bind_some, Option.map_some, lit, ofN, nI_add, pk_sub, pk_mul, nI_clamp, nI_leI, nI_ltI, nI_eq, pk_div, nI_an, nleT, nleF, nltT, nltF, neqT, neqF, or_false, false_or, or_self, or_true, true_or, and_self, and_true, true_and, and_false, false_and, not_true_eq_false, not_false_eq_true, f_X12_isSort, f_X12_isDay, f_X11_isSort, f_X11_isDay, inI, inP, f_X5_size, f_X5_isFull, f_X11_now, f_X2_isKind, f_X2_has, f_X3_has, f_X8_hasPage, f_X8_hasAllPages, f_X8_stands, f_X1_isPrinted, f_X1_rule, f_X9_has, f_X9_isFull, f_X12_isPage, f_X12_isVerse, sC_s, sC_n, sC_2, sN_1, sN_s, sN_n, sN_2, sS_1, sS_2, sS_s, sS_n, upd_s, upd_e, upd_n, rAt, rPut, rAdd, rSwap, rPush, rNumber, cp_0, cp_1, cp_2, cp_3, cp_4, cp_5, cp_6, cp_7, cp_8, cp_9, cp_10, cp_11, cp_12, cp_13, cp_14, cp_15, cp_16, cp_17, cp_18, cp_19, cp_20, cp_21, cp_22, cp_23, cp_24, cp_25, cp_26, cp_27, cp_28, cp_29, cp_30, cp_31, cp_32, cp_33, cp_34, cp_35, cp_36, cp_37, cp_38, cp_39, cp_40, cp_41, cp_42, cp_43, cp_44, cp_45, cp_46, cp_47, cp_48, cp_49, cp_50, cp_51, cp_52, cp_53, cp_54, cp_55, cp_56, cp_57, o1, o4]
    exact ⟨_, _, _, rfl, rfl, h⟩
  · by_cases cl : i < l
    · obtain ⟨g1, g2, g3, g4, ⟨d, hd, g5⟩, g6⟩ := gl i cl
      rcases rng3 b d 999 with q | ⟨j, hj, rfl, q⟩ | ⟨j, hj0, hj, hj2, rfl⟩
      · simp (disch := omega) only [↓nmk_e, ↓reduceIte, Option.bind_some, Option.map_some, lit, ofN, nI_add, pk_sub, pk_mul, nI_clamp, nI_leI, nI_ltI, nI_eq, pk_div, nI_an, nleT, nleF, nltT, nltF, neqT, neqF, or_false, false_or, or_self, or_true, true_or, and_self, and_true, true_and, and_false, false_and, not_true_eq_false, not_false_eq_true, f_X12_isSort, f_X12_isDay, f_X11_isSort, f_X11_isDay, inI, inP, f_X5_size, f_X5_isFull, f_X11_now, f_X2_isKind, f_X2_has, f_X3_has, f_X8_hasPage, f_X8_hasAllPages, f_X8_stands, f_X1_isPrinted, f_X1_rule, f_X9_has, f_X9_isFull, f_X12_isPage, f_X12_isVerse, sC_s, sC_n, sC_2, sN_1, sN_s, sN_n, sN_2, sS_1, sS_2, sS_s, sS_n, upd_s, upd_e, upd_n, rAt, rPut, rAdd, rSwap, rPush, rNumber, cp_0, cp_1, cp_2, cp_3, cp_4, cp_5, cp_6, cp_7, cp_8, cp_9, cp_10, cp_11, cp_12, cp_13, cp_14, cp_15, cp_16, cp_17, cp_18, cp_19, cp_20, cp_21, cp_22, cp_23, cp_24, cp_25, cp_26, cp_27, cp_28, cp_29, cp_30, cp_31, cp_32, cp_33, cp_34, cp_35, cp_36, cp_37, cp_38, cp_39, cp_40, cp_41, cp_42, cp_43, cp_44, cp_45, cp_46, cp_47, cp_48, cp_49, cp_50, cp_51, cp_52, cp_53, cp_54, cp_55, cp_56, cp_57, o1, o4, g2, g5, ng1 q, ng2 q, ng3 q, ng4 q, ng5 q, inN q]
        exact ⟨_, _, _, rfl, rfl, h⟩
      · by_cases c2 : j ≤ 999 <;> simp (disch := omega) only [↓nmk_e, ↓reduceIte, Option.bind_some, Option.map_some, lit, ofN, nI_add, pk_sub, pk_mul, nI_clamp, nI_leI, nI_ltI, nI_eq, pk_div, nI_an, nleT, nleF, nltT, nltF, neqT, neqF, or_false, false_or, or_self, or_true, true_or, and_self, and_true, true_and, and_false, false_and, not_true_eq_false, not_false_eq_true, f_X12_isSort, f_X12_isDay, f_X11_isSort, f_X11_isDay, inI, inP, f_X5_size, f_X5_isFull, f_X11_now, f_X2_isKind, f_X2_has, f_X3_has, f_X8_hasPage, f_X8_hasAllPages, f_X8_stands, f_X1_isPrinted, f_X1_rule, f_X9_has, f_X9_isFull, f_X12_isPage, f_X12_isVerse, sC_s, sC_n, sC_2, sN_1, sN_s, sN_n, sN_2, sS_1, sS_2, sS_s, sS_n, upd_s, upd_e, upd_n, rAt, rPut, rAdd, rSwap, rPush, rNumber, cp_0, cp_1, cp_2, cp_3, cp_4, cp_5, cp_6, cp_7, cp_8, cp_9, cp_10, cp_11, cp_12, cp_13, cp_14, cp_15, cp_16, cp_17, cp_18, cp_19, cp_20, cp_21, cp_22, cp_23, cp_24, cp_25, cp_26, cp_27, cp_28, cp_29, cp_30, cp_31, cp_32, cp_33, cp_34, cp_35, cp_36, cp_37, cp_38, cp_39, cp_40, cp_41, cp_42, cp_43, cp_44, cp_45, cp_46, cp_47, cp_48, cp_49, cp_50, cp_51, cp_52, cp_53, cp_54, cp_55, cp_56, cp_57, o1, o4, g2, g5] <;> exact ⟨_, _, _, rfl, rfl, h⟩
      · rcases rng3 c 1 9999 with q | ⟨k, hk, rfl, q⟩ | ⟨k, hk0, hk, hk2, rfl⟩
        · simp (disch := omega) only [↓nmk_e, ↓reduceIte, Option.bind_some, Option.map_some, lit, ofN, nI_add, pk_sub, pk_mul, nI_clamp, nI_leI, nI_ltI, nI_eq, pk_div, nI_an, nleT, nleF, nltT, nltF, neqT, neqF, or_false, false_or, or_self, or_true, true_or, and_self, and_true, true_and, and_false, false_and, not_true_eq_false, not_false_eq_true, f_X12_isSort, f_X12_isDay, f_X11_isSort, f_X11_isDay, inI, inP, f_X5_size, f_X5_isFull, f_X11_now, f_X2_isKind, f_X2_has, f_X3_has, f_X8_hasPage, f_X8_hasAllPages, f_X8_stands, f_X1_isPrinted, f_X1_rule, f_X9_has, f_X9_isFull, f_X12_isPage, f_X12_isVerse, sC_s, sC_n, sC_2, sN_1, sN_s, sN_n, sN_2, sS_1, sS_2, sS_s, sS_n, upd_s, upd_e, upd_n, rAt, rPut, rAdd, rSwap, rPush, rNumber, cp_0, cp_1, cp_2, cp_3, cp_4, cp_5, cp_6, cp_7, cp_8, cp_9, cp_10, cp_11, cp_12, cp_13, cp_14, cp_15, cp_16, cp_17, cp_18, cp_19, cp_20, cp_21, cp_22, cp_23, cp_24, cp_25, cp_26, cp_27, cp_28, cp_29, cp_30, cp_31, cp_32, cp_33, cp_34, cp_35, cp_36, cp_37, cp_38, cp_39, cp_40, cp_41, cp_42, cp_43, cp_44, cp_45, cp_46, cp_47, cp_48, cp_49, cp_50, cp_51, cp_52, cp_53, cp_54, cp_55, cp_56, cp_57, o1, o4, g2, g5, ng1 q, ng2 q, ng3 q, ng4 q, ng5 q, inN q]
          exact ⟨_, _, _, rfl, rfl, h⟩
        · by_cases c2 : k < 1 <;> simp (disch := omega) only [↓nmk_e, ↓reduceIte, Option.bind_some, Option.map_some, lit, ofN, nI_add, pk_sub, pk_mul, nI_clamp, nI_leI, nI_ltI, nI_eq, pk_div, nI_an, nleT, nleF, nltT, nltF, neqT, neqF, or_false, false_or, or_self, or_true, true_or, and_self, and_true, true_and, and_false, false_and, not_true_eq_false, not_false_eq_true, f_X12_isSort, f_X12_isDay, f_X11_isSort, f_X11_isDay, inI, inP, f_X5_size, f_X5_isFull, f_X11_now, f_X2_isKind, f_X2_has, f_X3_has, f_X8_hasPage, f_X8_hasAllPages, f_X8_stands, f_X1_isPrinted, f_X1_rule, f_X9_has, f_X9_isFull, f_X12_isPage, f_X12_isVerse, sC_s, sC_n, sC_2, sN_1, sN_s, sN_n, sN_2, sS_1, sS_2, sS_s, sS_n, upd_s, upd_e, upd_n, rAt, rPut, rAdd, rSwap, rPush, rNumber, cp_0, cp_1, cp_2, cp_3, cp_4, cp_5, cp_6, cp_7, cp_8, cp_9, cp_10, cp_11, cp_12, cp_13, cp_14, cp_15, cp_16, cp_17, cp_18, cp_19, cp_20, cp_21, cp_22, cp_23, cp_24, cp_25, cp_26, cp_27, cp_28, cp_29, cp_30, cp_31, cp_32, cp_33, cp_34, cp_35, cp_36, cp_37, cp_38, cp_39, cp_40, cp_41, cp_42, cp_43, cp_44, cp_45, cp_46, cp_47, cp_48, cp_49, cp_50, cp_51, cp_52, cp_53, cp_54, cp_55, cp_56, cp_57, o1, o4, g2, g5] <;> exact ⟨_, _, _, rfl, rfl, h⟩
        · by_cases cm : m = 20
          · simp (disch := omega) only [↓nmk_e, ↓reduceIte, Option.bind_some, Option.map_some, lit, ofN, nI_add, pk_sub, pk_mul, nI_clamp, nI_leI, nI_ltI, nI_eq, pk_div, nI_an, nleT, nleF, nltT, nltF, neqT, neqF, or_false, false_or, or_self, or_true, true_or, and_self, and_true, true_and, and_false, false_and, not_true_eq_false, not_false_eq_true, f_X12_isSort, f_X12_isDay, f_X11_isSort, f_X11_isDay, inI, inP, f_X5_size, f_X5_isFull, f_X11_now, f_X2_isKind, f_X2_has, f_X3_has, f_X8_hasPage, f_X8_hasAllPages, f_X8_stands, f_X1_isPrinted, f_X1_rule, f_X9_has, f_X9_isFull, f_X12_isPage, f_X12_isVerse, sC_s, sC_n, sC_2, sN_1, sN_s, sN_n, sN_2, sS_1, sS_2, sS_s, sS_n, upd_s, upd_e, upd_n, rAt, rPut, rAdd, rSwap, rPush, rNumber, cp_0, cp_1, cp_2, cp_3, cp_4, cp_5, cp_6, cp_7, cp_8, cp_9, cp_10, cp_11, cp_12, cp_13, cp_14, cp_15, cp_16, cp_17, cp_18, cp_19, cp_20, cp_21, cp_22, cp_23, cp_24, cp_25, cp_26, cp_27, cp_28, cp_29, cp_30, cp_31, cp_32, cp_33, cp_34, cp_35, cp_36, cp_37, cp_38, cp_39, cp_40, cp_41, cp_42, cp_43, cp_44, cp_45, cp_46, cp_47, cp_48, cp_49, cp_50, cp_51, cp_52, cp_53, cp_54, cp_55, cp_56, cp_57, o1, o4, g2, g5, n3, n4]
            exact ⟨_, _, _, rfl, rfl, h⟩
          · simp (disch := omega) only [↓nmk_e, ↓reduceIte, Option.bind_some, Option.map_some, lit, ofN, nI_add, pk_sub, pk_mul, nI_clamp, nI_leI, nI_ltI, nI_eq, pk_div, nI_an, nleT, nleF, nltT, nltF, neqT, neqF, or_false, false_or, or_self, or_true, true_or, and_self, and_true, true_and, and_false, false_and, not_true_eq_false, not_false_eq_true, f_X12_isSort, f_X12_isDay, f_X11_isSort, f_X11_isDay, inI, inP, f_X5_size, f_X5_isFull, f_X11_now, f_X2_isKind, f_X2_has, f_X3_has, f_X8_hasPage, f_X8_hasAllPages, f_X8_stands, f_X1_isPrinted, f_X1_rule, f_X9_has, f_X9_isFull, f_X12_isPage, f_X12_isVerse, sC_s, sC_n, sC_2, sN_1, sN_s, sN_n, sN_2, sS_1, sS_2, sS_s, sS_n, upd_s, upd_e, upd_n, rAt, rPut, rAdd, rSwap, rPush, rNumber, cp_0, cp_1, cp_2, cp_3, cp_4, cp_5, cp_6, cp_7, cp_8, cp_9, cp_10, cp_11, cp_12, cp_13, cp_14, cp_15, cp_16, cp_17, cp_18, cp_19, cp_20, cp_21, cp_22, cp_23, cp_24, cp_25, cp_26, cp_27, cp_28, cp_29, cp_30, cp_31, cp_32, cp_33, cp_34, cp_35, cp_36, cp_37, cp_38, cp_39, cp_40, cp_41, cp_42, cp_43, cp_44, cp_45, cp_46, cp_47, cp_48, cp_49, cp_50, cp_51, cp_52, cp_53, cp_54, cp_55, cp_56, cp_57, o1, o4, g2, g5, n1, n2, n3, n4, f_X3_payBack]
            have hS : Sim (sN (sC (sN (sC (sN (sC w 33 m (nI i)) 33 (nI (m + 1))) 34 m (nI j)) 34 (nI (m + 1))) 35 m (nI k)) 35 (nI (m + 1))) (sC (sC (sC (sC v 0 (3180 + m) (nI i)) 0 (3200 + m) (nI j)) 0 (3220 + m) (nI k)) 0 11 (nI (m + 1))) := by
              refine Sim_u13 h (fun k hk h1 => ?_) rfl (fun t ht h1 h2 => ?_) rfl rfl (Sim.i13 ⟨m + 1, by omega, ?_, ?_, ?_, ?_, fun t ht => ?_⟩)
              · simp (disch := omega) only [sC_s, sC_n, sC_2, sN_1, sN_s, sN_n, sN_2, sS_1, sS_2, sS_s, sS_n, upd_s, upd_e, upd_n, and_self]
              · simp (disch := omega) only [sC_s, sC_n, sC_2, sN_1, sN_s, sN_n, sN_2, sS_1, sS_2, sS_s, sS_n, upd_s, upd_e, upd_n]
              · simp (disch := omega) only [sC_s, sC_n, sC_2, sN_1, sN_s, sN_n, sN_2, sS_1, sS_2, sS_s, sS_n, upd_s, upd_e, upd_n]
              · simp (disch := omega) only [sC_s, sC_n, sC_2, sN_1, sN_s, sN_n, sN_2, sS_1, sS_2, sS_s, sS_n, upd_s, upd_e, upd_n]
              · simp (disch := omega) only [sC_s, sC_n, sC_2, sN_1, sN_s, sN_n, sN_2, sS_1, sS_2, sS_s, sS_n, upd_s, upd_e, upd_n]
              · simp (disch := omega) only [sC_s, sC_n, sC_2, sN_1, sN_s, sN_n, sN_2, sS_1, sS_2, sS_s, sS_n, upd_s, upd_e, upd_n]
              · by_cases e : t = m
                · subst e
                  simp (disch := omega) only [sC_s, sC_n, sC_2, sN_1, sN_s, sN_n, sN_2, sS_1, sS_2, sS_s, sS_n, upd_s, upd_e, upd_n, true_and]
                  exact ⟨⟨i, by omega, rfl⟩, ⟨j, hj, rfl⟩, ⟨k, hk0, hk, rfl⟩⟩
                · have := g t (by omega)
                  simp (disch := omega) only [sC_s, sC_n, sC_2, sN_1, sN_s, sN_n, sN_2, sS_1, sS_2, sS_s, sS_n, upd_s, upd_e, upd_n]
                  exact this
            rw [l_paid hS (by omega) (by omega) (by omega), l_paidOn hS (by omega) (by omega)]
            exact ⟨_, _, _, rfl, rfl, hS⟩
    · simp (disch := omega) only [↓nmk_e, ↓reduceIte, Option.bind_some, Option.map_some, lit, ofN, nI_add, pk_sub, pk_mul, nI_clamp, nI_leI, nI_ltI, nI_eq, pk_div, nI_an, nleT, nleF, nltT, nltF, neqT, neqF, or_false, false_or, or_self, or_true, true_or, and_self, and_true, true_and, and_false, false_and, not_true_eq_false, not_false_eq_true, f_X12_isSort, f_X12_isDay, f_X11_isSort, f_X11_isDay, inI, inP, f_X5_size, f_X5_isFull, f_X11_now, f_X2_isKind, f_X2_has, f_X3_has, f_X8_hasPage, f_X8_hasAllPages, f_X8_stands, f_X1_isPrinted, f_X1_rule, f_X9_has, f_X9_isFull, f_X12_isPage, f_X12_isVerse, sC_s, sC_n, sC_2, sN_1, sN_s, sN_n, sN_2, sS_1, sS_2, sS_s, sS_n, upd_s, upd_e, upd_n, rAt, rPut, rAdd, rSwap, rPush, rNumber, cp_0, cp_1, cp_2, cp_3, cp_4, cp_5, cp_6, cp_7, cp_8, cp_9, cp_10, cp_11, cp_12, cp_13, cp_14, cp_15, cp_16, cp_17, cp_18, cp_19, cp_20, cp_21, cp_22, cp_23, cp_24, cp_25, cp_26, cp_27, cp_28, cp_29, cp_30, cp_31, cp_32, cp_33, cp_34, cp_35, cp_36, cp_37, cp_38, cp_39, cp_40, cp_41, cp_42, cp_43, cp_44, cp_45, cp_46, cp_47, cp_48, cp_49, cp_50, cp_51, cp_52, cp_53, cp_54, cp_55, cp_56, cp_57, o1, o4]
      exact ⟨_, _, _, rfl, rfl, h⟩
theorem tT {a b : Nat} {inst : Decidable (nI 0 < nI a - nI b)} (ha : a < 2 ^ 30) (hb : b < 2 ^ 30) : (@ite _ (nI 0 < nI a - nI b) inst (nI a - nI b) (nI 0)) = nI (a - b) := by
  by_cases c : b < a
  · have e : nI a - nI b = nI (a - b) := pk_sub (Nat.le_of_lt c)
    rw [if_pos (by rw [e]; exact nI_lt (by omega) (by omega)), e]
  · rw [if_neg, show a - b = 0 by omega]
    intro q
    rw [i_lt, nI_toInt (by decide), pk_sub_toInt ha hb] at q
    omega
theorem tT2 {a b : Nat} {inst : Decidable (nI 0 ≤ nI a - nI b)} (ha : a < 2 ^ 30) (hb : b < 2 ^ 30) : (@ite _ (nI 0 ≤ nI a - nI b) inst (nI a - nI b) (nI 0)) = nI (a - b) := by
  by_cases c : b ≤ a
  · have e : nI a - nI b = nI (a - b) := pk_sub c
    rw [if_pos (by rw [e]; exact nI_le (by omega) (by omega)), e]
  · rw [if_neg, show a - b = 0 by omega]
    intro q
    rw [i_le, nI_toInt (by decide), pk_sub_toInt ha hb] at q
    omega
/-- what is owed behind k days -/
def VS (v : CW) (L c r d : Nat) : Nat → Nat
  | 0 => c
  | k + 1 => if 0 < k ∧ k % 360 = 0 then (VS v L c r d k - PD v L (d + k) (d + k)) + (VS v L c r d k - PD v L (d + k) (d + k)) * r / 100 else VS v L c r d k - PD v L (d + k) (d + k)
theorem VS_succ (v : CW) (L c r d k : Nat) : VS v L c r d (k + 1) = if 0 < k ∧ k % 360 = 0 then (VS v L c r d k - PD v L (d + k) (d + k)) + (VS v L c r d k - PD v L (d + k) (d + k)) * r / 100 else VS v L c r d k - PD v L (d + k) (d + k) := rfl
theorem VS_le (v : CW) (L : Nat) {c r : Nat} (d : Nat) (hc : c ≤ 9999) (hr : r ≤ 40) : ∀ k, k ≤ 1000 → VS v L c r d k ≤ 10000 + 10000 * ((k - 1) / 360) := by
  intro k
  induction k with
  | zero => intro _; show c ≤ _; omega
  | succ k ih =>
    intro h
    have ih := ih (by omega)
    show (if _ then _ else _) ≤ _
    generalize hx : VS v L c r d k - PD v L (d + k) (d + k) = x
    have hx2 : x ≤ 10000 + 10000 * ((k - 1) / 360) := by omega
    by_cases q : 0 < k ∧ k % 360 = 0
    · rw [if_pos q]
      have hm : x * r ≤ x * 40 := Nat.mul_le_mul_left _ hr
      have h1 : x * r / 100 ≤ x * 40 / 100 := Nat.div_le_div_right hm
      have h2 : (k - 1) / 360 + 1 = k / 360 := by omega
      have h3 : k / 360 ≤ 2 := by omega
      omega
    · rw [if_neg q]
      have : (k - 1) / 360 ≤ k / 360 := Nat.div_le_div_right (by omega)
      omega
/-- days without a whole year -/
theorem VS_seg (v : CW) (L c r d : Nat) (K : Nat) : ∀ n, (∀ t, K ≤ t → t < K + n → ¬ (0 < t ∧ t % 360 = 0)) → VS v L c r d (K + n) = VS v L c r d K - (if n = 0 then 0 else PD v L (d + K) (d + (K + n) - 1)) := by
  intro n
  induction n with
  | zero => intro _; rfl
  | succ n ih =>
    intro h
    have ih := ih (fun t h1 h2 => h t h1 (by omega))
    rw [show K + (n + 1) = (K + n) + 1 from rfl, VS_succ]
    rw [if_neg (h (K + n) (by omega) (by omega)), ih, if_neg (show ¬ n + 1 = 0 by omega)]
    by_cases c0 : n = 0
    · subst c0
      rw [if_pos rfl]
      show _ - PD v L (d + K) (d + K) = _ - PD v L (d + K) (d + (K + 1) - 1)
      rfl
    · rw [if_neg c0, Nat.sub_sub]
      have e : d + (K + n + 1) - 1 = (d + (K + n) - 1) + 1 := by omega
      rw [e, PD_split v L (by omega), show d + (K + n) - 1 + 1 = d + (K + n) by omega]
theorem l_oweR {w v : CW} (h : Sim w v) {L : Nat} {c r d day : Nat} (hL : L < 6) (hc : c ≤ 9999) (hr : r ≤ 40) (hd : d ≤ day) (hday : day ≤ 999) (e1 : v.1 0 (3166 + L) = nI d) (e2 : v.1 0 (3172 + L) = nI r) : f_X12_owe_L70 v (nI L) (nI day) FU (nI c) (nI d) = some (nI (VS v L c r d (day + 1 - d))) := by
  refine run1 (fun n i s => f_X12_owe_L70 v (nI L) (nI day) n s i) (fun i s => d ≤ i ∧ s = nI (VS v L c r d (i - d))) (day + 1) (fun x => x = some (nI (VS v L c r d (day + 1 - d)))) ?_ ?_ FU d (nI c) (by omega) (by unfold FU; omega) ⟨Nat.le_refl _, by rw [Nat.sub_self]; rfl⟩
  · rintro n s ⟨-, rfl⟩
    simp (disch := omega) only [f_X12_owe_L70, ↓nmk_e, ↓reduceIte, Option.bind_some, Option.map_some, lit, ofN, nI_add, pk_sub, pk_mul, nI_clamp, nI_leI, nI_ltI, nI_eq, pk_div, nI_an, nleT, nleF, nltT, nltF, neqT, neqF, or_false, false_or, or_self, or_true, true_or, and_self, and_true, true_and, and_false, false_and, not_true_eq_false, not_false_eq_true, f_X12_isSort, f_X12_isDay, f_X11_isSort, f_X11_isDay, inI, inP, f_X5_size, f_X5_isFull, f_X11_now, f_X2_isKind, f_X2_has, f_X3_has, f_X8_hasPage, f_X8_hasAllPages, f_X8_stands, f_X1_isPrinted, f_X1_rule, f_X9_has, f_X9_isFull, f_X12_isPage, f_X12_isVerse, sC_s, sC_n, sC_2, sN_1, sN_s, sN_n, sN_2, sS_1, sS_2, sS_s, sS_n, upd_s, upd_e, upd_n, rAt, rPut, rAdd, rSwap, rPush, rNumber, cp_0, cp_1, cp_2, cp_3, cp_4, cp_5, cp_6, cp_7, cp_8, cp_9, cp_10, cp_11, cp_12, cp_13, cp_14, cp_15, cp_16, cp_17, cp_18, cp_19, cp_20, cp_21, cp_22, cp_23, cp_24, cp_25, cp_26, cp_27, cp_28, cp_29, cp_30, cp_31, cp_32, cp_33, cp_34, cp_35, cp_36, cp_37, cp_38, cp_39, cp_40, cp_41, cp_42, cp_43, cp_44, cp_45, cp_46, cp_47, cp_48, cp_49, cp_50, cp_51, cp_52, cp_53, cp_54, cp_55, cp_56, cp_57]
  · rintro n i s hi ⟨hdi, rfl⟩
    have hP := l_paidOn h hL (f := i) (by omega)
    have hPl := PD_le h L i i
    have hVl := VS_le v L (c := c) (r := r) d hc hr (i - d) (by omega)
    refine .inr ⟨nI (VS v L c r d (i + 1 - d)), ?_, by omega, rfl⟩
    have e3 : i + 1 - d = (i - d) + 1 := by omega
    rw [e3]
    show _ = f_X12_owe_L70 v (nI L) (nI day) n (nI (if _ then _ else _)) _
    rw [show d + (i - d) = i by omega]
    generalize VS v L c r d (i - d) = x at *
    generalize PD v L i i = p at *
    have hx : x ≤ 40000 := by omega
    have hm : (x - p) * r ≤ (x - p) * 40 := Nat.mul_le_mul_left _ hr
    have hmd : ∀ a b : Nat, a < 2 ^ 31 → nI a - nI a / nI 360 * nI 360 = nI (a % 360) := fun a b ha => pk_rem ha (by decide) (by decide)
    by_cases q1 : i = d
    · subst q1
      rw [if_neg (by omega)]
      simp (disch := omega) only [f_X12_owe_L70, ↓nmk_e, ↓reduceIte, Option.bind_some, Option.map_some, lit, nI_add, nI_clamp, nI_leI, nI_ltI, nI_eq, nleT, nleF, nltT, nltF, neqT, neqF, or_false, false_or, or_self, or_true, true_or, and_self, and_true, true_and, and_false, false_and, not_true_eq_false, not_false_eq_true, sC_s, sC_n, sC_2, sN_1, sN_s, sN_n, sN_2, sS_1, sS_2, sS_s, sS_n, upd_s, upd_e, upd_n, hP, tT2, e1, e2, Nat.add_zero]
    · by_cases q2 : (i - d) % 360 = 0
      · rw [if_pos ⟨by omega, q2⟩]
        have q3 : i - d - (i - d) / 360 * 360 = 0 := by omega
        simp (disch := omega) only [f_X12_owe_L70, ↓nmk_e, ↓reduceIte, Option.bind_some, Option.map_some, lit, ofN, nI_add, pk_sub, pk_mul, nI_clamp, nI_leI, nI_ltI, nI_eq, pk_div, nI_an, nleT, nleF, nltT, nltF, neqT, neqF, or_false, false_or, or_self, or_true, true_or, and_self, and_true, true_and, and_false, false_and, not_true_eq_false, not_false_eq_true, sC_s, sC_n, sC_2, sN_1, sN_s, sN_n, sN_2, sS_1, sS_2, sS_s, sS_n, upd_s, upd_e, upd_n, hP, tT2, e1, e2, q3]
      · rw [if_neg (by omega)]
        have q3 : ¬ i - d - (i - d) / 360 * 360 = 0 := by omega
        simp (disch := omega) only [f_X12_owe_L70, ↓nmk_e, ↓reduceIte, Option.bind_some, Option.map_some, lit, ofN, nI_add, pk_sub, pk_mul, nI_clamp, nI_leI, nI_ltI, nI_eq, pk_div, nI_an, nleT, nleF, nltT, nltF, neqT, neqF, or_false, false_or, or_self, or_true, true_or, and_self, and_true, true_and, and_false, false_and, not_true_eq_false, not_false_eq_true, sC_s, sC_n, sC_2, sN_1, sN_s, sN_n, sN_2, sS_1, sS_2, sS_s, sS_n, upd_s, upd_e, upd_n, hP, tT2, e1, e2, q3, Nat.add_zero]
theorem l_oweC {w v : CW} (h : Sim w v) {L : Nat} {c r d day : Nat} (hL : L < 6) (hc : c ≤ 9999) (hr : r ≤ 40) (hd : d ≤ day) (hday : day ≤ 999) (e0 : w.1 30 L = nI c) (e1 : w.1 31 L = nI d) (e2 : w.1 32 L = nI r) : f_X3_owed w (nI L) (nI day) = some (nI (VS v L c r d (day + 1 - d))) := by
  have hF : FU = 9996 + 1 + 1 + 1 + 1 := rfl
  have hP : ∀ f t : Nat, f ≤ 5000 → t ≤ 5000 → f_X3_paid w (nI L) (nI f) (nI t) = some (nI (PD v L f t)) := fun f t a b => l_paid h hL a b
  have hPl : ∀ f t, PD v L f t ≤ 200000 := fun f t => PD_le h L f t
  have hVl : ∀ k, k ≤ 1000 → VS v L c r d k ≤ 30000 := fun k hk => by
    have := VS_le v L (c := c) (r := r) d hc hr k hk
    have : (k - 1) / 360 ≤ 2 := by omega
    omega
  have hmul : ∀ x, x ≤ 40000 → x * r ≤ 1600000 := fun x hx => by
    have := Nat.mul_le_mul hx hr
    omega
  have seg : ∀ K n, 0 < n → (∀ t, K ≤ t → t < K + n → ¬ (0 < t ∧ t % 360 = 0)) → VS v L c r d (K + n) = VS v L c r d K - PD v L (d + K) (d + (K + n) - 1) := fun K n hn hh => by
    rw [VS_seg v L c r d K n hh, if_neg (by omega)]
  have bump : ∀ K n, (∀ t, K ≤ t → t < K + n → ¬ (0 < t ∧ t % 360 = 0)) → 0 < K + n → (K + n) % 360 = 0 → VS v L c r d (K + n + 1) = (VS v L c r d K - PD v L (d + K) (d + (K + n))) + (VS v L c r d K - PD v L (d + K) (d + (K + n))) * r / 100 := fun K n hh h0 h1 => by
    rw [VS_succ, if_pos ⟨h0, h1⟩]
    by_cases c0 : n = 0
    · subst c0; rfl
    · rw [seg K n (by omega) hh, Nat.sub_sub]
      have e : d + (K + n) = (d + (K + n) - 1) + 1 := by omega
      have := PD_split v L (f := d + K) (b := d + (K + n) - 1) (by omega)
      rw [← e] at this
      rw [this]
  have cl : ∀ K, K ≤ day + 1 - d → (∀ t, K ≤ t → t < day + 1 - d → ¬ (0 < t ∧ t % 360 = 0)) → VS v L c r d K - PD v L (d + K) day = VS v L c r d (day + 1 - d) := fun K h1 hh => by
    by_cases c0 : K = day + 1 - d
    · subst c0
      rw [PD_none v L (by omega)]; rfl
    · have e : day + 1 - d = K + (day + 1 - d - K) := by omega
      have := seg K (day + 1 - d - K) (by omega) (fun t a b => hh t a (by omega))
      rw [← e] at this
      rw [this, show d + (day + 1 - d) - 1 = day by omega]
  have v0 : VS v L c r d 0 = c := rfl
  have b1 := bump 0 360 (fun t h1 h2 => by omega) (by omega) (by omega)
  have b2 := bump 361 359 (fun t h1 h2 => by omega) (by omega) (by omega)
  have p1 := hPl d (d + 360)
  have p2 := hPl (d + 361) (d + 720)
  have m1 := hmul (c - PD v L d (d + 360)) (by omega)
  have V1 := hVl 361 (by omega)
  have V2 := hVl 721 (by omega)
  have m2 := hmul (VS v L c r d 361 - PD v L (d + 361) (d + 720)) (by omega)
  have pe1 := hPl d day
  have pe2 := hPl (d + 361) day
  have pe3 := hPl (d + 721) day
  rw [v0] at b1
  simp only [Nat.add_zero, Nat.zero_add, Nat.reduceAdd] at b1 b2
  unfold f_X3_owed
  rw [hF]
  by_cases c1 : day < d + 360
  · have c2 := cl 0 (by omega) (fun t h1 h2 => by omega)
    simp (disch := omega) only [f_X3_owed_L33, ↓nmk_e, ↓reduceIte, Option.bind_some, Option.map_some, lit, nI_add, nI_clamp, nI_leI, nI_ltI, nI_eq, pk_mul, pk_div, nleT, nleF, nltT, nltF, neqT, neqF, or_false, false_or, or_self, or_true, true_or, and_self, and_true, true_and, and_false, false_and, not_true_eq_false, not_false_eq_true, rAt, rPut, rAdd, rSwap, rPush, rNumber, cp_0, cp_1, cp_2, cp_3, cp_4, cp_5, cp_6, cp_7, cp_8, cp_9, cp_10, cp_11, cp_12, cp_13, cp_14, cp_15, cp_16, cp_17, cp_18, cp_19, cp_20, cp_21, cp_22, cp_23, cp_24, cp_25, cp_26, cp_27, cp_28, cp_29, cp_30, cp_31, cp_32, cp_33, cp_34, cp_35, cp_36, cp_37, cp_38, cp_39, cp_40, cp_41, cp_42, cp_43, cp_44, cp_45, cp_46, cp_47, cp_48, cp_49, cp_50, cp_51, cp_52, cp_53, cp_54, cp_55, cp_56, cp_57, e0, e1, e2, hP, tT]
    rw [← c2]; rfl
  · by_cases c2 : day < d + 720
    · have c3 := cl 361 (by omega) (fun t h1 h2 => by omega)
      simp (disch := omega) only [f_X3_owed_L33, ↓nmk_e, ↓reduceIte, Option.bind_some, Option.map_some, lit, nI_add, nI_clamp, nI_leI, nI_ltI, nI_eq, pk_mul, pk_div, nleT, nleF, nltT, nltF, neqT, neqF, or_false, false_or, or_self, or_true, true_or, and_self, and_true, true_and, and_false, false_and, not_true_eq_false, not_false_eq_true, rAt, rPut, rAdd, rSwap, rPush, rNumber, cp_0, cp_1, cp_2, cp_3, cp_4, cp_5, cp_6, cp_7, cp_8, cp_9, cp_10, cp_11, cp_12, cp_13, cp_14, cp_15, cp_16, cp_17, cp_18, cp_19, cp_20, cp_21, cp_22, cp_23, cp_24, cp_25, cp_26, cp_27, cp_28, cp_29, cp_30, cp_31, cp_32, cp_33, cp_34, cp_35, cp_36, cp_37, cp_38, cp_39, cp_40, cp_41, cp_42, cp_43, cp_44, cp_45, cp_46, cp_47, cp_48, cp_49, cp_50, cp_51, cp_52, cp_53, cp_54, cp_55, cp_56, cp_57, e0, e1, e2, hP, tT, Nat.add_assoc, Nat.reduceAdd, ← b1]
      rw [← c3]
    · have c3 := cl 721 (by omega) (fun t h1 h2 => by omega)
      simp (disch := omega) only [f_X3_owed_L33, ↓nmk_e, ↓reduceIte, Option.bind_some, Option.map_some, lit, nI_add, nI_clamp, nI_leI, nI_ltI, nI_eq, pk_mul, pk_div, nleT, nleF, nltT, nltF, neqT, neqF, or_false, false_or, or_self, or_true, true_or, and_self, and_true, true_and, and_false, false_and, not_true_eq_false, not_false_eq_true, rAt, rPut, rAdd, rSwap, rPush, rNumber, cp_0, cp_1, cp_2, cp_3, cp_4, cp_5, cp_6, cp_7, cp_8, cp_9, cp_10, cp_11, cp_12, cp_13, cp_14, cp_15, cp_16, cp_17, cp_18, cp_19, cp_20, cp_21, cp_22, cp_23, cp_24, cp_25, cp_26, cp_27, cp_28, cp_29, cp_30, cp_31, cp_32, cp_33, cp_34, cp_35, cp_36, cp_37, cp_38, cp_39, cp_40, cp_41, cp_42, cp_43, cp_44, cp_45, cp_46, cp_47, cp_48, cp_49, cp_50, cp_51, cp_52, cp_53, cp_54, cp_55, cp_56, cp_57, e0, e1, e2, hP, tT, Nat.add_assoc, Nat.reduceAdd, ← b1, ← b2]
      rw [← c3]
theorem s_owe {w v : CW} (h : Sim w v) (a b : Int32) : Same w v ((f_X11_owe w a b).map (fun x => (x, w))) ((f_X12_owe v a b).map (fun x => (x, v))) := by
  obtain ⟨l, hl, o1, o2, o3, o4, gl⟩ := h.g12
  unfold f_X11_owe f_X12_owe
  rcases rng3 a 0 5 with q | ⟨i, hi, rfl, q⟩ | ⟨i, hi0, hi, hi2, rfl⟩
  · simp (disch := omega) only [↓nmk_e, ↓reduceIte, Option.bind_some, Option.map_some, lit, ofN, nI_add, pk_sub, pk_mul, nI_clamp, nI_leI, nI_ltI, nI_eq, pk_div, nI_an, nleT, nleF, nltT, nltF, neqT, neqF, or_false, false_or, or_self, or_true, true_or, and_self, and_true, true_and, and_false, false_and, not_true_eq_false, not_false_eq_true, f_X12_isSort, f_X12_isDay, f_X11_isSort, f_X11_isDay, inI, inP, f_X5_size, f_X5_isFull, f_X11_now, f_X2_isKind, f_X2_has, f_X3_has, f_X8_hasPage, f_X8_hasAllPages, f_X8_stands, f_X1_isPrinted, f_X1_rule, f_X9_has, f_X9_isFull, f_X12_isPage, f_X12_isVerse, sC_s, sC_n, sC_2, sN_1, sN_s, sN_n, sN_2, sS_1, sS_2, sS_s, sS_n, upd_s, upd_e, upd_n, rAt, rPut, rAdd, rSwap, rPush, rNumber, cp_0, cp_1, cp_2, cp_3, cp_4, cp_5, cp_6, cp_7, cp_8, cp_9, cp_10, cp_11, cp_12, cp_13, cp_14, cp_15, cp_16, cp_17, cp_18, cp_19, cp_20, cp_21, cp_22, cp_23, cp_24, cp_25, cp_26, cp_27, cp_28, cp_29, cp_30, cp_31, cp_32, cp_33, cp_34, cp_35, cp_36, cp_37, cp_38, cp_39, cp_40, cp_41, cp_42, cp_43, cp_44, cp_45, cp_46, cp_47, cp_48, cp_49, cp_50, cp_51, cp_52, cp_53, cp_54, cp_55, cp_56, cp_57, o1, o4, ng1 q, ng2 q, ng3 q, ng4 q, ng5 q, inN q]
    exact ⟨_, _, _, rfl, rfl, h⟩
  · simp (disch := omega) only [↓nmk_e, ↓reduceIte, Option.bind_some, Option.map_some, lit, ofN, nI_add, pk_sub, pk_mul, nI_clamp, nI_leI, nI_ltI, nI_eq, pk_div, nI_an, nleT, nleF, nltT, nltF, neqT, neqF, or_false, false_or, or_self, or_true, true_or, and_self, and_true, true_and, and_false, false_and, not_true_eq_false, not_false_eq_true, f_X12_isSort, f_X12_isDay, f_X11_isSort, f_X11_isDay, inI, inP, f_X5_size, f_X5_isFull, f_X11_now, f_X2_isKind, f_X2_has, f_X3_has, f_X8_hasPage, f_X8_hasAllPages, f_X8_stands, f_X1_isPrinted, f_X1_rule, f_X9_has, f_X9_isFull, f_X12_isPage, f_X12_isVerse, sC_s, sC_n, sC_2, sN_1, sN_s, sN_n, sN_2, sS_1, sS_2, sS_s, sS_n, upd_s, upd_e, upd_n, rAt, rPut, rAdd, rSwap, rPush, rNumber, cp_0, cp_1, cp_2, cp_3, cp_4, cp_5, cp_6, cp_7, cp_8, cp_9, cp_10, cp_11, cp_12, cp_13, cp_14, cp_15, cp_16, cp_17, cp_18, cp_19, cp_20, cp_21, cp_22, cp_23, cp_24, cp_25, cp_26, cp_27, cp_28, cp_29, cp_30, cp_31, cp_32, cp_33, cp_34, cp_35, cp_36, cp_37, cp_38, cp_39, cp_40, cp_41, cp_42, cp_43, cp_44, cp_45, cp_46, cp_47, cp_48, cp_49, cp_50, cp_51, cp_52, cp_53, cp_54, cp_55, cp_56, cp_57, o1, o4]
    exact ⟨_, _, _, rfl, rfl, h⟩
  · by_cases cl : i < l
    · obtain ⟨g1, g2, g3, ⟨c, hc0, hc, g4⟩, ⟨d, hd, g5⟩, ⟨r, hr, g6⟩⟩ := gl i cl
      rcases rng3 b 0 999 with q | ⟨j, hj, rfl, q⟩ | ⟨j, hj0, hj, hj2, rfl⟩
      · simp (disch := omega) only [↓nmk_e, ↓reduceIte, Option.bind_some, Option.map_some, lit, ofN, nI_add, pk_sub, pk_mul, nI_clamp, nI_leI, nI_ltI, nI_eq, pk_div, nI_an, nleT, nleF, nltT, nltF, neqT, neqF, or_false, false_or, or_self, or_true, true_or, and_self, and_true, true_and, and_false, false_and, not_true_eq_false, not_false_eq_true, f_X12_isSort, f_X12_isDay, f_X11_isSort, f_X11_isDay, inI, inP, f_X5_size, f_X5_isFull, f_X11_now, f_X2_isKind, f_X2_has, f_X3_has, f_X8_hasPage, f_X8_hasAllPages, f_X8_stands, f_X1_isPrinted, f_X1_rule, f_X9_has, f_X9_isFull, f_X12_isPage, f_X12_isVerse, sC_s, sC_n, sC_2, sN_1, sN_s, sN_n, sN_2, sS_1, sS_2, sS_s, sS_n, upd_s, upd_e, upd_n, rAt, rPut, rAdd, rSwap, rPush, rNumber, cp_0, cp_1, cp_2, cp_3, cp_4, cp_5, cp_6, cp_7, cp_8, cp_9, cp_10, cp_11, cp_12, cp_13, cp_14, cp_15, cp_16, cp_17, cp_18, cp_19, cp_20, cp_21, cp_22, cp_23, cp_24, cp_25, cp_26, cp_27, cp_28, cp_29, cp_30, cp_31, cp_32, cp_33, cp_34, cp_35, cp_36, cp_37, cp_38, cp_39, cp_40, cp_41, cp_42, cp_43, cp_44, cp_45, cp_46, cp_47, cp_48, cp_49, cp_50, cp_51, cp_52, cp_53, cp_54, cp_55, cp_56, cp_57, o1, o4, ng1 q, ng2 q, ng3 q, ng4 q, ng5 q, inN q]
        exact ⟨_, _, _, rfl, rfl, h⟩
      · simp (disch := omega) only [↓nmk_e, ↓reduceIte, Option.bind_some, Option.map_some, lit, ofN, nI_add, pk_sub, pk_mul, nI_clamp, nI_leI, nI_ltI, nI_eq, pk_div, nI_an, nleT, nleF, nltT, nltF, neqT, neqF, or_false, false_or, or_self, or_true, true_or, and_self, and_true, true_and, and_false, false_and, not_true_eq_false, not_false_eq_true, f_X12_isSort, f_X12_isDay, f_X11_isSort, f_X11_isDay, inI, inP, f_X5_size, f_X5_isFull, f_X11_now, f_X2_isKind, f_X2_has, f_X3_has, f_X8_hasPage, f_X8_hasAllPages, f_X8_stands, f_X1_isPrinted, f_X1_rule, f_X9_has, f_X9_isFull, f_X12_isPage, f_X12_isVerse, sC_s, sC_n, sC_2, sN_1, sN_s, sN_n, sN_2, sS_1, sS_2, sS_s, sS_n, upd_s, upd_e, upd_n, rAt, rPut, rAdd, rSwap, rPush, rNumber, cp_0, cp_1, cp_2, cp_3, cp_4, cp_5, cp_6, cp_7, cp_8, cp_9, cp_10, cp_11, cp_12, cp_13, cp_14, cp_15, cp_16, cp_17, cp_18, cp_19, cp_20, cp_21, cp_22, cp_23, cp_24, cp_25, cp_26, cp_27, cp_28, cp_29, cp_30, cp_31, cp_32, cp_33, cp_34, cp_35, cp_36, cp_37, cp_38, cp_39, cp_40, cp_41, cp_42, cp_43, cp_44, cp_45, cp_46, cp_47, cp_48, cp_49, cp_50, cp_51, cp_52, cp_53, cp_54, cp_55, cp_56, cp_57, o1, o4]
        exact ⟨_, _, _, rfl, rfl, h⟩
      · by_cases cj : d ≤ j
        · have q1 := l_oweC h (L := i) (by omega) hc hr cj hj (g1.trans g4) (g2.trans g5) (g3.trans g6)
          have q2 := l_oweR h (L := i) (by omega) hc hr cj hj g5 g6
          simp (disch := omega) only [↓nmk_e, ↓reduceIte, Option.bind_some, Option.map_some, lit, ofN, nI_add, pk_sub, pk_mul, nI_clamp, nI_leI, nI_ltI, nI_eq, pk_div, nI_an, nleT, nleF, nltT, nltF, neqT, neqF, or_false, false_or, or_self, or_true, true_or, and_self, and_true, true_and, and_false, false_and, not_true_eq_false, not_false_eq_true, f_X12_isSort, f_X12_isDay, f_X11_isSort, f_X11_isDay, inI, inP, f_X5_size, f_X5_isFull, f_X11_now, f_X2_isKind, f_X2_has, f_X3_has, f_X8_hasPage, f_X8_hasAllPages, f_X8_stands, f_X1_isPrinted, f_X1_rule, f_X9_has, f_X9_isFull, f_X12_isPage, f_X12_isVerse, sC_s, sC_n, sC_2, sN_1, sN_s, sN_n, sN_2, sS_1, sS_2, sS_s, sS_n, upd_s, upd_e, upd_n, rAt, rPut, rAdd, rSwap, rPush, rNumber, cp_0, cp_1, cp_2, cp_3, cp_4, cp_5, cp_6, cp_7, cp_8, cp_9, cp_10, cp_11, cp_12, cp_13, cp_14, cp_15, cp_16, cp_17, cp_18, cp_19, cp_20, cp_21, cp_22, cp_23, cp_24, cp_25, cp_26, cp_27, cp_28, cp_29, cp_30, cp_31, cp_32, cp_33, cp_34, cp_35, cp_36, cp_37, cp_38, cp_39, cp_40, cp_41, cp_42, cp_43, cp_44, cp_45, cp_46, cp_47, cp_48, cp_49, cp_50, cp_51, cp_52, cp_53, cp_54, cp_55, cp_56, cp_57, o1, o4, q1, g5, g4, q2]
          exact ⟨_, _, _, rfl, rfl, h⟩
        · have q1 : f_X3_owed w (nI i) (nI j) = some (nI 0) := by
            unfold f_X3_owed
            simp (disch := omega) only [↓nmk_e, ↓reduceIte, Option.bind_some, Option.map_some, lit, ofN, nI_add, pk_sub, pk_mul, nI_clamp, nI_leI, nI_ltI, nI_eq, pk_div, nI_an, nleT, nleF, nltT, nltF, neqT, neqF, or_false, false_or, or_self, or_true, true_or, and_self, and_true, true_and, and_false, false_and, not_true_eq_false, not_false_eq_true, f_X12_isSort, f_X12_isDay, f_X11_isSort, f_X11_isDay, inI, inP, f_X5_size, f_X5_isFull, f_X11_now, f_X2_isKind, f_X2_has, f_X3_has, f_X8_hasPage, f_X8_hasAllPages, f_X8_stands, f_X1_isPrinted, f_X1_rule, f_X9_has, f_X9_isFull, f_X12_isPage, f_X12_isVerse, sC_s, sC_n, sC_2, sN_1, sN_s, sN_n, sN_2, sS_1, sS_2, sS_s, sS_n, upd_s, upd_e, upd_n, rAt, rPut, rAdd, rSwap, rPush, rNumber, cp_0, cp_1, cp_2, cp_3, cp_4, cp_5, cp_6, cp_7, cp_8, cp_9, cp_10, cp_11, cp_12, cp_13, cp_14, cp_15, cp_16, cp_17, cp_18, cp_19, cp_20, cp_21, cp_22, cp_23, cp_24, cp_25, cp_26, cp_27, cp_28, cp_29, cp_30, cp_31, cp_32, cp_33, cp_34, cp_35, cp_36, cp_37, cp_38, cp_39, cp_40, cp_41, cp_42, cp_43, cp_44, cp_45, cp_46, cp_47, cp_48, cp_49, cp_50, cp_51, cp_52, cp_53, cp_54, cp_55, cp_56, cp_57, g2, g5]
          have hF : FU = 9999 + 1 := rfl
          have q2 : f_X12_owe_L70 v (nI i) (nI j) FU (nI 0) (nI d) = some (nI 0) := by
            rw [hF]
            simp (disch := omega) only [f_X12_owe_L70, ↓nmk_e, ↓reduceIte, Option.bind_some, Option.map_some, lit, ofN, nI_add, pk_sub, pk_mul, nI_clamp, nI_leI, nI_ltI, nI_eq, pk_div, nI_an, nleT, nleF, nltT, nltF, neqT, neqF, or_false, false_or, or_self, or_true, true_or, and_self, and_true, true_and, and_false, false_and, not_true_eq_false, not_false_eq_true, f_X12_isSort, f_X12_isDay, f_X11_isSort, f_X11_isDay, inI, inP, f_X5_size, f_X5_isFull, f_X11_now, f_X2_isKind, f_X2_has, f_X3_has, f_X8_hasPage, f_X8_hasAllPages, f_X8_stands, f_X1_isPrinted, f_X1_rule, f_X9_has, f_X9_isFull, f_X12_isPage, f_X12_isVerse, sC_s, sC_n, sC_2, sN_1, sN_s, sN_n, sN_2, sS_1, sS_2, sS_s, sS_n, upd_s, upd_e, upd_n, rAt, rPut, rAdd, rSwap, rPush, rNumber, cp_0, cp_1, cp_2, cp_3, cp_4, cp_5, cp_6, cp_7, cp_8, cp_9, cp_10, cp_11, cp_12, cp_13, cp_14, cp_15, cp_16, cp_17, cp_18, cp_19, cp_20, cp_21, cp_22, cp_23, cp_24, cp_25, cp_26, cp_27, cp_28, cp_29, cp_30, cp_31, cp_32, cp_33, cp_34, cp_35, cp_36, cp_37, cp_38, cp_39, cp_40, cp_41, cp_42, cp_43, cp_44, cp_45, cp_46, cp_47, cp_48, cp_49, cp_50, cp_51, cp_52, cp_53, cp_54, cp_55, cp_56, cp_57]
          simp (disch := omega) only [↓nmk_e, ↓reduceIte, Option.bind_some, Option.map_some, lit, ofN, nI_add, pk_sub, pk_mul, nI_clamp, nI_leI, nI_ltI, nI_eq, pk_div, nI_an, nleT, nleF, nltT, nltF, neqT, neqF, or_false, false_or, or_self, or_true, true_or, and_self, and_true, true_and, and_false, false_and, not_true_eq_false, not_false_eq_true, f_X12_isSort, f_X12_isDay, f_X11_isSort, f_X11_isDay, inI, inP, f_X5_size, f_X5_isFull, f_X11_now, f_X2_isKind, f_X2_has, f_X3_has, f_X8_hasPage, f_X8_hasAllPages, f_X8_stands, f_X1_isPrinted, f_X1_rule, f_X9_has, f_X9_isFull, f_X12_isPage, f_X12_isVerse, sC_s, sC_n, sC_2, sN_1, sN_s, sN_n, sN_2, sS_1, sS_2, sS_s, sS_n, upd_s, upd_e, upd_n, rAt, rPut, rAdd, rSwap, rPush, rNumber, cp_0, cp_1, cp_2, cp_3, cp_4, cp_5, cp_6, cp_7, cp_8, cp_9, cp_10, cp_11, cp_12, cp_13, cp_14, cp_15, cp_16, cp_17, cp_18, cp_19, cp_20, cp_21, cp_22, cp_23, cp_24, cp_25, cp_26, cp_27, cp_28, cp_29, cp_30, cp_31, cp_32, cp_33, cp_34, cp_35, cp_36, cp_37, cp_38, cp_39, cp_40, cp_41, cp_42, cp_43, cp_44, cp_45, cp_46, cp_47, cp_48, cp_49, cp_50, cp_51, cp_52, cp_53, cp_54, cp_55, cp_56, cp_57, o1, o4, q1, g5, q2]
          exact ⟨_, _, _, rfl, rfl, h⟩
    · simp (disch := omega) only [↓nmk_e, ↓reduceIte, Option.bind_some, Option.map_some, lit, ofN, nI_add, pk_sub, pk_mul, nI_clamp, nI_leI, nI_ltI, nI_eq, pk_div, nI_an, nleT, nleF, nltT, nltF, neqT, neqF, or_false, false_or, or_self, or_true, true_or, and_self, and_true, true_and, and_false, false_and, not_true_eq_false, not_false_eq_true, f_X12_isSort, f_X12_isDay, f_X11_isSort, f_X11_isDay, inI, inP, f_X5_size, f_X5_isFull, f_X11_now, f_X2_isKind, f_X2_has, f_X3_has, f_X8_hasPage, f_X8_hasAllPages, f_X8_stands, f_X1_isPrinted, f_X1_rule, f_X9_has, f_X9_isFull, f_X12_isPage, f_X12_isVerse, sC_s, sC_n, sC_2, sN_1, sN_s, sN_n, sN_2, sS_1, sS_2, sS_s, sS_n, upd_s, upd_e, upd_n, rAt, rPut, rAdd, rSwap, rPush, rNumber, cp_0, cp_1, cp_2, cp_3, cp_4, cp_5, cp_6, cp_7, cp_8, cp_9, cp_10, cp_11, cp_12, cp_13, cp_14, cp_15, cp_16, cp_17, cp_18, cp_19, cp_20, cp_21, cp_22, cp_23, cp_24, cp_25, cp_26, cp_27, cp_28, cp_29, cp_30, cp_31, cp_32, cp_33, cp_34, cp_35, cp_36, cp_37, cp_38, cp_39, cp_40, cp_41, cp_42, cp_43, cp_44, cp_45, cp_46, cp_47, cp_48, cp_49, cp_50, cp_51, cp_52, cp_53, cp_54, cp_55, cp_56, cp_57, o1, o4]
      exact ⟨_, _, _, rfl, rfl, h⟩
