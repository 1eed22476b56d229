/-! runs, the call -/
def orr (f : Nat → Nat) : Nat → Nat
  | 0 => 0
  | n + 1 => orr f n ||| f n
theorem orr_congr {f g : Nat → Nat} : ∀ n, (∀ i, i < n → f i = g i) → orr f n = orr g n := by
  intro n
  induction n with
  | zero => intro _; rfl
  | succ n ih =>
    intro h
    show orr f n ||| f n = orr g n ||| g n
    rw [ih (fun i hi => h i (by omega)), h n (by omega)]
theorem orr_zero {f : Nat → Nat} : ∀ n, (∀ i, i < n → f i = 0) → orr f n = 0 := by
  intro n
  induction n with
  | zero => intro _; rfl
  | succ n ih =>
    intro h
    show orr f n ||| f n = 0
    rw [ih (fun i hi => h i (by omega)), h n (by omega)]; rfl
theorem l_begC {f : Nat → Int32} {u : CW} {n : Nat} (R : RRow f) (hM : Mk f n u (RfM f)) (hn : n ≤ 10) : f_X1_beginnings u (nI n) = some (nI (orr (fun p => if mcb f n p 0 = true then 2 ^ p else 0) n)) := by
  unfold f_X1_beginnings
  refine run1 (fun q i x => f_X1_beginnings_L4 u (nI n) q x i) (fun i x => x = nI (orr (fun p => if mcb f n p 0 = true then 2 ^ p else 0) i)) n (fun y => y = some (nI (orr (fun p => if mcb f n p 0 = true then 2 ^ p else 0) n))) ?_ ?_ FU 0 0 (Nat.zero_le _) (by unfold FU; omega) rfl
  · rintro q x rfl
    simp (disch := omega) only [f_X1_beginnings_L4, ↓nmk_e, ↓reduceIte, Option.bind_some, Option.map_some, lit, ofN, nI_add, pk_sub, pk_mul, nI_clamp, nI_leI, nI_ltI, nI_eq, pk_div, nI_an, nleT, nleF, nltT, nltF, neqT, neqF, or_false, false_or, or_self, or_true, true_or, and_self, and_true, true_and, and_false, false_and, not_true_eq_false, not_false_eq_true, f_X12_isSort, f_X12_isDay, f_X11_isSort, f_X11_isDay, inI, inP, f_X5_size, f_X5_isFull, f_X11_now, f_X2_isKind, f_X2_has, f_X3_has, f_X8_hasPage, f_X8_hasAllPages, f_X8_stands, f_X1_isPrinted, f_X1_rule, f_X9_has, f_X9_isFull, f_X12_isPage, f_X12_isVerse, sC_s, sC_n, sC_2, sN_1, sN_s, sN_n, sN_2, sS_1, sS_2, sS_s, sS_n, upd_s, upd_e, upd_n, rAt, rPut, rAdd, rSwap, rPush, rNumber, cp_0, cp_1, cp_2, cp_3, cp_4, cp_5, cp_6, cp_7, cp_8, cp_9, cp_10, cp_11, cp_12, cp_13, cp_14, cp_15, cp_16, cp_17, cp_18, cp_19, cp_20, cp_21, cp_22, cp_23, cp_24, cp_25, cp_26, cp_27, cp_28, cp_29, cp_30, cp_31, cp_32, cp_33, cp_34, cp_35, cp_36, cp_37, cp_38, cp_39, cp_40, cp_41, cp_42, cp_43, cp_44, cp_45, cp_46, cp_47, cp_48, cp_49, cp_50, cp_51, cp_52, cp_53, cp_54, cp_55, cp_56, cp_57]
  · rintro q i x hi rfl
    have hc := l_can R hM hn hi (s := 0) (by decide)
    refine .inr ⟨_, ?_, rfl⟩
    show _ = f_X1_beginnings_L4 u (nI n) q (nI (orr _ i ||| if mcb f n i 0 = true then 2 ^ i else 0)) _
    have hs := shl1 (p := i) (by omega)
    by_cases c : mcb f n i 0 = true
    · rw [if_pos c] at hc
      rw [if_pos c]
      simp (disch := omega) only [f_X1_beginnings_L4, ↓nmk_e, ↓reduceIte, Option.bind_some, Option.map_some, lit, ofN, nI_add, pk_sub, pk_mul, nI_clamp, nI_leI, nI_ltI, nI_eq, pk_div, nI_an, nleT, nleF, nltT, nltF, neqT, neqF, or_false, false_or, or_self, or_true, true_or, and_self, and_true, true_and, and_false, false_and, not_true_eq_false, not_false_eq_true, f_X12_isSort, f_X12_isDay, f_X11_isSort, f_X11_isDay, inI, inP, f_X5_size, f_X5_isFull, f_X11_now, f_X2_isKind, f_X2_has, f_X3_has, f_X8_hasPage, f_X8_hasAllPages, f_X8_stands, f_X1_isPrinted, f_X1_rule, f_X9_has, f_X9_isFull, f_X12_isPage, f_X12_isVerse, sC_s, sC_n, sC_2, sN_1, sN_s, sN_n, sN_2, sS_1, sS_2, sS_s, sS_n, upd_s, upd_e, upd_n, rAt, rPut, rAdd, rSwap, rPush, rNumber, cp_0, cp_1, cp_2, cp_3, cp_4, cp_5, cp_6, cp_7, cp_8, cp_9, cp_10, cp_11, cp_12, cp_13, cp_14, cp_15, cp_16, cp_17, cp_18, cp_19, cp_20, cp_21, cp_22, cp_23, cp_24, cp_25, cp_26, cp_27, cp_28, cp_29, cp_30, cp_31, cp_32, cp_33, cp_34, cp_35, cp_36, cp_37, cp_38, cp_39, cp_40, cp_41, cp_42, cp_43, cp_44, cp_45, cp_46, cp_47, cp_48, cp_49, cp_50, cp_51, cp_52, cp_53, cp_54, cp_55, cp_56, cp_57, hc, hs, nI_or]
    · rw [if_neg c] at hc
      rw [if_neg c]
      simp (disch := omega) only [f_X1_beginnings_L4, ↓nmk_e, ↓reduceIte, Option.bind_some, Option.map_some, lit, ofN, nI_add, pk_sub, pk_mul, nI_clamp, nI_leI, nI_ltI, nI_eq, pk_div, nI_an, nleT, nleF, nltT, nltF, neqT, neqF, or_false, false_or, or_self, or_true, true_or, and_self, and_true, true_and, and_false, false_and, not_true_eq_false, not_false_eq_true, f_X12_isSort, f_X12_isDay, f_X11_isSort, f_X11_isDay, inI, inP, f_X5_size, f_X5_isFull, f_X11_now, f_X2_isKind, f_X2_has, f_X3_has, f_X8_hasPage, f_X8_hasAllPages, f_X8_stands, f_X1_isPrinted, f_X1_rule, f_X9_has, f_X9_isFull, f_X12_isPage, f_X12_isVerse, sC_s, sC_n, sC_2, sN_1, sN_s, sN_n, sN_2, sS_1, sS_2, sS_s, sS_n, upd_s, upd_e, upd_n, rAt, rPut, rAdd, rSwap, rPush, rNumber, cp_0, cp_1, cp_2, cp_3, cp_4, cp_5, cp_6, cp_7, cp_8, cp_9, cp_10, cp_11, cp_12, cp_13, cp_14, cp_15, cp_16, cp_17, cp_18, cp_19, cp_20, cp_21, cp_22, cp_23, cp_24, cp_25, cp_26, cp_27, cp_28, cp_29, cp_30, cp_31, cp_32, cp_33, cp_34, cp_35, cp_36, cp_37, cp_38, cp_39, cp_40, cp_41, cp_42, cp_43, cp_44, cp_45, cp_46, cp_47, cp_48, cp_49, cp_50, cp_51, cp_52, cp_53, cp_54, cp_55, cp_56, cp_57, hc, nI_or]
theorem l_begR {u : CW} {n : Nat} (R : RRow (u.1 0)) (hT : Tab n u 0) (hn : n ≤ 10) (j : Int32 → Option (Int32 × CW)) : f_X12_runs_L143 (nI n) u j FU (nI 0) (nI 0) = j (nI (orr (fun p => if mcb (u.1 0) n p 0 = true ∧ 0 < tN (u.1 16 (2 ^ p)) then 2 ^ p else 0) n)) := by
  have hp := pow10 hn
  refine run1 (fun q i x => f_X12_runs_L143 (nI n) u j q x i) (fun i x => x = nI (orr (fun p => if mcb (u.1 0) n p 0 = true ∧ 0 < tN (u.1 16 (2 ^ p)) then 2 ^ p else 0) i)) n (fun y => y = j (nI (orr (fun p => if mcb (u.1 0) n p 0 = true ∧ 0 < tN (u.1 16 (2 ^ p)) then 2 ^ p else 0) n))) ?_ ?_ FU 0 (nI 0) (Nat.zero_le _) (by unfold FU; omega) rfl
  · rintro q x rfl
    simp (disch := omega) only [f_X12_runs_L143, ↓nmk_e, ↓reduceIte, Option.bind_some, Option.map_some, lit, ofN, nI_add, pk_sub, pk_mul, nI_clamp, nI_leI, nI_ltI, nI_eq, pk_div, nI_an, nleT, nleF, nltT, nltF, neqT, neqF, or_false, false_or, or_self, or_true, true_or, and_self, and_true, true_and, and_false, false_and, not_true_eq_false, not_false_eq_true, f_X12_isSort, f_X12_isDay, f_X11_isSort, f_X11_isDay, inI, inP, f_X5_size, f_X5_isFull, f_X11_now, f_X2_isKind, f_X2_has, f_X3_has, f_X8_hasPage, f_X8_hasAllPages, f_X8_stands, f_X1_isPrinted, f_X1_rule, f_X9_has, f_X9_isFull, f_X12_isPage, f_X12_isVerse, sC_s, sC_n, sC_2, sN_1, sN_s, sN_n, sN_2, sS_1, sS_2, sS_s, sS_n, upd_s, upd_e, upd_n, rAt, rPut, rAdd, rSwap, rPush, rNumber, cp_0, cp_1, cp_2, cp_3, cp_4, cp_5, cp_6, cp_7, cp_8, cp_9, cp_10, cp_11, cp_12, cp_13, cp_14, cp_15, cp_16, cp_17, cp_18, cp_19, cp_20, cp_21, cp_22, cp_23, cp_24, cp_25, cp_26, cp_27, cp_28, cp_29, cp_30, cp_31, cp_32, cp_33, cp_34, cp_35, cp_36, cp_37, cp_38, cp_39, cp_40, cp_41, cp_42, cp_43, cp_44, cp_45, cp_46, cp_47, cp_48, cp_49, cp_50, cp_51, cp_52, cp_53, cp_54, cp_55, cp_56, cp_57]
  · rintro q i x hi rfl
    have hm := l_may R (n := n) (p := i) (s := 0) hn (by omega) (by decide)
    have h2 := Nat.pow_lt_pow_right (a := 2) (by decide) hi
    obtain ⟨t1, -, -⟩ := hT (2 ^ i) (Nat.zero_le _) h2
    have t2 := Tab_le hn hT (Nat.zero_le _) h2
    refine .inr ⟨_, ?_, rfl⟩
    show _ = f_X12_runs_L143 (nI n) u j q (nI (orr _ i ||| if mcb (u.1 0) n i 0 = true ∧ 0 < tN (u.1 16 (2 ^ i)) then 2 ^ i else 0)) _
    have hs := shl1 (p := i) (by omega)
    by_cases c : mcb (u.1 0) n i 0 = true
    · rw [if_pos c] at hm
      by_cases c2 : 0 < tN (u.1 16 (2 ^ i))
      · rw [if_pos ⟨c, c2⟩]
        have c3 : ¬ u.1 16 (2 ^ i) ≤ nI 0 := by rw [t1]; exact nI_nle c2 (by omega)
        simp (disch := omega) only [f_X12_runs_L143, ↓nmk_e, ↓reduceIte, Option.bind_some, Option.map_some, lit, ofN, nI_add, pk_sub, pk_mul, nI_clamp, nI_leI, nI_ltI, nI_eq, pk_div, nI_an, nleT, nleF, nltT, nltF, neqT, neqF, or_false, false_or, or_self, or_true, true_or, and_self, and_true, true_and, and_false, false_and, not_true_eq_false, not_false_eq_true, f_X12_isSort, f_X12_isDay, f_X11_isSort, f_X11_isDay, inI, inP, f_X5_size, f_X5_isFull, f_X11_now, f_X2_isKind, f_X2_has, f_X3_has, f_X8_hasPage, f_X8_hasAllPages, f_X8_stands, f_X1_isPrinted, f_X1_rule, f_X9_has, f_X9_isFull, f_X12_isPage, f_X12_isVerse, sC_s, sC_n, sC_2, sN_1, sN_s, sN_n, sN_2, sS_1, sS_2, sS_s, sS_n, upd_s, upd_e, upd_n, rAt, rPut, rAdd, rSwap, rPush, rNumber, cp_0, cp_1, cp_2, cp_3, cp_4, cp_5, cp_6, cp_7, cp_8, cp_9, cp_10, cp_11, cp_12, cp_13, cp_14, cp_15, cp_16, cp_17, cp_18, cp_19, cp_20, cp_21, cp_22, cp_23, cp_24, cp_25, cp_26, cp_27, cp_28, cp_29, cp_30, cp_31, cp_32, cp_33, cp_34, cp_35, cp_36, cp_37, cp_38, cp_39, cp_40, cp_41, cp_42, cp_43, cp_44, cp_45, cp_46, cp_47, cp_48, cp_49, cp_50, cp_51, cp_52, cp_53, cp_54, cp_55, cp_56, cp_57, hm, hs, nI_or, c3, Nat.not_lt_zero]
      · rw [if_neg (fun z => c2 z.2)]
        have c3 : u.1 16 (2 ^ i) ≤ nI 0 := by rw [t1]; exact nI_le (by omega) (by omega)
        simp (disch := omega) only [f_X12_runs_L143, ↓nmk_e, ↓reduceIte, Option.bind_some, Option.map_some, lit, ofN, nI_add, pk_sub, pk_mul, nI_clamp, nI_leI, nI_ltI, nI_eq, pk_div, nI_an, nleT, nleF, nltT, nltF, neqT, neqF, or_false, false_or, or_self, or_true, true_or, and_self, and_true, true_and, and_false, false_and, not_true_eq_false, not_false_eq_true, f_X12_isSort, f_X12_isDay, f_X11_isSort, f_X11_isDay, inI, inP, f_X5_size, f_X5_isFull, f_X11_now, f_X2_isKind, f_X2_has, f_X3_has, f_X8_hasPage, f_X8_hasAllPages, f_X8_stands, f_X1_isPrinted, f_X1_rule, f_X9_has, f_X9_isFull, f_X12_isPage, f_X12_isVerse, sC_s, sC_n, sC_2, sN_1, sN_s, sN_n, sN_2, sS_1, sS_2, sS_s, sS_n, upd_s, upd_e, upd_n, rAt, rPut, rAdd, rSwap, rPush, rNumber, cp_0, cp_1, cp_2, cp_3, cp_4, cp_5, cp_6, cp_7, cp_8, cp_9, cp_10, cp_11, cp_12, cp_13, cp_14, cp_15, cp_16, cp_17, cp_18, cp_19, cp_20, cp_21, cp_22, cp_23, cp_24, cp_25, cp_26, cp_27, cp_28, cp_29, cp_30, cp_31, cp_32, cp_33, cp_34, cp_35, cp_36, cp_37, cp_38, cp_39, cp_40, cp_41, cp_42, cp_43, cp_44, cp_45, cp_46, cp_47, cp_48, cp_49, cp_50, cp_51, cp_52, cp_53, cp_54, cp_55, cp_56, cp_57, hm, hs, nI_or, c3, Nat.not_lt_zero]
    · rw [if_neg c] at hm
      rw [if_neg (fun z => c z.1)]
      simp (disch := omega) only [f_X12_runs_L143, ↓nmk_e, ↓reduceIte, Option.bind_some, Option.map_some, lit, ofN, nI_add, pk_sub, pk_mul, nI_clamp, nI_leI, nI_ltI, nI_eq, pk_div, nI_an, nleT, nleF, nltT, nltF, neqT, neqF, or_false, false_or, or_self, or_true, true_or, and_self, and_true, true_and, and_false, false_and, not_true_eq_false, not_false_eq_true, f_X12_isSort, f_X12_isDay, f_X11_isSort, f_X11_isDay, inI, inP, f_X5_size, f_X5_isFull, f_X11_now, f_X2_isKind, f_X2_has, f_X3_has, f_X8_hasPage, f_X8_hasAllPages, f_X8_stands, f_X1_isPrinted, f_X1_rule, f_X9_has, f_X9_isFull, f_X12_isPage, f_X12_isVerse, sC_s, sC_n, sC_2, sN_1, sN_s, sN_n, sN_2, sS_1, sS_2, sS_s, sS_n, upd_s, upd_e, upd_n, rAt, rPut, rAdd, rSwap, rPush, rNumber, cp_0, cp_1, cp_2, cp_3, cp_4, cp_5, cp_6, cp_7, cp_8, cp_9, cp_10, cp_11, cp_12, cp_13, cp_14, cp_15, cp_16, cp_17, cp_18, cp_19, cp_20, cp_21, cp_22, cp_23, cp_24, cp_25, cp_26, cp_27, cp_28, cp_29, cp_30, cp_31, cp_32, cp_33, cp_34, cp_35, cp_36, cp_37, cp_38, cp_39, cp_40, cp_41, cp_42, cp_43, cp_44, cp_45, cp_46, cp_47, cp_48, cp_49, cp_50, cp_51, cp_52, cp_53, cp_54, cp_55, cp_56, cp_57, hm, nI_or]
/-- the greatest that may come next -/
def GN (f : Nat → Int32) (n s p : Nat) : Prop := p < n ∧ mcb f n p s = true ∧ ∀ q, p < q → q < n → ¬ mcb f n q s = true
theorem GN_u {f : Nat → Int32} {n s p q : Nat} (h : GN f n s p) (h' : GN f n s q) : p = q := by
  rcases Nat.lt_trichotomy p q with c | c | c
  · exact absurd h'.2.1 (h.2.2 q c h'.1)
  · exact c
  · exact absurd h.2.1 (h'.2.2 p c h.1)
theorem l_gnC {f : Nat → Int32} {u : CW} {n s : Nat} (R : RRow f) (hM : Mk f n u (RfM f)) (hn : n ≤ 10) (h1n : 1 ≤ n) (hs : s < 1024) (hex : ∃ q, q < n ∧ mcb f n q s = true) : ∃ p, GN f n s p ∧ f_X1_greatestNext u (nI n) (nI s) = some (nI p) := by
  unfold f_X1_greatestNext
  have hd : nI n - 1 = dn n := by
    obtain ⟨k, rfl⟩ : ∃ k, n = k + 1 := ⟨n - 1, by omega⟩
    exact nI_pred k
  simp only [↓nmk_e, hd]
  refine run1d (fun q i (_ : Unit) => f_X1_greatestNext_L4 u (nI s) q i) (fun k _ => k ≤ n ∧ ∀ q, k ≤ q → q < n → ¬ mcb f n q s = true) (fun y => ∃ p, GN f n s p ∧ y = some (nI p)) ?_ ?_ FU n () (by unfold FU; omega) ⟨Nat.le_refl _, fun q h1 h2 => by omega⟩
  · rintro q _ ⟨-, h⟩
    obtain ⟨p, h1, h2⟩ := hex
    exact absurd h2 (h p (Nat.zero_le _) h1)
  · rintro q k _ ⟨hk, h⟩
    have hc := l_can R hM hn (p := k) (by omega) hs
    by_cases c : mcb f n k s = true
    · rw [if_pos c] at hc
      refine .inl ⟨k, ⟨by omega, c, fun q h1 h2 => h q h1 h2⟩, ?_⟩
      simp (disch := omega) only [f_X1_greatestNext_L4, ↓nmk_e, ↓reduceIte, Option.bind_some, Option.map_some, lit, ofN, nI_add, pk_sub, pk_mul, nI_clamp, nI_leI, nI_ltI, nI_eq, pk_div, nI_an, nleT, nleF, nltT, nltF, neqT, neqF, or_false, false_or, or_self, or_true, true_or, and_self, and_true, true_and, and_false, false_and, not_true_eq_false, not_false_eq_true, f_X12_isSort, f_X12_isDay, f_X11_isSort, f_X11_isDay, inI, inP, f_X5_size, f_X5_isFull, f_X11_now, f_X2_isKind, f_X2_has, f_X3_has, f_X8_hasPage, f_X8_hasAllPages, f_X8_stands, f_X1_isPrinted, f_X1_rule, f_X9_has, f_X9_isFull, f_X12_isPage, f_X12_isVerse, sC_s, sC_n, sC_2, sN_1, sN_s, sN_n, sN_2, sS_1, sS_2, sS_s, sS_n, upd_s, upd_e, upd_n, rAt, rPut, rAdd, rSwap, rPush, rNumber, cp_0, cp_1, cp_2, cp_3, cp_4, cp_5, cp_6, cp_7, cp_8, cp_9, cp_10, cp_11, cp_12, cp_13, cp_14, cp_15, cp_16, cp_17, cp_18, cp_19, cp_20, cp_21, cp_22, cp_23, cp_24, cp_25, cp_26, cp_27, cp_28, cp_29, cp_30, cp_31, cp_32, cp_33, cp_34, cp_35, cp_36, cp_37, cp_38, cp_39, cp_40, cp_41, cp_42, cp_43, cp_44, cp_45, cp_46, cp_47, cp_48, cp_49, cp_50, cp_51, cp_52, cp_53, cp_54, cp_55, cp_56, cp_57, hc]
    · rw [if_neg c] at hc
      refine .inr ⟨(), ?_, by omega, fun q h1 h2 => ?_⟩
      · simp (disch := omega) only [f_X1_greatestNext_L4, ↓nmk_e, ↓reduceIte, Option.bind_some, Option.map_some, lit, ofN, nI_add, pk_sub, pk_mul, nI_clamp, nI_leI, nI_ltI, nI_eq, pk_div, nI_an, nleT, nleF, nltT, nltF, neqT, neqF, or_false, false_or, or_self, or_true, true_or, and_self, and_true, true_and, and_false, false_and, not_true_eq_false, not_false_eq_true, f_X12_isSort, f_X12_isDay, f_X11_isSort, f_X11_isDay, inI, inP, f_X5_size, f_X5_isFull, f_X11_now, f_X2_isKind, f_X2_has, f_X3_has, f_X8_hasPage, f_X8_hasAllPages, f_X8_stands, f_X1_isPrinted, f_X1_rule, f_X9_has, f_X9_isFull, f_X12_isPage, f_X12_isVerse, sC_s, sC_n, sC_2, sN_1, sN_s, sN_n, sN_2, sS_1, sS_2, sS_s, sS_n, upd_s, upd_e, upd_n, rAt, rPut, rAdd, rSwap, rPush, rNumber, cp_0, cp_1, cp_2, cp_3, cp_4, cp_5, cp_6, cp_7, cp_8, cp_9, cp_10, cp_11, cp_12, cp_13, cp_14, cp_15, cp_16, cp_17, cp_18, cp_19, cp_20, cp_21, cp_22, cp_23, cp_24, cp_25, cp_26, cp_27, cp_28, cp_29, cp_30, cp_31, cp_32, cp_33, cp_34, cp_35, cp_36, cp_37, cp_38, cp_39, cp_40, cp_41, cp_42, cp_43, cp_44, cp_45, cp_46, cp_47, cp_48, cp_49, cp_50, cp_51, cp_52, cp_53, cp_54, cp_55, cp_56, cp_57, hc, dn_s]
      · by_cases e : q = k
        · rw [e]; exact c
        · exact h q (by omega) h2
theorem l_gnR {u : CW} {n s : Nat} (R : RRow (u.1 0)) (hT : Tab n u 0) (hn : n ≤ 10) (h1n : 1 ≤ n) (hs : s < 2 ^ n) (hB : 0 < tN (u.1 16 s)) (hex : ∃ q, q < n ∧ mcb (u.1 0) n q s = true) : ∃ p, GN (u.1 0) n s p ∧ ∀ j, f_X12_runs_L241 (nI n) u (nI s) j FU (nI (n - 1)) = j (nI p) := by
  have hp := pow10 hn
  have hd : nI (n - 1) = dn n := by
    obtain ⟨k, rfl⟩ : ∃ k, n = k + 1 := ⟨n - 1, by omega⟩
    rfl
  rw [hd]
  refine run1d (fun q i (_ : Unit) => fun j => f_X12_runs_L241 (nI n) u (nI s) j q i) (fun k _ => k ≤ n ∧ ∀ q, k ≤ q → q < n → ¬ mcb (u.1 0) n q s = true) (fun y => ∃ p, GN (u.1 0) n s p ∧ ∀ j, y j = j (nI p)) ?_ ?_ FU n () (by unfold FU; omega) ⟨Nat.le_refl _, fun q h1 h2 => by omega⟩
  · rintro q _ ⟨-, h⟩
    obtain ⟨p, h1, h2⟩ := hex
    exact absurd h2 (h p (Nat.zero_le _) h1)
  · rintro q k _ ⟨hk, h⟩
    have hm := l_may R (n := n) (p := k) (s := s) hn (by omega) (by omega)
    by_cases c : mcb (u.1 0) n k s = true
    · rw [if_pos c] at hm
      have hlt := or_lt hs (show k < n by omega)
      have hx := B_exch (mc := mcb (u.1 0) n) (n := n) (B := fun t => tN (u.1 16 t)) mcb_1 mcb_2 (fun t ht => (hT t (Nat.zero_le _) ht).2.1) (2 ^ n - s) s k hs (Nat.le_refl _) (by omega) c hB
      have hx : 0 < tN (u.1 16 (s ||| 2 ^ k)) := hx
      obtain ⟨t1, -, -⟩ := hT _ (Nat.zero_le _) hlt
      have t2 := Tab_le hn hT (Nat.zero_le _) hlt
      have ho : nI s ||| (nI 1 <<< (nI k &&& nI 31)) = nI (s ||| 2 ^ k) := or1 (by omega)
      have c3 : ¬ u.1 16 (s ||| 2 ^ k) = nI 0 := by rw [t1]; exact nI_ne0 hx (by omega)
      refine .inl ⟨k, ⟨by omega, c, fun q h1 h2 => h q h1 h2⟩, fun j => ?_⟩
      simp (disch := omega) only [f_X12_runs_L241, ↓nmk_e, ↓reduceIte, Option.bind_some, Option.map_some, lit, ofN, nI_add, pk_sub, pk_mul, nI_clamp, nI_leI, nI_ltI, nI_eq, pk_div, nI_an, nleT, nleF, nltT, nltF, neqT, neqF, or_false, false_or, or_self, or_true, true_or, and_self, and_true, true_and, and_false, false_and, not_true_eq_false, not_false_eq_true, f_X12_isSort, f_X12_isDay, f_X11_isSort, f_X11_isDay, inI, inP, f_X5_size, f_X5_isFull, f_X11_now, f_X2_isKind, f_X2_has, f_X3_has, f_X8_hasPage, f_X8_hasAllPages, f_X8_stands, f_X1_isPrinted, f_X1_rule, f_X9_has, f_X9_isFull, f_X12_isPage, f_X12_isVerse, sC_s, sC_n, sC_2, sN_1, sN_s, sN_n, sN_2, sS_1, sS_2, sS_s, sS_n, upd_s, upd_e, upd_n, rAt, rPut, rAdd, rSwap, rPush, rNumber, cp_0, cp_1, cp_2, cp_3, cp_4, cp_5, cp_6, cp_7, cp_8, cp_9, cp_10, cp_11, cp_12, cp_13, cp_14, cp_15, cp_16, cp_17, cp_18, cp_19, cp_20, cp_21, cp_22, cp_23, cp_24, cp_25, cp_26, cp_27, cp_28, cp_29, cp_30, cp_31, cp_32, cp_33, cp_34, cp_35, cp_36, cp_37, cp_38, cp_39, cp_40, cp_41, cp_42, cp_43, cp_44, cp_45, cp_46, cp_47, cp_48, cp_49, cp_50, cp_51, cp_52, cp_53, cp_54, cp_55, cp_56, cp_57, hm, ho, c3]
    · rw [if_neg c] at hm
      refine .inr ⟨(), funext fun j => ?_, by omega, fun q h1 h2 => ?_⟩
      · simp (disch := omega) only [f_X12_runs_L241, ↓nmk_e, ↓reduceIte, Option.bind_some, Option.map_some, lit, ofN, nI_add, pk_sub, pk_mul, nI_clamp, nI_leI, nI_ltI, nI_eq, pk_div, nI_an, nleT, nleF, nltT, nltF, neqT, neqF, or_false, false_or, or_self, or_true, true_or, and_self, and_true, true_and, and_false, false_and, not_true_eq_false, not_false_eq_true, f_X12_isSort, f_X12_isDay, f_X11_isSort, f_X11_isDay, inI, inP, f_X5_size, f_X5_isFull, f_X11_now, f_X2_isKind, f_X2_has, f_X3_has, f_X8_hasPage, f_X8_hasAllPages, f_X8_stands, f_X1_isPrinted, f_X1_rule, f_X9_has, f_X9_isFull, f_X12_isPage, f_X12_isVerse, sC_s, sC_n, sC_2, sN_1, sN_s, sN_n, sN_2, sS_1, sS_2, sS_s, sS_n, upd_s, upd_e, upd_n, rAt, rPut, rAdd, rSwap, rPush, rNumber, cp_0, cp_1, cp_2, cp_3, cp_4, cp_5, cp_6, cp_7, cp_8, cp_9, cp_10, cp_11, cp_12, cp_13, cp_14, cp_15, cp_16, cp_17, cp_18, cp_19, cp_20, cp_21, cp_22, cp_23, cp_24, cp_25, cp_26, cp_27, cp_28, cp_29, cp_30, cp_31, cp_32, cp_33, cp_34, cp_35, cp_36, cp_37, cp_38, cp_39, cp_40, cp_41, cp_42, cp_43, cp_44, cp_45, cp_46, cp_47, cp_48, cp_49, cp_50, cp_51, cp_52, cp_53, cp_54, cp_55, cp_56, cp_57, hm, dn_s]
      · by_cases e : q = k
        · rw [e]; exact c
        · exact h q (by omega) h2
theorem l_last {u w : CW} {n i : Nat} (R : RRow (u.1 0)) (hT : Tab n u 0) (hM : Mk (u.1 0) n w (RfM (u.1 0))) (hn : n ≤ 10) (h1n : 1 ≤ n) (hi : i < n) (hB : 0 < tN (u.1 16 0)) : ∃ r, f_X1_lastOne w (nI n) (nI i) = some r ∧ f_X12_runs_L227 (nI n) (nI (i + 10)) u FU (nI 0) (-nI 1) (nI 0) = some (r, u) := by
  have hp := pow10 hn
  have hco0 : co n 0 = n := by
    have : ∀ m, sg (fun p => if (0 : Nat).testBit p = true then 0 else 1) m = m := by
      intro m
      induction m with
      | zero => rfl
      | succ m ih =>
        show sg _ m + (if (0 : Nat).testBit m = true then 0 else 1) = m + 1
        rw [ih, Nat.zero_testBit]; rfl
    exact this n
  unfold f_X1_lastOne
  refine run2 (fun q k (x : Int32 × Int32) => f_X1_lastOne_L8 w (nI n) (nI i) q x.1 x.2 k) (fun q k (x : Int32 × Int32) => f_X12_runs_L227 (nI n) (nI (i + 10)) u q x.1 x.2 k) (fun k x y => x = y ∧ ∃ s, s < 2 ^ n ∧ x.1 = nI s ∧ 0 < tN (u.1 16 s) ∧ co n s + k = n) (i + 1) (fun x y => ∃ r, x = some r ∧ y = some (r, u)) ?_ ?_ FU FU 0 (0, -1) (nI 0, -nI 1) (Nat.zero_le _) (by unfold FU; omega) (by unfold FU; omega) ⟨rfl, 0, Nat.two_pow_pos n, rfl, hB, by omega⟩
  · rintro q q' ⟨x1, x2⟩ _ ⟨rfl, s, h1, h2, h3, h4⟩
    refine ⟨x2, ?_, ?_⟩
    · simp (disch := omega) only [f_X1_lastOne_L8, ↓nmk_e, ↓reduceIte, Option.bind_some, Option.map_some, lit, ofN, nI_add, pk_sub, pk_mul, nI_clamp, nI_leI, nI_ltI, nI_eq, pk_div, nI_an, nleT, nleF, nltT, nltF, neqT, neqF, or_false, false_or, or_self, or_true, true_or, and_self, and_true, true_and, and_false, false_and, not_true_eq_false, not_false_eq_true, f_X12_isSort, f_X12_isDay, f_X11_isSort, f_X11_isDay, inI, inP, f_X5_size, f_X5_isFull, f_X11_now, f_X2_isKind, f_X2_has, f_X3_has, f_X8_hasPage, f_X8_hasAllPages, f_X8_stands, f_X1_isPrinted, f_X1_rule, f_X9_has, f_X9_isFull, f_X12_isPage, f_X12_isVerse, sC_s, sC_n, sC_2, sN_1, sN_s, sN_n, sN_2, sS_1, sS_2, sS_s, sS_n, upd_s, upd_e, upd_n, rAt, rPut, rAdd, rSwap, rPush, rNumber, cp_0, cp_1, cp_2, cp_3, cp_4, cp_5, cp_6, cp_7, cp_8, cp_9, cp_10, cp_11, cp_12, cp_13, cp_14, cp_15, cp_16, cp_17, cp_18, cp_19, cp_20, cp_21, cp_22, cp_23, cp_24, cp_25, cp_26, cp_27, cp_28, cp_29, cp_30, cp_31, cp_32, cp_33, cp_34, cp_35, cp_36, cp_37, cp_38, cp_39, cp_40, cp_41, cp_42, cp_43, cp_44, cp_45, cp_46, cp_47, cp_48, cp_49, cp_50, cp_51, cp_52, cp_53, cp_54, cp_55, cp_56, cp_57]
    · simp (disch := omega) only [f_X12_runs_L227, ↓nmk_e, ↓reduceIte, Option.bind_some, Option.map_some, lit, ofN, nI_add, pk_sub, pk_mul, nI_clamp, nI_leI, nI_ltI, nI_eq, pk_div, nI_an, nleT, nleF, nltT, nltF, neqT, neqF, or_false, false_or, or_self, or_true, true_or, and_self, and_true, true_and, and_false, false_and, not_true_eq_false, not_false_eq_true, f_X12_isSort, f_X12_isDay, f_X11_isSort, f_X11_isDay, inI, inP, f_X5_size, f_X5_isFull, f_X11_now, f_X2_isKind, f_X2_has, f_X3_has, f_X8_hasPage, f_X8_hasAllPages, f_X8_stands, f_X1_isPrinted, f_X1_rule, f_X9_has, f_X9_isFull, f_X12_isPage, f_X12_isVerse, sC_s, sC_n, sC_2, sN_1, sN_s, sN_n, sN_2, sS_1, sS_2, sS_s, sS_n, upd_s, upd_e, upd_n, rAt, rPut, rAdd, rSwap, rPush, rNumber, cp_0, cp_1, cp_2, cp_3, cp_4, cp_5, cp_6, cp_7, cp_8, cp_9, cp_10, cp_11, cp_12, cp_13, cp_14, cp_15, cp_16, cp_17, cp_18, cp_19, cp_20, cp_21, cp_22, cp_23, cp_24, cp_25, cp_26, cp_27, cp_28, cp_29, cp_30, cp_31, cp_32, cp_33, cp_34, cp_35, cp_36, cp_37, cp_38, cp_39, cp_40, cp_41, cp_42, cp_43, cp_44, cp_45, cp_46, cp_47, cp_48, cp_49, cp_50, cp_51, cp_52, cp_53, cp_54, cp_55, cp_56, cp_57]
  · rintro q q' k ⟨x1, x2⟩ _ hk ⟨rfl, s, h1, h2, h3, h4⟩
    have h2 : x1 = nI s := h2
    subst h2
    have hnf : s ≠ 2 ^ n - 1 := fun z => by
      have : co n s = 0 := sg_zero n fun p hp => by
        show (if _ then _ else _) = _
        rw [z, full_bit hp]; rfl
      omega
    have hex := B_next hnf (hT s (Nat.zero_le _) h1).2.1 h3
    obtain ⟨p, hG, e1⟩ := l_gnC R hM hn h1n (s := s) (by omega) hex
    obtain ⟨p', hG', e2⟩ := l_gnR R hT hn h1n h1 h3 hex
    have := GN_u hG' hG
    subst this
    have hpn := hG.1
    have hx := B_exch (mc := mcb (u.1 0) n) (n := n) (B := fun t => tN (u.1 16 t)) mcb_1 mcb_2 (fun t ht => (hT t (Nat.zero_le _) ht).2.1) (2 ^ n - s) s p' h1 (Nat.le_refl _) (by omega) hG.2.1 h3
    have hco := co_or hpn (mcb_1 p' s hG.2.1)
    have ho : nI s ||| (nI 1 <<< (nI p' &&& nI 31)) = nI (s ||| 2 ^ p') := or1 (by omega)
    refine .inr ⟨(nI (s ||| 2 ^ p'), nI p'), (nI (s ||| 2 ^ p'), nI p'), ?_, ?_, rfl, s ||| 2 ^ p', or_lt h1 hpn, rfl, hx, by omega⟩
    · simp (disch := omega) only [f_X1_lastOne_L8, ↓nmk_e, ↓reduceIte, Option.bind_some, Option.map_some, lit, ofN, nI_add, pk_sub, pk_mul, nI_clamp, nI_leI, nI_ltI, nI_eq, pk_div, nI_an, nleT, nleF, nltT, nltF, neqT, neqF, or_false, false_or, or_self, or_true, true_or, and_self, and_true, true_and, and_false, false_and, not_true_eq_false, not_false_eq_true, f_X12_isSort, f_X12_isDay, f_X11_isSort, f_X11_isDay, inI, inP, f_X5_size, f_X5_isFull, f_X11_now, f_X2_isKind, f_X2_has, f_X3_has, f_X8_hasPage, f_X8_hasAllPages, f_X8_stands, f_X1_isPrinted, f_X1_rule, f_X9_has, f_X9_isFull, f_X12_isPage, f_X12_isVerse, sC_s, sC_n, sC_2, sN_1, sN_s, sN_n, sN_2, sS_1, sS_2, sS_s, sS_n, upd_s, upd_e, upd_n, rAt, rPut, rAdd, rSwap, rPush, rNumber, cp_0, cp_1, cp_2, cp_3, cp_4, cp_5, cp_6, cp_7, cp_8, cp_9, cp_10, cp_11, cp_12, cp_13, cp_14, cp_15, cp_16, cp_17, cp_18, cp_19, cp_20, cp_21, cp_22, cp_23, cp_24, cp_25, cp_26, cp_27, cp_28, cp_29, cp_30, cp_31, cp_32, cp_33, cp_34, cp_35, cp_36, cp_37, cp_38, cp_39, cp_40, cp_41, cp_42, cp_43, cp_44, cp_45, cp_46, cp_47, cp_48, cp_49, cp_50, cp_51, cp_52, cp_53, cp_54, cp_55, cp_56, cp_57, e1, ho]
    · simp (disch := omega) only [f_X12_runs_L227, ↓nmk_e, ↓reduceIte, Option.bind_some, Option.map_some, lit, ofN, nI_add, pk_sub, pk_mul, nI_clamp, nI_leI, nI_ltI, nI_eq, pk_div, nI_an, nleT, nleF, nltT, nltF, neqT, neqF, or_false, false_or, or_self, or_true, true_or, and_self, and_true, true_and, and_false, false_and, not_true_eq_false, not_false_eq_true, f_X12_isSort, f_X12_isDay, f_X11_isSort, f_X11_isDay, inI, inP, f_X5_size, f_X5_isFull, f_X11_now, f_X2_isKind, f_X2_has, f_X3_has, f_X8_hasPage, f_X8_hasAllPages, f_X8_stands, f_X1_isPrinted, f_X1_rule, f_X9_has, f_X9_isFull, f_X12_isPage, f_X12_isVerse, sC_s, sC_n, sC_2, sN_1, sN_s, sN_n, sN_2, sS_1, sS_2, sS_s, sS_n, upd_s, upd_e, upd_n, rAt, rPut, rAdd, rSwap, rPush, rNumber, cp_0, cp_1, cp_2, cp_3, cp_4, cp_5, cp_6, cp_7, cp_8, cp_9, cp_10, cp_11, cp_12, cp_13, cp_14, cp_15, cp_16, cp_17, cp_18, cp_19, cp_20, cp_21, cp_22, cp_23, cp_24, cp_25, cp_26, cp_27, cp_28, cp_29, cp_30, cp_31, cp_32, cp_33, cp_34, cp_35, cp_36, cp_37, cp_38, cp_39, cp_40, cp_41, cp_42, cp_43, cp_44, cp_45, cp_46, cp_47, cp_48, cp_49, cp_50, cp_51, cp_52, cp_53, cp_54, cp_55, cp_56, cp_57, e2, ho]
theorem s_runs {w v : CW} (h : Sim w v) (a b : Int32) : Same w v (f_X11_runs w a b) (f_X12_runs v a b) := by
  obtain ⟨R, hw, hr⟩ := RRow_of h
  unfold f_X11_runs f_X12_runs
  rcases rng3 b 0 19 with c | ⟨i, hi, rfl, c⟩ | ⟨i, hi0, hi, hi2, rfl⟩
  · simp (disch := omega) only [↓nmk_e, ↓reduceIte, Option.bind_some, Option.map_some, lit, ofN, nI_add, pk_sub, pk_mul, nI_clamp, nI_leI, nI_ltI, nI_eq, pk_div, nI_an, nleT, nleF, nltT, nltF, neqT, neqF, or_false, false_or, or_self, or_true, true_or, and_self, and_true, true_and, and_false, false_and, not_true_eq_false, not_false_eq_true, f_X12_isSort, f_X12_isDay, f_X11_isSort, f_X11_isDay, inI, inP, f_X5_size, f_X5_isFull, f_X11_now, f_X2_isKind, f_X2_has, f_X3_has, f_X8_hasPage, f_X8_hasAllPages, f_X8_stands, f_X1_isPrinted, f_X1_rule, f_X9_has, f_X9_isFull, f_X12_isPage, f_X12_isVerse, sC_s, sC_n, sC_2, sN_1, sN_s, sN_n, sN_2, sS_1, sS_2, sS_s, sS_n, upd_s, upd_e, upd_n, rAt, rPut, rAdd, rSwap, rPush, rNumber, cp_0, cp_1, cp_2, cp_3, cp_4, cp_5, cp_6, cp_7, cp_8, cp_9, cp_10, cp_11, cp_12, cp_13, cp_14, cp_15, cp_16, cp_17, cp_18, cp_19, cp_20, cp_21, cp_22, cp_23, cp_24, cp_25, cp_26, cp_27, cp_28, cp_29, cp_30, cp_31, cp_32, cp_33, cp_34, cp_35, cp_36, cp_37, cp_38, cp_39, cp_40, cp_41, cp_42, cp_43, cp_44, cp_45, cp_46, cp_47, cp_48, cp_49, cp_50, cp_51, cp_52, cp_53, cp_54, cp_55, cp_56, cp_57, ng1 c, ng2 c, ng3 c, ng4 c, ng5 c, inN c]
    exact ⟨_, _, _, rfl, rfl, h⟩
  · simp (disch := omega) only [↓nmk_e, ↓reduceIte, Option.bind_some, Option.map_some, lit, ofN, nI_add, pk_sub, pk_mul, nI_clamp, nI_leI, nI_ltI, nI_eq, pk_div, nI_an, nleT, nleF, nltT, nltF, neqT, neqF, or_false, false_or, or_self, or_true, true_or, and_self, and_true, true_and, and_false, false_and, not_true_eq_false, not_false_eq_true, f_X12_isSort, f_X12_isDay, f_X11_isSort, f_X11_isDay, inI, inP, f_X5_size, f_X5_isFull, f_X11_now, f_X2_isKind, f_X2_has, f_X3_has, f_X8_hasPage, f_X8_hasAllPages, f_X8_stands, f_X1_isPrinted, f_X1_rule, f_X9_has, f_X9_isFull, f_X12_isPage, f_X12_isVerse, sC_s, sC_n, sC_2, sN_1, sN_s, sN_n, sN_2, sS_1, sS_2, sS_s, sS_n, upd_s, upd_e, upd_n, rAt, rPut, rAdd, rSwap, rPush, rNumber, cp_0, cp_1, cp_2, cp_3, cp_4, cp_5, cp_6, cp_7, cp_8, cp_9, cp_10, cp_11, cp_12, cp_13, cp_14, cp_15, cp_16, cp_17, cp_18, cp_19, cp_20, cp_21, cp_22, cp_23, cp_24, cp_25, cp_26, cp_27, cp_28, cp_29, cp_30, cp_31, cp_32, cp_33, cp_34, cp_35, cp_36, cp_37, cp_38, cp_39, cp_40, cp_41, cp_42, cp_43, cp_44, cp_45, cp_46, cp_47, cp_48, cp_49, cp_50, cp_51, cp_52, cp_53, cp_54, cp_55, cp_56, cp_57]
    exact ⟨_, _, _, rfl, rfl, h⟩
  by_cases c1 : 2 ≤ i ∧ i ≤ 9
  · obtain ⟨c1, c2⟩ := c1
    simp (disch := omega) only [↓nmk_e, ↓reduceIte, Option.bind_some, Option.map_some, lit, ofN, nI_add, pk_sub, pk_mul, nI_clamp, nI_leI, nI_ltI, nI_eq, pk_div, nI_an, nleT, nleF, nltT, nltF, neqT, neqF, or_false, false_or, or_self, or_true, true_or, and_self, and_true, true_and, and_false, false_and, not_true_eq_false, not_false_eq_true, f_X12_isSort, f_X12_isDay, f_X11_isSort, f_X11_isDay, inI, inP, f_X5_size, f_X5_isFull, f_X11_now, f_X2_isKind, f_X2_has, f_X3_has, f_X8_hasPage, f_X8_hasAllPages, f_X8_stands, f_X1_isPrinted, f_X1_rule, f_X9_has, f_X9_isFull, f_X12_isPage, f_X12_isVerse, sC_s, sC_n, sC_2, sN_1, sN_s, sN_n, sN_2, sS_1, sS_2, sS_s, sS_n, upd_s, upd_e, upd_n, rAt, rPut, rAdd, rSwap, rPush, rNumber, cp_0, cp_1, cp_2, cp_3, cp_4, cp_5, cp_6, cp_7, cp_8, cp_9, cp_10, cp_11, cp_12, cp_13, cp_14, cp_15, cp_16, cp_17, cp_18, cp_19, cp_20, cp_21, cp_22, cp_23, cp_24, cp_25, cp_26, cp_27, cp_28, cp_29, cp_30, cp_31, cp_32, cp_33, cp_34, cp_35, cp_36, cp_37, cp_38, cp_39, cp_40, cp_41, cp_42, cp_43, cp_44, cp_45, cp_46, cp_47, cp_48, cp_49, cp_50, cp_51, cp_52, cp_53, cp_54, cp_55, cp_56, cp_57]
    exact ⟨_, _, _, rfl, rfl, h⟩
  rcases rng3 a 1 10 with d | ⟨n, hn, rfl, d⟩ | ⟨n, h1n, hn, hn2, rfl⟩
  · by_cases c2 : i < 2
    · simp (disch := omega) only [↓nmk_e, ↓reduceIte, Option.bind_some, Option.map_some, lit, ofN, nI_add, pk_sub, pk_mul, nI_clamp, nI_leI, nI_ltI, nI_eq, pk_div, nI_an, nleT, nleF, nltT, nltF, neqT, neqF, or_false, false_or, or_self, or_true, true_or, and_self, and_true, true_and, and_false, false_and, not_true_eq_false, not_false_eq_true, f_X12_isSort, f_X12_isDay, f_X11_isSort, f_X11_isDay, inI, inP, f_X5_size, f_X5_isFull, f_X11_now, f_X2_isKind, f_X2_has, f_X3_has, f_X8_hasPage, f_X8_hasAllPages, f_X8_stands, f_X1_isPrinted, f_X1_rule, f_X9_has, f_X9_isFull, f_X12_isPage, f_X12_isVerse, sC_s, sC_n, sC_2, sN_1, sN_s, sN_n, sN_2, sS_1, sS_2, sS_s, sS_n, upd_s, upd_e, upd_n, rAt, rPut, rAdd, rSwap, rPush, rNumber, cp_0, cp_1, cp_2, cp_3, cp_4, cp_5, cp_6, cp_7, cp_8, cp_9, cp_10, cp_11, cp_12, cp_13, cp_14, cp_15, cp_16, cp_17, cp_18, cp_19, cp_20, cp_21, cp_22, cp_23, cp_24, cp_25, cp_26, cp_27, cp_28, cp_29, cp_30, cp_31, cp_32, cp_33, cp_34, cp_35, cp_36, cp_37, cp_38, cp_39, cp_40, cp_41, cp_42, cp_43, cp_44, cp_45, cp_46, cp_47, cp_48, cp_49, cp_50, cp_51, cp_52, cp_53, cp_54, cp_55, cp_56, cp_57, ng1 d, ng2 d, ng3 d, ng4 d, ng5 d, inN d]
      exact ⟨_, _, _, rfl, rfl, h⟩
    · simp (disch := omega) only [↓nmk_e, ↓reduceIte, Option.bind_some, Option.map_some, lit, ofN, nI_add, pk_sub, pk_mul, nI_clamp, nI_leI, nI_ltI, nI_eq, pk_div, nI_an, nleT, nleF, nltT, nltF, neqT, neqF, or_false, false_or, or_self, or_true, true_or, and_self, and_true, true_and, and_false, false_and, not_true_eq_false, not_false_eq_true, f_X12_isSort, f_X12_isDay, f_X11_isSort, f_X11_isDay, inI, inP, f_X5_size, f_X5_isFull, f_X11_now, f_X2_isKind, f_X2_has, f_X3_has, f_X8_hasPage, f_X8_hasAllPages, f_X8_stands, f_X1_isPrinted, f_X1_rule, f_X9_has, f_X9_isFull, f_X12_isPage, f_X12_isVerse, sC_s, sC_n, sC_2, sN_1, sN_s, sN_n, sN_2, sS_1, sS_2, sS_s, sS_n, upd_s, upd_e, upd_n, rAt, rPut, rAdd, rSwap, rPush, rNumber, cp_0, cp_1, cp_2, cp_3, cp_4, cp_5, cp_6, cp_7, cp_8, cp_9, cp_10, cp_11, cp_12, cp_13, cp_14, cp_15, cp_16, cp_17, cp_18, cp_19, cp_20, cp_21, cp_22, cp_23, cp_24, cp_25, cp_26, cp_27, cp_28, cp_29, cp_30, cp_31, cp_32, cp_33, cp_34, cp_35, cp_36, cp_37, cp_38, cp_39, cp_40, cp_41, cp_42, cp_43, cp_44, cp_45, cp_46, cp_47, cp_48, cp_49, cp_50, cp_51, cp_52, cp_53, cp_54, cp_55, cp_56, cp_57, ng1 d, ng2 d, ng3 d, ng4 d, ng5 d, inN d]
      exact ⟨_, _, _, rfl, rfl, h⟩
  · by_cases c2 : i < 2 <;> by_cases c3 : n < 1 <;> simp (disch := omega) only [↓nmk_e, ↓reduceIte, Option.bind_some, Option.map_some, lit, ofN, nI_add, pk_sub, pk_mul, nI_clamp, nI_leI, nI_ltI, nI_eq, pk_div, nI_an, nleT, nleF, nltT, nltF, neqT, neqF, or_false, false_or, or_self, or_true, true_or, and_self, and_true, true_and, and_false, false_and, not_true_eq_false, not_false_eq_true, f_X12_isSort, f_X12_isDay, f_X11_isSort, f_X11_isDay, inI, inP, f_X5_size, f_X5_isFull, f_X11_now, f_X2_isKind, f_X2_has, f_X3_has, f_X8_hasPage, f_X8_hasAllPages, f_X8_stands, f_X1_isPrinted, f_X1_rule, f_X9_has, f_X9_isFull, f_X12_isPage, f_X12_isVerse, sC_s, sC_n, sC_2, sN_1, sN_s, sN_n, sN_2, sS_1, sS_2, sS_s, sS_n, upd_s, upd_e, upd_n, rAt, rPut, rAdd, rSwap, rPush, rNumber, cp_0, cp_1, cp_2, cp_3, cp_4, cp_5, cp_6, cp_7, cp_8, cp_9, cp_10, cp_11, cp_12, cp_13, cp_14, cp_15, cp_16, cp_17, cp_18, cp_19, cp_20, cp_21, cp_22, cp_23, cp_24, cp_25, cp_26, cp_27, cp_28, cp_29, cp_30, cp_31, cp_32, cp_33, cp_34, cp_35, cp_36, cp_37, cp_38, cp_39, cp_40, cp_41, cp_42, cp_43, cp_44, cp_45, cp_46, cp_47, cp_48, cp_49, cp_50, cp_51, cp_52, cp_53, cp_54, cp_55, cp_56, cp_57] <;> exact ⟨_, _, _, rfl, rfl, h⟩
  have hp := pow10 hn
  have hpos : 0 < 2 ^ n := Nat.two_pow_pos n
  have hsh := shl1 (p := n) (by omega)
  obtain ⟨u, r1, r2, r3, hT⟩ := l_tab R hn h1n
  have e0 : u.1 0 = v.1 0 := r2 0 (by decide)
  have hB : ∀ s, s < 2 ^ n → isB (mcb (v.1 0) n) n (fun t => tN (u.1 16 t)) s := fun s hs => by
    rw [← e0]; exact (hT s (Nat.zero_le _) hs).2.1
  have Ru : RRow (u.1 0) := by rw [e0]; exact R
  obtain ⟨w', q1, q2, q3, q4⟩ := l_cnt R hw hr hn h1n hB
  have q4 : Mk (u.1 0) n w' (RfM (u.1 0)) := by rw [e0]; exact q4
  have t0 := (hT 0 (Nat.zero_le _) hpos).1
  have t1 := Tab_le hn hT (Nat.zero_le _) hpos
  have q1 : f_X1_countRuns w (nI n) = some (nI (tN (u.1 16 0)), w') := q1
  have hS : Sim w' u := Sim_scr h (fun k hk => ⟨q2 k (by omega) (by omega), by rw [q3]⟩) (by rw [q3]) e0 (by rw [r2 1 (by decide)]) (by rw [r3])
  have hbR := fun j => l_begR Ru hT hn j
  have hbC := l_begC Ru q4 hn
  have hm10 : nI 0 - nI 10 < 0 := by decide
  have hm9 : nI 1 - nI 10 < 0 := by decide
  by_cases c2 : i = 0
  · subst c2
    simp (disch := omega) only [↓nmk_e, ↓reduceIte, Option.bind_some, Option.map_some, lit, ofN, nI_add, pk_sub, pk_mul, nI_clamp, nI_leI, nI_ltI, nI_eq, pk_div, nI_an, nleT, nleF, nltT, nltF, neqT, neqF, or_false, false_or, or_self, or_true, true_or, and_self, and_true, true_and, and_false, false_and, not_true_eq_false, not_false_eq_true, f_X12_isSort, f_X12_isDay, f_X11_isSort, f_X11_isDay, inI, inP, f_X5_size, f_X5_isFull, f_X11_now, f_X2_isKind, f_X2_has, f_X3_has, f_X8_hasPage, f_X8_hasAllPages, f_X8_stands, f_X1_isPrinted, f_X1_rule, f_X9_has, f_X9_isFull, f_X12_isPage, f_X12_isVerse, sC_s, sC_n, sC_2, sN_1, sN_s, sN_n, sN_2, sS_1, sS_2, sS_s, sS_n, upd_s, upd_e, upd_n, rAt, rPut, rAdd, rSwap, rPush, rNumber, cp_0, cp_1, cp_2, cp_3, cp_4, cp_5, cp_6, cp_7, cp_8, cp_9, cp_10, cp_11, cp_12, cp_13, cp_14, cp_15, cp_16, cp_17, cp_18, cp_19, cp_20, cp_21, cp_22, cp_23, cp_24, cp_25, cp_26, cp_27, cp_28, cp_29, cp_30, cp_31, cp_32, cp_33, cp_34, cp_35, cp_36, cp_37, cp_38, cp_39, cp_40, cp_41, cp_42, cp_43, cp_44, cp_45, cp_46, cp_47, cp_48, cp_49, cp_50, cp_51, cp_52, cp_53, cp_54, cp_55, cp_56, cp_57, hsh, r1, q1, ng1 hm10]
    refine ⟨_, _, _, rfl, ?_, hS⟩
    rw [← t0]
  by_cases c3 : i = 1
  · subst c3
    by_cases cB : tN (u.1 16 0) = 0
    · have hz : orr (fun p => if mcb (u.1 0) n p 0 = true ∧ 0 < tN (u.1 16 (2 ^ p)) then 2 ^ p else 0) n = 0 := orr_zero n fun p hp => by
        refine if_neg fun z => ?_
        have b0 := (hT 0 (Nat.zero_le _) hpos).2.1
        have b0 : tN (u.1 16 0) = (if 0 = 2 ^ n - 1 then 1 else 0) + sg (fun p => if mcb (u.1 0) n p 0 = true then tN (u.1 16 (0 ||| 2 ^ p)) else 0) n := b0
        have b1 := sg_ge (fun p => if mcb (u.1 0) n p 0 = true then tN (u.1 16 (0 ||| 2 ^ p)) else 0) n p hp
        have b1 : (if mcb (u.1 0) n p 0 = true then tN (u.1 16 (0 ||| 2 ^ p)) else 0) ≤ _ := b1
        rw [if_pos z.1, Nat.zero_or] at b1
        omega
      simp (disch := omega) only [↓nmk_e, ↓reduceIte, Option.bind_some, Option.map_some, lit, ofN, nI_add, pk_sub, pk_mul, nI_clamp, nI_leI, nI_ltI, nI_eq, pk_div, nI_an, nleT, nleF, nltT, nltF, neqT, neqF, or_false, false_or, or_self, or_true, true_or, and_self, and_true, true_and, and_false, false_and, not_true_eq_false, not_false_eq_true, f_X12_isSort, f_X12_isDay, f_X11_isSort, f_X11_isDay, inI, inP, f_X5_size, f_X5_isFull, f_X11_now, f_X2_isKind, f_X2_has, f_X3_has, f_X8_hasPage, f_X8_hasAllPages, f_X8_stands, f_X1_isPrinted, f_X1_rule, f_X9_has, f_X9_isFull, f_X12_isPage, f_X12_isVerse, sC_s, sC_n, sC_2, sN_1, sN_s, sN_n, sN_2, sS_1, sS_2, sS_s, sS_n, upd_s, upd_e, upd_n, rAt, rPut, rAdd, rSwap, rPush, rNumber, cp_0, cp_1, cp_2, cp_3, cp_4, cp_5, cp_6, cp_7, cp_8, cp_9, cp_10, cp_11, cp_12, cp_13, cp_14, cp_15, cp_16, cp_17, cp_18, cp_19, cp_20, cp_21, cp_22, cp_23, cp_24, cp_25, cp_26, cp_27, cp_28, cp_29, cp_30, cp_31, cp_32, cp_33, cp_34, cp_35, cp_36, cp_37, cp_38, cp_39, cp_40, cp_41, cp_42, cp_43, cp_44, cp_45, cp_46, cp_47, cp_48, cp_49, cp_50, cp_51, cp_52, cp_53, cp_54, cp_55, cp_56, cp_57, hsh, r1, q1, ng1 hm9, hbR, hz, cB]
      exact ⟨_, _, _, rfl, rfl, hS⟩
    · have hz : orr (fun p => if mcb (u.1 0) n p 0 = true ∧ 0 < tN (u.1 16 (2 ^ p)) then 2 ^ p else 0) n = orr (fun p => if mcb (u.1 0) n p 0 = true then 2 ^ p else 0) n := orr_congr n fun p hp => by
        show (if _ then _ else _) = (if _ then _ else _)
        by_cases z : mcb (u.1 0) n p 0 = true
        · have hx := B_exch (mc := mcb (u.1 0) n) (n := n) (B := fun t => tN (u.1 16 t)) mcb_1 mcb_2 (fun t ht => (hT t (Nat.zero_le _) ht).2.1) (2 ^ n - 0) 0 p hpos (Nat.le_refl _) hp z (by omega)
          have hx : 0 < tN (u.1 16 (0 ||| 2 ^ p)) := hx
          rw [Nat.zero_or] at hx
          rw [if_pos ⟨z, hx⟩, if_pos z]
        · rw [if_neg (fun y => z y.1), if_neg z]
      simp (disch := omega) only [↓nmk_e, ↓reduceIte, Option.bind_some, Option.map_some, lit, ofN, nI_add, pk_sub, pk_mul, nI_clamp, nI_leI, nI_ltI, nI_eq, pk_div, nI_an, nleT, nleF, nltT, nltF, neqT, neqF, or_false, false_or, or_self, or_true, true_or, and_self, and_true, true_and, and_false, false_and, not_true_eq_false, not_false_eq_true, f_X12_isSort, f_X12_isDay, f_X11_isSort, f_X11_isDay, inI, inP, f_X5_size, f_X5_isFull, f_X11_now, f_X2_isKind, f_X2_has, f_X3_has, f_X8_hasPage, f_X8_hasAllPages, f_X8_stands, f_X1_isPrinted, f_X1_rule, f_X9_has, f_X9_isFull, f_X12_isPage, f_X12_isVerse, sC_s, sC_n, sC_2, sN_1, sN_s, sN_n, sN_2, sS_1, sS_2, sS_s, sS_n, upd_s, upd_e, upd_n, rAt, rPut, rAdd, rSwap, rPush, rNumber, cp_0, cp_1, cp_2, cp_3, cp_4, cp_5, cp_6, cp_7, cp_8, cp_9, cp_10, cp_11, cp_12, cp_13, cp_14, cp_15, cp_16, cp_17, cp_18, cp_19, cp_20, cp_21, cp_22, cp_23, cp_24, cp_25, cp_26, cp_27, cp_28, cp_29, cp_30, cp_31, cp_32, cp_33, cp_34, cp_35, cp_36, cp_37, cp_38, cp_39, cp_40, cp_41, cp_42, cp_43, cp_44, cp_45, cp_46, cp_47, cp_48, cp_49, cp_50, cp_51, cp_52, cp_53, cp_54, cp_55, cp_56, cp_57, hsh, r1, q1, ng1 hm9, hbR, hbC, hz]
      exact ⟨_, _, _, rfl, rfl, hS⟩
  obtain ⟨k, rfl⟩ : ∃ k, i = k + 10 := ⟨i - 10, by omega⟩
  by_cases ck : k < n
  · by_cases cB : tN (u.1 16 0) = 0
    · have t2 : u.1 16 0 = nI 0 := by rw [t0, cB]
      simp (disch := omega) only [↓nmk_e, ↓reduceIte, Option.bind_some, Option.map_some, lit, ofN, nI_add, pk_sub, pk_mul, nI_clamp, nI_leI, nI_ltI, nI_eq, pk_div, nI_an, nleT, nleF, nltT, nltF, neqT, neqF, or_false, false_or, or_self, or_true, true_or, and_self, and_true, true_and, and_false, false_and, not_true_eq_false, not_false_eq_true, f_X12_isSort, f_X12_isDay, f_X11_isSort, f_X11_isDay, inI, inP, f_X5_size, f_X5_isFull, f_X11_now, f_X2_isKind, f_X2_has, f_X3_has, f_X8_hasPage, f_X8_hasAllPages, f_X8_stands, f_X1_isPrinted, f_X1_rule, f_X9_has, f_X9_isFull, f_X12_isPage, f_X12_isVerse, sC_s, sC_n, sC_2, sN_1, sN_s, sN_n, sN_2, sS_1, sS_2, sS_s, sS_n, upd_s, upd_e, upd_n, rAt, rPut, rAdd, rSwap, rPush, rNumber, cp_0, cp_1, cp_2, cp_3, cp_4, cp_5, cp_6, cp_7, cp_8, cp_9, cp_10, cp_11, cp_12, cp_13, cp_14, cp_15, cp_16, cp_17, cp_18, cp_19, cp_20, cp_21, cp_22, cp_23, cp_24, cp_25, cp_26, cp_27, cp_28, cp_29, cp_30, cp_31, cp_32, cp_33, cp_34, cp_35, cp_36, cp_37, cp_38, cp_39, cp_40, cp_41, cp_42, cp_43, cp_44, cp_45, cp_46, cp_47, cp_48, cp_49, cp_50, cp_51, cp_52, cp_53, cp_54, cp_55, cp_56, cp_57, hsh, r1, q1, hbR, cB, t2, Nat.add_sub_cancel]
      exact ⟨_, _, _, rfl, rfl, hS⟩
    · obtain ⟨r, e1, e2⟩ := l_last Ru hT q4 hn h1n ck (by omega)
      have t2 : ¬ u.1 16 0 = nI 0 := by rw [t0]; exact nI_ne0 (by omega) (by omega)
      simp (disch := omega) only [↓nmk_e, ↓reduceIte, Option.bind_some, Option.map_some, lit, ofN, nI_add, pk_sub, pk_mul, nI_clamp, nI_leI, nI_ltI, nI_eq, pk_div, nI_an, nleT, nleF, nltT, nltF, neqT, neqF, or_false, false_or, or_self, or_true, true_or, and_self, and_true, true_and, and_false, false_and, not_true_eq_false, not_false_eq_true, f_X12_isSort, f_X12_isDay, f_X11_isSort, f_X11_isDay, inI, inP, f_X5_size, f_X5_isFull, f_X11_now, f_X2_isKind, f_X2_has, f_X3_has, f_X8_hasPage, f_X8_hasAllPages, f_X8_stands, f_X1_isPrinted, f_X1_rule, f_X9_has, f_X9_isFull, f_X12_isPage, f_X12_isVerse, sC_s, sC_n, sC_2, sN_1, sN_s, sN_n, sN_2, sS_1, sS_2, sS_s, sS_n, upd_s, upd_e, upd_n, rAt, rPut, rAdd, rSwap, rPush, rNumber, cp_0, cp_1, cp_2, cp_3, cp_4, cp_5, cp_6, cp_7, cp_8, cp_9, cp_10, cp_11, cp_12, cp_13, cp_14, cp_15, cp_16, cp_17, cp_18, cp_19, cp_20, cp_21, cp_22, cp_23, cp_24, cp_25, cp_26, cp_27, cp_28, cp_29, cp_30, cp_31, cp_32, cp_33, cp_34, cp_35, cp_36, cp_37, cp_38, cp_39, cp_40, cp_41, cp_42, cp_43, cp_44, cp_45, cp_46, cp_47, cp_48, cp_49, cp_50, cp_51, cp_52, cp_53, cp_54, cp_55, cp_56, cp_57, hsh, r1, q1, hbR, t2, e1, e2, Nat.add_sub_cancel]
      exact ⟨_, _, _, rfl, rfl, hS⟩
  · simp (disch := omega) only [↓nmk_e, ↓reduceIte, Option.bind_some, Option.map_some, lit, ofN, nI_add, pk_sub, pk_mul, nI_clamp, nI_leI, nI_ltI, nI_eq, pk_div, nI_an, nleT, nleF, nltT, nltF, neqT, neqF, or_false, false_or, or_self, or_true, true_or, and_self, and_true, true_and, and_false, false_and, not_true_eq_false, not_false_eq_true, f_X12_isSort, f_X12_isDay, f_X11_isSort, f_X11_isDay, inI, inP, f_X5_size, f_X5_isFull, f_X11_now, f_X2_isKind, f_X2_has, f_X3_has, f_X8_hasPage, f_X8_hasAllPages, f_X8_stands, f_X1_isPrinted, f_X1_rule, f_X9_has, f_X9_isFull, f_X12_isPage, f_X12_isVerse, sC_s, sC_n, sC_2, sN_1, sN_s, sN_n, sN_2, sS_1, sS_2, sS_s, sS_n, upd_s, upd_e, upd_n, rAt, rPut, rAdd, rSwap, rPush, rNumber, cp_0, cp_1, cp_2, cp_3, cp_4, cp_5, cp_6, cp_7, cp_8, cp_9, cp_10, cp_11, cp_12, cp_13, cp_14, cp_15, cp_16, cp_17, cp_18, cp_19, cp_20, cp_21, cp_22, cp_23, cp_24, cp_25, cp_26, cp_27, cp_28, cp_29, cp_30, cp_31, cp_32, cp_33, cp_34, cp_35, cp_36, cp_37, cp_38, cp_39, cp_40, cp_41, cp_42, cp_43, cp_44, cp_45, cp_46, cp_47, cp_48, cp_49, cp_50, cp_51, cp_52, cp_53, cp_54, cp_55, cp_56, cp_57, hsh, r1, q1, hbR, Nat.add_sub_cancel]
    refine ⟨_, _, _, rfl, rfl, Sim_scr h (fun k hk => ⟨rfl, rfl⟩) rfl e0 (by rw [r2 1 (by decide)]) (by rw [r3])⟩
