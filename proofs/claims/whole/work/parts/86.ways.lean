/-! what ways tell: one picture of both worlds -/
/-- column, least, most, break, wide by 2 .. 6; forms; how many -/
abbrev CA : Type := (Nat → Int32) × FM × Nat
def wd (s : Nat → Int32) (p : Nat) : Nat := tN (s (1340 + p))
def tkA (s : Nat → Int32) (p : Nat) (A : CA) : CA :=
  if wd s p = 0 then (A.1, putM A.2.1 (s (1420 + p)) (s (1500 + p)) (s (1580 + p)), if A.2.1 (s (1420 + p)) = none then A.2.2 + 1 else A.2.2)
  else if wd s p = 1 then (A.1, barM A.2.1 (s (1420 + p)), if A.2.1 (s (1420 + p)) = none then A.2.2 else A.2.2 - 1)
  else if wd s p = 7 then A
  else (upd A.1 (wd s p) (s (1500 + p)), A.2)
def wayA (s : Nat → Int32) (a : Nat) : Nat → CA → CA
  | 0, A => A
  | k + 1, A => tkA s (8 * a + k) (wayA s a k A)
def iniA : CA := (upd (upd (upd (upd (upd (fun _ => 0) 2 12) 3 1) 4 3) 5 5) 6 1, fun _ => none, 0)
/-- what is right of the picture -/
def okA (A : CA) : Prop := (∀ j, 2 ≤ j → j < 5 → Bd (A.1 j) 99) ∧ Bd (A.1 5) 9 ∧ Bd (A.1 6) 9 ∧ ∀ k w u, A.2.1 k = some (w, u) → Ltr k ∧ Br w 1 9 ∧ Bd u 9
/-- a clause as the reference has it -/
def okC (s : Nat → Int32) (p : Nat) : Prop := s (1340 + p) = nI (wd s p) ∧ wd s p < 8 ∧ (wd s p < 2 → Ltr (s (1420 + p))) ∧ (wd s p ≠ 1 → Bd (s (1500 + p)) 99) ∧ (wd s p = 0 → Br (s (1500 + p)) 1 9 ∧ Bd (s (1580 + p)) 9) ∧ (wd s p = 5 ∨ wd s p = 6 → Bd (s (1500 + p)) 9)
theorem cClause.ok {C : Nat → Nat → Int32} {s : Nat → Int32} {p : Nat} (h : cClause C s p) : okC s p ∧ C 6 p = nI ((wd s p + 6) % 8) ∧ (wd s p < 2 → C 7 p = s (1420 + p)) ∧ (wd s p ≠ 1 → C 8 p = s (1500 + p)) ∧ (wd s p = 0 → C 9 p = s (1580 + p)) := by
  obtain ⟨x, hx, h1, h2, h3, h4, h5, h6⟩ := h
  have e : wd s p = (x + 2) % 8 := by unfold wd; rw [h2]; exact nI_clamp (by omega)
  rw [okC, e]
  refine ⟨⟨h2, by omega, fun z => (h3 (by omega)).2, fun z => (h4 (by omega)).2, fun z => ⟨(h5 (by omega)).1, (h5 (by omega)).2.2⟩, fun z => h6 (by omega)⟩, by rw [h1]; congr 1; omega, fun z => (h3 (by omega)).1, fun z => (h4 (by omega)).1, fun z => (h5 (by omega)).2.1⟩
theorem okA.tk {s : Nat → Int32} {p : Nat} {A : CA} (h : okA A) (hc : okC s p) : okA (tkA s p A) := by
  obtain ⟨h1, h2, h3, h4⟩ := h
  obtain ⟨c1, c2, c3, c4, c5, c6⟩ := hc
  unfold tkA
  by_cases w0 : wd s p = 0
  · rw [if_pos w0]
    refine ⟨h1, h2, h3, fun k w u e => ?_⟩
    have e : putM A.2.1 (s (1420 + p)) (s (1500 + p)) (s (1580 + p)) k = some (w, u) := e
    unfold putM at e
    by_cases ck : k = s (1420 + p)
    · rw [if_pos ck] at e
      cases e
      exact ⟨by rw [ck]; exact c3 (by omega), (c5 w0).1, (c5 w0).2⟩
    · rw [if_neg ck] at e
      exact h4 k w u e
  rw [if_neg w0]
  by_cases w1 : wd s p = 1
  · rw [if_pos w1]
    refine ⟨h1, h2, h3, fun k w u e => ?_⟩
    have e : barM A.2.1 (s (1420 + p)) k = some (w, u) := e
    unfold barM at e
    by_cases ck : k = s (1420 + p)
    · rw [if_pos ck] at e; cases e
    · rw [if_neg ck] at e
      exact h4 k w u e
  rw [if_neg w1]
  by_cases w7 : wd s p = 7
  · rw [if_pos w7]; exact ⟨h1, h2, h3, h4⟩
  rw [if_neg w7]
  refine ⟨fun j j1 j2 => ?_, ?_, ?_, h4⟩
  · by_cases c : j = wd s p
    · rw [c]; show Bd (upd A.1 (wd s p) _ (wd s p)) 99; rw [upd_s]; exact c4 w1
    · show Bd (upd A.1 (wd s p) _ j) 99; rw [upd_n _ _ c]; exact h1 j j1 j2
  · by_cases c : 5 = wd s p
    · show Bd (upd A.1 (wd s p) _ 5) 9; rw [upd_e _ _ c]; exact c6 (by omega)
    · show Bd (upd A.1 (wd s p) _ 5) 9; rw [upd_n _ _ c]; exact h2
  · by_cases c : 6 = wd s p
    · show Bd (upd A.1 (wd s p) _ 6) 9; rw [upd_e _ _ c]; exact c6 (by omega)
    · show Bd (upd A.1 (wd s p) _ 6) 9; rw [upd_n _ _ c]; exact h3
theorem tkA_f (s : Nat → Int32) (p : Nat) (A : CA) : (tkA s p A).2.2 ≤ A.2.2 + 1 := by
  obtain ⟨V, M, f⟩ := A
  show (tkA s p (V, M, f)).2.2 ≤ f + 1
  unfold tkA
  split
  · show (if M (s (1420 + p)) = none then f + 1 else f) ≤ f + 1
    split <;> omega
  · split
    · show (if M (s (1420 + p)) = none then f else f - 1) ≤ f + 1
      split <;> omega
    · split
      · exact Nat.le_succ _
      · exact Nat.le_succ _
/-- the class's world shows the picture -/
def CQ2 (x : CW) (A : CA) : Prop := (∀ j, 1 ≤ j → j < 6 → x.2.2 j = A.1 (j + 1)) ∧ CMp x A.2.2 A.2.1
def RQ2 (y : CW) (A : CA) : Prop := (∀ j, 2 ≤ j → j < 7 → y.1 3 j = A.1 j) ∧ RMp y A.2.2 A.2.1
theorem l_tkC {x : CW} {s : Nat → Int32} {p : Nat} {A : CA} (h : CQ2 x A) (hf : A.2.2 < 72) (hp : p < 72) (hc : cClause x.1 s p) : CQ2 (f_X0_takeClause x (nI p)) (tkA s p A) ∧ CFr x (f_X0_takeClause x (nI p)) := by
  obtain ⟨⟨c1, c2, -⟩, d6, d7, d8, d9⟩ := hc.ok
  obtain ⟨h1, h2⟩ := h
  have hw : ∃ x, x < 8 ∧ wd s p = x := ⟨_, c2, rfl⟩
  have sc : ∀ (j : Nat) (z : Int32), 1 ≤ j → j < 6 → CQ2 (sS x j z) (upd A.1 (j + 1) z, A.2) ∧ CFr x (sS x j z) := fun j z j1 j2 => by
    refine ⟨⟨fun i i1 i2 => ?_, h2⟩, fun _ _ _ _ => rfl, fun _ _ => rfl, fun k hk => ?_⟩
    · by_cases c : i = j
      · subst c
        show (sS x i z).2.2 i = upd A.1 (i + 1) z (i + 1)
        rw [sS_s, upd_s]
      · show (sS x j z).2.2 i = upd A.1 (j + 1) z (i + 1)
        rw [sS_n _ _ c, upd_n _ _ (by omega)]
        exact h1 i i1 i2
    · rw [sS_n _ _ (by omega)]
  have hw8 : wd s p = 0 ∨ wd s p = 1 ∨ wd s p = 2 ∨ wd s p = 3 ∨ wd s p = 4 ∨ wd s p = 5 ∨ wd s p = 6 ∨ wd s p = 7 := by omega
  unfold tkA
  rcases hw8 with e | e | e | e | e | e | e | e
  · obtain ⟨q1, q2, q3⟩ := l_putC h2 hf (s (1420 + p)) (s (1500 + p)) (s (1580 + p))
    have eq : f_X0_takeClause x (nI p) = f_X0_putForm x (s (1420 + p)) (s (1500 + p)) (s (1580 + p)) := by
      unfold f_X0_takeClause
      rw [e] at d6
      simp (disch := omega) only [↓nmk_e, ↓reduceIte, Option.bind_some, Option.map_some, lit, ofN, nI_add, pk_sub, pk_mul, nI_clamp, nI_leI, nI_ltI, nI_eq, pk_div, nI_an, nleT, nleF, nltT, nltF, neqT, neqF, or_false, false_or, or_self, or_true, true_or, and_self, and_true, true_and, and_false, false_and, not_true_eq_false, not_false_eq_true, f_X12_isSort, f_X12_isDay, f_X11_isSort, f_X11_isDay, inI, inP, f_X5_size, f_X5_isFull, f_X11_now, f_X2_isKind, f_X2_has, f_X3_has, f_X8_hasPage, f_X8_hasAllPages, f_X8_stands, f_X1_isPrinted, f_X1_rule, f_X9_has, f_X9_isFull, f_X12_isPage, f_X12_isVerse, sC_s, sC_n, sC_2, sN_1, sN_s, sN_n, sN_2, sS_1, sS_2, sS_s, sS_n, upd_s, upd_e, upd_n, rAt, rPut, rAdd, rSwap, rPush, rNumber, cp_0, cp_1, cp_2, cp_3, cp_4, cp_5, cp_6, cp_7, cp_8, cp_9, cp_10, cp_11, cp_12, cp_13, cp_14, cp_15, cp_16, cp_17, cp_18, cp_19, cp_20, cp_21, cp_22, cp_23, cp_24, cp_25, cp_26, cp_27, cp_28, cp_29, cp_30, cp_31, cp_32, cp_33, cp_34, cp_35, cp_36, cp_37, cp_38, cp_39, cp_40, cp_41, cp_42, cp_43, cp_44, cp_45, cp_46, cp_47, cp_48, cp_49, cp_50, cp_51, cp_52, cp_53, cp_54, cp_55, cp_56, cp_57, d6, d7 (by omega), d8 (by omega), d9 e, Nat.reduceAdd, Nat.reduceMod]
    rw [eq, if_pos e]
    exact ⟨⟨fun j j1 j2 => by rw [q3]; exact h1 j j1 j2, q1⟩, q2⟩
  · obtain ⟨q1, q2, q3⟩ := l_barC h2 (s (1420 + p))
    have eq : f_X0_takeClause x (nI p) = f_X0_barForm x (s (1420 + p)) := by
      unfold f_X0_takeClause
      rw [e] at d6
      simp (disch := omega) only [↓nmk_e, ↓reduceIte, Option.bind_some, Option.map_some, lit, ofN, nI_add, pk_sub, pk_mul, nI_clamp, nI_leI, nI_ltI, nI_eq, pk_div, nI_an, nleT, nleF, nltT, nltF, neqT, neqF, or_false, false_or, or_self, or_true, true_or, and_self, and_true, true_and, and_false, false_and, not_true_eq_false, not_false_eq_true, f_X12_isSort, f_X12_isDay, f_X11_isSort, f_X11_isDay, inI, inP, f_X5_size, f_X5_isFull, f_X11_now, f_X2_isKind, f_X2_has, f_X3_has, f_X8_hasPage, f_X8_hasAllPages, f_X8_stands, f_X1_isPrinted, f_X1_rule, f_X9_has, f_X9_isFull, f_X12_isPage, f_X12_isVerse, sC_s, sC_n, sC_2, sN_1, sN_s, sN_n, sN_2, sS_1, sS_2, sS_s, sS_n, upd_s, upd_e, upd_n, rAt, rPut, rAdd, rSwap, rPush, rNumber, cp_0, cp_1, cp_2, cp_3, cp_4, cp_5, cp_6, cp_7, cp_8, cp_9, cp_10, cp_11, cp_12, cp_13, cp_14, cp_15, cp_16, cp_17, cp_18, cp_19, cp_20, cp_21, cp_22, cp_23, cp_24, cp_25, cp_26, cp_27, cp_28, cp_29, cp_30, cp_31, cp_32, cp_33, cp_34, cp_35, cp_36, cp_37, cp_38, cp_39, cp_40, cp_41, cp_42, cp_43, cp_44, cp_45, cp_46, cp_47, cp_48, cp_49, cp_50, cp_51, cp_52, cp_53, cp_54, cp_55, cp_56, cp_57, d6, d7 (by omega), Nat.reduceAdd, Nat.reduceMod]
    rw [eq, if_neg (by omega), if_pos e]
    exact ⟨⟨fun j j1 j2 => by rw [q3]; exact h1 j j1 j2, q1⟩, q2⟩
  · have eq : f_X0_takeClause x (nI p) = sS x 1 (s (1500 + p)) := by
      unfold f_X0_takeClause
      rw [e] at d6
      simp (disch := omega) only [↓nmk_e, ↓reduceIte, Option.bind_some, Option.map_some, lit, ofN, nI_add, pk_sub, pk_mul, nI_clamp, nI_leI, nI_ltI, nI_eq, pk_div, nI_an, nleT, nleF, nltT, nltF, neqT, neqF, or_false, false_or, or_self, or_true, true_or, and_self, and_true, true_and, and_false, false_and, not_true_eq_false, not_false_eq_true, f_X12_isSort, f_X12_isDay, f_X11_isSort, f_X11_isDay, inI, inP, f_X5_size, f_X5_isFull, f_X11_now, f_X2_isKind, f_X2_has, f_X3_has, f_X8_hasPage, f_X8_hasAllPages, f_X8_stands, f_X1_isPrinted, f_X1_rule, f_X9_has, f_X9_isFull, f_X12_isPage, f_X12_isVerse, sC_s, sC_n, sC_2, sN_1, sN_s, sN_n, sN_2, sS_1, sS_2, sS_s, sS_n, upd_s, upd_e, upd_n, rAt, rPut, rAdd, rSwap, rPush, rNumber, cp_0, cp_1, cp_2, cp_3, cp_4, cp_5, cp_6, cp_7, cp_8, cp_9, cp_10, cp_11, cp_12, cp_13, cp_14, cp_15, cp_16, cp_17, cp_18, cp_19, cp_20, cp_21, cp_22, cp_23, cp_24, cp_25, cp_26, cp_27, cp_28, cp_29, cp_30, cp_31, cp_32, cp_33, cp_34, cp_35, cp_36, cp_37, cp_38, cp_39, cp_40, cp_41, cp_42, cp_43, cp_44, cp_45, cp_46, cp_47, cp_48, cp_49, cp_50, cp_51, cp_52, cp_53, cp_54, cp_55, cp_56, cp_57, d6, d8 (by omega), Nat.reduceAdd, Nat.reduceMod]
    rw [eq, if_neg (by omega), if_neg (by omega), if_neg (by omega), e]
    exact sc 1 _ (by decide) (by decide)
  · have eq : f_X0_takeClause x (nI p) = sS x 2 (s (1500 + p)) := by
      unfold f_X0_takeClause
      rw [e] at d6
      simp (disch := omega) only [↓nmk_e, ↓reduceIte, Option.bind_some, Option.map_some, lit, ofN, nI_add, pk_sub, pk_mul, nI_clamp, nI_leI, nI_ltI, nI_eq, pk_div, nI_an, nleT, nleF, nltT, nltF, neqT, neqF, or_false, false_or, or_self, or_true, true_or, and_self, and_true, true_and, and_false, false_and, not_true_eq_false, not_false_eq_true, f_X12_isSort, f_X12_isDay, f_X11_isSort, f_X11_isDay, inI, inP, f_X5_size, f_X5_isFull, f_X11_now, f_X2_isKind, f_X2_has, f_X3_has, f_X8_hasPage, f_X8_hasAllPages, f_X8_stands, f_X1_isPrinted, f_X1_rule, f_X9_has, f_X9_isFull, f_X12_isPage, f_X12_isVerse, sC_s, sC_n, sC_2, sN_1, sN_s, sN_n, sN_2, sS_1, sS_2, sS_s, sS_n, upd_s, upd_e, upd_n, rAt, rPut, rAdd, rSwap, rPush, rNumber, cp_0, cp_1, cp_2, cp_3, cp_4, cp_5, cp_6, cp_7, cp_8, cp_9, cp_10, cp_11, cp_12, cp_13, cp_14, cp_15, cp_16, cp_17, cp_18, cp_19, cp_20, cp_21, cp_22, cp_23, cp_24, cp_25, cp_26, cp_27, cp_28, cp_29, cp_30, cp_31, cp_32, cp_33, cp_34, cp_35, cp_36, cp_37, cp_38, cp_39, cp_40, cp_41, cp_42, cp_43, cp_44, cp_45, cp_46, cp_47, cp_48, cp_49, cp_50, cp_51, cp_52, cp_53, cp_54, cp_55, cp_56, cp_57, d6, d8 (by omega), Nat.reduceAdd, Nat.reduceMod]
    rw [eq, if_neg (by omega), if_neg (by omega), if_neg (by omega), e]
    exact sc 2 _ (by decide) (by decide)
  · have eq : f_X0_takeClause x (nI p) = sS x 3 (s (1500 + p)) := by
      unfold f_X0_takeClause
      rw [e] at d6
      simp (disch := omega) only [↓nmk_e, ↓reduceIte, Option.bind_some, Option.map_some, lit, ofN, nI_add, pk_sub, pk_mul, nI_clamp, nI_leI, nI_ltI, nI_eq, pk_div, nI_an, nleT, nleF, nltT, nltF, neqT, neqF, or_false, false_or, or_self, or_true, true_or, and_self, and_true, true_and, and_false, false_and, not_true_eq_false, not_false_eq_true, f_X12_isSort, f_X12_isDay, f_X11_isSort, f_X11_isDay, inI, inP, f_X5_size, f_X5_isFull, f_X11_now, f_X2_isKind, f_X2_has, f_X3_has, f_X8_hasPage, f_X8_hasAllPages, f_X8_stands, f_X1_isPrinted, f_X1_rule, f_X9_has, f_X9_isFull, f_X12_isPage, f_X12_isVerse, sC_s, sC_n, sC_2, sN_1, sN_s, sN_n, sN_2, sS_1, sS_2, sS_s, sS_n, upd_s, upd_e, upd_n, rAt, rPut, rAdd, rSwap, rPush, rNumber, cp_0, cp_1, cp_2, cp_3, cp_4, cp_5, cp_6, cp_7, cp_8, cp_9, cp_10, cp_11, cp_12, cp_13, cp_14, cp_15, cp_16, cp_17, cp_18, cp_19, cp_20, cp_21, cp_22, cp_23, cp_24, cp_25, cp_26, cp_27, cp_28, cp_29, cp_30, cp_31, cp_32, cp_33, cp_34, cp_35, cp_36, cp_37, cp_38, cp_39, cp_40, cp_41, cp_42, cp_43, cp_44, cp_45, cp_46, cp_47, cp_48, cp_49, cp_50, cp_51, cp_52, cp_53, cp_54, cp_55, cp_56, cp_57, d6, d8 (by omega), Nat.reduceAdd, Nat.reduceMod]
    rw [eq, if_neg (by omega), if_neg (by omega), if_neg (by omega), e]
    exact sc 3 _ (by decide) (by decide)
  · have eq : f_X0_takeClause x (nI p) = sS x 4 (s (1500 + p)) := by
      unfold f_X0_takeClause
      rw [e] at d6
      simp (disch := omega) only [↓nmk_e, ↓reduceIte, Option.bind_some, Option.map_some, lit, ofN, nI_add, pk_sub, pk_mul, nI_clamp, nI_leI, nI_ltI, nI_eq, pk_div, nI_an, nleT, nleF, nltT, nltF, neqT, neqF, or_false, false_or, or_self, or_true, true_or, and_self, and_true, true_and, and_false, false_and, not_true_eq_false, not_false_eq_true, f_X12_isSort, f_X12_isDay, f_X11_isSort, f_X11_isDay, inI, inP, f_X5_size, f_X5_isFull, f_X11_now, f_X2_isKind, f_X2_has, f_X3_has, f_X8_hasPage, f_X8_hasAllPages, f_X8_stands, f_X1_isPrinted, f_X1_rule, f_X9_has, f_X9_isFull, f_X12_isPage, f_X12_isVerse, sC_s, sC_n, sC_2, sN_1, sN_s, sN_n, sN_2, sS_1, sS_2, sS_s, sS_n, upd_s, upd_e, upd_n, rAt, rPut, rAdd, rSwap, rPush, rNumber, cp_0, cp_1, cp_2, cp_3, cp_4, cp_5, cp_6, cp_7, cp_8, cp_9, cp_10, cp_11, cp_12, cp_13, cp_14, cp_15, cp_16, cp_17, cp_18, cp_19, cp_20, cp_21, cp_22, cp_23, cp_24, cp_25, cp_26, cp_27, cp_28, cp_29, cp_30, cp_31, cp_32, cp_33, cp_34, cp_35, cp_36, cp_37, cp_38, cp_39, cp_40, cp_41, cp_42, cp_43, cp_44, cp_45, cp_46, cp_47, cp_48, cp_49, cp_50, cp_51, cp_52, cp_53, cp_54, cp_55, cp_56, cp_57, d6, d8 (by omega), Nat.reduceAdd, Nat.reduceMod]
    rw [eq, if_neg (by omega), if_neg (by omega), if_neg (by omega), e]
    exact sc 4 _ (by decide) (by decide)
  · have eq : f_X0_takeClause x (nI p) = sS x 5 (s (1500 + p)) := by
      unfold f_X0_takeClause
      rw [e] at d6
      simp (disch := omega) only [↓nmk_e, ↓reduceIte, Option.bind_some, Option.map_some, lit, ofN, nI_add, pk_sub, pk_mul, nI_clamp, nI_leI, nI_ltI, nI_eq, pk_div, nI_an, nleT, nleF, nltT, nltF, neqT, neqF, or_false, false_or, or_self, or_true, true_or, and_self, and_true, true_and, and_false, false_and, not_true_eq_false, not_false_eq_true, f_X12_isSort, f_X12_isDay, f_X11_isSort, f_X11_isDay, inI, inP, f_X5_size, f_X5_isFull, f_X11_now, f_X2_isKind, f_X2_has, f_X3_has, f_X8_hasPage, f_X8_hasAllPages, f_X8_stands, f_X1_isPrinted, f_X1_rule, f_X9_has, f_X9_isFull, f_X12_isPage, f_X12_isVerse, sC_s, sC_n, sC_2, sN_1, sN_s, sN_n, sN_2, sS_1, sS_2, sS_s, sS_n, upd_s, upd_e, upd_n, rAt, rPut, rAdd, rSwap, rPush, rNumber, cp_0, cp_1, cp_2, cp_3, cp_4, cp_5, cp_6, cp_7, cp_8, cp_9, cp_10, cp_11, cp_12, cp_13, cp_14, cp_15, cp_16, cp_17, cp_18, cp_19, cp_20, cp_21, cp_22, cp_23, cp_24, cp_25, cp_26, cp_27, cp_28, cp_29, cp_30, cp_31, cp_32, cp_33, cp_34, cp_35, cp_36, cp_37, cp_38, cp_39, cp_40, cp_41, cp_42, cp_43, cp_44, cp_45, cp_46, cp_47, cp_48, cp_49, cp_50, cp_51, cp_52, cp_53, cp_54, cp_55, cp_56, cp_57, d6, d8 (by omega), Nat.reduceAdd, Nat.reduceMod]
    rw [eq, if_neg (by omega), if_neg (by omega), if_neg (by omega), e]
    exact sc 5 _ (by decide) (by decide)
  · have eq : f_X0_takeClause x (nI p) = x := by
      unfold f_X0_takeClause
      rw [e] at d6
      simp (disch := omega) only [↓nmk_e, ↓reduceIte, Option.bind_some, Option.map_some, lit, ofN, nI_add, pk_sub, pk_mul, nI_clamp, nI_leI, nI_ltI, nI_eq, pk_div, nI_an, nleT, nleF, nltT, nltF, neqT, neqF, or_false, false_or, or_self, or_true, true_or, and_self, and_true, true_and, and_false, false_and, not_true_eq_false, not_false_eq_true, f_X12_isSort, f_X12_isDay, f_X11_isSort, f_X11_isDay, inI, inP, f_X5_size, f_X5_isFull, f_X11_now, f_X2_isKind, f_X2_has, f_X3_has, f_X8_hasPage, f_X8_hasAllPages, f_X8_stands, f_X1_isPrinted, f_X1_rule, f_X9_has, f_X9_isFull, f_X12_isPage, f_X12_isVerse, sC_s, sC_n, sC_2, sN_1, sN_s, sN_n, sN_2, sS_1, sS_2, sS_s, sS_n, upd_s, upd_e, upd_n, rAt, rPut, rAdd, rSwap, rPush, rNumber, cp_0, cp_1, cp_2, cp_3, cp_4, cp_5, cp_6, cp_7, cp_8, cp_9, cp_10, cp_11, cp_12, cp_13, cp_14, cp_15, cp_16, cp_17, cp_18, cp_19, cp_20, cp_21, cp_22, cp_23, cp_24, cp_25, cp_26, cp_27, cp_28, cp_29, cp_30, cp_31, cp_32, cp_33, cp_34, cp_35, cp_36, cp_37, cp_38, cp_39, cp_40, cp_41, cp_42, cp_43, cp_44, cp_45, cp_46, cp_47, cp_48, cp_49, cp_50, cp_51, cp_52, cp_53, cp_54, cp_55, cp_56, cp_57, d6, Nat.reduceAdd, Nat.reduceMod]
    rw [eq, if_neg (by omega), if_neg (by omega), if_pos e]
    exact ⟨⟨h1, h2⟩, CFr.refl x⟩
/-- the days modulo 30 that are feasts so far, in the reference's world -/
def FeR (y : CW) (P : Nat → Prop) : Prop := ∀ d, d < 30 → (P d ∧ y.1 7 d = nI 1) ∨ (¬ P d ∧ y.1 7 d = nI 0)
theorem nar0 : vp_nar .boolean (nI 0) = nI 0 := by decide
theorem nar1 : vp_nar .boolean (nI 1) = nI 1 := by decide
theorem FeR.congr {y : CW} {P Q : Nat → Prop} (h : FeR y P) (e : ∀ d, d < 30 → (P d ↔ Q d)) : FeR y Q := fun d hd => by
  rcases h d hd with ⟨a, b⟩ | ⟨a, b⟩
  · exact .inl ⟨(e d hd).mp a, b⟩
  · exact .inr ⟨fun z => a ((e d hd).mpr z), b⟩
theorem l_feR {y : CW} {P : Nat → Prop} {n : Nat} (h : FeR y P) (hn : n < 100) : ∃ y', f_X12_takes_L128 (nI n) FU (nI 0) y = some y' ∧ FeR y' (fun d => P d ∨ d = n) ∧ (∀ k, k ≠ 7 → y'.1 k = y.1 k) ∧ y'.2 = y.2 := by
  refine run1 (fun q i x => f_X12_takes_L128 (nI n) q i x) (fun i x => (∀ k, k ≠ 7 → x.1 k = y.1 k) ∧ x.2 = y.2 ∧ (∀ d, d < i → (((P d ∨ d = n) ∧ x.1 7 d = nI 1) ∨ (¬ (P d ∨ d = n) ∧ x.1 7 d = nI 0))) ∧ ∀ d, i ≤ d → x.1 7 d = y.1 7 d) 30 (fun z => ∃ y', z = some y' ∧ FeR y' (fun d => P d ∨ d = n) ∧ (∀ k, k ≠ 7 → y'.1 k = y.1 k) ∧ y'.2 = y.2) ?_ ?_ FU 0 y (Nat.zero_le _) (by unfold FU; omega) ⟨fun _ _ => rfl, rfl, fun d hd => absurd hd (Nat.not_lt_zero d), fun _ _ => rfl⟩
  · rintro q x ⟨h1, h2, h3, -⟩
    refine ⟨x, ?_, fun d hd => h3 d hd, h1, h2⟩
    simp (disch := omega) only [f_X12_takes_L128, ↓nmk_e, ↓reduceIte, Option.bind_some, Option.map_some, lit, ofN, nI_add, pk_sub, pk_mul, nI_clamp, nI_leI, nI_ltI, nI_eq, pk_div, nI_an, nleT, nleF, nltT, nltF, neqT, neqF, or_false, false_or, or_self, or_true, true_or, and_self, and_true, true_and, and_false, false_and, not_true_eq_false, not_false_eq_true, f_X12_isSort, f_X12_isDay, f_X11_isSort, f_X11_isDay, inI, inP, f_X5_size, f_X5_isFull, f_X11_now, f_X2_isKind, f_X2_has, f_X3_has, f_X8_hasPage, f_X8_hasAllPages, f_X8_stands, f_X1_isPrinted, f_X1_rule, f_X9_has, f_X9_isFull, f_X12_isPage, f_X12_isVerse, sC_s, sC_n, sC_2, sN_1, sN_s, sN_n, sN_2, sS_1, sS_2, sS_s, sS_n, upd_s, upd_e, upd_n, rAt, rPut, rAdd, rSwap, rPush, rNumber, cp_0, cp_1, cp_2, cp_3, cp_4, cp_5, cp_6, cp_7, cp_8, cp_9, cp_10, cp_11, cp_12, cp_13, cp_14, cp_15, cp_16, cp_17, cp_18, cp_19, cp_20, cp_21, cp_22, cp_23, cp_24, cp_25, cp_26, cp_27, cp_28, cp_29, cp_30, cp_31, cp_32, cp_33, cp_34, cp_35, cp_36, cp_37, cp_38, cp_39, cp_40, cp_41, cp_42, cp_43, cp_44, cp_45, cp_46, cp_47, cp_48, cp_49, cp_50, cp_51, cp_52, cp_53, cp_54, cp_55, cp_56, cp_57]
  · rintro q i x hi ⟨h1, h2, h3, h4⟩
    have e := h4 i (Nat.le_refl _)
    have step : ∀ z, (((P i ∨ i = n) ∧ nI z = nI 1) ∨ (¬ (P i ∨ i = n) ∧ nI z = nI 0)) → f_X12_takes_L128 (nI n) (q + 1) (nI i) x = f_X12_takes_L128 (nI n) q (nI (i + 1)) (sC x 7 i (nI z)) → (∃ y', f_X12_takes_L128 (nI n) (q + 1) (nI i) x = some y' ∧ FeR y' (fun d => P d ∨ d = n) ∧ (∀ k, k ≠ 7 → y'.1 k = y.1 k) ∧ y'.2 = y.2) ∨ ∃ s', f_X12_takes_L128 (nI n) (q + 1) (nI i) x = f_X12_takes_L128 (nI n) q (nI (i + 1)) s' ∧ (∀ k, k ≠ 7 → s'.1 k = y.1 k) ∧ s'.2 = y.2 ∧ (∀ d, d < i + 1 → (((P d ∨ d = n) ∧ s'.1 7 d = nI 1) ∨ (¬ (P d ∨ d = n) ∧ s'.1 7 d = nI 0))) ∧ ∀ d, i + 1 ≤ d → s'.1 7 d = y.1 7 d := fun z hz he => by
      refine .inr ⟨_, he, fun k hk => ?_, h2, fun d hd => ?_, fun d hd => ?_⟩
      · simp (disch := omega) only [sC_s, sC_n, sC_2, sN_1, sN_s, sN_n, sN_2, sS_1, sS_2, sS_s, sS_n, upd_s, upd_e, upd_n]; exact h1 k hk
      · by_cases c : d = i
        · subst c
          simp (disch := omega) only [sC_s, sC_n, sC_2, sN_1, sN_s, sN_n, sN_2, sS_1, sS_2, sS_s, sS_n, upd_s, upd_e, upd_n]
          exact hz
        · simp (disch := omega) only [sC_s, sC_n, sC_2, sN_1, sN_s, sN_n, sN_2, sS_1, sS_2, sS_s, sS_n, upd_s, upd_e, upd_n]
          exact h3 d (by omega)
      · simp (disch := omega) only [sC_s, sC_n, sC_2, sN_1, sN_s, sN_n, sN_2, sS_1, sS_2, sS_s, sS_n, upd_s, upd_e, upd_n]; exact h4 d (by omega)
    rcases h i hi with ⟨a, b⟩ | ⟨a, b⟩
    · refine step 1 (.inl ⟨.inl a, rfl⟩) ?_
      rw [b] at e
      simp (disch := omega) only [f_X12_takes_L128, ↓nmk_e, ↓reduceIte, Option.bind_some, Option.map_some, lit, ofN, nI_add, pk_sub, pk_mul, nI_clamp, nI_leI, nI_ltI, nI_eq, pk_div, nI_an, nleT, nleF, nltT, nltF, neqT, neqF, or_false, false_or, or_self, or_true, true_or, and_self, and_true, true_and, and_false, false_and, not_true_eq_false, not_false_eq_true, f_X12_isSort, f_X12_isDay, f_X11_isSort, f_X11_isDay, inI, inP, f_X5_size, f_X5_isFull, f_X11_now, f_X2_isKind, f_X2_has, f_X3_has, f_X8_hasPage, f_X8_hasAllPages, f_X8_stands, f_X1_isPrinted, f_X1_rule, f_X9_has, f_X9_isFull, f_X12_isPage, f_X12_isVerse, sC_s, sC_n, sC_2, sN_1, sN_s, sN_n, sN_2, sS_1, sS_2, sS_s, sS_n, upd_s, upd_e, upd_n, rAt, rPut, rAdd, rSwap, rPush, rNumber, cp_0, cp_1, cp_2, cp_3, cp_4, cp_5, cp_6, cp_7, cp_8, cp_9, cp_10, cp_11, cp_12, cp_13, cp_14, cp_15, cp_16, cp_17, cp_18, cp_19, cp_20, cp_21, cp_22, cp_23, cp_24, cp_25, cp_26, cp_27, cp_28, cp_29, cp_30, cp_31, cp_32, cp_33, cp_34, cp_35, cp_36, cp_37, cp_38, cp_39, cp_40, cp_41, cp_42, cp_43, cp_44, cp_45, cp_46, cp_47, cp_48, cp_49, cp_50, cp_51, cp_52, cp_53, cp_54, cp_55, cp_56, cp_57, e, nar1]
    · rw [b] at e
      by_cases c : i = n
      · refine step 1 (.inl ⟨.inr c, rfl⟩) ?_
        simp (disch := omega) only [f_X12_takes_L128, ↓nmk_e, ↓reduceIte, Option.bind_some, Option.map_some, lit, ofN, nI_add, pk_sub, pk_mul, nI_clamp, nI_leI, nI_ltI, nI_eq, pk_div, nI_an, nleT, nleF, nltT, nltF, neqT, neqF, or_false, false_or, or_self, or_true, true_or, and_self, and_true, true_and, and_false, false_and, not_true_eq_false, not_false_eq_true, f_X12_isSort, f_X12_isDay, f_X11_isSort, f_X11_isDay, inI, inP, f_X5_size, f_X5_isFull, f_X11_now, f_X2_isKind, f_X2_has, f_X3_has, f_X8_hasPage, f_X8_hasAllPages, f_X8_stands, f_X1_isPrinted, f_X1_rule, f_X9_has, f_X9_isFull, f_X12_isPage, f_X12_isVerse, sC_s, sC_n, sC_2, sN_1, sN_s, sN_n, sN_2, sS_1, sS_2, sS_s, sS_n, upd_s, upd_e, upd_n, rAt, rPut, rAdd, rSwap, rPush, rNumber, cp_0, cp_1, cp_2, cp_3, cp_4, cp_5, cp_6, cp_7, cp_8, cp_9, cp_10, cp_11, cp_12, cp_13, cp_14, cp_15, cp_16, cp_17, cp_18, cp_19, cp_20, cp_21, cp_22, cp_23, cp_24, cp_25, cp_26, cp_27, cp_28, cp_29, cp_30, cp_31, cp_32, cp_33, cp_34, cp_35, cp_36, cp_37, cp_38, cp_39, cp_40, cp_41, cp_42, cp_43, cp_44, cp_45, cp_46, cp_47, cp_48, cp_49, cp_50, cp_51, cp_52, cp_53, cp_54, cp_55, cp_56, cp_57, e, nar1]
      · refine step 0 (.inr ⟨fun z => z.elim a c, rfl⟩) ?_
        simp (disch := omega) only [f_X12_takes_L128, ↓nmk_e, ↓reduceIte, Option.bind_some, Option.map_some, lit, ofN, nI_add, pk_sub, pk_mul, nI_clamp, nI_leI, nI_ltI, nI_eq, pk_div, nI_an, nleT, nleF, nltT, nltF, neqT, neqF, or_false, false_or, or_self, or_true, true_or, and_self, and_true, true_and, and_false, false_and, not_true_eq_false, not_false_eq_true, f_X12_isSort, f_X12_isDay, f_X11_isSort, f_X11_isDay, inI, inP, f_X5_size, f_X5_isFull, f_X11_now, f_X2_isKind, f_X2_has, f_X3_has, f_X8_hasPage, f_X8_hasAllPages, f_X8_stands, f_X1_isPrinted, f_X1_rule, f_X9_has, f_X9_isFull, f_X12_isPage, f_X12_isVerse, sC_s, sC_n, sC_2, sN_1, sN_s, sN_n, sN_2, sS_1, sS_2, sS_s, sS_n, upd_s, upd_e, upd_n, rAt, rPut, rAdd, rSwap, rPush, rNumber, cp_0, cp_1, cp_2, cp_3, cp_4, cp_5, cp_6, cp_7, cp_8, cp_9, cp_10, cp_11, cp_12, cp_13, cp_14, cp_15, cp_16, cp_17, cp_18, cp_19, cp_20, cp_21, cp_22, cp_23, cp_24, cp_25, cp_26, cp_27, cp_28, cp_29, cp_30, cp_31, cp_32, cp_33, cp_34, cp_35, cp_36, cp_37, cp_38, cp_39, cp_40, cp_41, cp_42, cp_43, cp_44, cp_45, cp_46, cp_47, cp_48, cp_49, cp_50, cp_51, cp_52, cp_53, cp_54, cp_55, cp_56, cp_57, e, nar0]
theorem l_tkR {y : CW} {P : Nat → Prop} {p : Nat} {A : CA} (h : RQ2 y A) (hF : FeR y P) (hf : A.2.2 < 72) (hp : p < 72) (hc : okC (y.1 0) p) : ∃ y', f_X12_takes y (nI p) = some y' ∧ RQ2 y' (tkA (y.1 0) p A) ∧ FeR y' (fun d => P d ∨ (wd (y.1 0) p = 7 ∧ y.1 0 (1500 + p) = nI d)) ∧ RFr y y' ∧ y'.1 2 = y.1 2 := by
  obtain ⟨c1, c2, c3, c4, c5, c6⟩ := hc
  obtain ⟨h1, h2⟩ := h
  have noF : wd (y.1 0) p ≠ 7 → ∀ y' : CW, y'.1 7 = y.1 7 → FeR y' (fun d => P d ∨ (wd (y.1 0) p = 7 ∧ y.1 0 (1500 + p) = nI d)) := fun z y' e d hd => by
    rw [e]
    rcases hF d hd with ⟨a, b⟩ | ⟨a, b⟩
    · exact .inl ⟨.inl a, b⟩
    · exact .inr ⟨fun q => q.elim a (fun q => z q.1), b⟩
  by_cases w0 : wd (y.1 0) p = 0
  · obtain ⟨y1, e1, ⟨r1, r2, r3⟩, e3, e4, e5⟩ := l_forg h2 (y.1 0 (1420 + p))
    have hn : barM A.2.1 (y.1 0 (1420 + p)) (y.1 0 (1420 + p)) = none := if_pos rfl
    have hM := Mp_new r3 hn (y.1 0 (1500 + p)) (y.1 0 (1580 + p))
    rw [put_bar] at hM
    generalize hg : (if A.2.1 (y.1 0 (1420 + p)) = none then A.2.2 else A.2.2 - 1) = g at *
    have hg2 : g ≤ A.2.2 := by rw [← hg]; split <;> omega
    have e0 : y1.1 0 = y.1 0 := e3 0 (by decide) (by decide) (by decide)
    have hA : tkA (y.1 0) p A = (A.1, putM A.2.1 (y.1 0 (1420 + p)) (y.1 0 (1500 + p)) (y.1 0 (1580 + p)), g + 1) := by
      unfold tkA
      rw [if_pos w0]
      have : (if A.2.1 (y.1 0 (1420 + p)) = none then A.2.2 + 1 else A.2.2) = g + 1 := by
        rw [← hg]
        by_cases z : A.2.1 (y.1 0 (1420 + p)) = none
        · rw [if_pos z, if_pos z]
        · rw [if_neg z, if_neg z]
          have : 0 < A.2.2 := by
            cases q : A.2.1 (y.1 0 (1420 + p)) with
            | none => exact absurd q z
            | some t =>
              obtain ⟨tw, tu⟩ := t
              obtain ⟨i, hi, -⟩ := (h2.2.2.2 _ _ _).mp q
              omega
          omega
      rw [this]
    let y2 := sS (sC (sC (sC y1 4 g (y.1 0 (1420 + p))) 5 g (y.1 0 (1500 + p))) 6 g (y.1 0 (1580 + p))) 13 (nI (g + 1))
    have k3 : ∀ k, k ≠ 4 → k ≠ 5 → k ≠ 6 → y2.1 k = y.1 k := fun k k1 k2 k3 => by
      show (sS (sC (sC (sC y1 4 g _) 5 g _) 6 g _) 13 _).1 k = _
      simp (disch := omega) only [sC_s, sC_n, sC_2, sN_1, sN_s, sN_n, sN_2, sS_1, sS_2, sS_s, sS_n, upd_s, upd_e, upd_n]; exact e3 k k1 k2 k3
    refine ⟨y2, ?_, ?_, noF (by omega) y2 (k3 7 (by decide) (by decide) (by decide)), ⟨fun k hk => k3 k (by omega) (by omega) (by omega), ?_, fun k hk => ?_⟩, k3 2 (by decide) (by decide) (by decide)⟩
    · rw [w0] at c1
      unfold f_X12_takes
      simp (disch := omega) only [↓nmk_e, ↓reduceIte, Option.bind_some, Option.map_some, lit, ofN, nI_add, pk_sub, pk_mul, nI_clamp, nI_leI, nI_ltI, nI_eq, pk_div, nI_an, nleT, nleF, nltT, nltF, neqT, neqF, or_false, false_or, or_self, or_true, true_or, and_self, and_true, true_and, and_false, false_and, not_true_eq_false, not_false_eq_true, f_X12_isSort, f_X12_isDay, f_X11_isSort, f_X11_isDay, inI, inP, f_X5_size, f_X5_isFull, f_X11_now, f_X2_isKind, f_X2_has, f_X3_has, f_X8_hasPage, f_X8_hasAllPages, f_X8_stands, f_X1_isPrinted, f_X1_rule, f_X9_has, f_X9_isFull, f_X12_isPage, f_X12_isVerse, sC_s, sC_n, sC_2, sN_1, sN_s, sN_n, sN_2, sS_1, sS_2, sS_s, sS_n, upd_s, upd_e, upd_n, rAt, rPut, rAdd, rSwap, rPush, rNumber, cp_0, cp_1, cp_2, cp_3, cp_4, cp_5, cp_6, cp_7, cp_8, cp_9, cp_10, cp_11, cp_12, cp_13, cp_14, cp_15, cp_16, cp_17, cp_18, cp_19, cp_20, cp_21, cp_22, cp_23, cp_24, cp_25, cp_26, cp_27, cp_28, cp_29, cp_30, cp_31, cp_32, cp_33, cp_34, cp_35, cp_36, cp_37, cp_38, cp_39, cp_40, cp_41, cp_42, cp_43, cp_44, cp_45, cp_46, cp_47, cp_48, cp_49, cp_50, cp_51, cp_52, cp_53, cp_54, cp_55, cp_56, cp_57, c1, e1, r1, e0]
      rfl
    · rw [hA]
      refine ⟨fun j j1 j2 => by rw [k3 3 (by decide) (by decide) (by decide)]; exact h1 j j1 j2, ?_, by show g + 1 ≤ 72; omega, ?_⟩
      · show (sS (sC (sC (sC y1 4 g _) 5 g _) 6 g _) 13 _).2.2 13 = _
        simp (disch := omega) only [sC_s, sC_n, sC_2, sN_1, sN_s, sN_n, sN_2, sS_1, sS_2, sS_s, sS_n, upd_s, upd_e, upd_n]
      · have u4 : y2.1 4 = upd (y1.1 4) g (y.1 0 (1420 + p)) := by
          show (sS (sC (sC (sC y1 4 g _) 5 g _) 6 g _) 13 _).1 4 = _
          simp (disch := omega) only [sC_s, sC_n, sC_2, sN_1, sN_s, sN_n, sN_2, sS_1, sS_2, sS_s, sS_n, upd_s, upd_e, upd_n]
        have u5 : y2.1 5 = upd (y1.1 5) g (y.1 0 (1500 + p)) := by
          show (sS (sC (sC (sC y1 4 g _) 5 g _) 6 g _) 13 _).1 5 = _
          simp (disch := omega) only [sC_s, sC_n, sC_2, sN_1, sN_s, sN_n, sN_2, sS_1, sS_2, sS_s, sS_n, upd_s, upd_e, upd_n]
        have u6 : y2.1 6 = upd (y1.1 6) g (y.1 0 (1580 + p)) := by
          show (sS (sC (sC (sC y1 4 g _) 5 g _) 6 g _) 13 _).1 6 = _
          simp (disch := omega) only [sC_s, sC_n, sC_2, sN_1, sN_s, sN_n, sN_2, sS_1, sS_2, sS_s, sS_n, upd_s, upd_e, upd_n]
        rw [u4, u5, u6]; exact hM
    · show (sS (sC (sC (sC y1 4 g _) 5 g _) 6 g _) 13 _).2.1 = _
      simp (disch := omega) only [sC_s, sC_n, sC_2, sN_1, sN_s, sN_n, sN_2, sS_1, sS_2, sS_s, sS_n, upd_s, upd_e, upd_n]; exact e4
    · show (sS (sC (sC (sC y1 4 g _) 5 g _) 6 g _) 13 _).2.2 k = _
      simp (disch := omega) only [sC_s, sC_n, sC_2, sN_1, sN_s, sN_n, sN_2, sS_1, sS_2, sS_s, sS_n, upd_s, upd_e, upd_n]; exact e5 k hk
  by_cases w1 : wd (y.1 0) p = 1
  · obtain ⟨y1, e1, r, e3, e4, e5⟩ := l_forg h2 (y.1 0 (1420 + p))
    have hA : tkA (y.1 0) p A = (A.1, barM A.2.1 (y.1 0 (1420 + p)), if A.2.1 (y.1 0 (1420 + p)) = none then A.2.2 else A.2.2 - 1) := by
      unfold tkA
      rw [if_neg w0, if_pos w1]
    refine ⟨y1, ?_, ?_, noF (by omega) y1 (e3 7 (by decide) (by decide) (by decide)), ⟨fun k hk => e3 k (by omega) (by omega) (by omega), e4, e5⟩, e3 2 (by decide) (by decide) (by decide)⟩
    · rw [w1] at c1
      unfold f_X12_takes
      simp (disch := omega) only [↓nmk_e, ↓reduceIte, Option.bind_some, Option.map_some, lit, ofN, nI_add, pk_sub, pk_mul, nI_clamp, nI_leI, nI_ltI, nI_eq, pk_div, nI_an, nleT, nleF, nltT, nltF, neqT, neqF, or_false, false_or, or_self, or_true, true_or, and_self, and_true, true_and, and_false, false_and, not_true_eq_false, not_false_eq_true, f_X12_isSort, f_X12_isDay, f_X11_isSort, f_X11_isDay, inI, inP, f_X5_size, f_X5_isFull, f_X11_now, f_X2_isKind, f_X2_has, f_X3_has, f_X8_hasPage, f_X8_hasAllPages, f_X8_stands, f_X1_isPrinted, f_X1_rule, f_X9_has, f_X9_isFull, f_X12_isPage, f_X12_isVerse, sC_s, sC_n, sC_2, sN_1, sN_s, sN_n, sN_2, sS_1, sS_2, sS_s, sS_n, upd_s, upd_e, upd_n, rAt, rPut, rAdd, rSwap, rPush, rNumber, cp_0, cp_1, cp_2, cp_3, cp_4, cp_5, cp_6, cp_7, cp_8, cp_9, cp_10, cp_11, cp_12, cp_13, cp_14, cp_15, cp_16, cp_17, cp_18, cp_19, cp_20, cp_21, cp_22, cp_23, cp_24, cp_25, cp_26, cp_27, cp_28, cp_29, cp_30, cp_31, cp_32, cp_33, cp_34, cp_35, cp_36, cp_37, cp_38, cp_39, cp_40, cp_41, cp_42, cp_43, cp_44, cp_45, cp_46, cp_47, cp_48, cp_49, cp_50, cp_51, cp_52, cp_53, cp_54, cp_55, cp_56, cp_57, c1, e1]
    · rw [hA]
      exact ⟨fun j j1 j2 => by rw [e3 3 (by decide) (by decide) (by decide)]; exact h1 j j1 j2, r⟩
  obtain ⟨n, hn, hv⟩ := c4 w1
  by_cases w7 : wd (y.1 0) p = 7
  · obtain ⟨y1, e1, r, e3, e4⟩ := l_feR hF (n := n) (by omega)
    have hA : tkA (y.1 0) p A = A := by
      unfold tkA
      rw [if_neg w0, if_neg w1, if_pos w7]
    refine ⟨y1, ?_, ?_, r.congr fun d hd => ?_, ⟨fun k hk => e3 k (by omega), by rw [e4], fun k _ => by rw [e4]⟩, e3 2 (by decide)⟩
    · rw [w7] at c1
      unfold f_X12_takes
      simp (disch := omega) only [↓nmk_e, ↓reduceIte, Option.bind_some, Option.map_some, lit, ofN, nI_add, pk_sub, pk_mul, nI_clamp, nI_leI, nI_ltI, nI_eq, pk_div, nI_an, nleT, nleF, nltT, nltF, neqT, neqF, or_false, false_or, or_self, or_true, true_or, and_self, and_true, true_and, and_false, false_and, not_true_eq_false, not_false_eq_true, f_X12_isSort, f_X12_isDay, f_X11_isSort, f_X11_isDay, inI, inP, f_X5_size, f_X5_isFull, f_X11_now, f_X2_isKind, f_X2_has, f_X3_has, f_X8_hasPage, f_X8_hasAllPages, f_X8_stands, f_X1_isPrinted, f_X1_rule, f_X9_has, f_X9_isFull, f_X12_isPage, f_X12_isVerse, sC_s, sC_n, sC_2, sN_1, sN_s, sN_n, sN_2, sS_1, sS_2, sS_s, sS_n, upd_s, upd_e, upd_n, rAt, rPut, rAdd, rSwap, rPush, rNumber, cp_0, cp_1, cp_2, cp_3, cp_4, cp_5, cp_6, cp_7, cp_8, cp_9, cp_10, cp_11, cp_12, cp_13, cp_14, cp_15, cp_16, cp_17, cp_18, cp_19, cp_20, cp_21, cp_22, cp_23, cp_24, cp_25, cp_26, cp_27, cp_28, cp_29, cp_30, cp_31, cp_32, cp_33, cp_34, cp_35, cp_36, cp_37, cp_38, cp_39, cp_40, cp_41, cp_42, cp_43, cp_44, cp_45, cp_46, cp_47, cp_48, cp_49, cp_50, cp_51, cp_52, cp_53, cp_54, cp_55, cp_56, cp_57, c1, hv, e1]
    · rw [hA]
      refine ⟨fun j j1 j2 => by rw [e3 3 (by decide)]; exact h1 j j1 j2, ?_⟩
      obtain ⟨a1, a2, a3⟩ := h2
      exact ⟨by rw [e4]; exact a1, a2, by rw [e3 4 (by decide), e3 5 (by decide), e3 6 (by decide)]; exact a3⟩
    · rw [hv, nI_eq (by omega) (by omega)]
      constructor
      · rintro (z | z)
        · exact .inl z
        · exact .inr ⟨w7, z.symm⟩
      · rintro (z | z)
        · exact .inl z
        · exact .inr z.2.symm
  · have hA : tkA (y.1 0) p A = (upd A.1 (wd (y.1 0) p) (y.1 0 (1500 + p)), A.2) := by
      unfold tkA
      rw [if_neg w0, if_neg w1, if_neg w7]
    have k3 : ∀ k, k ≠ 3 → (sC y 3 (wd (y.1 0) p) (y.1 0 (1500 + p))).1 k = y.1 k := fun k hk => sC_n _ _ _ hk
    refine ⟨sC y 3 (wd (y.1 0) p) (y.1 0 (1500 + p)), ?_, ?_, noF w7 _ (k3 7 (by decide)), ⟨fun k hk => k3 k (by omega), rfl, fun k _ => rfl⟩, k3 2 (by decide)⟩
    · generalize hw : wd (y.1 0) p = w at *
      unfold f_X12_takes
      simp (disch := omega) only [↓nmk_e, ↓reduceIte, Option.bind_some, Option.map_some, lit, ofN, nI_add, pk_sub, pk_mul, nI_clamp, nI_leI, nI_ltI, nI_eq, pk_div, nI_an, nleT, nleF, nltT, nltF, neqT, neqF, or_false, false_or, or_self, or_true, true_or, and_self, and_true, true_and, and_false, false_and, not_true_eq_false, not_false_eq_true, f_X12_isSort, f_X12_isDay, f_X11_isSort, f_X11_isDay, inI, inP, f_X5_size, f_X5_isFull, f_X11_now, f_X2_isKind, f_X2_has, f_X3_has, f_X8_hasPage, f_X8_hasAllPages, f_X8_stands, f_X1_isPrinted, f_X1_rule, f_X9_has, f_X9_isFull, f_X12_isPage, f_X12_isVerse, sC_s, sC_n, sC_2, sN_1, sN_s, sN_n, sN_2, sS_1, sS_2, sS_s, sS_n, upd_s, upd_e, upd_n, rAt, rPut, rAdd, rSwap, rPush, rNumber, cp_0, cp_1, cp_2, cp_3, cp_4, cp_5, cp_6, cp_7, cp_8, cp_9, cp_10, cp_11, cp_12, cp_13, cp_14, cp_15, cp_16, cp_17, cp_18, cp_19, cp_20, cp_21, cp_22, cp_23, cp_24, cp_25, cp_26, cp_27, cp_28, cp_29, cp_30, cp_31, cp_32, cp_33, cp_34, cp_35, cp_36, cp_37, cp_38, cp_39, cp_40, cp_41, cp_42, cp_43, cp_44, cp_45, cp_46, cp_47, cp_48, cp_49, cp_50, cp_51, cp_52, cp_53, cp_54, cp_55, cp_56, cp_57, c1]
    · rw [hA]
      refine ⟨fun j j1 j2 => ?_, ?_⟩
      · rw [sC_s]
        by_cases c : j = wd (y.1 0) p
        · show upd (y.1 3) (wd (y.1 0) p) _ j = upd A.1 (wd (y.1 0) p) _ j
          rw [c, upd_s, upd_s]
        · show upd (y.1 3) (wd (y.1 0) p) _ j = upd A.1 (wd (y.1 0) p) _ j
          rw [upd_n _ _ c, upd_n _ _ c]; exact h1 j j1 j2
      · obtain ⟨a1, a2, a3⟩ := h2
        exact ⟨a1, a2, by rw [k3 4 (by decide), k3 5 (by decide), k3 6 (by decide)]; exact a3⟩
