/-! readers: what stands at a place, one sign in both worlds -/
def Tx (B : Nat → Int32) (n : Nat) : Prop := n ≤ 120 ∧ (∀ i, i < n → ∃ b, b ≤ 255 ∧ B i = nI b) ∧ ∀ i, n ≤ i → B i = -nI 1
def CAt (x : CW) (B : Nat → Int32) (n p : Nat) : Prop := x.2.2 0 = nI p ∧ x.2.1 1 = nI n ∧ (∀ i, i < n → x.1 1 i = B i) ∧ p ≤ n
def RAt (y : CW) (m : Nat) (B : Nat → Int32) (n p e : Nat) : Prop := y.2.2 4 = nI m ∧ y.2.2 5 = nI p ∧ y.2.2 6 = nI e ∧ m ≤ 8 ∧ p ≤ n ∧ e ≤ 1 ∧ y.1 0 (240 + m) = nI n ∧ ∀ i, i < n → y.1 0 (250 + 120 * m + i) = B i
def cm (x : CW) (p : Nat) : CW := sS x 0 (nI p)
def mv (y : CW) (e p : Nat) : CW := sS (sS y 6 (nI e)) 5 (nI p)
theorem upd_self (f : Nat → Int32) (i : Nat) : upd f i (f i) = f := by
  funext j
  by_cases c : j = i
  · rw [c, upd_s]
  · rw [upd_n _ _ c]
theorem upd_upd (f : Nat → Int32) (i : Nat) (a b : Int32) : upd (upd f i a) i b = upd f i b := by
  funext j
  by_cases c : j = i
  · rw [c, upd_s, upd_s]
  · rw [upd_n _ _ c, upd_n _ _ c, upd_n _ _ c]
theorem upd_comm (f : Nat → Int32) {i j : Nat} (h : i ≠ j) (a b : Int32) : upd (upd f i a) j b = upd (upd f j b) i a := by
  funext k
  by_cases c : k = i
  · subst c; rw [upd_n _ _ h, upd_s, upd_s]
  · by_cases c2 : k = j
    · subst c2; rw [upd_s, upd_n _ _ c, upd_s]
    · rw [upd_n _ _ c2, upd_n _ _ c, upd_n _ _ c, upd_n _ _ c2]
theorem cm_cm (x : CW) (p q : Nat) : cm (cm x p) q = cm x q := by
  show (x.1, x.2.1, upd (upd x.2.2 0 (nI p)) 0 (nI q)) = (x.1, x.2.1, upd x.2.2 0 (nI q))
  rw [upd_upd]
theorem cm_self {x : CW} {p : Nat} (h : x.2.2 0 = nI p) : cm x p = x := by
  show (x.1, x.2.1, upd x.2.2 0 (nI p)) = x
  rw [← h, upd_self]
theorem mv_mv (y : CW) (a p b q : Nat) : mv (mv y a p) b q = mv y b q := by
  show (y.1, y.2.1, upd (upd (upd (upd y.2.2 6 (nI a)) 5 (nI p)) 6 (nI b)) 5 (nI q)) = (y.1, y.2.1, upd (upd y.2.2 6 (nI b)) 5 (nI q))
  rw [upd_comm (upd y.2.2 6 (nI a)) (by decide), upd_upd, upd_upd]
theorem mv_self {y : CW} {e p : Nat} (h5 : y.2.2 5 = nI p) (h6 : y.2.2 6 = nI e) : mv y e p = y := by
  show (y.1, y.2.1, upd (upd y.2.2 6 (nI e)) 5 (nI p)) = y
  rw [← h6, upd_self, ← h5, upd_self]
theorem cm_g (x : CW) (p : Nat) : (cm x p).2.2 0 = nI p := by unfold cm; simp (disch := omega) only [sC_s, sC_n, sC_2, sN_1, sN_s, sN_n, sN_2, sS_1, sS_2, sS_s, sS_n, upd_s, upd_e, upd_n]
theorem cm_gn (x : CW) (p : Nat) {j : Nat} (h : j ≠ 0) : (cm x p).2.2 j = x.2.2 j := by unfold cm; simp (disch := omega) only [sC_s, sC_n, sC_2, sN_1, sN_s, sN_n, sN_2, sS_1, sS_2, sS_s, sS_n, upd_s, upd_e, upd_n]
theorem mv_g5 (y : CW) (e p : Nat) : (mv y e p).2.2 5 = nI p := by unfold mv; simp (disch := omega) only [sC_s, sC_n, sC_2, sN_1, sN_s, sN_n, sN_2, sS_1, sS_2, sS_s, sS_n, upd_s, upd_e, upd_n]
theorem mv_g6 (y : CW) (e p : Nat) : (mv y e p).2.2 6 = nI e := by unfold mv; simp (disch := omega) only [sC_s, sC_n, sC_2, sN_1, sN_s, sN_n, sN_2, sS_1, sS_2, sS_s, sS_n, upd_s, upd_e, upd_n]
theorem mv_gn (y : CW) (e p : Nat) {j : Nat} (h5 : j ≠ 5) (h6 : j ≠ 6) : (mv y e p).2.2 j = y.2.2 j := by unfold mv; simp (disch := omega) only [sC_s, sC_n, sC_2, sN_1, sN_s, sN_n, sN_2, sS_1, sS_2, sS_s, sS_n, upd_s, upd_e, upd_n]
theorem mv_g4 (y : CW) (e p : Nat) : (mv y e p).2.2 4 = y.2.2 4 := mv_gn y e p (by decide) (by decide)
theorem CAt.cm {x : CW} {B : Nat → Int32} {n p q : Nat} (h : CAt x B n p) (hq : q ≤ n) : CAt (cm x q) B n q := ⟨cm_g x q, h.2.1, h.2.2.1, hq⟩
theorem CAt.sC {x : CW} {B : Nat → Int32} {n p k i : Nat} {v : Int32} (h : CAt x B n p) (hk : k ≠ 1) : CAt (sC x k i v) B n p := ⟨h.1, h.2.1, fun j hj => by rw [sC_n x i v (Ne.symm hk)]; exact h.2.2.1 j hj, h.2.2.2⟩
theorem RAt.mv {y : CW} {B : Nat → Int32} {m n p e q f : Nat} (h : RAt y m B n p e) (hq : q ≤ n) (hf : f ≤ 1) : RAt (mv y f q) m B n q f := ⟨(mv_g4 y f q).trans h.1, mv_g5 y f q, mv_g6 y f q, h.2.2.2.1, hq, hf, h.2.2.2.2.2.2⟩
theorem RAt.sC {y : CW} {B : Nat → Int32} {m n p e i : Nat} {v : Int32} (h : RAt y m B n p e) (hn : n ≤ 120) (hi : 1330 ≤ i) : RAt (sC y 0 i v) m B n p e := by
  obtain ⟨a1, a2, a3, a4, a5, a6, a7, a8⟩ := h
  refine ⟨a1, a2, a3, a4, a5, a6, ?_, fun j hj => ?_⟩
  · simp (disch := omega) only [sC_s, sC_n, sC_2, sN_1, sN_s, sN_n, sN_2, sS_1, sS_2, sS_s, sS_n, upd_s, upd_e, upd_n]; exact a7
  · simp (disch := omega) only [sC_s, sC_n, sC_2, sN_1, sN_s, sN_n, sN_2, sS_1, sS_2, sS_s, sS_n, upd_s, upd_e, upd_n]; exact a8 j hj
theorem l_next {x : CW} {B : Nat → Int32} {n p : Nat} (hB : Tx B n) (h : CAt x B n p) : f_X10_next x = B p := by
  obtain ⟨b1, b2, b3⟩ := hB
  obtain ⟨h1, h2, h3, h4⟩ := h
  unfold f_X10_next
  by_cases c : p < n
  · have h3 := h3 p c
    simp (disch := omega) only [↓nmk_e, ↓reduceIte, Option.bind_some, Option.map_some, lit, ofN, nI_add, pk_sub, pk_mul, nI_clamp, nI_leI, nI_ltI, nI_eq, pk_div, nI_an, nleT, nleF, nltT, nltF, neqT, neqF, or_false, false_or, or_self, or_true, true_or, and_self, and_true, true_and, and_false, false_and, not_true_eq_false, not_false_eq_true, f_X12_isSort, f_X12_isDay, f_X11_isSort, f_X11_isDay, inI, inP, f_X5_size, f_X5_isFull, f_X11_now, f_X2_isKind, f_X2_has, f_X3_has, f_X8_hasPage, f_X8_hasAllPages, f_X8_stands, f_X1_isPrinted, f_X1_rule, f_X9_has, f_X9_isFull, f_X12_isPage, f_X12_isVerse, sC_s, sC_n, sC_2, sN_1, sN_s, sN_n, sN_2, sS_1, sS_2, sS_s, sS_n, upd_s, upd_e, upd_n, rAt, rPut, rAdd, rSwap, rPush, rNumber, cp_0, cp_1, cp_2, cp_3, cp_4, cp_5, cp_6, cp_7, cp_8, cp_9, cp_10, cp_11, cp_12, cp_13, cp_14, cp_15, cp_16, cp_17, cp_18, cp_19, cp_20, cp_21, cp_22, cp_23, cp_24, cp_25, cp_26, cp_27, cp_28, cp_29, cp_30, cp_31, cp_32, cp_33, cp_34, cp_35, cp_36, cp_37, cp_38, cp_39, cp_40, cp_41, cp_42, cp_43, cp_44, cp_45, cp_46, cp_47, cp_48, cp_49, cp_50, cp_51, cp_52, cp_53, cp_54, cp_55, cp_56, cp_57, h1, h2, h3]
  · have b3 := b3 p (by omega)
    simp (disch := omega) only [↓nmk_e, ↓reduceIte, Option.bind_some, Option.map_some, lit, ofN, nI_add, pk_sub, pk_mul, nI_clamp, nI_leI, nI_ltI, nI_eq, pk_div, nI_an, nleT, nleF, nltT, nltF, neqT, neqF, or_false, false_or, or_self, or_true, true_or, and_self, and_true, true_and, and_false, false_and, not_true_eq_false, not_false_eq_true, f_X12_isSort, f_X12_isDay, f_X11_isSort, f_X11_isDay, inI, inP, f_X5_size, f_X5_isFull, f_X11_now, f_X2_isKind, f_X2_has, f_X3_has, f_X8_hasPage, f_X8_hasAllPages, f_X8_stands, f_X1_isPrinted, f_X1_rule, f_X9_has, f_X9_isFull, f_X12_isPage, f_X12_isVerse, sC_s, sC_n, sC_2, sN_1, sN_s, sN_n, sN_2, sS_1, sS_2, sS_s, sS_n, upd_s, upd_e, upd_n, rAt, rPut, rAdd, rSwap, rPush, rNumber, cp_0, cp_1, cp_2, cp_3, cp_4, cp_5, cp_6, cp_7, cp_8, cp_9, cp_10, cp_11, cp_12, cp_13, cp_14, cp_15, cp_16, cp_17, cp_18, cp_19, cp_20, cp_21, cp_22, cp_23, cp_24, cp_25, cp_26, cp_27, cp_28, cp_29, cp_30, cp_31, cp_32, cp_33, cp_34, cp_35, cp_36, cp_37, cp_38, cp_39, cp_40, cp_41, cp_42, cp_43, cp_44, cp_45, cp_46, cp_47, cp_48, cp_49, cp_50, cp_51, cp_52, cp_53, cp_54, cp_55, cp_56, cp_57, h1, h2, b3]
theorem l_here {y : CW} {B : Nat → Int32} {m n p e : Nat} (hB : Tx B n) (h : RAt y m B n p e) : f_X12_here y = some (B p) := by
  obtain ⟨b1, b2, b3⟩ := hB
  obtain ⟨h1, h2, h3, h4, h5, h6, h7, h8⟩ := h
  unfold f_X12_here
  by_cases c : p < n
  · have h8 := h8 p c
    simp (disch := omega) only [↓nmk_e, ↓reduceIte, Option.bind_some, Option.map_some, lit, ofN, nI_add, pk_sub, pk_mul, nI_clamp, nI_leI, nI_ltI, nI_eq, pk_div, nI_an, nleT, nleF, nltT, nltF, neqT, neqF, or_false, false_or, or_self, or_true, true_or, and_self, and_true, true_and, and_false, false_and, not_true_eq_false, not_false_eq_true, f_X12_isSort, f_X12_isDay, f_X11_isSort, f_X11_isDay, inI, inP, f_X5_size, f_X5_isFull, f_X11_now, f_X2_isKind, f_X2_has, f_X3_has, f_X8_hasPage, f_X8_hasAllPages, f_X8_stands, f_X1_isPrinted, f_X1_rule, f_X9_has, f_X9_isFull, f_X12_isPage, f_X12_isVerse, sC_s, sC_n, sC_2, sN_1, sN_s, sN_n, sN_2, sS_1, sS_2, sS_s, sS_n, upd_s, upd_e, upd_n, rAt, rPut, rAdd, rSwap, rPush, rNumber, cp_0, cp_1, cp_2, cp_3, cp_4, cp_5, cp_6, cp_7, cp_8, cp_9, cp_10, cp_11, cp_12, cp_13, cp_14, cp_15, cp_16, cp_17, cp_18, cp_19, cp_20, cp_21, cp_22, cp_23, cp_24, cp_25, cp_26, cp_27, cp_28, cp_29, cp_30, cp_31, cp_32, cp_33, cp_34, cp_35, cp_36, cp_37, cp_38, cp_39, cp_40, cp_41, cp_42, cp_43, cp_44, cp_45, cp_46, cp_47, cp_48, cp_49, cp_50, cp_51, cp_52, cp_53, cp_54, cp_55, cp_56, cp_57, h1, h2, h7, h8]
  · have b3 := b3 p (by omega)
    simp (disch := omega) only [↓nmk_e, ↓reduceIte, Option.bind_some, Option.map_some, lit, ofN, nI_add, pk_sub, pk_mul, nI_clamp, nI_leI, nI_ltI, nI_eq, pk_div, nI_an, nleT, nleF, nltT, nltF, neqT, neqF, or_false, false_or, or_self, or_true, true_or, and_self, and_true, true_and, and_false, false_and, not_true_eq_false, not_false_eq_true, f_X12_isSort, f_X12_isDay, f_X11_isSort, f_X11_isDay, inI, inP, f_X5_size, f_X5_isFull, f_X11_now, f_X2_isKind, f_X2_has, f_X3_has, f_X8_hasPage, f_X8_hasAllPages, f_X8_stands, f_X1_isPrinted, f_X1_rule, f_X9_has, f_X9_isFull, f_X12_isPage, f_X12_isVerse, sC_s, sC_n, sC_2, sN_1, sN_s, sN_n, sN_2, sS_1, sS_2, sS_s, sS_n, upd_s, upd_e, upd_n, rAt, rPut, rAdd, rSwap, rPush, rNumber, cp_0, cp_1, cp_2, cp_3, cp_4, cp_5, cp_6, cp_7, cp_8, cp_9, cp_10, cp_11, cp_12, cp_13, cp_14, cp_15, cp_16, cp_17, cp_18, cp_19, cp_20, cp_21, cp_22, cp_23, cp_24, cp_25, cp_26, cp_27, cp_28, cp_29, cp_30, cp_31, cp_32, cp_33, cp_34, cp_35, cp_36, cp_37, cp_38, cp_39, cp_40, cp_41, cp_42, cp_43, cp_44, cp_45, cp_46, cp_47, cp_48, cp_49, cp_50, cp_51, cp_52, cp_53, cp_54, cp_55, cp_56, cp_57, h1, h2, h7, b3]
theorem Tx.lt {B : Nat → Int32} {n p c : Nat} (hB : Tx B n) (hc : c < 2 ^ 31) (h : B p = nI c) : p < n := by
  refine Nat.not_le.mp fun z => ?_
  rw [hB.2.2 p z] at h
  have := congrArg Int32.toInt h
  rw [nI_toInt hc, show (-nI 1).toInt = -1 from rfl] at this
  omega
theorem Tx.or {B : Nat → Int32} {n : Nat} (hB : Tx B n) (p : Nat) : B p = -nI 1 ∨ ∃ b, b ≤ 255 ∧ B p = nI b := by
  by_cases c : p < n
  · exact .inr (hB.2.1 p c)
  · exact .inl (hB.2.2 p (by omega))
/-- the reference's must -/
theorem l_must0 {y : CW} {B : Nat → Int32} {m n p c : Nat} (hB : Tx B n) (h : RAt y m B n p 0) (e : B p = nI c) : f_X12_must y (nI c) = some (mv y 0 (p + 1)) := by
  have e1 := l_here hB h
  obtain ⟨h1, h2, h3, -⟩ := h
  unfold f_X12_must mv
  simp (disch := omega) only [↓nmk_e, ↓reduceIte, Option.bind_some, Option.map_some, lit, ofN, nI_add, pk_sub, pk_mul, nI_clamp, nI_leI, nI_ltI, nI_eq, pk_div, nI_an, nleT, nleF, nltT, nltF, neqT, neqF, or_false, false_or, or_self, or_true, true_or, and_self, and_true, true_and, and_false, false_and, not_true_eq_false, not_false_eq_true, e1, e, h2, h3, sC_s, sC_n, sC_2, sN_1, sN_s, sN_n, sN_2, sS_1, sS_2, sS_s, sS_n, upd_s, upd_e, upd_n]
theorem l_must1 {y : CW} {B : Nat → Int32} {m n p c : Nat} (hB : Tx B n) (h : RAt y m B n p 0) (e : ¬ B p = nI c) : f_X12_must y (nI c) = some (mv y 1 p) := by
  have e1 := l_here hB h
  obtain ⟨h1, h2, h3, -⟩ := h
  unfold f_X12_must mv
  simp (disch := omega) only [↓nmk_e, ↓reduceIte, Option.bind_some, Option.map_some, lit, ofN, nI_add, pk_sub, pk_mul, nI_clamp, nI_leI, nI_ltI, nI_eq, pk_div, nI_an, nleT, nleF, nltT, nltF, neqT, neqF, or_false, false_or, or_self, or_true, true_or, and_self, and_true, true_and, and_false, false_and, not_true_eq_false, not_false_eq_true, e1, e, h2, h3, sC_s, sC_n, sC_2, sN_1, sN_s, sN_n, sN_2, sS_1, sS_2, sS_s, sS_n, upd_s, upd_e, upd_n, Nat.add_zero]
theorem l_mustW {y : CW} {B : Nat → Int32} {m n p : Nat} (h : RAt y m B n p 1) (x : Int32) : f_X12_must y x = some (mv y 1 p) := by
  obtain ⟨h1, h2, h3, -⟩ := h
  unfold f_X12_must mv
  simp (disch := omega) only [↓nmk_e, ↓reduceIte, Option.bind_some, Option.map_some, lit, ofN, nI_add, pk_sub, pk_mul, nI_clamp, nI_leI, nI_ltI, nI_eq, pk_div, nI_an, nleT, nleF, nltT, nltF, neqT, neqF, or_false, false_or, or_self, or_true, true_or, and_self, and_true, true_and, and_false, false_and, not_true_eq_false, not_false_eq_true, h2, h3, sC_s, sC_n, sC_2, sN_1, sN_s, sN_n, sN_2, sS_1, sS_2, sS_s, sS_n, upd_s, upd_e, upd_n, Nat.add_zero]
/-- blanks -/
theorem l_blank {x y : CW} {B : Nat → Int32} {m n p : Nat} (hB : Tx B n) (hC : CAt x B n p) (hR : RAt y m B n p 0) : (p < n ∧ f_X10_readBlank x = (nI 1, cm x (p + 1)) ∧ f_X12_must y (nI 32) = some (mv y 0 (p + 1))) ∨ (f_X10_readBlank x = (nI 0, x) ∧ f_X12_must y (nI 32) = some (mv y 1 p)) := by
  have e1 := l_next hB hC
  have e0 := hC.1
  by_cases c : B p = nI 32
  · refine .inl ⟨hB.lt (by decide) c, ?_, l_must0 hB hR c⟩
    unfold f_X10_readBlank cm
    simp (disch := omega) only [↓nmk_e, ↓reduceIte, Option.bind_some, Option.map_some, lit, ofN, nI_add, pk_sub, pk_mul, nI_clamp, nI_leI, nI_ltI, nI_eq, pk_div, nI_an, nleT, nleF, nltT, nltF, neqT, neqF, or_false, false_or, or_self, or_true, true_or, and_self, and_true, true_and, and_false, false_and, not_true_eq_false, not_false_eq_true, e1, c, e0]
  · refine .inr ⟨?_, l_must1 hB hR c⟩
    unfold f_X10_readBlank
    simp (disch := omega) only [↓nmk_e, ↓reduceIte, Option.bind_some, Option.map_some, lit, ofN, nI_add, pk_sub, pk_mul, nI_clamp, nI_leI, nI_ltI, nI_eq, pk_div, nI_an, nleT, nleF, nltT, nltF, neqT, neqF, or_false, false_or, or_self, or_true, true_or, and_self, and_true, true_and, and_false, false_and, not_true_eq_false, not_false_eq_true, e1, c]
/-- figures -/
theorem sb_lt {a b c : Nat} (ha : a < 2 ^ 20) (hb : b < 2 ^ 20) (hc : c < 2 ^ 20) : (nI a - nI b < nI c) = (a < b + c) := by
  refine propext ?_
  rw [i_lt, Int32.toInt_sub, nI_toInt (by omega), nI_toInt (by omega), nI_toInt (by omega), Int.bmod_eq_of_le (by omega) (by omega)]
  omega
theorem sb_le {a b c : Nat} (ha : a < 2 ^ 20) (hb : b < 2 ^ 20) (hc : c < 2 ^ 20) : (nI a - nI b ≤ nI c) = (a ≤ b + c) := by
  refine propext ?_
  rw [i_le, Int32.toInt_sub, nI_toInt (by omega), nI_toInt (by omega), nI_toInt (by omega), Int.bmod_eq_of_le (by omega) (by omega)]
  omega
theorem l_figW {y : CW} {B : Nat → Int32} {m n p : Nat} (hB : Tx B n) (h : RAt y m B n p 1) (lo : Int32) : ∃ q, f_X12_figure y lo = some (q, mv y 1 p) := by
  have hm : RAt (sS y 6 (nI 1)) m B n p 1 := ⟨h.1, h.2.1, by simp (disch := omega) only [sC_s, sC_n, sC_2, sN_1, sN_s, sN_n, sN_2, sS_1, sS_2, sS_s, sS_n, upd_s, upd_e, upd_n], h.2.2.2⟩
  have e1 := l_here hB hm
  obtain ⟨h1, h2, h3, -⟩ := h
  refine ⟨?_, ?_⟩
  rotate_left
  · unfold f_X12_figure mv
    simp (disch := omega) only [↓nmk_e, ↓reduceIte, Option.bind_some, Option.map_some, lit, ofN, nI_add, pk_sub, pk_mul, nI_clamp, nI_leI, nI_ltI, nI_eq, pk_div, nI_an, nleT, nleF, nltT, nltF, neqT, neqF, or_false, false_or, or_self, or_true, true_or, and_self, and_true, true_and, and_false, false_and, not_true_eq_false, not_false_eq_true, e1, h2, h3, sC_s, sC_n, sC_2, sN_1, sN_s, sN_n, sN_2, sS_1, sS_2, sS_s, sS_n, upd_s, upd_e, upd_n]
    rfl
theorem l_fig {x y : CW} {B : Nat → Int32} {m n p lo k i : Nat} (hB : Tx B n) (hC : CAt x B n p) (hR : RAt y m B n p 0) (hl : lo ≤ 1) (hk : (k = 8 ∨ k = 9) ∧ i < 72) : (∃ v, lo ≤ v ∧ v ≤ 9 ∧ p < n ∧ B p = nI (48 + v) ∧ f_X10_readFigure x (nI lo) k (nI i) = (nI 1, cm (sC x k i (nI v)) (p + 1)) ∧ f_X12_figure y (nI lo) = some (nI v, mv y 0 (p + 1))) ∨ (f_X12_in (B p) (nI (48 + lo)) (nI 57) = nI 0 ∧ f_X10_readFigure x (nI lo) k (nI i) = (nI 0, x) ∧ ∃ q, f_X12_figure y (nI lo) = some (q, mv y 1 p)) := by
  have e1 := l_next hB hC
  have e0 := hC.1
  have f1 := l_here hB hR
  have hm : ∀ z, z ≤ 1 → RAt (sS y 6 (nI z)) m B n p z := fun z hz => ⟨hR.1, hR.2.1, by simp (disch := omega) only [sC_s, sC_n, sC_2, sN_1, sN_s, sN_n, sN_2, sS_1, sS_2, sS_s, sS_n, upd_s, upd_e, upd_n], hR.2.2.2.1, hR.2.2.2.2.1, hz, hR.2.2.2.2.2.2⟩
  have f0 := l_here hB (hm 0 (by decide))
  have f2 := l_here hB (hm 1 (by decide))
  obtain ⟨h1, h2, h3, -⟩ := hR
  have hl : lo = 0 ∨ lo = 1 := by omega
  rcases hB.or p with eB | ⟨b, hb, eB⟩
  · have n1 : -nI 1 < 0 := m1n
    have n2 : -nI 1 - nI 48 < 0 := by decide
    refine .inr ⟨by rw [eB]; exact inN n1 (by omega), ?_, ?_, ?_⟩
    · unfold f_X10_readFigure
      rcases hl with rfl | rfl <;> simp (disch := omega) only [↓nmk_e, ↓reduceIte, Option.bind_some, Option.map_some, lit, ofN, nI_add, pk_sub, pk_mul, nI_clamp, nI_leI, nI_ltI, nI_eq, pk_div, nI_an, nleT, nleF, nltT, nltF, neqT, neqF, or_false, false_or, or_self, or_true, true_or, and_self, and_true, true_and, and_false, false_and, not_true_eq_false, not_false_eq_true, e1, eB, ng1 n2]
    rotate_left
    · unfold f_X12_figure mv
      rcases hl with rfl | rfl <;> simp (disch := omega) only [↓nmk_e, ↓reduceIte, Option.bind_some, Option.map_some, lit, ofN, nI_add, pk_sub, pk_mul, nI_clamp, nI_leI, nI_ltI, nI_eq, pk_div, nI_an, nleT, nleF, nltT, nltF, neqT, neqF, or_false, false_or, or_self, or_true, true_or, and_self, and_true, true_and, and_false, false_and, not_true_eq_false, not_false_eq_true, f1, f2, eB, h2, h3, sC_s, sC_n, sC_2, sN_1, sN_s, sN_n, sN_2, sS_1, sS_2, sS_s, sS_n, upd_s, upd_e, upd_n, inN n1] <;> rfl
  · by_cases c : 48 + lo ≤ b ∧ b ≤ 57
    · refine .inl ⟨b - 48, by omega, by omega, hB.lt (by omega) eB, by rw [eB]; congr 1; omega, ?_, ?_⟩
      · have s1 : ¬ (nI b - nI 48 < nI lo) := by rw [sb_lt (by omega) (by omega) (by omega)]; omega
        have s2 : nI b - nI 48 ≤ nI 9 := by rw [sb_le (by omega) (by omega) (by omega)]; omega
        unfold f_X10_readFigure cm
        rw [e1, eB, nmk_e, if_neg (show ¬ nI b - 48 < nI lo from s1), if_pos (show nI b - 48 ≤ 9 from s2)]
        obtain ⟨hk, hi⟩ := hk
        rcases hk with rfl | rfl <;> simp (disch := omega) only [↓nmk_e, ↓reduceIte, Option.bind_some, Option.map_some, lit, ofN, nI_add, pk_sub, pk_mul, nI_clamp, nI_leI, nI_ltI, nI_eq, pk_div, nI_an, nleT, nleF, nltT, nltF, neqT, neqF, or_false, false_or, or_self, or_true, true_or, and_self, and_true, true_and, and_false, false_and, not_true_eq_false, not_false_eq_true, f_X12_isSort, f_X12_isDay, f_X11_isSort, f_X11_isDay, inI, inP, f_X5_size, f_X5_isFull, f_X11_now, f_X2_isKind, f_X2_has, f_X3_has, f_X8_hasPage, f_X8_hasAllPages, f_X8_stands, f_X1_isPrinted, f_X1_rule, f_X9_has, f_X9_isFull, f_X12_isPage, f_X12_isVerse, sC_s, sC_n, sC_2, sN_1, sN_s, sN_n, sN_2, sS_1, sS_2, sS_s, sS_n, upd_s, upd_e, upd_n, rAt, rPut, rAdd, rSwap, rPush, rNumber, cp_0, cp_1, cp_2, cp_3, cp_4, cp_5, cp_6, cp_7, cp_8, cp_9, cp_10, cp_11, cp_12, cp_13, cp_14, cp_15, cp_16, cp_17, cp_18, cp_19, cp_20, cp_21, cp_22, cp_23, cp_24, cp_25, cp_26, cp_27, cp_28, cp_29, cp_30, cp_31, cp_32, cp_33, cp_34, cp_35, cp_36, cp_37, cp_38, cp_39, cp_40, cp_41, cp_42, cp_43, cp_44, cp_45, cp_46, cp_47, cp_48, cp_49, cp_50, cp_51, cp_52, cp_53, cp_54, cp_55, cp_56, cp_57, e0]
      · unfold f_X12_figure mv
        simp (disch := omega) only [↓nmk_e, ↓reduceIte, Option.bind_some, Option.map_some, lit, ofN, nI_add, pk_sub, pk_mul, nI_clamp, nI_leI, nI_ltI, nI_eq, pk_div, nI_an, nleT, nleF, nltT, nltF, neqT, neqF, or_false, false_or, or_self, or_true, true_or, and_self, and_true, true_and, and_false, false_and, not_true_eq_false, not_false_eq_true, f1, f0, eB, h2, h3, sC_s, sC_n, sC_2, sN_1, sN_s, sN_n, sN_2, sS_1, sS_2, sS_s, sS_n, upd_s, upd_e, upd_n, inI]
    · refine .inr ⟨by rw [eB, inI (by omega) (by omega) (by omega), if_neg c], ?_, ?_, ?_⟩
      · unfold f_X10_readFigure
        rw [e1, eB, nmk_e]
        by_cases s1 : nI b - 48 < nI lo
        · rw [if_pos s1]; rfl
        · have s2 : ¬ (nI b - 48 ≤ 9) := by
            rw [show (nI b - 48 < nI lo) = (b < 48 + lo) from @sb_lt b 48 lo (by omega) (by omega) (by omega)] at s1
            rw [show (nI b - 48 ≤ 9) = (b ≤ 48 + 9) from @sb_le b 48 9 (by omega) (by omega) (by omega)]; omega
          rw [if_neg s1, if_neg s2]; rfl
      rotate_left
      · unfold f_X12_figure mv
        simp (disch := omega) only [↓nmk_e, ↓reduceIte, Option.bind_some, Option.map_some, lit, ofN, nI_add, pk_sub, pk_mul, nI_clamp, nI_leI, nI_ltI, nI_eq, pk_div, nI_an, nleT, nleF, nltT, nltF, neqT, neqF, or_false, false_or, or_self, or_true, true_or, and_self, and_true, true_and, and_false, false_and, not_true_eq_false, not_false_eq_true, f1, f2, eB, h2, h3, sC_s, sC_n, sC_2, sN_1, sN_s, sN_n, sN_2, sS_1, sS_2, sS_s, sS_n, upd_s, upd_e, upd_n, inI, c]
        rfl
