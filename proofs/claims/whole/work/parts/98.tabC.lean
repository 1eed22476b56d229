/-! the class fills its table -/
def TC (x : CW) (k w p : Nat) : Nat := tN (x.1 46 ((k * 41 + w) * 3 + p))
def TCok (x : CW) (A : CA) (z k0 : Nat) : Prop := ∀ k, k0 ≤ k → k ≤ z → ∀ w, w ≤ colN A → ∀ p, p < 3 → x.1 46 ((k * 41 + w) * 3 + p) = nI (TC x k w p) ∧ TC x k w p ≤ EE + 9
/-- what a choice brings -/
def cvl (col : Nat) (T : Nat → Nat → Nat → Nat) (k w p' : Nat) (c : CT) : Nat := if w + c.2.1 ≤ col then c.2.2 + T (k + c.1) (w + c.2.1) p' else EE
def mc (f : CT → Nat) (e0 : Nat) (cs : List CT) : Nat → Nat
  | 0 => e0
  | n + 1 => min (mc f e0 cs n) (f (cs.getD n c0T))
/-- a choice that may stand at k -/
def okCs (z : Nat) (k : Nat) (cs : List CT) : Prop := ∀ i, i < cs.length → 1 ≤ (cs.getD i c0T).1 ∧ k + (cs.getD i c0T).1 ≤ z ∧ (cs.getD i c0T).2.1 ≤ 9 ∧ (cs.getD i c0T).2.2 ≤ 81
theorem l_ugBy {x : CW} {A : CA} {z k w p i : Nat} {lt : Bool} {cs : List CT} (hcol : x.2.2 1 = nI (colN A)) (hz : z ≤ 60) (hC : CHs x cs) (h6 : x.2.2 6 = nI (if lt = true then 0 else 1)) (hok : okCs z k cs) (hT : TCok x A z (k + 1)) (hi : i < cs.length) (hw : w ≤ colN A) (hp : p < 3) (hk : k < z) : f_X6_uglyBy x (nI k) (nI w) (nI p) (nI i) = nI (cvl (colN A) (TC x) k w (if lt = true then min (p + 1) 2 else 0) (cs.getD i c0T)) ∧ cvl (colN A) (TC x) k w (if lt = true then min (p + 1) 2 else 0) (cs.getD i c0T) ≤ EE + 90 := by
  have hb := colN_b A
  obtain ⟨h1, h2, h3, h4, h5⟩ := hC
  obtain ⟨e1, e2, e3⟩ := h5 i hi
  obtain ⟨o1, o2, o3, o4⟩ := hok i hi
  generalize cs.getD i c0T = c at *
  obtain ⟨a, b, d⟩ := c
  have e1 : x.1 43 i = nI a := e1
  have e2 : x.1 44 i = nI b := e2
  have e3 : x.1 45 i = nI d := e3
  have o1 : 1 ≤ a := o1
  have o2 : k + a ≤ z := o2
  have o3 : b ≤ 9 := o3
  have o4 : d ≤ 81 := o4
  obtain ⟨p', hp', hp3⟩ : ∃ p', p' = (if lt = true then min (p + 1) 2 else 0) ∧ p' < 3 := ⟨_, rfl, by split <;> omega⟩
  have hpb : f_X6_piecesBehind x (nI p) = nI p' := by
    unfold f_X6_piecesBehind
    cases lt
    · have h6 : x.2.2 6 = nI 1 := h6
      have hp' : p' = 0 := hp'
      rw [hp']
      simp (disch := omega) only [↓nmk_e, ↓reduceIte, Option.bind_some, Option.map_some, lit, ofN, nI_add, pk_sub, pk_mul, nI_clamp, nI_leI, nI_ltI, nI_eq, pk_div, nI_an, nleT, nleF, nltT, nltF, neqT, neqF, or_false, false_or, or_self, or_true, true_or, and_self, and_true, true_and, and_false, false_and, not_true_eq_false, not_false_eq_true, f_X12_isSort, f_X12_isDay, f_X11_isSort, f_X11_isDay, inI, inP, f_X5_size, f_X5_isFull, f_X11_now, f_X2_isKind, f_X2_has, f_X3_has, f_X8_hasPage, f_X8_hasAllPages, f_X8_stands, f_X1_isPrinted, f_X1_rule, f_X9_has, f_X9_isFull, f_X12_isPage, f_X12_isVerse, sC_s, sC_n, sC_2, sN_1, sN_s, sN_n, sN_2, sS_1, sS_2, sS_s, sS_n, upd_s, upd_e, upd_n, rAt, rPut, rAdd, rSwap, rPush, rNumber, cp_0, cp_1, cp_2, cp_3, cp_4, cp_5, cp_6, cp_7, cp_8, cp_9, cp_10, cp_11, cp_12, cp_13, cp_14, cp_15, cp_16, cp_17, cp_18, cp_19, cp_20, cp_21, cp_22, cp_23, cp_24, cp_25, cp_26, cp_27, cp_28, cp_29, cp_30, cp_31, cp_32, cp_33, cp_34, cp_35, cp_36, cp_37, cp_38, cp_39, cp_40, cp_41, cp_42, cp_43, cp_44, cp_45, cp_46, cp_47, cp_48, cp_49, cp_50, cp_51, cp_52, cp_53, cp_54, cp_55, cp_56, cp_57, h6]
    · have h6 : x.2.2 6 = nI 0 := h6
      have hp' : p' = min (p + 1) 2 := hp'
      by_cases c2 : p = 2
      · subst c2
        rw [hp']
        simp (disch := omega) only [↓nmk_e, ↓reduceIte, Option.bind_some, Option.map_some, lit, ofN, nI_add, pk_sub, pk_mul, nI_clamp, nI_leI, nI_ltI, nI_eq, pk_div, nI_an, nleT, nleF, nltT, nltF, neqT, neqF, or_false, false_or, or_self, or_true, true_or, and_self, and_true, true_and, and_false, false_and, not_true_eq_false, not_false_eq_true, f_X12_isSort, f_X12_isDay, f_X11_isSort, f_X11_isDay, inI, inP, f_X5_size, f_X5_isFull, f_X11_now, f_X2_isKind, f_X2_has, f_X3_has, f_X8_hasPage, f_X8_hasAllPages, f_X8_stands, f_X1_isPrinted, f_X1_rule, f_X9_has, f_X9_isFull, f_X12_isPage, f_X12_isVerse, sC_s, sC_n, sC_2, sN_1, sN_s, sN_n, sN_2, sS_1, sS_2, sS_s, sS_n, upd_s, upd_e, upd_n, rAt, rPut, rAdd, rSwap, rPush, rNumber, cp_0, cp_1, cp_2, cp_3, cp_4, cp_5, cp_6, cp_7, cp_8, cp_9, cp_10, cp_11, cp_12, cp_13, cp_14, cp_15, cp_16, cp_17, cp_18, cp_19, cp_20, cp_21, cp_22, cp_23, cp_24, cp_25, cp_26, cp_27, cp_28, cp_29, cp_30, cp_31, cp_32, cp_33, cp_34, cp_35, cp_36, cp_37, cp_38, cp_39, cp_40, cp_41, cp_42, cp_43, cp_44, cp_45, cp_46, cp_47, cp_48, cp_49, cp_50, cp_51, cp_52, cp_53, cp_54, cp_55, cp_56, cp_57, h6]
      · have : p' = p + 1 := by omega
        rw [this]
        simp (disch := omega) only [↓nmk_e, ↓reduceIte, Option.bind_some, Option.map_some, lit, ofN, nI_add, pk_sub, pk_mul, nI_clamp, nI_leI, nI_ltI, nI_eq, pk_div, nI_an, nleT, nleF, nltT, nltF, neqT, neqF, or_false, false_or, or_self, or_true, true_or, and_self, and_true, true_and, and_false, false_and, not_true_eq_false, not_false_eq_true, f_X12_isSort, f_X12_isDay, f_X11_isSort, f_X11_isDay, inI, inP, f_X5_size, f_X5_isFull, f_X11_now, f_X2_isKind, f_X2_has, f_X3_has, f_X8_hasPage, f_X8_hasAllPages, f_X8_stands, f_X1_isPrinted, f_X1_rule, f_X9_has, f_X9_isFull, f_X12_isPage, f_X12_isVerse, sC_s, sC_n, sC_2, sN_1, sN_s, sN_n, sN_2, sS_1, sS_2, sS_s, sS_n, upd_s, upd_e, upd_n, rAt, rPut, rAdd, rSwap, rPush, rNumber, cp_0, cp_1, cp_2, cp_3, cp_4, cp_5, cp_6, cp_7, cp_8, cp_9, cp_10, cp_11, cp_12, cp_13, cp_14, cp_15, cp_16, cp_17, cp_18, cp_19, cp_20, cp_21, cp_22, cp_23, cp_24, cp_25, cp_26, cp_27, cp_28, cp_29, cp_30, cp_31, cp_32, cp_33, cp_34, cp_35, cp_36, cp_37, cp_38, cp_39, cp_40, cp_41, cp_42, cp_43, cp_44, cp_45, cp_46, cp_47, cp_48, cp_49, cp_50, cp_51, cp_52, cp_53, cp_54, cp_55, cp_56, cp_57, h6]
  rw [← hp']
  unfold cvl f_X6_uglyBy f_X6_index
  rw [hpb]
  by_cases c : w + b ≤ colN A
  · obtain ⟨t1, t2⟩ := hT (k + a) (by omega) o2 (w + b) c p' hp3
    show _ = nI (if w + b ≤ colN A then d + TC x (k + a) (w + b) p' else EE) ∧ (if w + b ≤ colN A then d + TC x (k + a) (w + b) p' else EE) ≤ _
    rw [if_pos c]
    refine ⟨?_, by omega⟩
    simp (disch := omega) only [↓nmk_e, ↓reduceIte, Option.bind_some, Option.map_some, lit, ofN, nI_add, pk_sub, pk_mul, nI_clamp, nI_leI, nI_ltI, nI_eq, pk_div, nI_an, nleT, nleF, nltT, nltF, neqT, neqF, or_false, false_or, or_self, or_true, true_or, and_self, and_true, true_and, and_false, false_and, not_true_eq_false, not_false_eq_true, f_X12_isSort, f_X12_isDay, f_X11_isSort, f_X11_isDay, inI, inP, f_X5_size, f_X5_isFull, f_X11_now, f_X2_isKind, f_X2_has, f_X3_has, f_X8_hasPage, f_X8_hasAllPages, f_X8_stands, f_X1_isPrinted, f_X1_rule, f_X9_has, f_X9_isFull, f_X12_isPage, f_X12_isVerse, sC_s, sC_n, sC_2, sN_1, sN_s, sN_n, sN_2, sS_1, sS_2, sS_s, sS_n, upd_s, upd_e, upd_n, rAt, rPut, rAdd, rSwap, rPush, rNumber, cp_0, cp_1, cp_2, cp_3, cp_4, cp_5, cp_6, cp_7, cp_8, cp_9, cp_10, cp_11, cp_12, cp_13, cp_14, cp_15, cp_16, cp_17, cp_18, cp_19, cp_20, cp_21, cp_22, cp_23, cp_24, cp_25, cp_26, cp_27, cp_28, cp_29, cp_30, cp_31, cp_32, cp_33, cp_34, cp_35, cp_36, cp_37, cp_38, cp_39, cp_40, cp_41, cp_42, cp_43, cp_44, cp_45, cp_46, cp_47, cp_48, cp_49, cp_50, cp_51, cp_52, cp_53, cp_54, cp_55, cp_56, cp_57, e1, e2, e3, hcol, t1]
  · show _ = nI (if w + b ≤ colN A then d + TC x (k + a) (w + b) p' else EE) ∧ (if w + b ≤ colN A then d + TC x (k + a) (w + b) p' else EE) ≤ _
    rw [if_neg c]
    refine ⟨?_, by omega⟩
    simp (disch := omega) only [↓nmk_e, ↓reduceIte, Option.bind_some, Option.map_some, lit, ofN, nI_add, pk_sub, pk_mul, nI_clamp, nI_leI, nI_ltI, nI_eq, pk_div, nI_an, nleT, nleF, nltT, nltF, neqT, neqF, or_false, false_or, or_self, or_true, true_or, and_self, and_true, true_and, and_false, false_and, not_true_eq_false, not_false_eq_true, f_X12_isSort, f_X12_isDay, f_X11_isSort, f_X11_isDay, inI, inP, f_X5_size, f_X5_isFull, f_X11_now, f_X2_isKind, f_X2_has, f_X3_has, f_X8_hasPage, f_X8_hasAllPages, f_X8_stands, f_X1_isPrinted, f_X1_rule, f_X9_has, f_X9_isFull, f_X12_isPage, f_X12_isVerse, sC_s, sC_n, sC_2, sN_1, sN_s, sN_n, sN_2, sS_1, sS_2, sS_s, sS_n, upd_s, upd_e, upd_n, rAt, rPut, rAdd, rSwap, rPush, rNumber, cp_0, cp_1, cp_2, cp_3, cp_4, cp_5, cp_6, cp_7, cp_8, cp_9, cp_10, cp_11, cp_12, cp_13, cp_14, cp_15, cp_16, cp_17, cp_18, cp_19, cp_20, cp_21, cp_22, cp_23, cp_24, cp_25, cp_26, cp_27, cp_28, cp_29, cp_30, cp_31, cp_32, cp_33, cp_34, cp_35, cp_36, cp_37, cp_38, cp_39, cp_40, cp_41, cp_42, cp_43, cp_44, cp_45, cp_46, cp_47, cp_48, cp_49, cp_50, cp_51, cp_52, cp_53, cp_54, cp_55, cp_56, cp_57, e2, hcol]
theorem mc_le {f : CT → Nat} {e0 : Nat} {cs : List CT} : ∀ n, mc f e0 cs n ≤ e0 := by
  intro n
  induction n with
  | zero => exact Nat.le_refl _
  | succ n ih => exact Nat.le_trans (Nat.min_le_left _ _) ih
theorem minlt_nI {a b : Nat} (ha : a < 2 ^ 31) (hb : b < 2 ^ 31) : (if nI b < nI a then nI b else nI a) = nI (min a b) := by
  by_cases c : b < a
  · rw [if_pos (nI_lt c ha), Nat.min_eq_right (by omega)]
  · rw [if_neg (nI_nlt (by omega) hb), Nat.min_eq_left (by omega)]
theorem l_lstC {x : CW} {A : CA} {z k w p e0 : Nat} {lt : Bool} {cs : List CT} (hcol : x.2.2 1 = nI (colN A)) (hz : z ≤ 60) (hC : CHs x cs) (h6 : x.2.2 6 = nI (if lt = true then 0 else 1)) (hok : okCs z k cs) (hT : TCok x A z (k + 1)) (hw : w ≤ colN A) (hp : p < 3) (hk : k < z) (he0 : e0 ≤ EE + 18) (hE : f_X6_uglyByEnd x (nI k) (nI w) (nI p) = nI e0) : f_X6_leastUgly x (nI k) (nI w) (nI p) = some (nI (mc (cvl (colN A) (TC x) k w (if lt = true then min (p + 1) 2 else 0)) e0 cs cs.length)) := by
  have hEE : EE = 1000000 := rfl
  have h4 := hC.2.2.2.1
  unfold f_X6_leastUgly
  rw [hE]
  simp only [nmk_e]
  refine run1 (fun q i m => f_X6_leastUgly_L12 x (nI k) (nI w) (nI p) q m i) (fun i m => m = nI (mc (cvl (colN A) (TC x) k w (if lt = true then min (p + 1) 2 else 0)) e0 cs i)) cs.length (fun r => r = some (nI (mc (cvl (colN A) (TC x) k w (if lt = true then min (p + 1) 2 else 0)) e0 cs cs.length))) ?_ ?_ FU 0 (nI e0) (Nat.zero_le _) (by unfold FU; omega) rfl
  · rintro q m rfl
    simp (disch := omega) only [f_X6_leastUgly_L12, ↓nmk_e, ↓reduceIte, Option.bind_some, Option.map_some, lit, ofN, nI_add, pk_sub, pk_mul, nI_clamp, nI_leI, nI_ltI, nI_eq, pk_div, nI_an, nleT, nleF, nltT, nltF, neqT, neqF, or_false, false_or, or_self, or_true, true_or, and_self, and_true, true_and, and_false, false_and, not_true_eq_false, not_false_eq_true, f_X12_isSort, f_X12_isDay, f_X11_isSort, f_X11_isDay, inI, inP, f_X5_size, f_X5_isFull, f_X11_now, f_X2_isKind, f_X2_has, f_X3_has, f_X8_hasPage, f_X8_hasAllPages, f_X8_stands, f_X1_isPrinted, f_X1_rule, f_X9_has, f_X9_isFull, f_X12_isPage, f_X12_isVerse, sC_s, sC_n, sC_2, sN_1, sN_s, sN_n, sN_2, sS_1, sS_2, sS_s, sS_n, upd_s, upd_e, upd_n, rAt, rPut, rAdd, rSwap, rPush, rNumber, cp_0, cp_1, cp_2, cp_3, cp_4, cp_5, cp_6, cp_7, cp_8, cp_9, cp_10, cp_11, cp_12, cp_13, cp_14, cp_15, cp_16, cp_17, cp_18, cp_19, cp_20, cp_21, cp_22, cp_23, cp_24, cp_25, cp_26, cp_27, cp_28, cp_29, cp_30, cp_31, cp_32, cp_33, cp_34, cp_35, cp_36, cp_37, cp_38, cp_39, cp_40, cp_41, cp_42, cp_43, cp_44, cp_45, cp_46, cp_47, cp_48, cp_49, cp_50, cp_51, cp_52, cp_53, cp_54, cp_55, cp_56, cp_57, hC.1]
  · rintro q i m hi rfl
    obtain ⟨u1, u2⟩ := l_ugBy hcol hz hC h6 hok hT hi hw hp hk
    have hm := mc_le (f := cvl (colN A) (TC x) k w (if lt = true then min (p + 1) 2 else 0)) (e0 := e0) (cs := cs) i
    refine .inr ⟨_, ?_, rfl⟩
    show _ = f_X6_leastUgly_L12 x (nI k) (nI w) (nI p) q (nI (min (mc _ e0 cs i) (cvl _ _ k w _ (cs.getD i c0T)))) _
    have s1 : ¬ f_X5_size x 43 ≤ nI i := by
      unfold f_X5_size; rw [hC.1]; exact nI_ge hi (by omega)
    rw [f_X6_leastUgly_L12, if_neg s1, u1, nmk_e, nmk_e, minlt_nI (by omega) (by omega), nI_1]
/-- these choices give the least of the table -/
theorem chs_ok {P : PP} {pw pu : Nat → Nat → Nat} {lt : Nat → Bool} {k le mo wi : Nat} (hP : okP P lt pw pu) (hkz : k < P.1) (h9 : ∀ n, pw k n ≤ 9) (h1 : lt k = true → 0 < pw k 1) (hb : le ≤ mo ∧ mo ≤ 9 ∧ wi ≤ 9) : (lt k = true → okCs P.1 k (chL pw pu k)) ∧ okCs P.1 k (chB le wi (mo + 1 - le)) := by
  obtain ⟨p1, p2, p3, p4⟩ := hP
  constructor
  · intro hl i hi
    have g1 := p2 k 1 (by decide) (by decide) (h1 hl)
    have g2 := p2 k 2 (by decide) (by decide)
    have g3 := p2 k 3 (by decide) (by decide)
    have n1 := h9 1
    have n2 := h9 2
    have n3 := h9 3
    have u2 := p3 k 2
    have u3 := p3 k 3
    unfold chL at hi ⊢
    by_cases c2 : pw k 2 = 0
    · by_cases c3 : pw k 3 = 0
      · rw [if_pos c2, if_pos c3] at hi ⊢
        have : i = 0 := by simp at hi; omega
        subst this
        exact ⟨by show 1 ≤ 1; omega, g1, n1, by show 0 ≤ 81; omega⟩
      · rw [if_pos c2, if_neg c3] at hi ⊢
        have : i = 0 ∨ i = 1 := by simp at hi; omega
        rcases this with rfl | rfl
        · exact ⟨by show 1 ≤ 3; omega, g3 (by omega), n3, by show pu k 3 ≤ 81; omega⟩
        · exact ⟨by show 1 ≤ 1; omega, g1, n1, by show 0 ≤ 81; omega⟩
    · by_cases c3 : pw k 3 = 0
      · rw [if_neg c2, if_pos c3] at hi ⊢
        have : i = 0 ∨ i = 1 := by simp at hi; omega
        rcases this with rfl | rfl
        · exact ⟨by show 1 ≤ 2; omega, g2 (by omega), n2, by show pu k 2 ≤ 81; omega⟩
        · exact ⟨by show 1 ≤ 1; omega, g1, n1, by show 0 ≤ 81; omega⟩
      · rw [if_neg c2, if_neg c3] at hi ⊢
        have : i = 0 ∨ i = 1 ∨ i = 2 := by simp at hi; omega
        rcases this with rfl | rfl | rfl
        · exact ⟨by show 1 ≤ 3; omega, g3 (by omega), n3, by show pu k 3 ≤ 81; omega⟩
        · exact ⟨by show 1 ≤ 2; omega, g2 (by omega), n2, by show pu k 2 ≤ 81; omega⟩
        · exact ⟨by show 1 ≤ 1; omega, g1, n1, by show 0 ≤ 81; omega⟩
  · have key : ∀ n, n ≤ mo + 1 - le → okCs P.1 k (chB le wi n) := by
      intro n
      induction n with
      | zero => intro _ i hi; exact absurd hi (Nat.not_lt_zero i)
      | succ n ih =>
        intro hn i hi
        have hi : i < (chB le wi n ++ [(1, le + n, wi * n)]).length := hi
        rw [List.length_append] at hi
        have hi : i < (chB le wi n).length + 1 := hi
        show 1 ≤ ((chB le wi n ++ [(1, le + n, wi * n)]).getD i c0T).1 ∧ k + ((chB le wi n ++ [(1, le + n, wi * n)]).getD i c0T).1 ≤ P.1 ∧ ((chB le wi n ++ [(1, le + n, wi * n)]).getD i c0T).2.1 ≤ 9 ∧ ((chB le wi n ++ [(1, le + n, wi * n)]).getD i c0T).2.2 ≤ 81
        rw [getD_app _ _ i hi]
        by_cases c : i = (chB le wi n).length
        · rw [if_pos c]
          have : wi * n ≤ 9 * 9 := Nat.mul_le_mul hb.2.2 (by omega)
          exact ⟨by show 1 ≤ 1; omega, by show k + 1 ≤ _; omega, by show le + n ≤ 9; omega, by show wi * n ≤ 81; omega⟩
        · rw [if_neg c]
          exact ih (by omega) i (by omega)
    exact key _ (Nat.le_refl _)
theorem mc_chL {P : PP} {pw pu : Nat → Nat → Nat} {T : Nat → Nat → Nat → Nat} {k w p e0 : Nat} (he : e0 ≤ EE + 18) (h1 : 0 < pw k 1) (hu1 : pu k 1 = 0) : mc (cvl P.2.1 T k w (min (p + 1) 2)) e0 (chL pw pu k) (chL pw pu k).length = min (min (min e0 (cuC P pw pu T k 3 w p)) (cuC P pw pu T k 2 w p)) (cuC P pw pu T k 1 w p) := by
  have hEE : EE = 1000000 := rfl
  have e : ∀ n, ¬ pw k n = 0 → cvl P.2.1 T k w (min (p + 1) 2) (n, pw k n, pu k n) = cuC P pw pu T k n w p := fun n c => by
    unfold cuC; rw [if_neg c]; rfl
  have e1 := e 1 (by omega)
  rw [hu1] at e1
  unfold chL
  by_cases c2 : pw k 2 = 0
  · have z2 : cuC P pw pu T k 2 w p = 2 * EE := if_pos c2
    by_cases c3 : pw k 3 = 0
    · have z3 : cuC P pw pu T k 3 w p = 2 * EE := if_pos c3
      rw [if_pos c2, if_pos c3, z2, z3]
      show min e0 (cvl P.2.1 T k w (min (p + 1) 2) (1, pw k 1, 0)) = _
      rw [e1]; omega
    · rw [if_pos c2, if_neg c3, z2]
      show min (min e0 (cvl P.2.1 T k w (min (p + 1) 2) (3, pw k 3, pu k 3))) (cvl P.2.1 T k w (min (p + 1) 2) (1, pw k 1, 0)) = _
      rw [e1, e 3 c3]; omega
  · by_cases c3 : pw k 3 = 0
    · have z3 : cuC P pw pu T k 3 w p = 2 * EE := if_pos c3
      rw [if_neg c2, if_pos c3, z3]
      show min (min e0 (cvl P.2.1 T k w (min (p + 1) 2) (2, pw k 2, pu k 2))) (cvl P.2.1 T k w (min (p + 1) 2) (1, pw k 1, 0)) = _
      rw [e1, e 2 c2]; omega
    · rw [if_neg c2, if_neg c3]
      show min (min (min e0 (cvl P.2.1 T k w (min (p + 1) 2) (3, pw k 3, pu k 3))) (cvl P.2.1 T k w (min (p + 1) 2) (2, pw k 2, pu k 2))) (cvl P.2.1 T k w (min (p + 1) 2) (1, pw k 1, 0)) = _
      rw [e1, e 2 c2, e 3 c3]
theorem mc_app {f : CT → Nat} {e0 : Nat} {cs : List CT} {c : CT} : ∀ n, n ≤ cs.length → mc f e0 (cs ++ [c]) n = mc f e0 cs n := by
  intro n
  induction n with
  | zero => intro _; rfl
  | succ n ih =>
    intro hn
    show min (mc f e0 (cs ++ [c]) n) (f ((cs ++ [c]).getD n c0T)) = min (mc f e0 cs n) (f (cs.getD n c0T))
    rw [ih (by omega), getD_app cs c n (by omega), if_neg (by omega)]
theorem mc_chB {P : PP} {T : Nat → Nat → Nat → Nat} {k w e0 le wi : Nat} (hle : P.2.2.1 = le) (hwi : P.2.2.2.2.2.1 = wi) (he : e0 ≤ EE) : ∀ n, mc (cvl P.2.1 T k w 0) e0 (chB le wi n) n = min e0 (mf (fun i => cbC P T k w (le + i)) n) := by
  intro n
  induction n with
  | zero => show e0 = min e0 EE; omega
  | succ n ih =>
    show min (mc _ e0 (chB le wi n ++ [(1, le + n, wi * n)]) n) (cvl P.2.1 T k w 0 ((chB le wi n ++ [(1, le + n, wi * n)]).getD n c0T)) = min e0 (min (mf _ n) (cbC P T k w (le + n)))
    rw [mc_app n (by rw [chB_len]; exact Nat.le_refl _), ih, getD_app _ _ n (by rw [chB_len]; omega), if_pos (chB_len le wi n).symm]
    have e : cvl P.2.1 T k w 0 (1, le + n, wi * n) = cbC P T k w (le + n) := by
      unfold cbC
      rw [hle, hwi, Nat.add_sub_cancel_left]; rfl
    rw [e, Nat.min_assoc]
