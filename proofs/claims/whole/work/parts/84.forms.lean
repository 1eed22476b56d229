/-! forms as a map -/
abbrev FM : Type := Int32 → Option (Int32 × Int32)
def putM (M : FM) (k w u : Int32) : FM := fun q => if q = k then some (w, u) else M q
def barM (M : FM) (k : Int32) : FM := fun q => if q = k then none else M q
def Mp (K W U : Nat → Int32) (f : Nat) (M : FM) : Prop := (∀ i j, i < f → j < f → K i = K j → i = j) ∧ ∀ k w u, M k = some (w, u) ↔ ∃ i, i < f ∧ K i = k ∧ W i = w ∧ U i = u
theorem Mp_none {K W U : Nat → Int32} {f : Nat} {M : FM} (h : Mp K W U f M) (k : Int32) : M k = none ↔ ∀ i, i < f → K i ≠ k := by
  constructor
  · intro z i hi e
    have := (h.2 k (W i) (U i)).mpr ⟨i, hi, e, rfl, rfl⟩
    rw [z] at this; cases this
  · intro z
    cases e : M k with
    | none => rfl
    | some p =>
      obtain ⟨w, u⟩ := p
      obtain ⟨i, hi, h1, -⟩ := (h.2 k w u).mp e
      exact absurd h1 (z i hi)
theorem Mp_some {K W U : Nat → Int32} {f i : Nat} {M : FM} (h : Mp K W U f M) (hi : i < f) : M (K i) = some (W i, U i) := (h.2 _ _ _).mpr ⟨i, hi, rfl, rfl, rfl⟩
theorem barM_none {M : FM} {k : Int32} (h : M k = none) : barM M k = M := by
  funext q
  unfold barM
  by_cases c : q = k
  · rw [if_pos c, c, h]
  · rw [if_neg c]
theorem put_bar (M : FM) (k w u : Int32) : putM (barM M k) k w u = putM M k w u := by
  funext q
  unfold putM barM
  by_cases c : q = k
  · rw [if_pos c, if_pos c]
  · rw [if_neg c, if_neg c, if_neg c]
theorem Mp_new {K W U : Nat → Int32} {f : Nat} {M : FM} (h : Mp K W U f M) {k : Int32} (hk : M k = none) (w u : Int32) : Mp (upd K f k) (upd W f w) (upd U f u) (f + 1) (putM M k w u) := by
  have hn := (Mp_none h k).mp hk
  refine ⟨fun i j hi hj e => ?_, fun q w' u' => ?_⟩
  · by_cases ci : i = f
    · by_cases cj : j = f
      · omega
      · rw [ci, upd_s, upd_n _ _ cj] at e
        exact absurd e.symm (hn j (by omega))
    · by_cases cj : j = f
      · rw [cj, upd_s, upd_n _ _ ci] at e
        exact absurd e (hn i (by omega))
      · rw [upd_n _ _ ci, upd_n _ _ cj] at e
        exact h.1 i j (by omega) (by omega) e
  · unfold putM
    by_cases c : q = k
    · rw [if_pos c]
      constructor
      · intro e
        cases e
        exact ⟨f, by omega, by rw [upd_s, c], by rw [upd_s], by rw [upd_s]⟩
      · rintro ⟨i, hi, e1, e2, e3⟩
        by_cases ci : i = f
        · rw [ci, upd_s] at e2 e3
          rw [e2, e3]
        · rw [upd_n _ _ ci, c] at e1
          exact absurd e1 (hn i (by omega))
    · rw [if_neg c, h.2]
      constructor
      · rintro ⟨i, hi, e1, e2, e3⟩
        exact ⟨i, by omega, by rw [upd_n _ _ (by omega)]; exact e1, by rw [upd_n _ _ (by omega)]; exact e2, by rw [upd_n _ _ (by omega)]; exact e3⟩
      · rintro ⟨i, hi, e1, e2, e3⟩
        by_cases ci : i = f
        · rw [ci, upd_s] at e1
          exact absurd e1.symm c
        · rw [upd_n _ _ ci] at e1 e2 e3
          exact ⟨i, by omega, e1, e2, e3⟩
theorem Mp_old {K W U : Nat → Int32} {f i : Nat} {M : FM} (h : Mp K W U f M) (hi : i < f) (w u : Int32) : Mp K (upd W i w) (upd U i u) f (putM M (K i) w u) := by
  refine ⟨h.1, fun q w' u' => ?_⟩
  unfold putM
  by_cases c : q = K i
  · rw [if_pos c]
    constructor
    · intro e
      cases e
      exact ⟨i, hi, c.symm, by rw [upd_s], by rw [upd_s]⟩
    · rintro ⟨j, hj, e1, e2, e3⟩
      have := h.1 i j hi hj (by rw [e1, c])
      subst this
      rw [upd_s] at e2 e3
      rw [e2, e3]
  · rw [if_neg c, h.2]
    constructor
    · rintro ⟨j, hj, e1, e2, e3⟩
      have : j ≠ i := fun z => c (by rw [← e1, z])
      exact ⟨j, hj, e1, by rw [upd_n _ _ this]; exact e2, by rw [upd_n _ _ this]; exact e3⟩
    · rintro ⟨j, hj, e1, e2, e3⟩
      have : j ≠ i := fun z => c (by rw [← e1, z])
      rw [upd_n _ _ this] at e2 e3
      exact ⟨j, hj, e1, e2, e3⟩
theorem Mp_swap {K W U : Nat → Int32} {f i : Nat} {M : FM} (h : Mp K W U (f + 1) M) (hi : i < f + 1) : Mp (upd K i (K f)) (upd W i (W f)) (upd U i (U f)) f (barM M (K i)) := by
  have e0 : ∀ (X : Nat → Int32) j, upd X i (X f) j = X (if j = i then f else j) := fun X j => by
    by_cases c : j = i
    · rw [if_pos c, c, upd_s]
    · rw [if_neg c, upd_n _ _ c]
  refine ⟨fun a b ha hb e => ?_, fun q w' u' => ?_⟩
  · rw [e0, e0] at e
    have := h.1 _ _ (by split <;> omega) (by split <;> omega) e
    by_cases c1 : a = i
    · by_cases c2 : b = i
      · omega
      · rw [if_pos c1, if_neg c2] at this; omega
    · by_cases c2 : b = i
      · rw [if_neg c1, if_pos c2] at this; omega
      · rw [if_neg c1, if_neg c2] at this; exact this
  · unfold barM
    by_cases c : q = K i
    · rw [if_pos c]
      constructor
      · intro e; cases e
      · rintro ⟨j, hj, e1, -⟩
        rw [e0] at e1
        have := h.1 (if j = i then f else j) i (by split <;> omega) hi (by rw [e1, c])
        by_cases c2 : j = i
        · rw [if_pos c2] at this; omega
        · rw [if_neg c2] at this; exact absurd this c2
    · rw [if_neg c, h.2]
      constructor
      · rintro ⟨j, hj, e1, e2, e3⟩
        have hji : j ≠ i := fun z => c (by rw [← e1, z])
        by_cases cf : j = f
        · exact ⟨i, by omega, by rw [upd_s, ← cf]; exact e1, by rw [upd_s, ← cf]; exact e2, by rw [upd_s, ← cf]; exact e3⟩
        · exact ⟨j, by omega, by rw [upd_n _ _ hji]; exact e1, by rw [upd_n _ _ hji]; exact e2, by rw [upd_n _ _ hji]; exact e3⟩
      · rintro ⟨j, hj, e1, e2, e3⟩
        rw [e0] at e1 e2 e3
        exact ⟨(if j = i then f else j), by split <;> omega, e1, e2, e3⟩
/-- the class's and the reference's forms -/
def CMp (x : CW) (f : Nat) (M : FM) : Prop := x.2.1 37 = nI f ∧ f ≤ 72 ∧ Mp (x.1 37) (x.1 38) (x.1 39) f M
def RMp (y : CW) (f : Nat) (M : FM) : Prop := y.2.2 13 = nI f ∧ f ≤ 72 ∧ Mp (y.1 4) (y.1 5) (y.1 6) f M
/-- what the class writes as it gathers -/
def CFr (x x' : CW) : Prop := (∀ k, k ≠ 37 → k ≠ 38 → k ≠ 39 → x'.1 k = x.1 k) ∧ (∀ k, k ≠ 37 → x'.2.1 k = x.2.1 k) ∧ ∀ k, (k < 1 ∨ 5 < k) → x'.2.2 k = x.2.2 k
def RFr (y y' : CW) : Prop := (∀ k, (k < 2 ∨ 7 < k) → y'.1 k = y.1 k) ∧ y'.2.1 = y.2.1 ∧ ∀ k, k ≠ 13 → y'.2.2 k = y.2.2 k
theorem CFr.refl (x : CW) : CFr x x := ⟨fun _ _ _ _ => rfl, fun _ _ => rfl, fun _ _ => rfl⟩
theorem RFr.refl (x : CW) : RFr x x := ⟨fun _ _ => rfl, rfl, fun _ _ => rfl⟩
theorem CFr.trans {a b c : CW} (h : CFr a b) (h' : CFr b c) : CFr a c := ⟨fun k x y z => (h'.1 k x y z).trans (h.1 k x y z), fun k x => (h'.2.1 k x).trans (h.2.1 k x), fun k x => (h'.2.2 k x).trans (h.2.2 k x)⟩
theorem RFr.trans {a b c : CW} (h : RFr a b) (h' : RFr b c) : RFr a c := ⟨fun k x => (h'.1 k x).trans (h.1 k x), h'.2.1.trans h.2.1, fun k x => (h'.2.2 k x).trans (h.2.2 k x)⟩
theorem l_putC {x : CW} {f : Nat} {M : FM} (h : CMp x f M) (hf : f < 72) (k w u : Int32) : CMp (f_X0_putForm x k w u) (if M k = none then f + 1 else f) (putM M k w u) ∧ CFr x (f_X0_putForm x k w u) ∧ (f_X0_putForm x k w u).2.2 = x.2.2 := by
  obtain ⟨h1, h2, h3⟩ := h
  rcases ixOf k h1 (show f ≤ 72 by omega) with ⟨e, hn⟩ | ⟨i, hi, e1, -, e⟩
  · have hM := (Mp_none h3 k).mpr hn
    rw [if_pos hM]
    have e : rIndexOf x 37 k = -nI 1 := e
    have hm : ¬ nI 0 ≤ -nI 1 := by decide
    have eq : f_X0_putForm x k w u = sC (sC (sN (sC x 37 f k) 37 (nI (f + 1))) 38 f w) 39 f u := by
      unfold f_X0_putForm
      simp (disch := omega) only [↓nmk_e, ↓reduceIte, Option.bind_some, Option.map_some, lit, ofN, nI_add, pk_sub, pk_mul, nI_clamp, nI_leI, nI_ltI, nI_eq, pk_div, nI_an, nleT, nleF, nltT, nltF, neqT, neqF, or_false, false_or, or_self, or_true, true_or, and_self, and_true, true_and, and_false, false_and, not_true_eq_false, not_false_eq_true, f_X12_isSort, f_X12_isDay, f_X11_isSort, f_X11_isDay, inI, inP, f_X5_size, f_X5_isFull, f_X11_now, f_X2_isKind, f_X2_has, f_X3_has, f_X8_hasPage, f_X8_hasAllPages, f_X8_stands, f_X1_isPrinted, f_X1_rule, f_X9_has, f_X9_isFull, f_X12_isPage, f_X12_isVerse, sC_s, sC_n, sC_2, sN_1, sN_s, sN_n, sN_2, sS_1, sS_2, sS_s, sS_n, upd_s, upd_e, upd_n, rAt, rPut, rAdd, rSwap, rPush, rNumber, cp_0, cp_1, cp_2, cp_3, cp_4, cp_5, cp_6, cp_7, cp_8, cp_9, cp_10, cp_11, cp_12, cp_13, cp_14, cp_15, cp_16, cp_17, cp_18, cp_19, cp_20, cp_21, cp_22, cp_23, cp_24, cp_25, cp_26, cp_27, cp_28, cp_29, cp_30, cp_31, cp_32, cp_33, cp_34, cp_35, cp_36, cp_37, cp_38, cp_39, cp_40, cp_41, cp_42, cp_43, cp_44, cp_45, cp_46, cp_47, cp_48, cp_49, cp_50, cp_51, cp_52, cp_53, cp_54, cp_55, cp_56, cp_57, e, hm, h1]
    rw [eq]
    refine ⟨⟨?_, by omega, ?_⟩, ⟨fun k k1 k2 k3 => ?_, fun k k1 => ?_, fun k _ => rfl⟩, rfl⟩
    · simp (disch := omega) only [sC_s, sC_n, sC_2, sN_1, sN_s, sN_n, sN_2, sS_1, sS_2, sS_s, sS_n, upd_s, upd_e, upd_n]
    · have := Mp_new h3 hM w u
      simp (disch := omega) only [sC_s, sC_n, sC_2, sN_1, sN_s, sN_n, sN_2, sS_1, sS_2, sS_s, sS_n, upd_s, upd_e, upd_n]
      exact this
    · simp (disch := omega) only [sC_s, sC_n, sC_2, sN_1, sN_s, sN_n, sN_2, sS_1, sS_2, sS_s, sS_n, upd_s, upd_e, upd_n]
    · simp (disch := omega) only [sC_s, sC_n, sC_2, sN_1, sN_s, sN_n, sN_2, sS_1, sS_2, sS_s, sS_n, upd_s, upd_e, upd_n]
  · have hM : ¬ M k = none := fun z => absurd e1 ((Mp_none h3 k).mp z i hi)
    rw [if_neg hM]
    have eq : f_X0_putForm x k w u = sC (sC x 38 i w) 39 i u := by
      unfold f_X0_putForm
      simp (disch := omega) only [↓nmk_e, ↓reduceIte, Option.bind_some, Option.map_some, lit, ofN, nI_add, pk_sub, pk_mul, nI_clamp, nI_leI, nI_ltI, nI_eq, pk_div, nI_an, nleT, nleF, nltT, nltF, neqT, neqF, or_false, false_or, or_self, or_true, true_or, and_self, and_true, true_and, and_false, false_and, not_true_eq_false, not_false_eq_true, f_X12_isSort, f_X12_isDay, f_X11_isSort, f_X11_isDay, inI, inP, f_X5_size, f_X5_isFull, f_X11_now, f_X2_isKind, f_X2_has, f_X3_has, f_X8_hasPage, f_X8_hasAllPages, f_X8_stands, f_X1_isPrinted, f_X1_rule, f_X9_has, f_X9_isFull, f_X12_isPage, f_X12_isVerse, sC_s, sC_n, sC_2, sN_1, sN_s, sN_n, sN_2, sS_1, sS_2, sS_s, sS_n, upd_s, upd_e, upd_n, rAt, rPut, rAdd, rSwap, rPush, rNumber, cp_0, cp_1, cp_2, cp_3, cp_4, cp_5, cp_6, cp_7, cp_8, cp_9, cp_10, cp_11, cp_12, cp_13, cp_14, cp_15, cp_16, cp_17, cp_18, cp_19, cp_20, cp_21, cp_22, cp_23, cp_24, cp_25, cp_26, cp_27, cp_28, cp_29, cp_30, cp_31, cp_32, cp_33, cp_34, cp_35, cp_36, cp_37, cp_38, cp_39, cp_40, cp_41, cp_42, cp_43, cp_44, cp_45, cp_46, cp_47, cp_48, cp_49, cp_50, cp_51, cp_52, cp_53, cp_54, cp_55, cp_56, cp_57, e]
    rw [eq]
    refine ⟨⟨h1, h2, ?_⟩, ⟨fun k k1 k2 k3 => ?_, fun k k1 => rfl, fun k _ => rfl⟩, rfl⟩
    · have := Mp_old h3 hi w u
      rw [e1] at this
      simp (disch := omega) only [sC_s, sC_n, sC_2, sN_1, sN_s, sN_n, sN_2, sS_1, sS_2, sS_s, sS_n, upd_s, upd_e, upd_n]
      exact this
    · simp (disch := omega) only [sC_s, sC_n, sC_2, sN_1, sN_s, sN_n, sN_2, sS_1, sS_2, sS_s, sS_n, upd_s, upd_e, upd_n]
theorem l_barC {x : CW} {f : Nat} {M : FM} (h : CMp x f M) (k : Int32) : CMp (f_X0_barForm x k) (if M k = none then f else f - 1) (barM M k) ∧ CFr x (f_X0_barForm x k) ∧ (f_X0_barForm x k).2.2 = x.2.2 := by
  obtain ⟨h1, h2, h3⟩ := h
  rcases ixOf k h1 (show f ≤ 72 by omega) with ⟨e, hn⟩ | ⟨i, hi, e1, -, e⟩
  · have hM := (Mp_none h3 k).mpr hn
    rw [if_pos hM, barM_none hM]
    have e : rIndexOf x 37 k = -nI 1 := e
    have hm : ¬ nI 0 ≤ -nI 1 := by decide
    have eq : f_X0_barForm x k = x := by
      unfold f_X0_barForm
      simp (disch := omega) only [↓nmk_e, ↓reduceIte, Option.bind_some, Option.map_some, lit, ofN, nI_add, pk_sub, pk_mul, nI_clamp, nI_leI, nI_ltI, nI_eq, pk_div, nI_an, nleT, nleF, nltT, nltF, neqT, neqF, or_false, false_or, or_self, or_true, true_or, and_self, and_true, true_and, and_false, false_and, not_true_eq_false, not_false_eq_true, f_X12_isSort, f_X12_isDay, f_X11_isSort, f_X11_isDay, inI, inP, f_X5_size, f_X5_isFull, f_X11_now, f_X2_isKind, f_X2_has, f_X3_has, f_X8_hasPage, f_X8_hasAllPages, f_X8_stands, f_X1_isPrinted, f_X1_rule, f_X9_has, f_X9_isFull, f_X12_isPage, f_X12_isVerse, sC_s, sC_n, sC_2, sN_1, sN_s, sN_n, sN_2, sS_1, sS_2, sS_s, sS_n, upd_s, upd_e, upd_n, rAt, rPut, rAdd, rSwap, rPush, rNumber, cp_0, cp_1, cp_2, cp_3, cp_4, cp_5, cp_6, cp_7, cp_8, cp_9, cp_10, cp_11, cp_12, cp_13, cp_14, cp_15, cp_16, cp_17, cp_18, cp_19, cp_20, cp_21, cp_22, cp_23, cp_24, cp_25, cp_26, cp_27, cp_28, cp_29, cp_30, cp_31, cp_32, cp_33, cp_34, cp_35, cp_36, cp_37, cp_38, cp_39, cp_40, cp_41, cp_42, cp_43, cp_44, cp_45, cp_46, cp_47, cp_48, cp_49, cp_50, cp_51, cp_52, cp_53, cp_54, cp_55, cp_56, cp_57, e, hm]
    rw [eq]
    exact ⟨⟨h1, h2, h3⟩, CFr.refl x, rfl⟩
  · have hM : ¬ M k = none := fun z => absurd e1 ((Mp_none h3 k).mp z i hi)
    rw [if_neg hM]
    obtain ⟨g, rfl⟩ : ∃ g, f = g + 1 := ⟨f - 1, by omega⟩
    have eq : f_X0_barForm x k = sN (sC (sC (sC x 37 i (x.1 37 g)) 38 i (x.1 38 g)) 39 i (x.1 39 g)) 37 (nI g) := by
      unfold f_X0_barForm
      simp (disch := omega) only [↓nmk_e, ↓reduceIte, Option.bind_some, Option.map_some, lit, ofN, nI_add, pk_sub, pk_mul, nI_clamp, nI_leI, nI_ltI, nI_eq, pk_div, nI_an, nleT, nleF, nltT, nltF, neqT, neqF, or_false, false_or, or_self, or_true, true_or, and_self, and_true, true_and, and_false, false_and, not_true_eq_false, not_false_eq_true, f_X12_isSort, f_X12_isDay, f_X11_isSort, f_X11_isDay, inI, inP, f_X5_size, f_X5_isFull, f_X11_now, f_X2_isKind, f_X2_has, f_X3_has, f_X8_hasPage, f_X8_hasAllPages, f_X8_stands, f_X1_isPrinted, f_X1_rule, f_X9_has, f_X9_isFull, f_X12_isPage, f_X12_isVerse, sC_s, sC_n, sC_2, sN_1, sN_s, sN_n, sN_2, sS_1, sS_2, sS_s, sS_n, upd_s, upd_e, upd_n, rAt, rPut, rAdd, rSwap, rPush, rNumber, cp_0, cp_1, cp_2, cp_3, cp_4, cp_5, cp_6, cp_7, cp_8, cp_9, cp_10, cp_11, cp_12, cp_13, cp_14, cp_15, cp_16, cp_17, cp_18, cp_19, cp_20, cp_21, cp_22, cp_23, cp_24, cp_25, cp_26, cp_27, cp_28, cp_29, cp_30, cp_31, cp_32, cp_33, cp_34, cp_35, cp_36, cp_37, cp_38, cp_39, cp_40, cp_41, cp_42, cp_43, cp_44, cp_45, cp_46, cp_47, cp_48, cp_49, cp_50, cp_51, cp_52, cp_53, cp_54, cp_55, cp_56, cp_57, e, h1, f_X5_shorten, Nat.add_sub_cancel]
    rw [eq, Nat.add_sub_cancel]
    refine ⟨⟨?_, by omega, ?_⟩, ⟨fun k k1 k2 k3 => ?_, fun k k1 => ?_, fun k _ => rfl⟩, rfl⟩
    · simp (disch := omega) only [sC_s, sC_n, sC_2, sN_1, sN_s, sN_n, sN_2, sS_1, sS_2, sS_s, sS_n, upd_s, upd_e, upd_n]
    · have := Mp_swap h3 hi
      rw [e1] at this
      simp (disch := omega) only [sC_s, sC_n, sC_2, sN_1, sN_s, sN_n, sN_2, sS_1, sS_2, sS_s, sS_n, upd_s, upd_e, upd_n]
      exact this
    · simp (disch := omega) only [sC_s, sC_n, sC_2, sN_1, sN_s, sN_n, sN_2, sS_1, sS_2, sS_s, sS_n, upd_s, upd_e, upd_n]
    · simp (disch := omega) only [sC_s, sC_n, sC_2, sN_1, sN_s, sN_n, sN_2, sS_1, sS_2, sS_s, sS_n, upd_s, upd_e, upd_n]
