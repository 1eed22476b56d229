/-! the class's table: all of it -/
def PlF (k : Nat) (x u : CW) : Prop := SFr x u ∧ (∀ a, a < 43 → u.1 a = x.1 a) ∧ ∀ i, 123 * (k + 1) ≤ i → u.1 46 i = x.1 46 i
theorem PlF.fnd {k : Nat} {x u : CW} (h : PlF k x u) {z m : Nat} {ch : Nat → Nat} {A : CA} (hF : Fnd x z ch A m) : Fnd u z ch A m := fun j hj => by
  obtain ⟨f1, f2⟩ := hF j hj
  rw [h.2.1 41 (by decide), h.2.1 42 (by decide)]
  exact ⟨f1.f h.1, f2.f h.1⟩
theorem l_place {x : CW} {z k : Nat} {ch WD : Nat → Nat} {A : CA} (h : EnvC x z ch WD A) (hFn : Fnd x z ch A z) (hk : k ≤ z) (hT : TCok x A z (k + 1)) (hN : k < z → TC x (k + 1) 0 0 ≤ EE) : ∃ x', f_X6_reckonPlace x (nI k) = some x' ∧ PlF k x x' ∧ DoneC x' z ch WD A k 3 0 := by
  have hz := h.2.1
  have h40 := h.2.2.1
  obtain ⟨x1, e1, e2, e3⟩ := l_list h hk
  have e46 : x1.1 46 = x.1 46 := e2.1 46 (by decide)
  have hE1 := h.f e2.s
  have hT1 : TCok x1 A z (k + 1) := hT.w (fun i _ => by rw [e46])
  have hN1 : k < z → TC x1 (k + 1) 0 0 ≤ EE := fun c => by
    have := hN c
    unfold TC at this ⊢
    rw [e46]; exact this
  have F1 : PlF k x x1 := ⟨e2.s, fun a ha => e2.1 a (by omega), fun i _ => by rw [e46]⟩
  obtain ⟨x16, h16⟩ : ∃ x16, x16 = nI (if k < z then 0 else 1) := ⟨_, rfl⟩
  have key : ∃ x', f_X6_reckonPlace_L24 (nI k) x16 FU (nI 0) x1 = some x' ∧ RowF k x1 x' ∧ DoneC x' z ch WD A k 3 0 := by
    refine run1 (fun q i u => f_X6_reckonPlace_L24 (nI k) x16 q i u) (fun i u => RowF k x1 u ∧ DoneC u z ch WD A k i 0) 3 (fun r => ∃ x', r = some x' ∧ RowF k x1 x' ∧ DoneC x' z ch WD A k 3 0) ?_ ?_ FU 0 x1 (Nat.zero_le _) (by unfold FU; omega) ⟨RowF.refl k x1, fun w p' _ _ hh => by omega⟩
    · rintro q u ⟨hF, hd⟩
      refine ⟨u, ?_, hF, hd⟩
      simp (disch := omega) only [f_X6_reckonPlace_L24, ↓nmk_e, ↓reduceIte, Option.bind_some, Option.map_some, lit, ofN, nI_add, pk_sub, pk_mul, nI_clamp, nI_leI, nI_ltI, nI_eq, pk_div, nI_an, nleT, nleF, nltT, nltF, neqT, neqF, or_false, false_or, or_self, or_true, true_or, and_self, and_true, true_and, and_false, false_and, not_true_eq_false, not_false_eq_true, f_X12_isSort, f_X12_isDay, f_X11_isSort, f_X11_isDay, inI, inP, f_X5_size, f_X5_isFull, f_X11_now, f_X2_isKind, f_X2_has, f_X3_has, f_X8_hasPage, f_X8_hasAllPages, f_X8_stands, f_X1_isPrinted, f_X1_rule, f_X9_has, f_X9_isFull, f_X12_isPage, f_X12_isVerse, sC_s, sC_n, sC_2, sN_1, sN_s, sN_n, sN_2, sS_1, sS_2, sS_s, sS_n, upd_s, upd_e, upd_n, rAt, rPut, rAdd, rSwap, rPush, rNumber, cp_0, cp_1, cp_2, cp_3, cp_4, cp_5, cp_6, cp_7, cp_8, cp_9, cp_10, cp_11, cp_12, cp_13, cp_14, cp_15, cp_16, cp_17, cp_18, cp_19, cp_20, cp_21, cp_22, cp_23, cp_24, cp_25, cp_26, cp_27, cp_28, cp_29, cp_30, cp_31, cp_32, cp_33, cp_34, cp_35, cp_36, cp_37, cp_38, cp_39, cp_40, cp_41, cp_42, cp_43, cp_44, cp_45, cp_46, cp_47, cp_48, cp_49, cp_50, cp_51, cp_52, cp_53, cp_54, cp_55, cp_56, cp_57]
    · rintro q p u hp ⟨hF, hd⟩
      have hE := hE1.f hF.s
      obtain ⟨y, y1, y2, y3⟩ := l_L32 (x16 := x16) (p := p) hE hk h16 (fun c => by
        obtain ⟨c1, c2⟩ := e3 hFn c
        refine ⟨?_, by rw [hF.2.1]; exact c2⟩
        obtain ⟨y1, y2, y3, y4, y5⟩ := c1
        refine ⟨by rw [hF.2.1]; exact y1, by rw [hF.2.1]; exact y2, by rw [hF.2.1]; exact y3, y4, ?_⟩
        rw [hF.1 43 (by decide), hF.1 44 (by decide), hF.1 45 (by decide)]
        exact y5) (hT1.w hF.2.2) (fun c => by rw [TC_eq hF.2.2 (k + 1) (by omega)]; exact hN1 c) hp hd
      refine .inr ⟨y, ?_, hF.trans y2, y3⟩
      have s1 : ¬ (3 : Int32) ≤ nI p := fun c3 => nI_ge hp (by decide) c3
      show f_X6_reckonPlace_L24 (nI k) x16 (q + 1) (nI p) u = _
      rw [f_X6_reckonPlace_L24, if_neg s1, nmk_e, show f_X6_reckonPlace_L32 (nI k) x16 (nI p) _ FU 0 u = _ from y1 _, nmk_e, nI_1]
  obtain ⟨x', k1, k2, k3⟩ := key
  refine ⟨x', ?_, ⟨F1.1.trans k2.s, fun a ha => (k2.1 a (by omega)).trans (F1.2.1 a ha), fun i hi => (k2.2.2 i hi).trans (F1.2.2 i hi)⟩, k3⟩
  have hx16 : (if nI k < f_X5_size x 40 then (0 : Int32) else 1) = x16 := by
    unfold f_X5_size
    rw [h40, h16]
    by_cases c : k < z
    · rw [if_pos (nI_lt c (by omega)), if_pos c]; rfl
    · rw [if_neg (nI_nlt (by omega) (by omega)), if_neg c]; rfl
  unfold f_X6_reckonPlace
  rw [hx16, nmk_e, e1, Option.bind_some]
  exact k1
/-- the table is right from a place on -/
def TabC (u : CW) (z : Nat) (ch WD : Nat → Nat) (A : CA) (k0 : Nat) : Prop := TCok u A z k0 ∧ (∀ k, k0 ≤ k → k ≤ z → ∀ w, w ≤ colN A → ∀ p, p < 3 → TC u k w p = cellC u z ch WD A k w p) ∧ ∀ k, k0 ≤ k → k ≤ z → TC u k 0 0 ≤ EE
theorem TabC.isC {u : CW} {z : Nat} {ch WD : Nat → Nat} {A : CA} (h : TabC u z ch WD A 0) : isC (PA z A WD) (ltF z ch) (pwF WD A.2.1 z ch) (puF A.2.1 z ch) (TC u) := by
  refine ⟨fun w p hw hp => ?_, fun k hk w hw p hp => ?_⟩
  · have := h.2.1 z (Nat.zero_le _) (Nat.le_refl _) w hw p hp
    rw [show (PA z A WD).1 = z from rfl, this]
    exact if_pos rfl
  · have hk : k < z := hk
    have := h.2.1 k (Nat.zero_le _) (by omega) w hw p hp
    rw [this]
    exact if_neg (by omega)
theorem l_tabC {x : CW} {z : Nat} {ch WD : Nat → Nat} {A : CA} (h : EnvC x z ch WD A) (hFn : Fnd x z ch A z) : ∃ x', (∀ j, f_X6_find_L12 j FU (nI z) x = j x') ∧ SFr x x' ∧ (∀ a, a < 43 → x'.1 a = x.1 a) ∧ TabC x' z ch WD A 0 := by
  have hz := h.2.1
  have hEE : EE = 1000000 := rfl
  have hb := colN_b A
  have key := run1d (fun q i u => fun j => f_X6_find_L12 j q i u) (fun i u => i ≤ z + 1 ∧ SFr x u ∧ (∀ a, a < 43 → u.1 a = x.1 a) ∧ TabC u z ch WD A i) (fun r => ∃ x', (∀ j, r j = j x') ∧ SFr x x' ∧ (∀ a, a < 43 → x'.1 a = x.1 a) ∧ TabC x' z ch WD A 0) ?_ ?_ FU (z + 1) x (by unfold FU; omega) ⟨Nat.le_refl _, SFr.refl x, fun _ _ => rfl, fun k h1 h2 => by omega, fun k h1 h2 => by omega, fun k h1 h2 => by omega⟩
  · exact key
  · rintro q u ⟨-, h1, h2, h3⟩
    refine ⟨u, fun j => ?_, h1, h2, h3⟩
    simp (disch := omega) only [f_X6_find_L12, ↓nmk_e, ↓reduceIte, Option.bind_some, Option.map_some, lit, ofN, nI_add, pk_sub, pk_mul, nI_clamp, nI_leI, nI_ltI, nI_eq, pk_div, nI_an, nleT, nleF, nltT, nltF, neqT, neqF, or_false, false_or, or_self, or_true, true_or, and_self, and_true, true_and, and_false, false_and, not_true_eq_false, not_false_eq_true, f_X12_isSort, f_X12_isDay, f_X11_isSort, f_X11_isDay, inI, inP, f_X5_size, f_X5_isFull, f_X11_now, f_X2_isKind, f_X2_has, f_X3_has, f_X8_hasPage, f_X8_hasAllPages, f_X8_stands, f_X1_isPrinted, f_X1_rule, f_X9_has, f_X9_isFull, f_X12_isPage, f_X12_isVerse, sC_s, sC_n, sC_2, sN_1, sN_s, sN_n, sN_2, sS_1, sS_2, sS_s, sS_n, upd_s, upd_e, upd_n, rAt, rPut, rAdd, rSwap, rPush, rNumber, cp_0, cp_1, cp_2, cp_3, cp_4, cp_5, cp_6, cp_7, cp_8, cp_9, cp_10, cp_11, cp_12, cp_13, cp_14, cp_15, cp_16, cp_17, cp_18, cp_19, cp_20, cp_21, cp_22, cp_23, cp_24, cp_25, cp_26, cp_27, cp_28, cp_29, cp_30, cp_31, cp_32, cp_33, cp_34, cp_35, cp_36, cp_37, cp_38, cp_39, cp_40, cp_41, cp_42, cp_43, cp_44, cp_45, cp_46, cp_47, cp_48, cp_49, cp_50, cp_51, cp_52, cp_53, cp_54, cp_55, cp_56, cp_57, mlt]
  · rintro q k u ⟨hk, h1, h2, h3, h4, h5⟩
    have hE := h.f h1
    have hFu : Fnd u z ch A z := fun j hj => by
      obtain ⟨f1, f2⟩ := hFn j hj
      rw [h2 41 (by decide), h2 42 (by decide)]
      exact ⟨f1.f h1, f2.f h1⟩
    obtain ⟨y, y1, ⟨y2, y3, y4⟩, y5⟩ := l_place hE hFu (show k ≤ z by omega) h3 (fun c => h5 (k + 1) (Nat.le_refl _) (by omega))
    have y6 : ∀ w p, w ≤ colN A → p < 3 → CellOk y z ch WD A k w p := fun w p hw hp => y5 w p hw hp (.inl hp)
    refine .inr ⟨y, funext fun j => ?_, by omega, h1.trans y2, fun a ha => (y3 a ha).trans (h2 a ha), fun k' q1 q2 w hw p hp => ?_, fun k' q1 q2 w hw p hp => ?_, fun k' q1 q2 => ?_⟩
    · simp (disch := omega) only [f_X6_find_L12, ↓nmk_e, ↓reduceIte, Option.bind_some, Option.map_some, lit, ofN, nI_add, pk_sub, pk_mul, nI_clamp, nI_leI, nI_ltI, nI_eq, pk_div, nI_an, nleT, nleF, nltT, nltF, neqT, neqF, or_false, false_or, or_self, or_true, true_or, and_self, and_true, true_and, and_false, false_and, not_true_eq_false, not_false_eq_true, f_X12_isSort, f_X12_isDay, f_X11_isSort, f_X11_isDay, inI, inP, f_X5_size, f_X5_isFull, f_X11_now, f_X2_isKind, f_X2_has, f_X3_has, f_X8_hasPage, f_X8_hasAllPages, f_X8_stands, f_X1_isPrinted, f_X1_rule, f_X9_has, f_X9_isFull, f_X12_isPage, f_X12_isVerse, sC_s, sC_n, sC_2, sN_1, sN_s, sN_n, sN_2, sS_1, sS_2, sS_s, sS_n, upd_s, upd_e, upd_n, rAt, rPut, rAdd, rSwap, rPush, rNumber, cp_0, cp_1, cp_2, cp_3, cp_4, cp_5, cp_6, cp_7, cp_8, cp_9, cp_10, cp_11, cp_12, cp_13, cp_14, cp_15, cp_16, cp_17, cp_18, cp_19, cp_20, cp_21, cp_22, cp_23, cp_24, cp_25, cp_26, cp_27, cp_28, cp_29, cp_30, cp_31, cp_32, cp_33, cp_34, cp_35, cp_36, cp_37, cp_38, cp_39, cp_40, cp_41, cp_42, cp_43, cp_44, cp_45, cp_46, cp_47, cp_48, cp_49, cp_50, cp_51, cp_52, cp_53, cp_54, cp_55, cp_56, cp_57, y1, dn_s]
    · by_cases c : k' = k
      · subst c
        obtain ⟨c1, -, c3, -⟩ := y6 w p hw hp
        exact ⟨c1, c3⟩
      · rw [TC_eq y4 k' (by omega), y4 _ (by omega)]
        exact h3 k' (by omega) q2 w hw p hp
    · by_cases c : k' = k
      · subst c
        exact (y6 w p hw hp).2.1
      · rw [TC_eq y4 k' (by omega), h4 k' (by omega) q2 w hw p hp]
        exact (cellC_congr (fun i hi => y4 i (by omega)) (fun _ => y4 _ (by omega)) w).symm
    · by_cases c : k' = k
      · subst c
        exact (y6 0 0 (Nat.zero_le _) (by decide)).2.2.2 (by decide)
      · rw [TC_eq y4 k' (by omega)]
        exact h5 k' (by omega) q2
