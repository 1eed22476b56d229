/-! readers: from the tape, in both worlds -/
theorem r_copy {y : CW} {m n : Nat} (hm : m ≤ 8) (hn : n ≤ 120) (h9 : y.1 0 9 = nI n) : ∃ y', (fun j => f_X12_readsWay_L30 (nI m) j FU (nI 0) y) = (fun j => j y') ∧ (∀ k, k ≠ 0 → y'.1 k = y.1 k) ∧ y'.2 = y.2 ∧ (∀ j, (j < 250 + 120 * m ∨ 250 + 120 * m + 120 ≤ j) → y'.1 0 j = y.1 0 j) ∧ ∀ i, i < n → y'.1 0 (250 + 120 * m + i) = y.1 0 (110 + i) := by
  refine run1 (fun q i z => fun j => f_X12_readsWay_L30 (nI m) j q i z) (fun i z => (∀ k, k ≠ 0 → z.1 k = y.1 k) ∧ z.2 = y.2 ∧ (∀ j, (j < 250 + 120 * m ∨ 250 + 120 * m + 120 ≤ j) → z.1 0 j = y.1 0 j) ∧ ∀ t, t < i → z.1 0 (250 + 120 * m + t) = y.1 0 (110 + t)) n (fun r => ∃ y', r = (fun j => j y') ∧ (∀ k, k ≠ 0 → y'.1 k = y.1 k) ∧ y'.2 = y.2 ∧ (∀ j, (j < 250 + 120 * m ∨ 250 + 120 * m + 120 ≤ j) → y'.1 0 j = y.1 0 j) ∧ ∀ i, i < n → y'.1 0 (250 + 120 * m + i) = y.1 0 (110 + i)) ?_ ?_ FU 0 y (Nat.zero_le _) (by unfold FU; omega) ⟨fun _ _ => rfl, rfl, fun _ _ => rfl, fun t ht => absurd ht (Nat.not_lt_zero t)⟩
  · rintro q z ⟨h1, h2, h3, h4⟩
    have e9 := h3 9 (by omega)
    refine ⟨z, funext fun j => ?_, h1, h2, h3, h4⟩
    simp (disch := omega) only [f_X12_readsWay_L30, ↓nmk_e, ↓reduceIte, Option.bind_some, Option.map_some, lit, ofN, nI_add, pk_sub, pk_mul, nI_clamp, nI_leI, nI_ltI, nI_eq, pk_div, nI_an, nleT, nleF, nltT, nltF, neqT, neqF, or_false, false_or, or_self, or_true, true_or, and_self, and_true, true_and, and_false, false_and, not_true_eq_false, not_false_eq_true, f_X12_isSort, f_X12_isDay, f_X11_isSort, f_X11_isDay, inI, inP, f_X5_size, f_X5_isFull, f_X11_now, f_X2_isKind, f_X2_has, f_X3_has, f_X8_hasPage, f_X8_hasAllPages, f_X8_stands, f_X1_isPrinted, f_X1_rule, f_X9_has, f_X9_isFull, f_X12_isPage, f_X12_isVerse, sC_s, sC_n, sC_2, sN_1, sN_s, sN_n, sN_2, sS_1, sS_2, sS_s, sS_n, upd_s, upd_e, upd_n, rAt, rPut, rAdd, rSwap, rPush, rNumber, cp_0, cp_1, cp_2, cp_3, cp_4, cp_5, cp_6, cp_7, cp_8, cp_9, cp_10, cp_11, cp_12, cp_13, cp_14, cp_15, cp_16, cp_17, cp_18, cp_19, cp_20, cp_21, cp_22, cp_23, cp_24, cp_25, cp_26, cp_27, cp_28, cp_29, cp_30, cp_31, cp_32, cp_33, cp_34, cp_35, cp_36, cp_37, cp_38, cp_39, cp_40, cp_41, cp_42, cp_43, cp_44, cp_45, cp_46, cp_47, cp_48, cp_49, cp_50, cp_51, cp_52, cp_53, cp_54, cp_55, cp_56, cp_57, e9, h9]
  · rintro q i z hi ⟨h1, h2, h3, h4⟩
    have e9 := h3 9 (by omega)
    have e10 := h3 (110 + i) (by omega)
    refine .inr ⟨sC z 0 (250 + 120 * m + i) (y.1 0 (110 + i)), funext fun j => ?_, fun k hk => ?_, h2, fun j hj => ?_, fun t ht => ?_⟩
    · simp (disch := omega) only [f_X12_readsWay_L30, ↓nmk_e, ↓reduceIte, Option.bind_some, Option.map_some, lit, ofN, nI_add, pk_sub, pk_mul, nI_clamp, nI_leI, nI_ltI, nI_eq, pk_div, nI_an, nleT, nleF, nltT, nltF, neqT, neqF, or_false, false_or, or_self, or_true, true_or, and_self, and_true, true_and, and_false, false_and, not_true_eq_false, not_false_eq_true, f_X12_isSort, f_X12_isDay, f_X11_isSort, f_X11_isDay, inI, inP, f_X5_size, f_X5_isFull, f_X11_now, f_X2_isKind, f_X2_has, f_X3_has, f_X8_hasPage, f_X8_hasAllPages, f_X8_stands, f_X1_isPrinted, f_X1_rule, f_X9_has, f_X9_isFull, f_X12_isPage, f_X12_isVerse, sC_s, sC_n, sC_2, sN_1, sN_s, sN_n, sN_2, sS_1, sS_2, sS_s, sS_n, upd_s, upd_e, upd_n, rAt, rPut, rAdd, rSwap, rPush, rNumber, cp_0, cp_1, cp_2, cp_3, cp_4, cp_5, cp_6, cp_7, cp_8, cp_9, cp_10, cp_11, cp_12, cp_13, cp_14, cp_15, cp_16, cp_17, cp_18, cp_19, cp_20, cp_21, cp_22, cp_23, cp_24, cp_25, cp_26, cp_27, cp_28, cp_29, cp_30, cp_31, cp_32, cp_33, cp_34, cp_35, cp_36, cp_37, cp_38, cp_39, cp_40, cp_41, cp_42, cp_43, cp_44, cp_45, cp_46, cp_47, cp_48, cp_49, cp_50, cp_51, cp_52, cp_53, cp_54, cp_55, cp_56, cp_57, e9, h9, e10]
    · simp (disch := omega) only [sC_s, sC_n, sC_2, sN_1, sN_s, sN_n, sN_2, sS_1, sS_2, sS_s, sS_n, upd_s, upd_e, upd_n]; exact h1 k hk
    · simp (disch := omega) only [sC_s, sC_n, sC_2, sN_1, sN_s, sN_n, sN_2, sS_1, sS_2, sS_s, sS_n, upd_s, upd_e, upd_n]; exact h3 j hj
    · by_cases c : t = i
      · subst c; simp (disch := omega) only [sC_s, sC_n, sC_2, sN_1, sN_s, sN_n, sN_2, sS_1, sS_2, sS_s, sS_n, upd_s, upd_e, upd_n]
      · simp (disch := omega) only [sC_s, sC_n, sC_2, sN_1, sN_s, sN_n, sN_2, sS_1, sS_2, sS_s, sS_n, upd_s, upd_e, upd_n]; exact h4 t (by omega)
/-- what reading leaves of the reference's world -/
def GY (m D : Nat) (v y : CW) : Prop := (∀ j, j ≠ 0 → y.1 j = v.1 j) ∧ y.1 0 9 = nI 0 ∧ y.1 0 (230 + m) = nI D ∧ (∀ j, j ≠ 9 → j ≠ 230 + m → j ≠ 240 + m → j ≠ 1330 + m → (j < 250 + 120 * m ∨ 250 + 120 * m + 120 ≤ j) → (j < 1340 + 8 * m ∨ 1340 + 8 * m + 8 ≤ j) → (j < 1420 + 8 * m ∨ 1420 + 8 * m + 8 ≤ j) → (j < 1500 + 8 * m ∨ 1500 + 8 * m + 8 ≤ j) → (j < 1580 + 8 * m ∨ 1580 + 8 * m + 8 ≤ j) → y.1 0 j = v.1 0 j) ∧ y.2.1 = v.2.1 ∧ ∀ j, j ≠ 4 → j ≠ 5 → j ≠ 6 → y.2.2 j = v.2.2 j
theorem FRx.trans {m : Nat} {x y z : CW} (h : FRx m x y) (g : FRx m y z) : FRx m x z := ⟨fun j a => (g.1 j a).trans (h.1 j a), fun j i a b => (g.2.1 j i a b).trans (h.2.1 j i a b), fun j i a b c => (g.2.2.1 j i a b c).trans (h.2.2.1 j i a b c), g.2.2.2.1.trans h.2.2.2.1, fun j a => (g.2.2.2.2 j a).trans (h.2.2.2.2 j a)⟩
theorem GY.fr {m D : Nat} {v x y : CW} (h : GY m D v x) (g : FRy m x y) (hm : m ≤ 8) : GY m D v y := by
  obtain ⟨h1, h2, h3, h4, h5, h6⟩ := h
  obtain ⟨g1, g2, g3, g4⟩ := g
  exact ⟨fun j hj => (g1 j hj).trans (h1 j hj), (g2 9 (by omega) (by omega) (by omega) (by omega) (by omega)).trans h2, (g2 _ (by omega) (by omega) (by omega) (by omega) (by omega)).trans h3, fun j a1 a2 a3 a4 a5 a6 a7 a8 a9 => (g2 j a4 a6 a7 a8 a9).trans (h4 j a1 a2 a3 a4 a5 a6 a7 a8 a9), g3.trans h5, fun j a1 a2 a3 => (g4 j a2 a3).trans (h6 j a1 a2 a3)⟩
def WyG (m D : Nat) (w v : CW) (r r2 : Option (Int32 × CW)) : Prop := ∃ xF yF, FRx m w xF ∧ GY m D v yF ∧ ((r = some (-nI 1, xF) ∧ r2 = some (nI 1, yF) ∧ ∃ c, 1 ≤ c ∧ c ≤ 8 ∧ xF.1 5 m = nI c ∧ WyK m c xF yF) ∨ ∃ p, p ≤ 120 ∧ r = some (nI p, xF) ∧ r2 = some (nI 0, yF) ∧ yF.2.2 5 = nI p)
theorem l_read {w v : CW} (h : Sim w v) {m D : Nat} (hm : m ≤ 8) (n2 : w.2.1 2 = nI m) : WyG m D w v (f_X10_read w) (f_X12_readsWay v (nI m) (nI D)) := by
  obtain ⟨n, hn, a1, a2, a3⟩ := h.g1
  let B : Nat → Int32 := fun i => if i < n then v.1 0 (110 + i) else -nI 1
  have bT : ∀ i, i < n → B i = v.1 0 (110 + i) := fun i hi => if_pos hi
  have hB : Tx B n := ⟨hn, fun i hi => by
    rw [bT i hi]
    obtain ⟨b, b1, b2⟩ := (a3 i hi).2
    exact ⟨b, b1, b2⟩, fun i hi => if_neg (by omega)⟩
  have ex : f_X10_read w = f_X10_read_L21 (nI m) FU (nI 0) (cm (sC w 4 m (nI 0)) 0) := by
    unfold f_X10_read f_X10_nextSlot
    rw [nmk_e, show f_X5_size w 2 = nI m from n2, nmk_e, nmk_e, show rPut w 4 (nI m) 0 = _ from pT w (by omega) (by rw [cp_4]; omega) 0]
    rfl
  have hC : CAt (cm (sC w 4 m (nI 0)) 0) B n 0 := ⟨cm_g _ _, a1, fun i hi => by rw [cm_1, sC_n _ _ _ (by decide), bT i hi]; exact (a3 i hi).1, Nat.zero_le _⟩
  have hx : FRx m w (cm (sC w 4 m (nI 0)) 0) := by
    refine FRx_cm (a := w) (x := sC w 4 m (nI 0)) ⟨fun j hj => ?_, fun j i hj hi => ?_, fun j i b1 b2 b3 => ?_, rfl, fun _ _ => rfl⟩ 0
    · rw [sC_n _ _ _ (by omega)]
    · by_cases e : j = 4
      · subst e; rw [sC_s, upd_n _ _ hi]
      · rw [sC_n _ _ _ e]
    · rw [sC_n _ _ _ (by omega)]
  obtain ⟨y1, e1, c1, c2, c3, c4⟩ := r_copy (y := sC (sC v 0 (230 + m) (nI D)) 0 (240 + m) (nI n)) hm hn (by simp (disch := omega) only [sC_s, sC_n, sC_2, sN_1, sN_s, sN_n, sN_2, sS_1, sS_2, sS_s, sS_n, upd_s, upd_e, upd_n]; exact a2)
  have e1 : ∀ j, f_X12_readsWay_L30 (nI m) j FU (nI 0) (sC (sC v 0 (230 + m) (nI D)) 0 (240 + m) (nI n)) = j y1 := fun j => congrFun e1 j
  obtain ⟨y2, hy2⟩ : ∃ z, z = mv (sS (sC (sC y1 0 9 (nI 0)) 0 (1330 + m) (nI 0)) 4 (nI m)) 0 0 := ⟨_, rfl⟩
  have ey : f_X12_readsWay v (nI m) (nI D) = Option.bind (f_X12_reads y2 (nI m)) fun z => f_X12_readsWay_L110 (nI m) (jEnd m) FU z := by
    have b1 : ¬ ((230 + nI m) < 0 ∨ 3250 ≤ (230 + nI m).toNatClampNeg) := of_eq_true (by simp (disch := omega) only [↓nmk_e, ↓reduceIte, Option.bind_some, Option.map_some, lit, ofN, nI_add, pk_sub, pk_mul, nI_clamp, nI_leI, nI_ltI, nI_eq, pk_div, nI_an, nleT, nleF, nltT, nltF, neqT, neqF, or_false, false_or, or_self, or_true, true_or, and_self, and_true, true_and, and_false, false_and, not_true_eq_false, not_false_eq_true])
    have k1 : (230 + nI m).toNatClampNeg = 230 + m := by simp (disch := omega) only [↓nmk_e, ↓reduceIte, Option.bind_some, Option.map_some, lit, ofN, nI_add, pk_sub, pk_mul, nI_clamp, nI_leI, nI_ltI, nI_eq, pk_div, nI_an, nleT, nleF, nltT, nltF, neqT, neqF, or_false, false_or, or_self, or_true, true_or, and_self, and_true, true_and, and_false, false_and, not_true_eq_false, not_false_eq_true]
    have b2 : ¬ ((240 + nI m) < 0 ∨ 3250 ≤ (240 + nI m).toNatClampNeg) := of_eq_true (by simp (disch := omega) only [↓nmk_e, ↓reduceIte, Option.bind_some, Option.map_some, lit, ofN, nI_add, pk_sub, pk_mul, nI_clamp, nI_leI, nI_ltI, nI_eq, pk_div, nI_an, nleT, nleF, nltT, nltF, neqT, neqF, or_false, false_or, or_self, or_true, true_or, and_self, and_true, true_and, and_false, false_and, not_true_eq_false, not_false_eq_true])
    have k2 : (240 + nI m).toNatClampNeg = 240 + m := by simp (disch := omega) only [↓nmk_e, ↓reduceIte, Option.bind_some, Option.map_some, lit, ofN, nI_add, pk_sub, pk_mul, nI_clamp, nI_leI, nI_ltI, nI_eq, pk_div, nI_an, nleT, nleF, nltT, nltF, neqT, neqF, or_false, false_or, or_self, or_true, true_or, and_self, and_true, true_and, and_false, false_and, not_true_eq_false, not_false_eq_true]
    have b3 : ¬ ((1330 + nI m) < 0 ∨ 3250 ≤ (1330 + nI m).toNatClampNeg) := of_eq_true (by simp (disch := omega) only [↓nmk_e, ↓reduceIte, Option.bind_some, Option.map_some, lit, ofN, nI_add, pk_sub, pk_mul, nI_clamp, nI_leI, nI_ltI, nI_eq, pk_div, nI_an, nleT, nleF, nltT, nltF, neqT, neqF, or_false, false_or, or_self, or_true, true_or, and_self, and_true, true_and, and_false, false_and, not_true_eq_false, not_false_eq_true])
    have k3 : (1330 + nI m).toNatClampNeg = 1330 + m := by simp (disch := omega) only [↓nmk_e, ↓reduceIte, Option.bind_some, Option.map_some, lit, ofN, nI_add, pk_sub, pk_mul, nI_clamp, nI_leI, nI_ltI, nI_eq, pk_div, nI_an, nleT, nleF, nltT, nltF, neqT, neqF, or_false, false_or, or_self, or_true, true_or, and_self, and_true, true_and, and_false, false_and, not_true_eq_false, not_false_eq_true]
    have b9 : ¬ ((9 : Int32) < 0 ∨ 3250 ≤ (9 : Int32).toNatClampNeg) := by decide
    have k9 : (sC v 0 (230 + m) (nI D)).1 0 (9 : Int32).toNatClampNeg = nI n := by
      show (sC v 0 (230 + m) (nI D)).1 0 9 = nI n
      simp (disch := omega) only [sC_s, sC_n, sC_2, sN_1, sN_s, sN_n, sN_2, sS_1, sS_2, sS_s, sS_n, upd_s, upd_e, upd_n]; exact a2
    unfold f_X12_readsWay
    rw [if_neg b1, nmk_e, k1, if_neg b9, if_neg b2, nmk_e, k2, k9, nmk_e]
    refine (e1 _).trans ?_
    rw [if_neg b9, nmk_e, if_neg b3, nmk_e, k3, nmk_e, nmk_e, nmk_e, show sS (sS (sS (sC (sC y1 0 (9 : Int32).toNatClampNeg 0) 0 (1330 + m) 0) 4 (nI m)) 5 0) 6 0 = y2 from ?_]
    · refine congrArg _ (funext fun q107 => ?_)
      rw [nmk_e]
      unfold jEnd
      simp only [k2]
    · rw [hy2]
      show (_, _, upd (upd _ 5 (nI 0)) 6 (nI 0)) = (_, _, upd (upd _ 6 (nI 0)) 5 (nI 0))
      rw [upd_comm _ (by decide)]
      rfl
  have y0 : y2.1 0 = upd (upd (y1.1 0) 9 (nI 0)) (1330 + m) (nI 0) := by
    rw [hy2, mv_1]
    show (sC (sC y1 0 9 (nI 0)) 0 (1330 + m) (nI 0)).1 0 = _
    rw [sC_s, sC_s]
  have hR : RAt y2 m B n 0 0 := by
    refine ⟨?_, ?_, ?_, hm, Nat.zero_le _, Nat.zero_le _, ?_, fun i hi => ?_⟩
    · rw [hy2, mv_g4, sS_s]
    · rw [hy2]; exact mv_g5 _ _ _
    · rw [hy2]; exact mv_g6 _ _ _
    · rw [y0, upd_n _ _ (by omega), upd_n _ _ (by omega), c3 _ (by omega)]
      simp (disch := omega) only [sC_s, sC_n, sC_2, sN_1, sN_s, sN_n, sN_2, sS_1, sS_2, sS_s, sS_n, upd_s, upd_e, upd_n]
    · rw [y0, upd_n _ _ (by omega), upd_n _ _ (by omega), c4 i hi, bT i hi]
      simp (disch := omega) only [sC_s, sC_n, sC_2, sN_1, sN_s, sN_n, sN_2, sS_1, sS_2, sS_s, sS_n, upd_s, upd_e, upd_n]
  have hG : GY m D v y2 := by
    refine ⟨fun j hj => ?_, ?_, ?_, fun j q1 q2 q3 q4 q5 _ _ _ _ => ?_, ?_, fun j q1 q2 q3 => ?_⟩
    · rw [hy2, mv_1]
      show (sC (sC y1 0 9 (nI 0)) 0 (1330 + m) (nI 0)).1 j = _
      rw [sC_n _ _ _ hj, sC_n _ _ _ hj, c1 j hj, sC_n _ _ _ hj, sC_n _ _ _ hj]
    · rw [y0, upd_n _ _ (by omega), upd_s]
    · rw [y0, upd_n _ _ (by omega), upd_n _ _ (by omega), c3 _ (by omega)]
      simp (disch := omega) only [sC_s, sC_n, sC_2, sN_1, sN_s, sN_n, sN_2, sS_1, sS_2, sS_s, sS_n, upd_s, upd_e, upd_n]
    · rw [y0, upd_n _ _ (by omega), upd_n _ _ (by omega), c3 _ (by omega)]
      simp (disch := omega) only [sC_s, sC_n, sC_2, sN_1, sN_s, sN_n, sN_2, sS_1, sS_2, sS_s, sS_n, upd_s, upd_e, upd_n]
    · rw [hy2]
      show y1.2.1 = _
      rw [c2]; rfl
    · rw [hy2, mv_gn _ _ _ q2 q3, sS_n _ _ q1]
      show y1.2.2 j = _
      rw [c2]; rfl
  have hW : WyK m 0 (cm (sC w 4 m (nI 0)) 0) y2 := by
    refine ⟨?_, fun j hj => absurd hj (Nat.not_lt_zero j), 0, by decide, ?_, fun d hd => ⟨fun q => ?_, fun ⟨k, hk, _⟩ => absurd hk (Nat.not_lt_zero k)⟩⟩
    · rw [y0, upd_s]
    · rw [cm_1, sC_s, upd_s]
    · rw [Nat.zero_testBit] at q; cases q
  obtain ⟨xF, yF, f1, f2, f3⟩ := l_loop hB hm hC hR hW (FRx.refl m _) (FRy.refl m _)
  refine ⟨xF, yF, hx.trans f1, hG.fr f2 hm, ?_⟩
  rw [ex, ey]
  exact f3
