/-! the class's table: a cell, a row, all of it -/
theorem l_cellC {x : CW} {z k w p : Nat} {ch WD : Nat → Nat} {A : CA} (h : EnvC x z ch WD A) (hk : k < z) (hC : CHs x (chs z ch WD A k)) (h6 : x.2.2 6 = nI (if ltF z ch k = true then 0 else 1)) (hT : TCok x A z (k + 1)) (hN : TC x (k + 1) 0 0 ≤ EE) (h0 : p = 2 → x.1 46 (123 * k) = nI (TC x k 0 0) ∧ TC x k 0 0 ≤ EE) (hw : w ≤ colN A) (hp : p < 3) : f_X6_leastUgly x (nI k) (nI w) (nI p) = some (nI (cellC x z ch WD A k w p)) ∧ cellC x z ch WD A k w p ≤ EE + 9 ∧ (p < 2 ∨ ¬ ltF z ch k = true → cellC x z ch WD A k w p ≤ EE) := by
  have hEE : EE = 1000000 := rfl
  obtain ⟨u1, u2, u3⟩ := l_ugEnd h hk h6 hT hN h0 hw hp
  obtain ⟨g1, g2, g3, hlet, ⟨q1, -⟩, hA, hW⟩ := id h
  obtain ⟨hP, -, -, c5, c6⟩ := hA.ok z ch WD
  have hlb := leaN_b A
  have hmb := mosN_b A
  have h9 := hA.pw9 z ch WD (fun c hc => (hW c hc).2) (fun i hi => by rcases (hlet i hi).2 with e | e <;> omega)
  have h1 : ltF z ch k = true → 0 < pwF WD A.2.1 z ch k 1 := fun cl => by
    have hkl := ltF_iff.mp cl
    have hc : ch k ≤ 122 := by rcases (hlet k hk).2 with e | e <;> omega
    show 0 < (if 1 = 1 then (if ltF z ch k = true then WD (ch k - 97) else 0) else _)
    rw [if_pos rfl, if_pos cl]
    exact (hW _ (by omega)).2.1
  obtain ⟨okL, okB⟩ := chs_ok (le := leaN A) (mo := mosN A) (wi := tN (A.1 6)) hP (show k < (PA z A WD).1 from hk) (fun n => h9 k n) h1 ⟨hmb.1, hmb.2, c6⟩
  have okC : okCs z k (chs z ch WD A k) := by
    unfold chs
    by_cases cl : ltF z ch k = true
    · rw [if_pos cl]; exact okL cl
    · rw [if_neg cl]; exact okB
  have main := l_lstC (lt := ltF z ch k) q1 g2 hC h6 okC hT hw hp hk (e0 := ceC (PA z A WD) (ltF z ch) (TC x) k w p) (by omega) u1
  obtain ⟨V, hV⟩ : ∃ V, V = cellC x z ch WD A k w p := ⟨_, rfl⟩
  have hV2 : V = lsC (PA z A WD) (ltF z ch) (pwF WD A.2.1 z ch) (puF A.2.1 z ch) (TC x) k w p := by rw [hV]; exact if_neg (by omega)
  rw [← hV]
  unfold lsC at hV2
  by_cases cl : ltF z ch k = true
  · rw [if_pos cl] at hV2
    have e := mc_chL (P := PA z A WD) (pw := pwF WD A.2.1 z ch) (pu := puF A.2.1 z ch) (T := TC x) (k := k) (w := w) (p := p) (e0 := ceC (PA z A WD) (ltF z ch) (TC x) k w p) (by omega) (h1 cl) rfl
    rw [← hV2] at e
    refine ⟨?_, by omega, fun q => by have := u3 q; omega⟩
    rw [main, if_pos cl]
    have ec : chs z ch WD A k = chL (pwF WD A.2.1 z ch) (puF A.2.1 z ch) k := if_pos cl
    rw [ec]
    exact congrArg (fun t => some (nI t)) e
  · rw [if_neg cl] at hV2
    have e := mc_chB (P := PA z A WD) (T := TC x) (k := k) (w := w) (e0 := ceC (PA z A WD) (ltF z ch) (TC x) k w p) (le := leaN A) (wi := tN (A.1 6)) rfl rfl (u3 (.inr cl)) (mosN A + 1 - leaN A)
    have e' : min (ceC (PA z A WD) (ltF z ch) (TC x) k w p) (mf (fun i => cbC (PA z A WD) (TC x) k w (leaN A + i)) (mosN A + 1 - leaN A)) = V := hV2.symm
    rw [e'] at e
    have u4 := u3 (.inr cl)
    have hle : V ≤ EE := by rw [← e']; exact Nat.le_trans (Nat.min_le_left _ _) u4
    refine ⟨?_, by omega, fun _ => hle⟩
    rw [main, if_neg cl]
    have ec : chs z ch WD A k = chB (leaN A) (tN (A.1 6)) (mosN A + 1 - leaN A) := if_neg cl
    rw [ec, chB_len]
    exact congrArg (fun t => some (nI t)) e
/-- what a filled cell holds -/
def CellOk (u : CW) (z : Nat) (ch WD : Nat → Nat) (A : CA) (k w p : Nat) : Prop := u.1 46 ((k * 41 + w) * 3 + p) = nI (TC u k w p) ∧ TC u k w p = cellC u z ch WD A k w p ∧ TC u k w p ≤ EE + 9 ∧ (p < 2 → TC u k w p ≤ EE)
def DoneC (u : CW) (z : Nat) (ch WD : Nat → Nat) (A : CA) (k p i : Nat) : Prop := ∀ w p', w ≤ colN A → p' < 3 → (p' < p ∨ (p' = p ∧ w < i)) → CellOk u z ch WD A k w p'
theorem cellC_congr {u u' : CW} {z k p : Nat} {ch WD : Nat → Nat} {A : CA} (h : ∀ i, 123 * (k + 1) ≤ i → u'.1 46 i = u.1 46 i) (h0 : p = 2 → u'.1 46 (123 * k) = u.1 46 (123 * k)) (w : Nat) : cellC u' z ch WD A k w p = cellC u z ch WD A k w p := by
  unfold cellC
  rw [lsC_congr (fun k' hk' => TC_eq h k' hk') (fun hp => by
    unfold TC
    rw [show (k * 41 + 0) * 3 + 0 = 123 * k by omega, h0 hp])]
theorem TCok.w {u u' : CW} {A : CA} {z k : Nat} (hT : TCok u A z (k + 1)) (h : ∀ i, 123 * (k + 1) ≤ i → u'.1 46 i = u.1 46 i) : TCok u' A z (k + 1) := fun k' h1 h2 w hw p hp => by
  have hb := colN_b A
  rw [TC_eq h k' (by omega), h _ (by omega)]
  exact hT k' h1 h2 w hw p hp
/-- the frame of a row -/
def RowF (k : Nat) (x u : CW) : Prop := (∀ a, a ≠ 46 → u.1 a = x.1 a) ∧ u.2 = x.2 ∧ ∀ i, 123 * (k + 1) ≤ i → u.1 46 i = x.1 46 i
theorem RowF.refl (k : Nat) (x : CW) : RowF k x x := ⟨fun _ _ => rfl, rfl, fun _ _ => rfl⟩
theorem RowF.trans {k : Nat} {a b c : CW} (h : RowF k a b) (h' : RowF k b c) : RowF k a c := ⟨fun t q => (h'.1 t q).trans (h.1 t q), h'.2.1.trans h.2.1, fun t q => (h'.2.2 t q).trans (h.2.2 t q)⟩
theorem RowF.s {k : Nat} {x u : CW} (h : RowF k x u) : SFr x u := ⟨fun t q => h.1 t (by omega), fun t _ => by rw [h.2.1], fun t _ => by rw [h.2.1]⟩
theorem l_L32 {x : CW} {z k p : Nat} {ch WD : Nat → Nat} {A : CA} {x16 : Int32} (h : EnvC x z ch WD A) (hk : k ≤ z) (h16 : x16 = nI (if k < z then 0 else 1)) (hC : k < z → CHs x (chs z ch WD A k) ∧ x.2.2 6 = nI (if ltF z ch k = true then 0 else 1)) (hT : TCok x A z (k + 1)) (hN : k < z → TC x (k + 1) 0 0 ≤ EE) (hp : p < 3) (hD : DoneC x z ch WD A k p 0) : ∃ x', (∀ j, f_X6_reckonPlace_L32 (nI k) x16 (nI p) j FU (nI 0) x = j x') ∧ RowF k x x' ∧ DoneC x' z ch WD A k (p + 1) 0 := by
  have hEE : EE = 1000000 := rfl
  have hb := colN_b A
  have hz := h.2.1
  refine run1 (fun q i u => fun j => f_X6_reckonPlace_L32 (nI k) x16 (nI p) j q i u) (fun i u => RowF k x u ∧ DoneC u z ch WD A k p i) (colN A + 1) (fun r => ∃ x', (∀ j, r j = j x') ∧ RowF k x x' ∧ DoneC x' z ch WD A k (p + 1) 0) ?_ ?_ FU 0 x (Nat.zero_le _) (by unfold FU; omega) ⟨RowF.refl k x, hD⟩
  · rintro q u ⟨hF, hd⟩
    have hcol := (h.f hF.s).2.2.2.2.1.1
    refine ⟨u, fun j => ?_, hF, fun w p' hw hp' hh => hd w p' hw hp' (by omega)⟩
    simp (disch := omega) only [f_X6_reckonPlace_L32, ↓nmk_e, ↓reduceIte, Option.bind_some, Option.map_some, lit, ofN, nI_add, pk_sub, pk_mul, nI_clamp, nI_leI, nI_ltI, nI_eq, pk_div, nI_an, nleT, nleF, nltT, nltF, neqT, neqF, or_false, false_or, or_self, or_true, true_or, and_self, and_true, true_and, and_false, false_and, not_true_eq_false, not_false_eq_true, f_X12_isSort, f_X12_isDay, f_X11_isSort, f_X11_isDay, inI, inP, f_X5_size, f_X5_isFull, f_X11_now, f_X2_isKind, f_X2_has, f_X3_has, f_X8_hasPage, f_X8_hasAllPages, f_X8_stands, f_X1_isPrinted, f_X1_rule, f_X9_has, f_X9_isFull, f_X12_isPage, f_X12_isVerse, sC_s, sC_n, sC_2, sN_1, sN_s, sN_n, sN_2, sS_1, sS_2, sS_s, sS_n, upd_s, upd_e, upd_n, rAt, rPut, rAdd, rSwap, rPush, rNumber, cp_0, cp_1, cp_2, cp_3, cp_4, cp_5, cp_6, cp_7, cp_8, cp_9, cp_10, cp_11, cp_12, cp_13, cp_14, cp_15, cp_16, cp_17, cp_18, cp_19, cp_20, cp_21, cp_22, cp_23, cp_24, cp_25, cp_26, cp_27, cp_28, cp_29, cp_30, cp_31, cp_32, cp_33, cp_34, cp_35, cp_36, cp_37, cp_38, cp_39, cp_40, cp_41, cp_42, cp_43, cp_44, cp_45, cp_46, cp_47, cp_48, cp_49, cp_50, cp_51, cp_52, cp_53, cp_54, cp_55, cp_56, cp_57, hcol]
  · rintro q i u hi ⟨hF, hd⟩
    have hE := h.f hF.s
    have hcol := hE.2.2.2.2.1.1
    have h00 : p = 2 → u.1 46 (123 * k) = nI (TC u k 0 0) ∧ TC u k 0 0 ≤ EE := fun e => by
      obtain ⟨d1, d2, d3, d4⟩ := hd 0 0 (Nat.zero_le _) (by decide) (.inl (by omega))
      rw [show (k * 41 + 0) * 3 + 0 = 123 * k by omega] at d1
      exact ⟨d1, d4 (by decide)⟩
    have hval : ∃ val, val = cellC u z ch WD A k i p ∧ val ≤ EE + 9 ∧ (p < 2 → val ≤ EE) ∧ (k < z → f_X6_leastUgly u (nI k) (nI i) (nI p) = some (nI val)) := by
      by_cases c : k < z
      · obtain ⟨c1, c2⟩ := hC c
        have c1' : CHs u (chs z ch WD A k) := by
          obtain ⟨y1, y2, y3, y4, y5⟩ := c1
          refine ⟨by rw [hF.2.1]; exact y1, by rw [hF.2.1]; exact y2, by rw [hF.2.1]; exact y3, y4, ?_⟩
          rw [hF.1 43 (by decide), hF.1 44 (by decide), hF.1 45 (by decide)]
          exact y5
        have hN' : TC u (k + 1) 0 0 ≤ EE := by rw [TC_eq hF.2.2 (k + 1) (by omega)]; exact hN c
        obtain ⟨v1, v2, v3⟩ := l_cellC hE c c1' (by rw [hF.2.1]; exact c2) (hT.w hF.2.2) hN' h00 (w := i) (by omega) hp
        exact ⟨_, rfl, v2, fun e => v3 (.inl e), fun _ => v1⟩
      · refine ⟨0, ?_, by omega, fun _ => by omega, fun e => absurd e c⟩
        exact (if_pos (by omega)).symm
    obtain ⟨val, v1, v2, v3, v4⟩ := hval
    have hstep : ∀ j, f_X6_reckonPlace_L32 (nI k) x16 (nI p) j (q + 1) (nI i) u = f_X6_reckonPlace_L32 (nI k) x16 (nI p) j q (nI (i + 1)) (sC u 46 ((k * 41 + i) * 3 + p) (nI val)) := fun j => by
      by_cases c : k < z
      · rw [if_pos c] at h16
        simp (disch := omega) only [f_X6_reckonPlace_L32, f_X6_index, ↓nmk_e, ↓reduceIte, Option.bind_some, Option.map_some, lit, ofN, nI_add, pk_sub, pk_mul, nI_clamp, nI_leI, nI_ltI, nI_eq, pk_div, nI_an, nleT, nleF, nltT, nltF, neqT, neqF, or_false, false_or, or_self, or_true, true_or, and_self, and_true, true_and, and_false, false_and, not_true_eq_false, not_false_eq_true, f_X12_isSort, f_X12_isDay, f_X11_isSort, f_X11_isDay, inI, inP, f_X5_size, f_X5_isFull, f_X11_now, f_X2_isKind, f_X2_has, f_X3_has, f_X8_hasPage, f_X8_hasAllPages, f_X8_stands, f_X1_isPrinted, f_X1_rule, f_X9_has, f_X9_isFull, f_X12_isPage, f_X12_isVerse, sC_s, sC_n, sC_2, sN_1, sN_s, sN_n, sN_2, sS_1, sS_2, sS_s, sS_n, upd_s, upd_e, upd_n, rAt, rPut, rAdd, rSwap, rPush, rNumber, cp_0, cp_1, cp_2, cp_3, cp_4, cp_5, cp_6, cp_7, cp_8, cp_9, cp_10, cp_11, cp_12, cp_13, cp_14, cp_15, cp_16, cp_17, cp_18, cp_19, cp_20, cp_21, cp_22, cp_23, cp_24, cp_25, cp_26, cp_27, cp_28, cp_29, cp_30, cp_31, cp_32, cp_33, cp_34, cp_35, cp_36, cp_37, cp_38, cp_39, cp_40, cp_41, cp_42, cp_43, cp_44, cp_45, cp_46, cp_47, cp_48, cp_49, cp_50, cp_51, cp_52, cp_53, cp_54, cp_55, cp_56, cp_57, h16, v4 c, hcol]
      · rw [if_neg c] at h16
        have : val = 0 := by rw [v1]; exact if_pos (by omega)
        rw [this]
        simp (disch := omega) only [f_X6_reckonPlace_L32, f_X6_index, ↓nmk_e, ↓reduceIte, Option.bind_some, Option.map_some, lit, ofN, nI_add, pk_sub, pk_mul, nI_clamp, nI_leI, nI_ltI, nI_eq, pk_div, nI_an, nleT, nleF, nltT, nltF, neqT, neqF, or_false, false_or, or_self, or_true, true_or, and_self, and_true, true_and, and_false, false_and, not_true_eq_false, not_false_eq_true, f_X12_isSort, f_X12_isDay, f_X11_isSort, f_X11_isDay, inI, inP, f_X5_size, f_X5_isFull, f_X11_now, f_X2_isKind, f_X2_has, f_X3_has, f_X8_hasPage, f_X8_hasAllPages, f_X8_stands, f_X1_isPrinted, f_X1_rule, f_X9_has, f_X9_isFull, f_X12_isPage, f_X12_isVerse, sC_s, sC_n, sC_2, sN_1, sN_s, sN_n, sN_2, sS_1, sS_2, sS_s, sS_n, upd_s, upd_e, upd_n, rAt, rPut, rAdd, rSwap, rPush, rNumber, cp_0, cp_1, cp_2, cp_3, cp_4, cp_5, cp_6, cp_7, cp_8, cp_9, cp_10, cp_11, cp_12, cp_13, cp_14, cp_15, cp_16, cp_17, cp_18, cp_19, cp_20, cp_21, cp_22, cp_23, cp_24, cp_25, cp_26, cp_27, cp_28, cp_29, cp_30, cp_31, cp_32, cp_33, cp_34, cp_35, cp_36, cp_37, cp_38, cp_39, cp_40, cp_41, cp_42, cp_43, cp_44, cp_45, cp_46, cp_47, cp_48, cp_49, cp_50, cp_51, cp_52, cp_53, cp_54, cp_55, cp_56, cp_57, h16, hcol]
    have hF' : RowF k u (sC u 46 ((k * 41 + i) * 3 + p) (nI val)) := ⟨fun a ha => by simp (disch := omega) only [sC_s, sC_n, sC_2, sN_1, sN_s, sN_n, sN_2, sS_1, sS_2, sS_s, sS_n, upd_s, upd_e, upd_n], rfl, fun t ht => by simp (disch := omega) only [sC_s, sC_n, sC_2, sN_1, sN_s, sN_n, sN_2, sS_1, sS_2, sS_s, sS_n, upd_s, upd_e, upd_n]⟩
    refine .inr ⟨_, funext hstep, hF.trans hF', fun w p' hw hp' hh => ?_⟩
    have hcc : ∀ w, cellC (sC u 46 ((k * 41 + i) * 3 + p) (nI val)) z ch WD A k w p' = cellC u z ch WD A k w p' := fun w => cellC_congr hF'.2.2 (fun e => by
      simp (disch := omega) only [sC_s, sC_n, sC_2, sN_1, sN_s, sN_n, sN_2, sS_1, sS_2, sS_s, sS_n, upd_s, upd_e, upd_n]) w
    by_cases c : p' = p ∧ w = i
    · obtain ⟨rfl, rfl⟩ := c
      have e : (sC u 46 ((k * 41 + w) * 3 + p') (nI val)).1 46 ((k * 41 + w) * 3 + p') = nI val := by simp (disch := omega) only [sC_s, sC_n, sC_2, sN_1, sN_s, sN_n, sN_2, sS_1, sS_2, sS_s, sS_n, upd_s, upd_e, upd_n]
      have e2 : TC (sC u 46 ((k * 41 + w) * 3 + p') (nI val)) k w p' = val := by unfold TC; rw [e]; exact nI_clamp (by omega)
      unfold CellOk
      rw [e2, e, hcc]
      exact ⟨rfl, v1, v2, v3⟩
    · have e : (sC u 46 ((k * 41 + i) * 3 + p) (nI val)).1 46 ((k * 41 + w) * 3 + p') = u.1 46 ((k * 41 + w) * 3 + p') := by simp (disch := omega) only [sC_s, sC_n, sC_2, sN_1, sN_s, sN_n, sN_2, sS_1, sS_2, sS_s, sS_n, upd_s, upd_e, upd_n]
      have e2 : TC (sC u 46 ((k * 41 + i) * 3 + p) (nI val)) k w p' = TC u k w p' := by unfold TC; rw [e]
      unfold CellOk
      rw [e2, e, hcc]
      exact hd w p' hw hp' (by omega)
