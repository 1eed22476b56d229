/-! the class's choices at a place -/
abbrev CT : Type := Nat × Nat × Nat
def c0T : CT := (0, 0, 0)
def CHs (x : CW) (cs : List CT) : Prop := x.2.1 43 = nI cs.length ∧ x.2.1 44 = nI cs.length ∧ x.2.1 45 = nI cs.length ∧ cs.length ≤ 9 ∧ ∀ i, i < cs.length → x.1 43 i = nI (cs.getD i c0T).1 ∧ x.1 44 i = nI (cs.getD i c0T).2.1 ∧ x.1 45 i = nI (cs.getD i c0T).2.2
/-- only the choices were written -/
def LFr (x x' : CW) : Prop := (∀ k, k < 43 ∨ 45 < k → x'.1 k = x.1 k) ∧ (∀ k, k < 43 ∨ 45 < k → x'.2.1 k = x.2.1 k) ∧ ∀ k, k ≠ 6 → x'.2.2 k = x.2.2 k
theorem LFr.s {x x' : CW} (h : LFr x x') : SFr x x' := ⟨fun k hk => h.1 k (by omega), fun k hk => h.2.1 k (by omega), fun k hk => h.2.2 k (by omega)⟩
theorem LFr.trans {a b c : CW} (h : LFr a b) (h' : LFr b c) : LFr a c := ⟨fun k x => (h'.1 k x).trans (h.1 k x), fun k x => (h'.2.1 k x).trans (h.2.1 k x), fun k x => (h'.2.2 k x).trans (h.2.2 k x)⟩
theorem LFr.refl (x : CW) : LFr x x := ⟨fun _ _ => rfl, fun _ _ => rfl, fun _ _ => rfl⟩
theorem getD_app (cs : List CT) (c : CT) (i : Nat) (h : i < cs.length + 1) : (cs ++ [c]).getD i c0T = if i = cs.length then c else cs.getD i c0T := by
  by_cases e : i = cs.length
  · rw [if_pos e, e, List.getD_eq_getElem?_getD, List.getElem?_append_right (Nat.le_refl _), Nat.sub_self]; rfl
  · rw [if_neg e, List.getD_eq_getElem?_getD, List.getD_eq_getElem?_getD, List.getElem?_append_left (by omega)]
theorem l_addC {x : CW} {cs : List CT} {s w u : Nat} (h : CHs x cs) (hl : cs.length < 9) (hw : w ≤ 1000) : CHs (f_X6_addChoice x (nI s) (nI w) (nI u)) (if w = 0 then cs else cs ++ [(s, w, u)]) ∧ LFr x (f_X6_addChoice x (nI s) (nI w) (nI u)) ∧ (f_X6_addChoice x (nI s) (nI w) (nI u)).2.2 = x.2.2 := by
  obtain ⟨h1, h2, h3, h4, h5⟩ := h
  by_cases c : w = 0
  · have e : f_X6_addChoice x (nI s) (nI w) (nI u) = x := by
      unfold f_X6_addChoice
      simp (disch := omega) only [↓nmk_e, ↓reduceIte, Option.bind_some, Option.map_some, lit, ofN, nI_add, pk_sub, pk_mul, nI_clamp, nI_leI, nI_ltI, nI_eq, pk_div, nI_an, nleT, nleF, nltT, nltF, neqT, neqF, or_false, false_or, or_self, or_true, true_or, and_self, and_true, true_and, and_false, false_and, not_true_eq_false, not_false_eq_true, f_X12_isSort, f_X12_isDay, f_X11_isSort, f_X11_isDay, inI, inP, f_X5_size, f_X5_isFull, f_X11_now, f_X2_isKind, f_X2_has, f_X3_has, f_X8_hasPage, f_X8_hasAllPages, f_X8_stands, f_X1_isPrinted, f_X1_rule, f_X9_has, f_X9_isFull, f_X12_isPage, f_X12_isVerse, sC_s, sC_n, sC_2, sN_1, sN_s, sN_n, sN_2, sS_1, sS_2, sS_s, sS_n, upd_s, upd_e, upd_n, rAt, rPut, rAdd, rSwap, rPush, rNumber, cp_0, cp_1, cp_2, cp_3, cp_4, cp_5, cp_6, cp_7, cp_8, cp_9, cp_10, cp_11, cp_12, cp_13, cp_14, cp_15, cp_16, cp_17, cp_18, cp_19, cp_20, cp_21, cp_22, cp_23, cp_24, cp_25, cp_26, cp_27, cp_28, cp_29, cp_30, cp_31, cp_32, cp_33, cp_34, cp_35, cp_36, cp_37, cp_38, cp_39, cp_40, cp_41, cp_42, cp_43, cp_44, cp_45, cp_46, cp_47, cp_48, cp_49, cp_50, cp_51, cp_52, cp_53, cp_54, cp_55, cp_56, cp_57]
    rw [e, if_pos c]
    exact ⟨⟨h1, h2, h3, h4, h5⟩, LFr.refl x, rfl⟩
  · have e : f_X6_addChoice x (nI s) (nI w) (nI u) = sN (sC (sN (sC (sN (sC x 43 cs.length (nI s)) 43 (nI (cs.length + 1))) 44 cs.length (nI w)) 44 (nI (cs.length + 1))) 45 cs.length (nI u)) 45 (nI (cs.length + 1)) := by
      unfold f_X6_addChoice
      simp (disch := omega) only [↓nmk_e, ↓reduceIte, Option.bind_some, Option.map_some, lit, ofN, nI_add, pk_sub, pk_mul, nI_clamp, nI_leI, nI_ltI, nI_eq, pk_div, nI_an, nleT, nleF, nltT, nltF, neqT, neqF, or_false, false_or, or_self, or_true, true_or, and_self, and_true, true_and, and_false, false_and, not_true_eq_false, not_false_eq_true, f_X12_isSort, f_X12_isDay, f_X11_isSort, f_X11_isDay, inI, inP, f_X5_size, f_X5_isFull, f_X11_now, f_X2_isKind, f_X2_has, f_X3_has, f_X8_hasPage, f_X8_hasAllPages, f_X8_stands, f_X1_isPrinted, f_X1_rule, f_X9_has, f_X9_isFull, f_X12_isPage, f_X12_isVerse, sC_s, sC_n, sC_2, sN_1, sN_s, sN_n, sN_2, sS_1, sS_2, sS_s, sS_n, upd_s, upd_e, upd_n, rAt, rPut, rAdd, rSwap, rPush, rNumber, cp_0, cp_1, cp_2, cp_3, cp_4, cp_5, cp_6, cp_7, cp_8, cp_9, cp_10, cp_11, cp_12, cp_13, cp_14, cp_15, cp_16, cp_17, cp_18, cp_19, cp_20, cp_21, cp_22, cp_23, cp_24, cp_25, cp_26, cp_27, cp_28, cp_29, cp_30, cp_31, cp_32, cp_33, cp_34, cp_35, cp_36, cp_37, cp_38, cp_39, cp_40, cp_41, cp_42, cp_43, cp_44, cp_45, cp_46, cp_47, cp_48, cp_49, cp_50, cp_51, cp_52, cp_53, cp_54, cp_55, cp_56, cp_57, h1, h2, h3]
    rw [e, if_neg c]
    have hlen : (cs ++ [(s, w, u)]).length = cs.length + 1 := by rw [List.length_append]; rfl
    refine ⟨⟨?_, ?_, ?_, by rw [hlen]; omega, fun i hi => ?_⟩, ⟨fun k hk => ?_, fun k hk => ?_, fun k hk => rfl⟩, rfl⟩
    · rw [hlen]; simp (disch := omega) only [sC_s, sC_n, sC_2, sN_1, sN_s, sN_n, sN_2, sS_1, sS_2, sS_s, sS_n, upd_s, upd_e, upd_n]
    · rw [hlen]; simp (disch := omega) only [sC_s, sC_n, sC_2, sN_1, sN_s, sN_n, sN_2, sS_1, sS_2, sS_s, sS_n, upd_s, upd_e, upd_n]
    · rw [hlen]; simp (disch := omega) only [sC_s, sC_n, sC_2, sN_1, sN_s, sN_n, sN_2, sS_1, sS_2, sS_s, sS_n, upd_s, upd_e, upd_n]
    · rw [hlen] at hi
      rw [getD_app cs _ i hi]
      by_cases ci : i = cs.length
      · rw [if_pos ci, ci]
        simp (disch := omega) only [sC_s, sC_n, sC_2, sN_1, sN_s, sN_n, sN_2, sS_1, sS_2, sS_s, sS_n, upd_s, upd_e, upd_n, and_self]
      · rw [if_neg ci]
        have := h5 i (by omega)
        simp (disch := omega) only [sC_s, sC_n, sC_2, sN_1, sN_s, sN_n, sN_2, sS_1, sS_2, sS_s, sS_n, upd_s, upd_e, upd_n]
        exact this
    · simp (disch := omega) only [sC_s, sC_n, sC_2, sN_1, sN_s, sN_n, sN_2, sS_1, sS_2, sS_s, sS_n, upd_s, upd_e, upd_n]
    · simp (disch := omega) only [sC_s, sC_n, sC_2, sN_1, sN_s, sN_n, sN_2, sS_1, sS_2, sS_s, sS_n, upd_s, upd_e, upd_n]
def chL (pw pu : Nat → Nat → Nat) (k : Nat) : List CT := (if pw k 2 = 0 then (if pw k 3 = 0 then [] else [(3, pw k 3, pu k 3)]) else (if pw k 3 = 0 then [] else [(3, pw k 3, pu k 3)]) ++ [(2, pw k 2, pu k 2)]) ++ [(1, pw k 1, 0)]
def chB (le wi : Nat) : Nat → List CT
  | 0 => []
  | n + 1 => chB le wi n ++ [(1, le + n, wi * n)]
theorem chB_len (le wi : Nat) : ∀ n, (chB le wi n).length = n := by
  intro n
  induction n with
  | zero => rfl
  | succ n ih => show (chB le wi n ++ [_]).length = _; rw [List.length_append, ih]; rfl
def chs (z : Nat) (ch WD : Nat → Nat) (A : CA) (k : Nat) : List CT := if ltF z ch k = true then chL (pwF WD A.2.1 z ch) (puF A.2.1 z ch) k else chB (leaN A) (tN (A.1 6)) (mosN A + 1 - leaN A)
theorem l_bLoop {x : CW} {A : CA} (h2 : x.2.2 2 = nI (leaN A)) (h3 : x.2.2 3 = nI (mosN A)) (h5 : x.2.2 5 = nI (tN (A.1 6))) (b6 : tN (A.1 6) ≤ 9) (hC : CHs x []) : ∃ x', f_X6_listChoices_L45 FU (nI (leaN A)) x = some x' ∧ CHs x' (chB (leaN A) (tN (A.1 6)) (mosN A + 1 - leaN A)) ∧ LFr x x' ∧ x'.2.2 = x.2.2 := by
  have hb2 := leaN_b A
  have hb3 := mosN_b A
  refine run1 (fun q i u => f_X6_listChoices_L45 q i u) (fun i u => leaN A ≤ i ∧ CHs u (chB (leaN A) (tN (A.1 6)) (i - leaN A)) ∧ LFr x u ∧ u.2.2 = x.2.2) (mosN A + 1) (fun r => ∃ x', r = some x' ∧ CHs x' (chB (leaN A) (tN (A.1 6)) (mosN A + 1 - leaN A)) ∧ LFr x x' ∧ x'.2.2 = x.2.2) ?_ ?_ FU (leaN A) x (by omega) (by unfold FU; omega) ⟨Nat.le_refl _, by rw [Nat.sub_self]; exact hC, LFr.refl x, rfl⟩
  · rintro q u ⟨-, g1, g2, g3⟩
    have e3 : u.2.2 3 = nI (mosN A) := by rw [g3]; exact h3
    refine ⟨u, ?_, g1, g2, g3⟩
    simp (disch := omega) only [f_X6_listChoices_L45, ↓nmk_e, ↓reduceIte, Option.bind_some, Option.map_some, lit, ofN, nI_add, pk_sub, pk_mul, nI_clamp, nI_leI, nI_ltI, nI_eq, pk_div, nI_an, nleT, nleF, nltT, nltF, neqT, neqF, or_false, false_or, or_self, or_true, true_or, and_self, and_true, true_and, and_false, false_and, not_true_eq_false, not_false_eq_true, f_X12_isSort, f_X12_isDay, f_X11_isSort, f_X11_isDay, inI, inP, f_X5_size, f_X5_isFull, f_X11_now, f_X2_isKind, f_X2_has, f_X3_has, f_X8_hasPage, f_X8_hasAllPages, f_X8_stands, f_X1_isPrinted, f_X1_rule, f_X9_has, f_X9_isFull, f_X12_isPage, f_X12_isVerse, sC_s, sC_n, sC_2, sN_1, sN_s, sN_n, sN_2, sS_1, sS_2, sS_s, sS_n, upd_s, upd_e, upd_n, rAt, rPut, rAdd, rSwap, rPush, rNumber, cp_0, cp_1, cp_2, cp_3, cp_4, cp_5, cp_6, cp_7, cp_8, cp_9, cp_10, cp_11, cp_12, cp_13, cp_14, cp_15, cp_16, cp_17, cp_18, cp_19, cp_20, cp_21, cp_22, cp_23, cp_24, cp_25, cp_26, cp_27, cp_28, cp_29, cp_30, cp_31, cp_32, cp_33, cp_34, cp_35, cp_36, cp_37, cp_38, cp_39, cp_40, cp_41, cp_42, cp_43, cp_44, cp_45, cp_46, cp_47, cp_48, cp_49, cp_50, cp_51, cp_52, cp_53, cp_54, cp_55, cp_56, cp_57, e3]
  · rintro q i u hi ⟨j1, g1, g2, g3⟩
    have e2 : u.2.2 2 = nI (leaN A) := by rw [g3]; exact h2
    have e3 : u.2.2 3 = nI (mosN A) := by rw [g3]; exact h3
    have e5 : u.2.2 5 = nI (tN (A.1 6)) := by rw [g3]; exact h5
    obtain ⟨q1, q2, q3⟩ := l_addC (s := 1) (w := i) (u := tN (A.1 6) * (i - leaN A)) g1 (by rw [chB_len]; omega) (by omega)
    rw [if_neg (by omega)] at q1
    refine .inr ⟨f_X6_addChoice u (nI 1) (nI i) (nI (tN (A.1 6) * (i - leaN A))), ?_, by omega, ?_, g2.trans q2, q3.trans g3⟩
    · simp (disch := omega) only [f_X6_listChoices_L45, ↓nmk_e, ↓reduceIte, Option.bind_some, Option.map_some, lit, ofN, nI_add, pk_sub, pk_mul, nI_clamp, nI_leI, nI_ltI, nI_eq, pk_div, nI_an, nleT, nleF, nltT, nltF, neqT, neqF, or_false, false_or, or_self, or_true, true_or, and_self, and_true, true_and, and_false, false_and, not_true_eq_false, not_false_eq_true, f_X12_isSort, f_X12_isDay, f_X11_isSort, f_X11_isDay, inI, inP, f_X5_size, f_X5_isFull, f_X11_now, f_X2_isKind, f_X2_has, f_X3_has, f_X8_hasPage, f_X8_hasAllPages, f_X8_stands, f_X1_isPrinted, f_X1_rule, f_X9_has, f_X9_isFull, f_X12_isPage, f_X12_isVerse, sC_s, sC_n, sC_2, sN_1, sN_s, sN_n, sN_2, sS_1, sS_2, sS_s, sS_n, upd_s, upd_e, upd_n, rAt, rPut, rAdd, rSwap, rPush, rNumber, cp_0, cp_1, cp_2, cp_3, cp_4, cp_5, cp_6, cp_7, cp_8, cp_9, cp_10, cp_11, cp_12, cp_13, cp_14, cp_15, cp_16, cp_17, cp_18, cp_19, cp_20, cp_21, cp_22, cp_23, cp_24, cp_25, cp_26, cp_27, cp_28, cp_29, cp_30, cp_31, cp_32, cp_33, cp_34, cp_35, cp_36, cp_37, cp_38, cp_39, cp_40, cp_41, cp_42, cp_43, cp_44, cp_45, cp_46, cp_47, cp_48, cp_49, cp_50, cp_51, cp_52, cp_53, cp_54, cp_55, cp_56, cp_57, e2, e3, e5]
    · rw [show i + 1 - leaN A = (i - leaN A) + 1 by omega]
      show CHs _ (chB (leaN A) (tN (A.1 6)) (i - leaN A) ++ [(1, leaN A + (i - leaN A), tN (A.1 6) * (i - leaN A))])
      rw [show leaN A + (i - leaN A) = i by omega]
      exact q1
/-- the choices at any place; at a place of the verse the right ones -/
theorem l_list {x : CW} {z k : Nat} {ch WD : Nat → Nat} {A : CA} (h : EnvC x z ch WD A) (hk : k ≤ z) : ∃ x', f_X6_listChoices x (nI k) = some x' ∧ LFr x x' ∧ (Fnd x z ch A z → k < z → CHs x' (chs z ch WD A k) ∧ x'.2.2 6 = nI (if ltF z ch k = true then 0 else 1)) := by
  have hz := h.2.1
  obtain ⟨-, -, -, hlet, ⟨q1, q2, q3, q4, q5, q6, q7, q8⟩, hA, hW⟩ := id h
  obtain ⟨b6, c6⟩ := bdt (by decide) hA.2.2.1
  have hb2 := leaN_b A
  have hb3 := mosN_b A
  obtain ⟨ab, hab, hab2⟩ : ∃ ab, f_X6_isBlank (sN (sN (sN x 43 (nI 0)) 44 (nI 0)) 45 (nI 0)) (nI k) = nI ab ∧ ab ≤ 1 := by
    unfold f_X6_isBlank
    split
    · exact ⟨1, rfl, by omega⟩
    · exact ⟨0, rfl, by omega⟩
  let x1 := sS (sN (sN (sN x 43 (nI 0)) 44 (nI 0)) 45 (nI 0)) 6 (nI ab)
  have F1 : LFr x x1 := ⟨fun k hk => rfl, fun k hk => by
    show (sN (sN (sN x 43 (nI 0)) 44 (nI 0)) 45 (nI 0)).2.1 k = _
    simp (disch := omega) only [sC_s, sC_n, sC_2, sN_1, sN_s, sN_n, sN_2, sS_1, sS_2, sS_s, sS_n, upd_s, upd_e, upd_n], fun k hk => by
    show (sS (sN (sN (sN x 43 (nI 0)) 44 (nI 0)) 45 (nI 0)) 6 (nI ab)).2.2 k = _
    simp (disch := omega) only [sC_s, sC_n, sC_2, sN_1, sN_s, sN_n, sN_2, sS_1, sS_2, sS_s, sS_n, upd_s, upd_e, upd_n]⟩
  have C1 : CHs x1 [] := by
    refine ⟨?_, ?_, ?_, by simp, fun i hi => absurd hi (Nat.not_lt_zero i)⟩
    · show (sN (sN (sN x 43 (nI 0)) 44 (nI 0)) 45 (nI 0)).2.1 43 = _
      simp (disch := omega) only [sC_s, sC_n, sC_2, sN_1, sN_s, sN_n, sN_2, sS_1, sS_2, sS_s, sS_n, upd_s, upd_e, upd_n]; rfl
    · show (sN (sN (sN x 43 (nI 0)) 44 (nI 0)) 45 (nI 0)).2.1 44 = _
      simp (disch := omega) only [sC_s, sC_n, sC_2, sN_1, sN_s, sN_n, sN_2, sS_1, sS_2, sS_s, sS_n, upd_s, upd_e, upd_n]; rfl
    · show (sN (sN (sN x 43 (nI 0)) 44 (nI 0)) 45 (nI 0)).2.1 45 = _
      simp (disch := omega) only [sC_s, sC_n, sC_2, sN_1, sN_s, sN_n, sN_2, sS_1, sS_2, sS_s, sS_n, upd_s, upd_e, upd_n]; rfl
  have s6 : x1.2.2 6 = nI ab := by
    show (sS (sN (sN (sN x 43 (nI 0)) 44 (nI 0)) 45 (nI 0)) 6 (nI ab)).2.2 6 = _
    simp (disch := omega) only [sC_s, sC_n, sC_2, sN_1, sN_s, sN_n, sN_2, sS_1, sS_2, sS_s, sS_n, upd_s, upd_e, upd_n]
  have hblk : k < z → nI ab = nI (if ltF z ch k = true then 0 else 1) := fun hkz => by
    rw [← hab, ← l_blk h hkz]; rfl
  have hE1 := h.f F1.s
  by_cases c : ab = 0
  · -- a letter, or behind the verse
    let t3 := rAt x1 41 (nI k)
    let t2 := rAt x1 42 (nI k)
    let x2 := f_X6_addChoice x1 (nI 3) (rAt x1 38 t3) (rAt x1 39 t3)
    let x3 := f_X6_addChoice x2 (nI 2) (rAt x2 38 t2) (rAt x2 39 t2)
    let x4 := f_X6_addChoice x3 (nI 1) (rAt x3 12 (rAt x3 40 (nI k))) (nI 0)
    have addF : ∀ (y : CW) (a b d : Int32), LFr y (f_X6_addChoice y a b d) := fun y a b d => by
      have hp : ∀ (y : CW) (k : Nat) (v : Int32), (k = 43 ∨ k = 44 ∨ k = 45) → LFr y (rPush y k v) := fun y k v hk => by
        unfold rPush
        split
        · exact LFr.refl y
        · refine ⟨fun j hj => ?_, fun j hj => ?_, fun _ _ => rfl⟩
          · rw [sN_1, sC_n _ _ _ (by omega)]
          · rw [sN_n _ _ (by omega)]; rfl
      unfold f_X6_addChoice
      split
      · exact LFr.refl y
      · exact ((hp y 43 a (by omega)).trans (hp _ 44 b (by omega))).trans (hp _ 45 d (by omega))
    have F4 : LFr x x4 := ((F1.trans (addF _ _ _ _)).trans (addF _ _ _ _)).trans (addF _ _ _ _)
    refine ⟨x4, ?_, F4, fun hFnd hkz => ?_⟩
    · unfold f_X6_listChoices
      have e6 : (sS (sN (sN (sN x 43 0) 44 0) 45 0) 6 (nI ab)).2.2 6 = 0 := by rw [sS_s, c]; rfl
      have hab' : f_X6_isBlank (sN (sN (sN x 43 0) 44 0) 45 0) (nI k) = nI ab := hab
      simp only [nmk_e, f_X5_clear, hab']
      rw [if_pos e6]
      rfl
    · have hl : ltF z ch k = true := by
        have := hblk hkz
        cases e : ltF z ch k
        · rw [e, c] at this
          exact absurd this (by decide)
        · rfl
      obtain ⟨p2, p3⟩ := hFnd k hkz
      have e41 : t3 = x.1 41 k := aT x1 (by omega) (show k < 60 by omega)
      have e42 : t2 = x.1 42 k := aT x1 (by omega) (show k < 60 by omega)
      obtain ⟨w3, u3, l3, m3⟩ := (p3.f F1.s).pw (WD := WD) hA q7 (.inr rfl)
      rw [← e41] at w3 u3
      have G2 := addF x1 (nI 3) (rAt x1 38 t3) (rAt x1 39 t3)
      obtain ⟨w2, u2, l2, m2⟩ := ((p2.f F1.s).f G2.s).pw (WD := WD) hA q7 (.inl rfl)
      rw [← e42] at w2 u2
      have hx2 : x2 = f_X6_addChoice x1 (nI 3) (nI (pwF WD A.2.1 z ch k 3)) (nI (puF A.2.1 z ch k 3)) := by show f_X6_addChoice x1 (nI 3) _ _ = _; rw [w3, u3]
      have hx3 : x3 = f_X6_addChoice x2 (nI 2) (nI (pwF WD A.2.1 z ch k 2)) (nI (puF A.2.1 z ch k 2)) := by
        show f_X6_addChoice x2 (nI 2) _ _ = _
        have w2 : rAt x2 38 t2 = _ := w2
        have u2 : rAt x2 39 t2 = _ := u2
        rw [w2, u2]
      obtain ⟨A1, -, B1⟩ := l_addC (s := 3) (u := puF A.2.1 z ch k 3) C1 (by decide) (show pwF WD A.2.1 z ch k 3 ≤ 1000 by omega)
      rw [← hx2] at A1 B1
      have len1 : (if pwF WD A.2.1 z ch k 3 = 0 then [] else [] ++ [(3, pwF WD A.2.1 z ch k 3, puF A.2.1 z ch k 3)] : List CT).length ≤ 1 := by split <;> simp
      obtain ⟨A2, -, B2⟩ := l_addC (s := 2) (u := puF A.2.1 z ch k 2) A1 (by omega) (show pwF WD A.2.1 z ch k 2 ≤ 1000 by omega)
      rw [← hx3] at A2 B2
      have F3 : LFr x x3 := (F1.trans (addF _ _ _ _)).trans (addF _ _ _ _)
      have e40 : rAt x3 40 (nI k) = nI (ch k - 97) := by
        rw [aT x3 (by omega) (show k < 60 by omega), F3.1 40 (by omega), (hlet k hkz).1, if_pos (ltF_iff.mp hl).2]
      have hch := (hlet k hkz).2
      have hl97 := (ltF_iff.mp hl).2
      obtain ⟨d1, d2, d3⟩ := hW (ch k - 97) (by omega)
      have e12 : rAt x3 12 (rAt x3 40 (nI k)) = nI (pwF WD A.2.1 z ch k 1) := by
        rw [e40, aT x3 (by omega) (show ch k - 97 < 27 by omega), F3.1 12 (by omega), d1]
        unfold pwF; rw [if_pos rfl, if_pos hl]
      have hp1 : pwF WD A.2.1 z ch k 1 = WD (ch k - 97) := by unfold pwF; rw [if_pos rfl, if_pos hl]
      have hx4 : x4 = f_X6_addChoice x3 (nI 1) (nI (pwF WD A.2.1 z ch k 1)) (nI 0) := by show f_X6_addChoice x3 (nI 1) _ _ = _; rw [e12]
      obtain ⟨A3, -, B3⟩ := l_addC (s := 1) (u := 0) A2 (by
        by_cases q : pwF WD A.2.1 z ch k 2 = 0
        · rw [if_pos q]; omega
        · rw [if_neg q, List.length_append]
          show _ + 1 < 9
          omega) (show pwF WD A.2.1 z ch k 1 ≤ 1000 by omega)
      rw [← hx4, if_neg (by omega)] at A3
      rw [← hx4] at B3
      refine ⟨?_, ?_⟩
      · unfold chs chL
        rw [if_pos hl]
        simp only [List.nil_append] at A3
        exact A3
      · rw [B3, B2, B1, s6]; exact hblk hkz
  · have c : ab = 1 := by omega
    obtain ⟨x', e1, e2, e3, e4⟩ := l_bLoop (x := x1) (A := A) (by rw [F1.2.2 2 (by decide)]; exact q2) (by rw [F1.2.2 3 (by decide)]; exact q3) (by rw [F1.2.2 5 (by decide), q5]; exact b6) c6 C1
    refine ⟨x', ?_, F1.trans e3, fun hFnd hkz => ?_⟩
    · unfold f_X6_listChoices
      have e6 : ¬ (sS (sN (sN (sN x 43 0) 44 0) 45 0) 6 (nI ab)).2.2 6 = 0 := by rw [sS_s, c]; decide
      have hab' : f_X6_isBlank (sN (sN (sN x 43 0) 44 0) 45 0) (nI k) = nI ab := hab
      have e22 : (sS (sN (sN (sN x 43 0) 44 0) 45 0) 6 (nI ab)).2.2 2 = nI (leaN A) := by rw [sS_n _ _ (by decide)]; exact q2
      simp only [nmk_e, f_X5_clear, hab']
      rw [if_neg e6, e22]
      exact e1
    · have hl : ¬ ltF z ch k = true := fun e => by
        have := hblk hkz
        rw [e, c] at this
        exact absurd this (by decide)
      unfold chs
      rw [if_neg hl]
      exact ⟨e2, by rw [e4, s6, c, if_neg hl]⟩
