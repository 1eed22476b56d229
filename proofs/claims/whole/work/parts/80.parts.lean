/-! the reference's enumeration -/
theorem sg_cons (f : Nat → Nat) (n : Nat) : sg f (n + 1) = f 0 + sg (fun i => f (i + 1)) n := by
  rw [Nat.add_comm n 1, sg_app]
  show 0 + f 0 + _ = _
  rw [Nat.zero_add]
  congr 1
  exact sg_congr n fun i _ => by rw [Nat.add_comm]
theorem sJ_sg {al : Nat → Nat} {n i : Nat} : ∀ (gs : List Nat) (F : List Nat → Nat), sJ al n i F gs = sg (fun j => if cqB al n (gs.getD j 0 ||| 2 ^ i) = true then F (gs.set j (gs.getD j 0 ||| 2 ^ i)) else 0) gs.length := by
  intro gs
  induction gs with
  | nil => intro F; rfl
  | cons g gs ih =>
    intro F
    show (if cqB al n (g ||| 2 ^ i) = true then F ((g ||| 2 ^ i) :: gs) else 0) + sJ al n i (fun x => F (g :: x)) gs = sg _ (gs.length + 1)
    rw [sg_cons, ih]
    rfl
theorem Rg_low {al : Nat → Nat} {n : Nat} : ∀ k (gs : List Nat) m, m < gs.length → Rg al n k gs m = 0 := by
  intro k
  induction k with
  | zero => intro gs m h; exact if_neg (by omega)
  | succ k ih =>
    intro gs m h
    show sJ al n _ _ gs + Rg al n k (gs ++ [_]) m = 0
    rw [ih (gs ++ [2 ^ (n - (k + 1))]) m (by rw [List.length_append]; omega), sJ_sg, Nat.add_zero]
    exact sg_zero _ fun j hj => by
      show (if _ then Rg al n k (gs.set j _) m else 0) = 0
      rw [ih _ m (by rw [List.length_set]; exact h)]
      split <;> rfl
def PaF (v v' : CW) : Prop := (∀ k, k ≠ 15 → v'.1 k = v.1 k) ∧ v'.2.1 = v.2.1 ∧ ∀ k, k ≠ 27 → k ≠ 28 → v'.2.2 k = v.2.2 k
theorem PaF.trans {a b c : CW} (h : PaF a b) (h' : PaF b c) : PaF a c :=
  ⟨fun k x => (h'.1 k x).trans (h.1 k x), h'.2.1.trans h.2.1, fun k x y => (h'.2.2 k x y).trans (h.2.2 k x y)⟩
def PaR (v : CW) (gs : List Nat) (F : Nat → Nat) : Prop := (∀ j, j < gs.length → v.1 15 j = nI (gs.getD j 0)) ∧ ∃ a y, v.2.2 27 = nI a ∧ v.2.2 28 = nI y ∧ LdZ F a y
theorem LdZ.le {F : Nat → Nat} {a y : Nat} (h : LdZ F a y) : a ≤ 11 := by
  rcases h with ⟨-, h⟩ | ⟨h, -⟩ <;> omega
theorem l_parts {hb : Nat → Nat} {d n : Nat} (hn : n ≤ 10) : ∀ (k D : Nat) (gs : List Nat) (F : Nat → Nat) (v : CW), k ≤ n → k < D → v.1 0 7 = nI n → (∀ a, a < n → v.1 14 a = nI (Alk hb d n a)) → gs.length ≤ n - k → (∀ g, g ∈ gs → cqB (Alk hb d n) n g = true ∧ g < 2 ^ n) → PaR v gs F →
    ∃ v', f_X12_parts D v (nI (n - k)) (nI gs.length) = some v' ∧ PaF v v' ∧ PaR v' gs (fun m => F m + Rg (Alk hb d n) n k gs m) := by
  intro k
  induction k with
  | zero =>
    intro D gs F v hk hD n1 hal hl hg hR
    obtain ⟨D, rfl⟩ : ∃ q, D = q + 1 := ⟨D - 1, by omega⟩
    obtain ⟨r1, a, y, r2, r3, r4⟩ := hR
    have hle := r4.le
    have hL : Ld (fun m => Rg (Alk hb d n) n 0 gs m) gs.length 1 := by
      refine ⟨if_pos rfl, by omega, fun b hb => if_neg (by omega)⟩
    obtain ⟨c1, c2, c3⟩ := r4.add hL (by omega)
    rw [Nat.sub_zero]
    show ∃ v', h_X12_parts (f_X12_parts D) v (nI n) (nI gs.length) = some v' ∧ _
    unfold h_X12_parts
    rcases Nat.lt_trichotomy gs.length a with c | c | c
    · refine ⟨sS (sS v 28 (nI 1)) 27 (nI gs.length), ?_, ⟨fun _ _ => rfl, rfl, fun k x y => ?_⟩, fun j hj => r1 j hj, gs.length, 1, ?_, ?_, c1 c⟩
      · simp (disch := omega) only [↓nmk_e, ↓reduceIte, Option.bind_some, Option.map_some, lit, ofN, nI_add, pk_sub, pk_mul, nI_clamp, nI_leI, nI_ltI, nI_eq, pk_div, nI_an, nleT, nleF, nltT, nltF, neqT, neqF, or_false, false_or, or_self, or_true, true_or, and_self, and_true, true_and, and_false, false_and, not_true_eq_false, not_false_eq_true, f_X12_isSort, f_X12_isDay, f_X11_isSort, f_X11_isDay, inI, inP, f_X5_size, f_X5_isFull, f_X11_now, f_X2_isKind, f_X2_has, f_X3_has, f_X8_hasPage, f_X8_hasAllPages, f_X8_stands, f_X1_isPrinted, f_X1_rule, f_X9_has, f_X9_isFull, f_X12_isPage, f_X12_isVerse, sC_s, sC_n, sC_2, sN_1, sN_s, sN_n, sN_2, sS_1, sS_2, sS_s, sS_n, upd_s, upd_e, upd_n, rAt, rPut, rAdd, rSwap, rPush, rNumber, cp_0, cp_1, cp_2, cp_3, cp_4, cp_5, cp_6, cp_7, cp_8, cp_9, cp_10, cp_11, cp_12, cp_13, cp_14, cp_15, cp_16, cp_17, cp_18, cp_19, cp_20, cp_21, cp_22, cp_23, cp_24, cp_25, cp_26, cp_27, cp_28, cp_29, cp_30, cp_31, cp_32, cp_33, cp_34, cp_35, cp_36, cp_37, cp_38, cp_39, cp_40, cp_41, cp_42, cp_43, cp_44, cp_45, cp_46, cp_47, cp_48, cp_49, cp_50, cp_51, cp_52, cp_53, cp_54, cp_55, cp_56, cp_57, r2, r3, n1]
      · simp (disch := omega) only [sC_s, sC_n, sC_2, sN_1, sN_s, sN_n, sN_2, sS_1, sS_2, sS_s, sS_n, upd_s, upd_e, upd_n]
      · simp (disch := omega) only [sC_s, sC_n, sC_2, sN_1, sN_s, sN_n, sN_2, sS_1, sS_2, sS_s, sS_n, upd_s, upd_e, upd_n]
      · simp (disch := omega) only [sC_s, sC_n, sC_2, sN_1, sN_s, sN_n, sN_2, sS_1, sS_2, sS_s, sS_n, upd_s, upd_e, upd_n]
    · refine ⟨sS (sS v 28 (nI (y + 1))) 27 (nI gs.length), ?_, ⟨fun _ _ => rfl, rfl, fun k x y => ?_⟩, fun j hj => r1 j hj, a, y + 1, ?_, ?_, c2 c⟩
      · simp (disch := omega) only [↓nmk_e, ↓reduceIte, Option.bind_some, Option.map_some, lit, ofN, nI_add, pk_sub, pk_mul, nI_clamp, nI_leI, nI_ltI, nI_eq, pk_div, nI_an, nleT, nleF, nltT, nltF, neqT, neqF, or_false, false_or, or_self, or_true, true_or, and_self, and_true, true_and, and_false, false_and, not_true_eq_false, not_false_eq_true, f_X12_isSort, f_X12_isDay, f_X11_isSort, f_X11_isDay, inI, inP, f_X5_size, f_X5_isFull, f_X11_now, f_X2_isKind, f_X2_has, f_X3_has, f_X8_hasPage, f_X8_hasAllPages, f_X8_stands, f_X1_isPrinted, f_X1_rule, f_X9_has, f_X9_isFull, f_X12_isPage, f_X12_isVerse, sC_s, sC_n, sC_2, sN_1, sN_s, sN_n, sN_2, sS_1, sS_2, sS_s, sS_n, upd_s, upd_e, upd_n, rAt, rPut, rAdd, rSwap, rPush, rNumber, cp_0, cp_1, cp_2, cp_3, cp_4, cp_5, cp_6, cp_7, cp_8, cp_9, cp_10, cp_11, cp_12, cp_13, cp_14, cp_15, cp_16, cp_17, cp_18, cp_19, cp_20, cp_21, cp_22, cp_23, cp_24, cp_25, cp_26, cp_27, cp_28, cp_29, cp_30, cp_31, cp_32, cp_33, cp_34, cp_35, cp_36, cp_37, cp_38, cp_39, cp_40, cp_41, cp_42, cp_43, cp_44, cp_45, cp_46, cp_47, cp_48, cp_49, cp_50, cp_51, cp_52, cp_53, cp_54, cp_55, cp_56, cp_57, r2, r3, n1]
      · simp (disch := omega) only [sC_s, sC_n, sC_2, sN_1, sN_s, sN_n, sN_2, sS_1, sS_2, sS_s, sS_n, upd_s, upd_e, upd_n]
      · simp (disch := omega) only [sC_s, sC_n, sC_2, sN_1, sN_s, sN_n, sN_2, sS_1, sS_2, sS_s, sS_n, upd_s, upd_e, upd_n]; rw [c]
      · simp (disch := omega) only [sC_s, sC_n, sC_2, sN_1, sN_s, sN_n, sN_2, sS_1, sS_2, sS_s, sS_n, upd_s, upd_e, upd_n]
    · refine ⟨v, ?_, ⟨fun _ _ => rfl, rfl, fun k x y => rfl⟩, fun j hj => r1 j hj, a, y, r2, r3, c3 c⟩
      simp (disch := omega) only [↓nmk_e, ↓reduceIte, Option.bind_some, Option.map_some, lit, ofN, nI_add, pk_sub, pk_mul, nI_clamp, nI_leI, nI_ltI, nI_eq, pk_div, nI_an, nleT, nleF, nltT, nltF, neqT, neqF, or_false, false_or, or_self, or_true, true_or, and_self, and_true, true_and, and_false, false_and, not_true_eq_false, not_false_eq_true, f_X12_isSort, f_X12_isDay, f_X11_isSort, f_X11_isDay, inI, inP, f_X5_size, f_X5_isFull, f_X11_now, f_X2_isKind, f_X2_has, f_X3_has, f_X8_hasPage, f_X8_hasAllPages, f_X8_stands, f_X1_isPrinted, f_X1_rule, f_X9_has, f_X9_isFull, f_X12_isPage, f_X12_isVerse, sC_s, sC_n, sC_2, sN_1, sN_s, sN_n, sN_2, sS_1, sS_2, sS_s, sS_n, upd_s, upd_e, upd_n, rAt, rPut, rAdd, rSwap, rPush, rNumber, cp_0, cp_1, cp_2, cp_3, cp_4, cp_5, cp_6, cp_7, cp_8, cp_9, cp_10, cp_11, cp_12, cp_13, cp_14, cp_15, cp_16, cp_17, cp_18, cp_19, cp_20, cp_21, cp_22, cp_23, cp_24, cp_25, cp_26, cp_27, cp_28, cp_29, cp_30, cp_31, cp_32, cp_33, cp_34, cp_35, cp_36, cp_37, cp_38, cp_39, cp_40, cp_41, cp_42, cp_43, cp_44, cp_45, cp_46, cp_47, cp_48, cp_49, cp_50, cp_51, cp_52, cp_53, cp_54, cp_55, cp_56, cp_57, r2]
  | succ k ih =>
    intro D gs F v hk hD n1 hal hl hg hR
    obtain ⟨D, rfl⟩ : ∃ q, D = q + 1 := ⟨D - 1, by omega⟩
    obtain ⟨i, hi⟩ : ∃ i, i = n - (k + 1) := ⟨_, rfl⟩
    have hik : n - k = i + 1 := by omega
    rw [← hi]
    show ∃ v', h_X12_parts (f_X12_parts D) v (nI i) (nI gs.length) = some v' ∧ _
    unfold h_X12_parts
    obtain ⟨r1, a, y, r2, r3, r4⟩ := hR
    have hle := r4.le
    by_cases cp : a < gs.length
    · refine ⟨v, ?_, ⟨fun _ _ => rfl, rfl, fun k x y => rfl⟩, r1, a, y, r2, r3, ?_⟩
      · simp (disch := omega) only [↓nmk_e, ↓reduceIte, Option.bind_some, Option.map_some, lit, ofN, nI_add, pk_sub, pk_mul, nI_clamp, nI_leI, nI_ltI, nI_eq, pk_div, nI_an, nleT, nleF, nltT, nltF, neqT, neqF, or_false, false_or, or_self, or_true, true_or, and_self, and_true, true_and, and_false, false_and, not_true_eq_false, not_false_eq_true, f_X12_isSort, f_X12_isDay, f_X11_isSort, f_X11_isDay, inI, inP, f_X5_size, f_X5_isFull, f_X11_now, f_X2_isKind, f_X2_has, f_X3_has, f_X8_hasPage, f_X8_hasAllPages, f_X8_stands, f_X1_isPrinted, f_X1_rule, f_X9_has, f_X9_isFull, f_X12_isPage, f_X12_isVerse, sC_s, sC_n, sC_2, sN_1, sN_s, sN_n, sN_2, sS_1, sS_2, sS_s, sS_n, upd_s, upd_e, upd_n, rAt, rPut, rAdd, rSwap, rPush, rNumber, cp_0, cp_1, cp_2, cp_3, cp_4, cp_5, cp_6, cp_7, cp_8, cp_9, cp_10, cp_11, cp_12, cp_13, cp_14, cp_15, cp_16, cp_17, cp_18, cp_19, cp_20, cp_21, cp_22, cp_23, cp_24, cp_25, cp_26, cp_27, cp_28, cp_29, cp_30, cp_31, cp_32, cp_33, cp_34, cp_35, cp_36, cp_37, cp_38, cp_39, cp_40, cp_41, cp_42, cp_43, cp_44, cp_45, cp_46, cp_47, cp_48, cp_49, cp_50, cp_51, cp_52, cp_53, cp_54, cp_55, cp_56, cp_57, r2]
      · rcases r4 with ⟨⟨h1, h2, h3⟩, h4⟩ | ⟨h1, h2⟩
        · refine .inl ⟨⟨?_, h2, fun b hb => ?_⟩, h4⟩
          · show F a + Rg _ n (k + 1) gs a = y
            rw [Rg_low (k + 1) gs a cp]; exact h1
          · show F b + Rg _ n (k + 1) gs b = 0
            rw [Rg_low (k + 1) gs b (by omega), h3 b hb]
        · omega
    · have hterm : ∀ m, Rg (Alk hb d n) n (k + 1) gs m = sg (fun j => if cqB (Alk hb d n) n (gs.getD j 0 ||| 2 ^ i) = true then Rg (Alk hb d n) n k (gs.set j (gs.getD j 0 ||| 2 ^ i)) m else 0) gs.length + Rg (Alk hb d n) n k (gs ++ [2 ^ i]) m := fun m => by
        show sJ _ n (n - (k + 1)) _ gs + Rg _ n k (gs ++ [2 ^ (n - (k + 1))]) m = _
        rw [sJ_sg, ← hi]
      have hal31 : ∀ a, a < n → Alk hb d n a < 2 ^ 31 := fun a _ => Nat.lt_of_lt_of_le (Alk_lt hb d n a) (Nat.pow_le_pow_right (by decide) (by omega))
      have key := run1 (fun q j (x : CW) => f_X12_parts_L50 (f_X12_parts D) (nI i) (nI gs.length) q j x) (fun j x => PaF v x ∧ ((j ≤ gs.length ∧ PaR x gs (fun m => F m + sg (fun j => if cqB (Alk hb d n) n (gs.getD j 0 ||| 2 ^ i) = true then Rg (Alk hb d n) n k (gs.set j (gs.getD j 0 ||| 2 ^ i)) m else 0) j)) ∨ (j = gs.length + 1 ∧ PaR x gs (fun m => F m + Rg (Alk hb d n) n (k + 1) gs m)))) (gs.length + 1) (fun y => ∃ v', y = some v' ∧ PaF v v' ∧ PaR v' gs (fun m => F m + Rg (Alk hb d n) n (k + 1) gs m)) ?_ ?_ FU 0 v (Nat.zero_le _) (by unfold FU; omega) ⟨⟨fun _ _ => rfl, rfl, fun _ _ _ => rfl⟩, .inl ⟨Nat.zero_le _, r1, a, y, r2, r3, r4⟩⟩
      · obtain ⟨v', e1, e2, e3⟩ := key
        have e1 : f_X12_parts_L50 (f_X12_parts D) (nI i) (nI gs.length) FU (nI 0) v = some v' := e1
        refine ⟨v', ?_, e2, e3⟩
        simp (disch := omega) only [↓nmk_e, ↓reduceIte, Option.bind_some, Option.map_some, lit, ofN, nI_add, pk_sub, pk_mul, nI_clamp, nI_leI, nI_ltI, nI_eq, pk_div, nI_an, nleT, nleF, nltT, nltF, neqT, neqF, or_false, false_or, or_self, or_true, true_or, and_self, and_true, true_and, and_false, false_and, not_true_eq_false, not_false_eq_true, f_X12_isSort, f_X12_isDay, f_X11_isSort, f_X11_isDay, inI, inP, f_X5_size, f_X5_isFull, f_X11_now, f_X2_isKind, f_X2_has, f_X3_has, f_X8_hasPage, f_X8_hasAllPages, f_X8_stands, f_X1_isPrinted, f_X1_rule, f_X9_has, f_X9_isFull, f_X12_isPage, f_X12_isVerse, sC_s, sC_n, sC_2, sN_1, sN_s, sN_n, sN_2, sS_1, sS_2, sS_s, sS_n, upd_s, upd_e, upd_n, rAt, rPut, rAdd, rSwap, rPush, rNumber, cp_0, cp_1, cp_2, cp_3, cp_4, cp_5, cp_6, cp_7, cp_8, cp_9, cp_10, cp_11, cp_12, cp_13, cp_14, cp_15, cp_16, cp_17, cp_18, cp_19, cp_20, cp_21, cp_22, cp_23, cp_24, cp_25, cp_26, cp_27, cp_28, cp_29, cp_30, cp_31, cp_32, cp_33, cp_34, cp_35, cp_36, cp_37, cp_38, cp_39, cp_40, cp_41, cp_42, cp_43, cp_44, cp_45, cp_46, cp_47, cp_48, cp_49, cp_50, cp_51, cp_52, cp_53, cp_54, cp_55, cp_56, cp_57, r2, n1, e1]
      · rintro q x ⟨h1, ⟨h2, -⟩ | ⟨-, h2⟩⟩
        · omega
        · refine ⟨x, ?_, h1, h2⟩
          simp (disch := omega) only [f_X12_parts_L50, ↓nmk_e, ↓reduceIte, Option.bind_some, Option.map_some, lit, ofN, nI_add, pk_sub, pk_mul, nI_clamp, nI_leI, nI_ltI, nI_eq, pk_div, nI_an, nleT, nleF, nltT, nltF, neqT, neqF, or_false, false_or, or_self, or_true, true_or, and_self, and_true, true_and, and_false, false_and, not_true_eq_false, not_false_eq_true, f_X12_isSort, f_X12_isDay, f_X11_isSort, f_X11_isDay, inI, inP, f_X5_size, f_X5_isFull, f_X11_now, f_X2_isKind, f_X2_has, f_X3_has, f_X8_hasPage, f_X8_hasAllPages, f_X8_stands, f_X1_isPrinted, f_X1_rule, f_X9_has, f_X9_isFull, f_X12_isPage, f_X12_isVerse, sC_s, sC_n, sC_2, sN_1, sN_s, sN_n, sN_2, sS_1, sS_2, sS_s, sS_n, upd_s, upd_e, upd_n, rAt, rPut, rAdd, rSwap, rPush, rNumber, cp_0, cp_1, cp_2, cp_3, cp_4, cp_5, cp_6, cp_7, cp_8, cp_9, cp_10, cp_11, cp_12, cp_13, cp_14, cp_15, cp_16, cp_17, cp_18, cp_19, cp_20, cp_21, cp_22, cp_23, cp_24, cp_25, cp_26, cp_27, cp_28, cp_29, cp_30, cp_31, cp_32, cp_33, cp_34, cp_35, cp_36, cp_37, cp_38, cp_39, cp_40, cp_41, cp_42, cp_43, cp_44, cp_45, cp_46, cp_47, cp_48, cp_49, cp_50, cp_51, cp_52, cp_53, cp_54, cp_55, cp_56, cp_57]
      · rintro q j x hj ⟨h1, ⟨h2, h3⟩ | ⟨h2, -⟩⟩
        · obtain ⟨s1, sa, sy, s2, s3, s4⟩ := h3
          have m1 : x.1 0 7 = nI n := by rw [h1.1 0 (by decide)]; exact n1
          have m2 : ∀ a, a < n → x.1 14 a = nI (Alk hb d n a) := fun a ha => by rw [h1.1 14 (by decide)]; exact hal a ha
          have m3 := m2 i (by omega)
          by_cases cj : j = gs.length
          · -- a new set
            have hset : nI 0 ||| (nI 1 <<< (nI i &&& nI 31)) = nI (2 ^ i) := by rw [or1 (by omega), Nat.zero_or]
            have han := andn (a := 0) (b := Alk hb d n i) (by decide) (hal31 i (by omega))
            rw [Nat.zero_and] at han
            obtain ⟨v', e1, e2, e3, ea, ey, e4, e5, e6⟩ := ih D (gs ++ [2 ^ i]) (fun m => F m + sg (fun j => if cqB (Alk hb d n) n (gs.getD j 0 ||| 2 ^ i) = true then Rg (Alk hb d n) n k (gs.set j (gs.getD j 0 ||| 2 ^ i)) m else 0) gs.length) (sC x 15 gs.length (nI (2 ^ i))) (by omega) (by omega) (by simp (disch := omega) only [sC_s, sC_n, sC_2, sN_1, sN_s, sN_n, sN_2, sS_1, sS_2, sS_s, sS_n, upd_s, upd_e, upd_n]; exact m1) (fun a ha => by simp (disch := omega) only [sC_s, sC_n, sC_2, sN_1, sN_s, sN_n, sN_2, sS_1, sS_2, sS_s, sS_n, upd_s, upd_e, upd_n]; exact m2 a ha) (by rw [List.length_append]; show gs.length + 1 ≤ _; omega) (fun g hgm => by
              rcases List.mem_append.mp hgm with h | h
              · exact hg g h
              · rw [List.mem_singleton.mp h]
                exact ⟨cq1 (Alk_r hb d n), Nat.pow_lt_pow_right (by decide) (by omega)⟩) ⟨fun t ht => by
                rw [List.length_append] at ht
                have ht : t < gs.length + 1 := ht
                by_cases c : t = gs.length
                · subst c
                  simp (disch := omega) only [sC_s, sC_n, sC_2, sN_1, sN_s, sN_n, sN_2, sS_1, sS_2, sS_s, sS_n, upd_s, upd_e, upd_n]
                  rw [List.getD_eq_getElem?_getD, List.getElem?_append_right (Nat.le_refl _), Nat.sub_self]; rfl
                · simp (disch := omega) only [sC_s, sC_n, sC_2, sN_1, sN_s, sN_n, sN_2, sS_1, sS_2, sS_s, sS_n, upd_s, upd_e, upd_n]
                  rw [s1 t (by omega), List.getD_eq_getElem?_getD, List.getD_eq_getElem?_getD, List.getElem?_append_left (by omega)], sa, sy, s2, s3, by rw [← cj]; exact s4⟩
            rw [hik, List.length_append] at e1
            have e1 : f_X12_parts D (sC x 15 gs.length (nI (2 ^ i))) (nI (i + 1)) (nI (gs.length + 1)) = some v' := e1
            refine .inr ⟨sC v' 15 gs.length (nI 0), ?_, ⟨fun k hk => ?_, ?_, fun k hk1 hk2 => ?_⟩, .inr ⟨by omega, fun t ht => ?_, ea, ey, e4, e5, e6.congr fun m _ => ?_⟩⟩
            · subst cj
              simp (disch := omega) only [f_X12_parts_L50, ↓nmk_e, ↓reduceIte, Option.bind_some, Option.map_some, lit, ofN, nI_add, pk_sub, pk_mul, nI_clamp, nI_leI, nI_ltI, nI_eq, pk_div, nI_an, nleT, nleF, nltT, nltF, neqT, neqF, or_false, false_or, or_self, or_true, true_or, and_self, and_true, true_and, and_false, false_and, not_true_eq_false, not_false_eq_true, f_X12_isSort, f_X12_isDay, f_X11_isSort, f_X11_isDay, inI, inP, f_X5_size, f_X5_isFull, f_X11_now, f_X2_isKind, f_X2_has, f_X3_has, f_X8_hasPage, f_X8_hasAllPages, f_X8_stands, f_X1_isPrinted, f_X1_rule, f_X9_has, f_X9_isFull, f_X12_isPage, f_X12_isVerse, sC_s, sC_n, sC_2, sN_1, sN_s, sN_n, sN_2, sS_1, sS_2, sS_s, sS_n, upd_s, upd_e, upd_n, rAt, rPut, rAdd, rSwap, rPush, rNumber, cp_0, cp_1, cp_2, cp_3, cp_4, cp_5, cp_6, cp_7, cp_8, cp_9, cp_10, cp_11, cp_12, cp_13, cp_14, cp_15, cp_16, cp_17, cp_18, cp_19, cp_20, cp_21, cp_22, cp_23, cp_24, cp_25, cp_26, cp_27, cp_28, cp_29, cp_30, cp_31, cp_32, cp_33, cp_34, cp_35, cp_36, cp_37, cp_38, cp_39, cp_40, cp_41, cp_42, cp_43, cp_44, cp_45, cp_46, cp_47, cp_48, cp_49, cp_50, cp_51, cp_52, cp_53, cp_54, cp_55, cp_56, cp_57, m3, han, hset, e1]
            · simp (disch := omega) only [sC_s, sC_n, sC_2, sN_1, sN_s, sN_n, sN_2, sS_1, sS_2, sS_s, sS_n, upd_s, upd_e, upd_n]
              rw [e2.1 k hk]
              simp (disch := omega) only [sC_s, sC_n, sC_2, sN_1, sN_s, sN_n, sN_2, sS_1, sS_2, sS_s, sS_n, upd_s, upd_e, upd_n]
              exact h1.1 k hk
            · show v'.2.1 = _
              rw [e2.2.1]; exact h1.2.1
            · show v'.2.2 k = _
              rw [e2.2.2 k hk1 hk2]; exact h1.2.2 k hk1 hk2
            · simp (disch := omega) only [sC_s, sC_n, sC_2, sN_1, sN_s, sN_n, sN_2, sS_1, sS_2, sS_s, sS_n, upd_s, upd_e, upd_n]
              rw [e3 t (by rw [List.length_append]; omega), List.getD_eq_getElem?_getD, List.getD_eq_getElem?_getD, List.getElem?_append_left (by omega)]
            · rw [hterm m, Nat.add_assoc]
          · have hjl : j < gs.length := by omega
            obtain ⟨g, hge⟩ : ∃ g, g = gs.getD j 0 := ⟨_, rfl⟩
            have hgm : g ∈ gs := by
              rw [hge, List.getD_eq_getElem?_getD, List.getElem?_eq_getElem hjl]
              exact List.getElem_mem hjl
            obtain ⟨g1, g2⟩ := hg g hgm
            have g31 : g < 2 ^ 31 := Nat.lt_of_lt_of_le g2 (Nat.pow_le_pow_right (by decide) (by omega))
            have hset : nI g ||| (nI 1 <<< (nI i &&& nI 31)) = nI (g ||| 2 ^ i) := or1 (by omega)
            have han := andn (a := g) (b := Alk hb d n i) g31 (hal31 i (by omega))
            have han0 := andn0 (a := g) (b := Alk hb d n i) g31
            have hcq := cq_add (i := i) (by omega) g2 g1
            have hs1 := s1 j hjl
            rw [← hge] at hs1
            have hstep : ∀ m, sg (fun j => if cqB (Alk hb d n) n (gs.getD j 0 ||| 2 ^ i) = true then Rg (Alk hb d n) n k (gs.set j (gs.getD j 0 ||| 2 ^ i)) m else 0) (j + 1) = sg (fun j => if cqB (Alk hb d n) n (gs.getD j 0 ||| 2 ^ i) = true then Rg (Alk hb d n) n k (gs.set j (gs.getD j 0 ||| 2 ^ i)) m else 0) j + (if cqB (Alk hb d n) n (g ||| 2 ^ i) = true then Rg (Alk hb d n) n k (gs.set j (g ||| 2 ^ i)) m else 0) := fun m => by
              rw [hge]; rfl
            by_cases c : cqB (Alk hb d n) n (g ||| 2 ^ i) = true
            · have hz : g &&& (Alk hb d n i ^^^ (2 ^ 31 - 1)) = 0 := han0.mpr (hcq.mp c)
              rw [hz] at han
              obtain ⟨v', e1, e2, e3, ea, ey, e4, e5, e6⟩ := ih D (gs.set j (g ||| 2 ^ i)) (fun m => F m + sg (fun j => if cqB (Alk hb d n) n (gs.getD j 0 ||| 2 ^ i) = true then Rg (Alk hb d n) n k (gs.set j (gs.getD j 0 ||| 2 ^ i)) m else 0) j) (sC x 15 j (nI (g ||| 2 ^ i))) (by omega) (by omega) (by simp (disch := omega) only [sC_s, sC_n, sC_2, sN_1, sN_s, sN_n, sN_2, sS_1, sS_2, sS_s, sS_n, upd_s, upd_e, upd_n]; exact m1) (fun a ha => by simp (disch := omega) only [sC_s, sC_n, sC_2, sN_1, sN_s, sN_n, sN_2, sS_1, sS_2, sS_s, sS_n, upd_s, upd_e, upd_n]; exact m2 a ha) (by rw [List.length_set]; omega) (fun y hy => by
                rcases List.mem_or_eq_of_mem_set hy with h | h
                · exact hg y h
                · rw [h]; exact ⟨c, or_lt g2 (by omega)⟩) ⟨fun t ht => by
                  rw [List.length_set] at ht
                  rw [List.getD_eq_getElem?_getD, List.getElem?_set]
                  by_cases ct : j = t
                  · subst ct
                    simp (disch := omega) only [sC_s, sC_n, sC_2, sN_1, sN_s, sN_n, sN_2, sS_1, sS_2, sS_s, sS_n, upd_s, upd_e, upd_n, ↓reduceIte, hjl, Option.getD_some]
                  · simp (disch := omega) only [sC_s, sC_n, sC_2, sN_1, sN_s, sN_n, sN_2, sS_1, sS_2, sS_s, sS_n, upd_s, upd_e, upd_n, ct, ↓reduceIte]
                    rw [s1 t ht, List.getD_eq_getElem?_getD], sa, sy, s2, s3, s4⟩
              rw [hik, List.length_set] at e1
              refine .inr ⟨sC v' 15 j (nI g), ?_, ⟨fun k hk => ?_, ?_, fun k hk1 hk2 => ?_⟩, .inl ⟨by omega, fun t ht => ?_, ea, ey, e4, e5, e6.congr fun m _ => ?_⟩⟩
              · simp (disch := omega) only [f_X12_parts_L50, ↓nmk_e, ↓reduceIte, Option.bind_some, Option.map_some, lit, ofN, nI_add, pk_sub, pk_mul, nI_clamp, nI_leI, nI_ltI, nI_eq, pk_div, nI_an, nleT, nleF, nltT, nltF, neqT, neqF, or_false, false_or, or_self, or_true, true_or, and_self, and_true, true_and, and_false, false_and, not_true_eq_false, not_false_eq_true, f_X12_isSort, f_X12_isDay, f_X11_isSort, f_X11_isDay, inI, inP, f_X5_size, f_X5_isFull, f_X11_now, f_X2_isKind, f_X2_has, f_X3_has, f_X8_hasPage, f_X8_hasAllPages, f_X8_stands, f_X1_isPrinted, f_X1_rule, f_X9_has, f_X9_isFull, f_X12_isPage, f_X12_isVerse, sC_s, sC_n, sC_2, sN_1, sN_s, sN_n, sN_2, sS_1, sS_2, sS_s, sS_n, upd_s, upd_e, upd_n, rAt, rPut, rAdd, rSwap, rPush, rNumber, cp_0, cp_1, cp_2, cp_3, cp_4, cp_5, cp_6, cp_7, cp_8, cp_9, cp_10, cp_11, cp_12, cp_13, cp_14, cp_15, cp_16, cp_17, cp_18, cp_19, cp_20, cp_21, cp_22, cp_23, cp_24, cp_25, cp_26, cp_27, cp_28, cp_29, cp_30, cp_31, cp_32, cp_33, cp_34, cp_35, cp_36, cp_37, cp_38, cp_39, cp_40, cp_41, cp_42, cp_43, cp_44, cp_45, cp_46, cp_47, cp_48, cp_49, cp_50, cp_51, cp_52, cp_53, cp_54, cp_55, cp_56, cp_57, m3, hs1, han, hset, e1]
              · simp (disch := omega) only [sC_s, sC_n, sC_2, sN_1, sN_s, sN_n, sN_2, sS_1, sS_2, sS_s, sS_n, upd_s, upd_e, upd_n]
                rw [e2.1 k hk]
                simp (disch := omega) only [sC_s, sC_n, sC_2, sN_1, sN_s, sN_n, sN_2, sS_1, sS_2, sS_s, sS_n, upd_s, upd_e, upd_n]
                exact h1.1 k hk
              · show v'.2.1 = _
                rw [e2.2.1]; exact h1.2.1
              · show v'.2.2 k = _
                rw [e2.2.2 k hk1 hk2]; exact h1.2.2 k hk1 hk2
              · by_cases ct : t = j
                · subst ct
                  simp (disch := omega) only [sC_s, sC_n, sC_2, sN_1, sN_s, sN_n, sN_2, sS_1, sS_2, sS_s, sS_n, upd_s, upd_e, upd_n]
                  rw [hge]
                · simp (disch := omega) only [sC_s, sC_n, sC_2, sN_1, sN_s, sN_n, sN_2, sS_1, sS_2, sS_s, sS_n, upd_s, upd_e, upd_n]
                  rw [e3 t (by rw [List.length_set]; exact ht), List.getD_eq_getElem?_getD, List.getElem?_set, if_neg (fun z => ct z.symm), List.getD_eq_getElem?_getD]
              · rw [hstep m, if_pos c, Nat.add_assoc]
            · have hz : ¬ g &&& (Alk hb d n i ^^^ (2 ^ 31 - 1)) = 0 := fun z => c (hcq.mpr (han0.mp z))
              have hz2 : ¬ nI (g &&& (Alk hb d n i ^^^ (2 ^ 31 - 1))) = nI 0 := fun z => hz ((nI_eq (Nat.lt_of_le_of_lt Nat.and_le_left g31) (by decide)).mp z)
              refine .inr ⟨x, ?_, h1, .inl ⟨by omega, s1, sa, sy, s2, s3, s4.congr fun m _ => ?_⟩⟩
              · simp (disch := omega) only [f_X12_parts_L50, ↓nmk_e, ↓reduceIte, lit, nI_add, nI_clamp, nI_leI, nI_ltI, nleT, nleF, nltT, nltF, neqT, neqF, or_false, false_or, or_self, or_true, true_or, and_self, and_true, true_and, and_false, false_and, not_true_eq_false, not_false_eq_true, m3, hs1, han, hz2]
              · rw [hstep m, if_neg c, Nat.add_zero]
        · omega
