/-! LEVEL 2: evaluation in the form nI; loops by invariants -/
theorem nmk_e {α β : Type} (a : α) (f : α → β) : nmk a f = f a := eq_of_heq (HEq.refl _)
theorem lit (b : Nat) : (OfNat.ofNat b : Int32) = nI b := Int32.toBitVec_inj.mp rfl
theorem i_lt {a b : Int32} : a < b ↔ a.toInt < b.toInt := Int32.lt_iff_toInt_lt
theorem i_le {a b : Int32} : a ≤ b ↔ a.toInt ≤ b.toInt := Int32.le_iff_toInt_le
theorem dich (x : Int32) : x < 0 ∨ ∃ j : Nat, j < 2 ^ 31 ∧ x = nI j := by
  by_cases h : x < 0
  · exact .inl h
  · exact .inr (nI_of h)
/-- a number below, in, above a range -/
theorem rng3 (x : Int32) (lo hi : Nat) : x < 0 ∨ (∃ j : Nat, j < 2 ^ 31 ∧ x = nI j ∧ (j < lo ∨ hi < j)) ∨ ∃ j : Nat, lo ≤ j ∧ j ≤ hi ∧ j < 2 ^ 31 ∧ x = nI j := by
  rcases dich x with h | ⟨j, h, e⟩
  · exact .inl h
  · by_cases c : lo ≤ j ∧ j ≤ hi
    · exact .inr (.inr ⟨j, c.1, c.2, h, e⟩)
    · exact .inr (.inl ⟨j, h, e, by omega⟩)
theorem nI_an {a b : Nat} (h : b ≤ a) : nI a + -nI b = nI (a - b) := by
  rw [← Int32.sub_eq_add_neg, pk_sub h]
theorem ng1 {x : Int32} (h : x < 0) {n : Nat} (hn : n < 2 ^ 31) : (x < nI n) = True := by
  refine eq_true ?_
  rw [i_lt, nI_toInt hn]
  have h := i_lt.mp h
  have k0 : (0 : Int32).toInt = 0 := rfl
  omega
theorem ng2 {x : Int32} (h : x < 0) {n : Nat} (hn : n < 2 ^ 31) : (nI n ≤ x) = False := by
  refine eq_false ?_
  rw [i_le, nI_toInt hn]
  have h := i_lt.mp h
  have k0 : (0 : Int32).toInt = 0 := rfl
  omega
theorem ng3 {x : Int32} (h : x < 0) {n : Nat} (hn : n < 2 ^ 31) : (nI n < x) = False := by
  refine eq_false ?_
  rw [i_lt, nI_toInt hn]
  have h := i_lt.mp h
  have k0 : (0 : Int32).toInt = 0 := rfl
  omega
theorem ng4 {x : Int32} (h : x < 0) {n : Nat} (hn : n < 2 ^ 31) : (x ≤ nI n) = True := by
  refine eq_true ?_
  rw [i_le, nI_toInt hn]
  have h := i_lt.mp h
  have k0 : (0 : Int32).toInt = 0 := rfl
  omega
theorem ng5 {x : Int32} (h : x < 0) {n : Nat} (hn : n < 2 ^ 31) : (x = nI n) = False := by
  refine eq_false ?_
  rintro rfl
  exact nI_pos hn h
theorem nleT {a b : Nat} (h : a ≤ b) : (a ≤ b) = True := eq_true h
theorem nleF {a b : Nat} (h : b < a) : (a ≤ b) = False := eq_false (by omega)
theorem nltT {a b : Nat} (h : a < b) : (a < b) = True := eq_true h
theorem nltF {a b : Nat} (h : b ≤ a) : (a < b) = False := eq_false (by omega)
theorem neqT {a b : Nat} (h : a = b) : (a = b) = True := eq_true h
theorem neqF {a b : Nat} (h : a ≠ b) : (a = b) = False := eq_false h
theorem upd_s (f : Nat → Int32) (i : Nat) (x : Int32) : upd f i x i = x := by simp [upd]
theorem upd_e (f : Nat → Int32) {i j : Nat} (x : Int32) (h : j = i) : upd f i x j = x := by simp [upd, h]
theorem upd_n (f : Nat → Int32) {i j : Nat} (x : Int32) (h : j ≠ i) : upd f i x j = f j := by simp [upd, h]
theorem sC_s (w : CW) (k i : Nat) (x : Int32) : (sC w k i x).1 k = upd (w.1 k) i x := by simp [sC]
theorem sC_n (w : CW) {k a : Nat} (i : Nat) (x : Int32) (h : a ≠ k) : (sC w k i x).1 a = w.1 a := by simp [sC, h]
theorem sC_2 (w : CW) (k i : Nat) (x : Int32) : (sC w k i x).2 = w.2 := rfl
theorem sN_1 (w : CW) (k : Nat) (x : Int32) : (sN w k x).1 = w.1 := rfl
theorem sN_s (w : CW) (k : Nat) (x : Int32) : (sN w k x).2.1 k = x := by simp [sN]
theorem sN_n (w : CW) {k a : Nat} (x : Int32) (h : a ≠ k) : (sN w k x).2.1 a = w.2.1 a := by simp [sN, h]
theorem sN_2 (w : CW) (k : Nat) (x : Int32) : (sN w k x).2.2 = w.2.2 := rfl
theorem sS_1 (w : CW) (k : Nat) (x : Int32) : (sS w k x).1 = w.1 := rfl
theorem sS_2 (w : CW) (k : Nat) (x : Int32) : (sS w k x).2.1 = w.2.1 := rfl
theorem sS_s (w : CW) (k : Nat) (x : Int32) : (sS w k x).2.2 k = x := by simp [sS]
theorem sS_n (w : CW) {k a : Nat} (x : Int32) (h : a ≠ k) : (sS w k x).2.2 a = w.2.2 a := by simp [sS, h]
theorem inI {j lo hi : Nat} (hj : j < 2 ^ 31) (hl : lo < 2 ^ 31) (hh : hi < 2 ^ 31) : f_X12_in (nI j) (nI lo) (nI hi) = if lo ≤ j ∧ j ≤ hi then nI 1 else nI 0 := by
  unfold f_X12_in
  simp only [nI_ltI hj hl, nI_ltI hh hj]
  by_cases c : j < lo
  · rw [if_pos c, if_neg (by omega)]; rfl
  · rw [if_neg c]
    by_cases c2 : hi < j
    · rw [if_pos c2, if_neg (by omega)]; rfl
    · rw [if_neg c2, if_pos (by omega)]; rfl
theorem inN {x : Int32} (h : x < 0) {lo : Nat} {hi : Int32} (hl : lo < 2 ^ 31) : f_X12_in x (nI lo) hi = nI 0 := by
  unfold f_X12_in
  rw [if_pos (of_eq_true (ng1 h hl))]; rfl
theorem inP {j lo m : Nat} (hj : j < 2 ^ 31) (hl : lo < 2 ^ 31) (hm : m ≤ 2 ^ 20) : f_X12_in (nI j) (nI lo) (nI m - nI 1) = if lo ≤ j ∧ j < m then nI 1 else nI 0 := by
  unfold f_X12_in
  have e : (nI m - nI 1 < nI j) ↔ m ≤ j := by
    rw [i_lt, Int32.toInt_sub, nI_toInt (by omega), nI_toInt (by omega), nI_toInt (by omega), Int.bmod_eq_of_le (by omega) (by omega)]
    omega
  simp only [nI_ltI hj hl]
  by_cases c : j < lo
  · rw [if_pos c, if_neg (by omega)]; rfl
  · rw [if_neg c]
    by_cases c2 : m ≤ j
    · rw [if_pos (e.mpr c2), if_neg (by omega)]; rfl
    · rw [if_neg (fun q => c2 (e.mp q)), if_pos (by omega)]; rfl
theorem ofN (n : Nat) : Int32.ofNat n = nI n := Int32.toBitVec_inj.mp rfl
theorem aT {k i : Nat} (w : CW) (h2 : i < 2 ^ 31) (hi : i < cp k) : rAt w k (nI i) = w.1 k i := by
  unfold rAt
  rw [nI_clamp h2, if_neg (by rintro (q | q); exact nI_pos h2 q; omega)]
theorem pT {k i : Nat} (w : CW) (h2 : i < 2 ^ 31) (hi : i < cp k) (x : Int32) : rPut w k (nI i) x = sC w k i x := by
  unfold rPut
  rw [nI_clamp h2, if_neg (by rintro (q | q); exact nI_pos h2 q; omega)]
theorem aN {x : Int32} (h : x < 0) (w : CW) (k : Nat) : rAt w k x = nI 0 := by
  unfold rAt
  rw [if_pos (.inl h)]; rfl
theorem pushT {w : CW} {k m : Nat} (x : Int32) (hn : w.2.1 k = nI m) (hm : m < cp k) : rPush w k x = sN (sC w k m x) k (nI (m + 1)) := by
  have := cp_lt k
  unfold rPush
  rw [hn, nI_clamp (by omega), if_neg (by rintro (q | q); exact nI_pos (by omega) q; omega), nI_1]
theorem numT {w : CW} {k m : Nat} (x : Int32) (hn : w.2.1 k = nI m) (hm : m < cp k) : rNumber w k x = (nI m, sN (sC w k m x) k (nI (m + 1))) := by
  have := cp_lt k
  unfold rNumber
  rw [hn, nI_clamp (by omega), if_neg (by rintro (q | q); exact nI_pos (by omega) q; omega), nI_1]
theorem numF {w : CW} {k m : Nat} (x : Int32) (hn : w.2.1 k = nI m) (hm : cp k ≤ m) (h : m < 2 ^ 31) : rNumber w k x = (-4, w) := by
  unfold rNumber
  rw [hn, nI_clamp h, if_pos (.inr hm)]
/-- one loop -/
theorem run1 {σ α : Type} (L : Nat → Int32 → σ → α) (Inv : Nat → σ → Prop) (hi : Nat) (P : α → Prop) (h1 : ∀ n s, Inv hi s → P (L (n + 1) (nI hi) s))
    (h2 : ∀ n i s, i < hi → Inv i s → P (L (n + 1) (nI i) s) ∨ ∃ s', L (n + 1) (nI i) s = L n (nI (i + 1)) s' ∧ Inv (i + 1) s') : ∀ n i s, i ≤ hi → hi - i < n → Inv i s → P (L n (nI i) s) := by
  intro n
  induction n with
  | zero => intro i s a b; omega
  | succ n ih =>
    intro i s a b hI
    by_cases c : i = hi
    · subst c; exact h1 n s hI
    · rcases h2 n i s (by omega) hI with h | ⟨s', e, h⟩
      · exact h
      · rw [e]; exact ih (i + 1) s' (by omega) (by omega) h
/-- two loops side by side -/
theorem run2 {σ τ α β : Type} (L : Nat → Int32 → σ → α) (M : Nat → Int32 → τ → β) (Inv : Nat → σ → τ → Prop) (hi : Nat) (P : α → β → Prop) (h1 : ∀ n m s t, Inv hi s t → P (L (n + 1) (nI hi) s) (M (m + 1) (nI hi) t))
    (h2 : ∀ n m i s t, i < hi → Inv i s t → P (L (n + 1) (nI i) s) (M (m + 1) (nI i) t) ∨ ∃ s' t', L (n + 1) (nI i) s = L n (nI (i + 1)) s' ∧ M (m + 1) (nI i) t = M m (nI (i + 1)) t' ∧ Inv (i + 1) s' t') : ∀ n m i s t, i ≤ hi → hi - i < n → hi - i < m → Inv i s t → P (L n (nI i) s) (M m (nI i) t) := by
  intro n
  induction n with
  | zero => intro m i s t a b; omega
  | succ n ih =>
    intro m i s t a b b2 hI
    obtain ⟨m, rfl⟩ : ∃ k, m = k + 1 := ⟨m - 1, by omega⟩
    by_cases c : i = hi
    · subst c; exact h1 n m s t hI
    · rcases h2 n m i s t (by omega) hI with h | ⟨s', t', e, e', h⟩
      · exact h
      · rw [e, e']; exact ih m (i + 1) s' t' (by omega) (by omega) (by omega) h
theorem cp_0 : cp 0 = 1 := rfl
theorem cp_1 : cp 1 = 120 := rfl
theorem cp_2 : cp 2 = 8 := rfl
theorem cp_3 : cp 3 = 8 := rfl
theorem cp_4 : cp 4 = 9 := rfl
theorem cp_5 : cp 5 = 9 := rfl
theorem cp_6 : cp 6 = 72 := rfl
theorem cp_7 : cp 7 = 72 := rfl
theorem cp_8 : cp 8 = 72 := rfl
theorem cp_9 : cp 9 = 72 := rfl
theorem cp_10 : cp 10 = 10 := rfl
theorem cp_11 : cp 11 = 600 := rfl
theorem cp_12 : cp 12 = 27 := rfl
theorem cp_13 : cp 13 = 27 := rfl
theorem cp_14 : cp 14 = 27 := rfl
theorem cp_15 : cp 15 = 20 := rfl
theorem cp_16 : cp 16 = 20 := rfl
theorem cp_17 : cp 17 = 540 := rfl
theorem cp_18 : cp 18 = 4 := rfl
theorem cp_19 : cp 19 = 4 := rfl
theorem cp_20 : cp 20 = 12 := rfl
theorem cp_21 : cp 21 = 12 := rfl
theorem cp_22 : cp 22 = 12 := rfl
theorem cp_23 : cp 23 = 40 := rfl
theorem cp_24 : cp 24 = 40 := rfl
theorem cp_25 : cp 25 = 40 := rfl
theorem cp_26 : cp 26 = 40 := rfl
theorem cp_27 : cp 27 = 7 := rfl
theorem cp_28 : cp 28 = 10 := rfl
theorem cp_29 : cp 29 = 30 := rfl
theorem cp_30 : cp 30 = 6 := rfl
theorem cp_31 : cp 31 = 6 := rfl
theorem cp_32 : cp 32 = 6 := rfl
theorem cp_33 : cp 33 = 20 := rfl
theorem cp_34 : cp 34 = 20 := rfl
theorem cp_35 : cp 35 = 20 := rfl
theorem cp_36 : cp 36 = 8 := rfl
theorem cp_37 : cp 37 = 72 := rfl
theorem cp_38 : cp 38 = 72 := rfl
theorem cp_39 : cp 39 = 72 := rfl
theorem cp_40 : cp 40 = 60 := rfl
theorem cp_41 : cp 41 = 60 := rfl
theorem cp_42 : cp 42 = 60 := rfl
theorem cp_43 : cp 43 = 9 := rfl
theorem cp_44 : cp 44 = 9 := rfl
theorem cp_45 : cp 45 = 9 := rfl
theorem cp_46 : cp 46 = 7503 := rfl
theorem cp_47 : cp 47 = 61 := rfl
theorem cp_48 : cp 48 = 27 := rfl
theorem cp_49 : cp 49 = 60 := rfl
theorem cp_50 : cp 50 = 40 := rfl
theorem cp_51 : cp 51 = 7 := rfl
theorem cp_52 : cp 52 = 7 := rfl
theorem cp_53 : cp 53 = 10 := rfl
theorem cp_54 : cp 54 = 10 := rfl
theorem cp_55 : cp 55 = 1024 := rfl
theorem cp_56 : cp 56 = 1024 := rfl
theorem cp_57 : cp 57 = 1024 := rfl
theorem rIx_spec (f : Nat → Int32) (v : Int32) : ∀ n i, (rIx f v n i = -1 ∧ ∀ j, i ≤ j → j < i + n → f j ≠ v) ∨ ∃ j, i ≤ j ∧ j < i + n ∧ f j = v ∧ (∀ t, i ≤ t → t < j → f t ≠ v) ∧ rIx f v n i = nI j := by
  intro n
  induction n with
  | zero => intro i; exact .inl ⟨rfl, fun j h1 h2 => by omega⟩
  | succ n ih =>
    intro i
    unfold rIx
    by_cases c : f i = v
    · rw [if_pos c]
      exact .inr ⟨i, Nat.le_refl _, by omega, c, fun t h1 h2 => by omega, rfl⟩
    · rw [if_neg c]
      rcases ih (i + 1) with ⟨e, h⟩ | ⟨j, h1, h2, h3, h4, h5⟩
      · refine .inl ⟨e, fun j h1 h2 => ?_⟩
        by_cases q : j = i
        · subst q; exact c
        · exact h j (by omega) (by omega)
      · refine .inr ⟨j, by omega, by omega, h3, fun t g1 g2 => ?_, h5⟩
        by_cases q : t = i
        · subst q; exact c
        · exact h4 t (by omega) g2
theorem ixOf {w : CW} {k m : Nat} (x : Int32) (hn : w.2.1 k = nI m) (hm : m ≤ cp k) : (rIndexOf w k x = -1 ∧ ∀ j, j < m → w.1 k j ≠ x) ∨ ∃ j, j < m ∧ w.1 k j = x ∧ (∀ t, t < j → w.1 k t ≠ x) ∧ rIndexOf w k x = nI j := by
  have := cp_lt k
  have e : min (w.2.1 k).toNatClampNeg (cp k) = m := by rw [hn, nI_clamp (by omega)]; omega
  unfold rIndexOf
  rw [e]
  rcases rIx_spec (w.1 k) x m 0 with ⟨a, b⟩ | ⟨j, a, b, c, d, f⟩
  · exact .inl ⟨a, fun j hj => b j (Nat.zero_le _) (by omega)⟩
  · exact .inr ⟨j, by omega, c, fun t ht => d t (Nat.zero_le _) ht, f⟩
theorem hasOf {w : CW} {k m : Nat} (x : Int32) (hn : w.2.1 k = nI m) (hm : m ≤ cp k) : (rHas w k x = nI 0 ∧ ∀ j, j < m → w.1 k j ≠ x) ∨ ∃ j, j < m ∧ w.1 k j = x ∧ rHas w k x = nI 1 := by
  have := cp_lt k
  unfold rHas
  rcases ixOf x hn hm with ⟨a, b⟩ | ⟨j, a, b, c, d⟩
  · rw [a]
    exact .inl ⟨rfl, b⟩
  · rw [d, if_neg (nI_pos (by omega))]
    exact .inr ⟨j, a, b, rfl⟩
