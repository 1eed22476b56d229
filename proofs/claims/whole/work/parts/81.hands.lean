/-! the class's table of hands -/
theorem gap : ∀ (o more x : Nat), more &&& o = more → x &&& o = x → x < more → x ≤ (more - 1) &&& o := by
  intro o
  induction o using Nat.strongRecOn with
  | ind o ih =>
    intro more x hm hx hlt
    have ho : 0 < o := by
      refine Nat.pos_of_ne_zero fun z => ?_
      rw [z, Nat.and_zero] at hm; omega
    have hm2 : more / 2 &&& o / 2 = more / 2 := by rw [← Nat.and_div_two, hm]
    have hx2 : x / 2 &&& o / 2 = x / 2 := by rw [← Nat.and_div_two, hx]
    have hP2 : ((more - 1) &&& o) / 2 = (more - 1) / 2 &&& o / 2 := Nat.and_div_two
    have hPm := Nat.and_mod_two_eq_one (a := more - 1) (b := o)
    have hxm := Nat.and_mod_two_eq_one (a := x) (b := o)
    rw [hx] at hxm
    by_cases c : more % 2 = 1
    · have e1 : (more - 1) / 2 = more / 2 := by omega
      rw [e1, hm2] at hP2
      omega
    · have e1 : (more - 1) / 2 = more / 2 - 1 := by omega
      rw [e1] at hP2
      have := ih (o / 2) (by omega) (more / 2) (x / 2) hm2 hx2 (by omega)
      rw [← hP2] at this
      by_cases cx : x % 2 = 1
      · have h1 := hPm.mpr ⟨by omega, (hxm.mp cx).2⟩
        omega
      · omega
theorem l_tz : ∀ s, s < 1024 → s ≠ 0 → f_J6_numberOfTrailingZeros_0f7a4 (nI s) = nI (tz s) ∧ s &&& (s - 1) = s ^^^ 2 ^ tz s := by decide +kernel
theorem xor_out {s i : Nat} (h : s.testBit i = true) : (s ^^^ 2 ^ i) ||| 2 ^ i = s ∧ (s ^^^ 2 ^ i).testBit i = false ∧ s ^^^ 2 ^ i < s := by
  have e1 : (s ^^^ 2 ^ i).testBit i = false := by rw [xor_bit, h, decide_eq_true rfl]; rfl
  have e2 : (s ^^^ 2 ^ i) ||| 2 ^ i = s := by
    apply Nat.eq_of_testBit_eq
    intro j
    rw [or_bit, xor_bit]
    by_cases c : i = j
    · subst c; rw [decide_eq_true rfl, Bool.or_true, h]
    · rw [decide_eq_false c, Bool.or_false, Bool.xor_false]
  have := or_gt e1
  rw [e2] at this
  exact ⟨e2, e1, this⟩
theorem co_mono {n s t : Nat} (h : ∀ i, t.testBit i = true → s.testBit i = true) : co n s ≤ co n t := sg_mono n fun i _ => by
  show (if _ then _ else _) ≤ (if _ then _ else _)
  by_cases c : t.testBit i = true
  · rw [if_pos c, if_pos (h i c)]; exact Nat.le_refl _
  · rw [if_neg c]; split <;> omega
theorem Cc_ex {al : Nat → Nat} {n : Nat} (hn : n ≤ 10) (hr : ∀ a, a < n → (al a).testBit a = true) : ∀ s, s < 2 ^ n → ∃ m, m + co n s ≤ n ∧ 0 < Cc al n m s := by
  intro s
  induction s using Nat.strongRecOn with
  | ind s ih =>
    intro hs
    by_cases c : s = 0
    · subst c
      exact ⟨0, by have := co_le n 0; omega, by show 0 < (if (0 : Nat) = 0 then 1 else 0); decide⟩
    · obtain ⟨i, hL⟩ := Lst_ex hs c
      obtain ⟨x1, x2, x3⟩ := xor_out hL.2.1
      obtain ⟨m, h1, h2⟩ := ih _ x3 (xor_lt hs hL.1)
      have hco := co_or hL.1 x2
      rw [x1] at hco
      refine ⟨m + 1, by omega, ?_⟩
      show 0 < (if s = 0 then 0 else Su n (s ^^^ 2 ^ tz s) (fun e => if cqB al n (2 ^ tz s ||| e) = true then Cc al n m (s ^^^ 2 ^ tz s ^^^ e) else 0))
      rw [if_neg c, hL.tz hn]
      have := sg_ge (fun x => if x &&& (s ^^^ 2 ^ i) = x then (if cqB al n (2 ^ i ||| x) = true then Cc al n m (s ^^^ 2 ^ i ^^^ x) else 0) else 0) (2 ^ n) 0 (Nat.two_pow_pos n)
      have this : (if 0 &&& (s ^^^ 2 ^ i) = 0 then (if cqB al n (2 ^ i ||| 0) = true then Cc al n m (s ^^^ 2 ^ i ^^^ 0) else 0) else 0) ≤ _ := this
      rw [Nat.zero_and, if_pos rfl, Nat.or_zero, if_pos (cq1 hr), Nat.xor_zero] at this
      exact Nat.lt_of_lt_of_le h2 this
theorem all32 (x : Int32) : ∃ n : Nat, x = nI n := ⟨x.toBitVec.toNat, nI_ext fun i _ => rfl⟩
def XF (s : Nat) (x x' : CW) : Prop := (∀ k, k ≠ 56 → k ≠ 57 → x'.1 k = x.1 k) ∧ x'.2 = x.2 ∧ ∀ t, t ≠ s → x'.1 56 t = x.1 56 t ∧ x'.1 57 t = x.1 57 t
theorem XF.trans {s : Nat} {a b c : CW} (h : XF s a b) (h' : XF s b c) : XF s a c :=
  ⟨fun k x y => (h'.1 k x y).trans (h.1 k x y), h'.2.1.trans h.2.1, fun t ht => ⟨(h'.2.2 t ht).1.trans (h.2.2 t ht).1, (h'.2.2 t ht).2.trans (h.2.2 t ht).2⟩⟩
def Jt (al : Nat → Nat) (n : Nat) (x : CW) (t : Nat) : Prop := x.1 55 t = nI (if cqB al n t = true then 1 else 0) ∧ ∃ a y, x.1 56 t = nI a ∧ x.1 57 t = nI y ∧ Ld (fun m => Cc al n m t) a y ∧ a + co n t ≤ n
theorem l_try {al : Nat → Nat} {n s h u b z a y : Nat} {G : Nat → Nat} {x : CW} (hs : s < 1024) (hh : h < 1024) (hu : u < 1024) (hus : u ≠ s) (hsub : s &&& (h ^^^ (2 ^ 31 - 1)) = u) (j1 : x.1 55 h = nI (if cqB al n h = true then 1 else 0)) (j2 : x.1 56 u = nI b) (j3 : x.1 57 u = nI z) (j4 : Ld (fun m => Cc al n m u) b z) (hb : b ≤ 9) (e1 : x.1 56 s = nI a) (e2 : x.1 57 s = nI y) (hG : LdZ G a y) :
    XF s x (f_X1_tryHand x (nI s) (nI h)) ∧ ∃ a' y', (f_X1_tryHand x (nI s) (nI h)).1 56 s = nI a' ∧ (f_X1_tryHand x (nI s) (nI h)).1 57 s = nI y' ∧ LdZ (fun m => G m + if m = 0 then 0 else if cqB al n h = true then Cc al n (m - 1) u else 0) a' y' := by
  have hle := hG.le
  have han := andn (a := s) (b := h) (by omega) (by omega)
  rw [hsub] at han
  by_cases c : cqB al n h = true
  · rw [if_pos c] at j1
    have hL : Ld (fun m => if m = 0 then 0 else if cqB al n h = true then Cc al n (m - 1) u else 0) (b + 1) z := by
      obtain ⟨g1, g2, g3⟩ := j4
      refine ⟨?_, g2, fun t ht => ?_⟩
      · show (if b + 1 = 0 then 0 else _) = z
        rw [if_neg (by omega), if_pos c, Nat.add_sub_cancel]; exact g1
      · show (if t = 0 then 0 else _) = 0
        by_cases ct : t = 0
        · rw [if_pos ct]
        · rw [if_neg ct, if_pos c]; exact g3 (t - 1) (by omega)
    obtain ⟨c1, c2, c3⟩ := hG.add hL (by omega)
    rcases Nat.lt_trichotomy (b + 1) a with ct | ct | ct
    · have e : f_X1_tryHand x (nI s) (nI h) = sC (sC (sC x 56 s (nI (1 + b))) 57 s (nI 0)) 57 s (nI (0 + z)) := by
        unfold f_X1_tryHand
        simp (disch := omega) only [↓nmk_e, ↓reduceIte, Option.bind_some, Option.map_some, lit, ofN, nI_add, pk_sub, pk_mul, nI_clamp, nI_leI, nI_ltI, nI_eq, pk_div, nI_an, nleT, nleF, nltT, nltF, neqT, neqF, or_false, false_or, or_self, or_true, true_or, and_self, and_true, true_and, and_false, false_and, not_true_eq_false, not_false_eq_true, f_X12_isSort, f_X12_isDay, f_X11_isSort, f_X11_isDay, inI, inP, f_X5_size, f_X5_isFull, f_X11_now, f_X2_isKind, f_X2_has, f_X3_has, f_X8_hasPage, f_X8_hasAllPages, f_X8_stands, f_X1_isPrinted, f_X1_rule, f_X9_has, f_X9_isFull, f_X12_isPage, f_X12_isVerse, sC_s, sC_n, sC_2, sN_1, sN_s, sN_n, sN_2, sS_1, sS_2, sS_s, sS_n, upd_s, upd_e, upd_n, rAt, rPut, rAdd, rSwap, rPush, rNumber, cp_0, cp_1, cp_2, cp_3, cp_4, cp_5, cp_6, cp_7, cp_8, cp_9, cp_10, cp_11, cp_12, cp_13, cp_14, cp_15, cp_16, cp_17, cp_18, cp_19, cp_20, cp_21, cp_22, cp_23, cp_24, cp_25, cp_26, cp_27, cp_28, cp_29, cp_30, cp_31, cp_32, cp_33, cp_34, cp_35, cp_36, cp_37, cp_38, cp_39, cp_40, cp_41, cp_42, cp_43, cp_44, cp_45, cp_46, cp_47, cp_48, cp_49, cp_50, cp_51, cp_52, cp_53, cp_54, cp_55, cp_56, cp_57, j1, e1, han, j2, j3]
      rw [e]
      refine ⟨⟨fun k h1 h2 => ?_, rfl, fun t ht => ?_⟩, b + 1, z, ?_, ?_, c1 ct⟩
      · simp (disch := omega) only [sC_s, sC_n, sC_2, sN_1, sN_s, sN_n, sN_2, sS_1, sS_2, sS_s, sS_n, upd_s, upd_e, upd_n]
      · simp (disch := omega) only [sC_s, sC_n, sC_2, sN_1, sN_s, sN_n, sN_2, sS_1, sS_2, sS_s, sS_n, upd_s, upd_e, upd_n, and_self]
      · simp (disch := omega) only [sC_s, sC_n, sC_2, sN_1, sN_s, sN_n, sN_2, sS_1, sS_2, sS_s, sS_n, upd_s, upd_e, upd_n]; rw [Nat.add_comm]
      · simp (disch := omega) only [sC_s, sC_n, sC_2, sN_1, sN_s, sN_n, sN_2, sS_1, sS_2, sS_s, sS_n, upd_s, upd_e, upd_n]; rw [Nat.zero_add]
    · have e : f_X1_tryHand x (nI s) (nI h) = sC x 57 s (nI (y + z)) := by
        unfold f_X1_tryHand
        simp (disch := omega) only [↓nmk_e, ↓reduceIte, Option.bind_some, Option.map_some, lit, ofN, nI_add, pk_sub, pk_mul, nI_clamp, nI_leI, nI_ltI, nI_eq, pk_div, nI_an, nleT, nleF, nltT, nltF, neqT, neqF, or_false, false_or, or_self, or_true, true_or, and_self, and_true, true_and, and_false, false_and, not_true_eq_false, not_false_eq_true, f_X12_isSort, f_X12_isDay, f_X11_isSort, f_X11_isDay, inI, inP, f_X5_size, f_X5_isFull, f_X11_now, f_X2_isKind, f_X2_has, f_X3_has, f_X8_hasPage, f_X8_hasAllPages, f_X8_stands, f_X1_isPrinted, f_X1_rule, f_X9_has, f_X9_isFull, f_X12_isPage, f_X12_isVerse, sC_s, sC_n, sC_2, sN_1, sN_s, sN_n, sN_2, sS_1, sS_2, sS_s, sS_n, upd_s, upd_e, upd_n, rAt, rPut, rAdd, rSwap, rPush, rNumber, cp_0, cp_1, cp_2, cp_3, cp_4, cp_5, cp_6, cp_7, cp_8, cp_9, cp_10, cp_11, cp_12, cp_13, cp_14, cp_15, cp_16, cp_17, cp_18, cp_19, cp_20, cp_21, cp_22, cp_23, cp_24, cp_25, cp_26, cp_27, cp_28, cp_29, cp_30, cp_31, cp_32, cp_33, cp_34, cp_35, cp_36, cp_37, cp_38, cp_39, cp_40, cp_41, cp_42, cp_43, cp_44, cp_45, cp_46, cp_47, cp_48, cp_49, cp_50, cp_51, cp_52, cp_53, cp_54, cp_55, cp_56, cp_57, j1, e1, han, j2, j3, e2]
      rw [e]
      refine ⟨⟨fun k h1 h2 => ?_, rfl, fun t ht => ?_⟩, a, y + z, ?_, ?_, c2 ct⟩
      · simp (disch := omega) only [sC_s, sC_n, sC_2, sN_1, sN_s, sN_n, sN_2, sS_1, sS_2, sS_s, sS_n, upd_s, upd_e, upd_n]
      · simp (disch := omega) only [sC_s, sC_n, sC_2, sN_1, sN_s, sN_n, sN_2, sS_1, sS_2, sS_s, sS_n, upd_s, upd_e, upd_n, and_self]
      · simp (disch := omega) only [sC_s, sC_n, sC_2, sN_1, sN_s, sN_n, sN_2, sS_1, sS_2, sS_s, sS_n, upd_s, upd_e, upd_n]; exact e1
      · simp (disch := omega) only [sC_s, sC_n, sC_2, sN_1, sN_s, sN_n, sN_2, sS_1, sS_2, sS_s, sS_n, upd_s, upd_e, upd_n]
    · have e : f_X1_tryHand x (nI s) (nI h) = x := by
        unfold f_X1_tryHand
        simp (disch := omega) only [↓nmk_e, ↓reduceIte, Option.bind_some, Option.map_some, lit, ofN, nI_add, pk_sub, pk_mul, nI_clamp, nI_leI, nI_ltI, nI_eq, pk_div, nI_an, nleT, nleF, nltT, nltF, neqT, neqF, or_false, false_or, or_self, or_true, true_or, and_self, and_true, true_and, and_false, false_and, not_true_eq_false, not_false_eq_true, f_X12_isSort, f_X12_isDay, f_X11_isSort, f_X11_isDay, inI, inP, f_X5_size, f_X5_isFull, f_X11_now, f_X2_isKind, f_X2_has, f_X3_has, f_X8_hasPage, f_X8_hasAllPages, f_X8_stands, f_X1_isPrinted, f_X1_rule, f_X9_has, f_X9_isFull, f_X12_isPage, f_X12_isVerse, sC_s, sC_n, sC_2, sN_1, sN_s, sN_n, sN_2, sS_1, sS_2, sS_s, sS_n, upd_s, upd_e, upd_n, rAt, rPut, rAdd, rSwap, rPush, rNumber, cp_0, cp_1, cp_2, cp_3, cp_4, cp_5, cp_6, cp_7, cp_8, cp_9, cp_10, cp_11, cp_12, cp_13, cp_14, cp_15, cp_16, cp_17, cp_18, cp_19, cp_20, cp_21, cp_22, cp_23, cp_24, cp_25, cp_26, cp_27, cp_28, cp_29, cp_30, cp_31, cp_32, cp_33, cp_34, cp_35, cp_36, cp_37, cp_38, cp_39, cp_40, cp_41, cp_42, cp_43, cp_44, cp_45, cp_46, cp_47, cp_48, cp_49, cp_50, cp_51, cp_52, cp_53, cp_54, cp_55, cp_56, cp_57, j1, e1, han, j2]
      rw [e]
      exact ⟨⟨fun k h1 h2 => rfl, rfl, fun t ht => ⟨rfl, rfl⟩⟩, a, y, e1, e2, c3 ct⟩
  · rw [if_neg c] at j1
    have e : f_X1_tryHand x (nI s) (nI h) = x := by
      unfold f_X1_tryHand
      simp (disch := omega) only [↓nmk_e, ↓reduceIte, Option.bind_some, Option.map_some, lit, ofN, nI_add, pk_sub, pk_mul, nI_clamp, nI_leI, nI_ltI, nI_eq, pk_div, nI_an, nleT, nleF, nltT, nltF, neqT, neqF, or_false, false_or, or_self, or_true, true_or, and_self, and_true, true_and, and_false, false_and, not_true_eq_false, not_false_eq_true, f_X12_isSort, f_X12_isDay, f_X11_isSort, f_X11_isDay, inI, inP, f_X5_size, f_X5_isFull, f_X11_now, f_X2_isKind, f_X2_has, f_X3_has, f_X8_hasPage, f_X8_hasAllPages, f_X8_stands, f_X1_isPrinted, f_X1_rule, f_X9_has, f_X9_isFull, f_X12_isPage, f_X12_isVerse, sC_s, sC_n, sC_2, sN_1, sN_s, sN_n, sN_2, sS_1, sS_2, sS_s, sS_n, upd_s, upd_e, upd_n, rAt, rPut, rAdd, rSwap, rPush, rNumber, cp_0, cp_1, cp_2, cp_3, cp_4, cp_5, cp_6, cp_7, cp_8, cp_9, cp_10, cp_11, cp_12, cp_13, cp_14, cp_15, cp_16, cp_17, cp_18, cp_19, cp_20, cp_21, cp_22, cp_23, cp_24, cp_25, cp_26, cp_27, cp_28, cp_29, cp_30, cp_31, cp_32, cp_33, cp_34, cp_35, cp_36, cp_37, cp_38, cp_39, cp_40, cp_41, cp_42, cp_43, cp_44, cp_45, cp_46, cp_47, cp_48, cp_49, cp_50, cp_51, cp_52, cp_53, cp_54, cp_55, cp_56, cp_57, j1]
    rw [e]
    refine ⟨⟨fun k h1 h2 => rfl, rfl, fun t ht => ⟨rfl, rfl⟩⟩, a, y, e1, e2, hG.congr fun m _ => ?_⟩
    rw [if_neg c]
    split <;> rfl
/-- what the hands behind a number bring -/
def Fm (al : Nat → Nat) (n i o more m : Nat) : Nat := if m = 0 then 0 else sg (fun e => if e &&& o = e ∧ more < e then (if cqB al n (2 ^ i ||| e) = true then Cc al n (m - 1) (o ^^^ e) else 0) else 0) (2 ^ n)
theorem Fm_next {al : Nat → Nat} {n i o more : Nat} (m : Nat) (hm : more &&& o = more) (hlt : more < 2 ^ n) (h0 : 0 < more) : Fm al n i o ((more - 1) &&& o) m = Fm al n i o more m + if m = 0 then 0 else if cqB al n (2 ^ i ||| more) = true then Cc al n (m - 1) (o ^^^ more) else 0 := by
  unfold Fm
  by_cases c : m = 0
  · rw [if_pos c, if_pos c, if_pos c]
  · rw [if_neg c, if_neg c, if_neg c]
    have hle : (more - 1) &&& o ≤ more - 1 := Nat.and_le_left
    have := sg_upd (f := fun e => if e &&& o = e ∧ more < e then (if cqB al n (2 ^ i ||| e) = true then Cc al n (m - 1) (o ^^^ e) else 0) else 0) (g := fun e => if e &&& o = e ∧ (more - 1) &&& o < e then (if cqB al n (2 ^ i ||| e) = true then Cc al n (m - 1) (o ^^^ e) else 0) else 0) (p := more) (2 ^ n) hlt (fun e _ he => by
      show (if _ then _ else _) = (if _ then _ else _)
      by_cases c1 : e &&& o = e
      · by_cases c2 : more < e
        · have z1 : e &&& o = e ∧ (more - 1) &&& o < e := ⟨c1, by omega⟩
          have z2 : e &&& o = e ∧ more < e := ⟨c1, c2⟩
          rw [if_pos z1, if_pos z2]
        · have := gap o more e hm c1 (by omega)
          have z1 : ¬ (e &&& o = e ∧ (more - 1) &&& o < e) := fun z => by omega
          have z2 : ¬ (e &&& o = e ∧ more < e) := fun z => c2 z.2
          rw [if_neg z1, if_neg z2]
      · rw [if_neg (fun z => c1 z.1), if_neg (fun z => c1 z.1)])
    simp only [hm, true_and, Nat.lt_irrefl, and_false, ↓reduceIte, show (more - 1) &&& o < more by omega, Nat.add_zero] at this
    exact this
theorem Fm_end {al : Nat → Nat} {n i s : Nat} (hn : n ≤ 10) (hL : Lst n s i) (m : Nat) : (Fm al n i (s ^^^ 2 ^ i) 0 m + if m = 0 then 0 else if cqB al n (2 ^ i) = true then Cc al n (m - 1) (s ^^^ 2 ^ i) else 0) = Cc al n m s := by
  have h0 := hL.ne
  have ht := hL.tz hn
  unfold Fm
  cases m with
  | zero =>
    rw [if_pos rfl, if_pos rfl]
    show 0 = (if s = 0 then 1 else 0)
    rw [if_neg h0]
  | succ m =>
    rw [if_neg (by omega), if_neg (by omega), Nat.add_sub_cancel]
    show _ = (if s = 0 then 0 else Su n (s ^^^ 2 ^ tz s) (fun e => if cqB al n (2 ^ tz s ||| e) = true then Cc al n m (s ^^^ 2 ^ tz s ^^^ e) else 0))
    rw [if_neg h0, ht]
    unfold Su
    have := sg_upd (f := fun e => if e &&& (s ^^^ 2 ^ i) = e ∧ 0 < e then (if cqB al n (2 ^ i ||| e) = true then Cc al n m (s ^^^ 2 ^ i ^^^ e) else 0) else 0) (g := fun e => if e &&& (s ^^^ 2 ^ i) = e then (if cqB al n (2 ^ i ||| e) = true then Cc al n m (s ^^^ 2 ^ i ^^^ e) else 0) else 0) (p := 0) (2 ^ n) (Nat.two_pow_pos n) (fun e _ he => by
      show (if _ then _ else _) = (if _ then _ else _)
      by_cases c1 : e &&& (s ^^^ 2 ^ i) = e
      · have z2 : e &&& (s ^^^ 2 ^ i) = e ∧ 0 < e := ⟨c1, by omega⟩
        rw [if_pos z2, if_pos c1]
      · have z2 : ¬ (e &&& (s ^^^ 2 ^ i) = e ∧ 0 < e) := fun z => c1 z.1
        rw [if_neg z2, if_neg c1])
    simp only [Nat.zero_and, true_and, Nat.lt_irrefl, and_false, ↓reduceIte, Nat.add_zero, Nat.or_zero, Nat.xor_zero] at this
    exact this.symm
theorem Fm_start (al : Nat → Nat) (n i o m : Nat) : Fm al n i o o m = 0 := by
  unfold Fm
  split
  · rfl
  · refine sg_zero _ fun e _ => if_neg fun z => ?_
    have : e &&& o ≤ o := Nat.and_le_right
    omega
theorem l_expl {al : Nat → Nat} {n s i : Nat} (hn : n ≤ 10) (hs : s < 2 ^ n) (hL : Lst n s i) (hr : ∀ a, a < n → (al a).testBit a = true) : ∀ (q more : Nat) (x : CW) (a y : Nat), more < q → more &&& (s ^^^ 2 ^ i) = more → (∀ t, t < s → Jt al n x t) → x.1 55 s = nI (if cqB al n s = true then 1 else 0) → x.1 56 s = nI a → x.1 57 s = nI y → LdZ (Fm al n i (s ^^^ 2 ^ i) more) a y →
    ∃ x', (∀ j, f_X1_explain_L13 (nI s) (nI (2 ^ i)) (nI (s ^^^ 2 ^ i)) j q (nI more) x = j x') ∧ XF s x x' ∧ ∃ a' y', x'.1 56 s = nI a' ∧ x'.1 57 s = nI y' ∧ LdZ (Fm al n i (s ^^^ 2 ^ i) 0) a' y' := by
  have hp := pow10 hn
  obtain ⟨x1, x2, x3⟩ := xor_out hL.2.1
  have hi := hL.1
  intro q
  induction q with
  | zero => intro more x a y h; omega
  | succ q ih =>
    intro more x a y hq hm hJ h55 h56 h57 hG
    by_cases c0 : more = 0
    · subst c0
      refine ⟨x, fun j => ?_, ⟨fun _ _ _ => rfl, rfl, fun _ _ => ⟨rfl, rfl⟩⟩, a, y, h56, h57, hG⟩
      simp (disch := omega) only [f_X1_explain_L13, ↓nmk_e, ↓reduceIte, Option.bind_some, Option.map_some, lit, ofN, nI_add, pk_sub, pk_mul, nI_clamp, nI_leI, nI_ltI, nI_eq, pk_div, nI_an, nleT, nleF, nltT, nltF, neqT, neqF, or_false, false_or, or_self, or_true, true_or, and_self, and_true, true_and, and_false, false_and, not_true_eq_false, not_false_eq_true, f_X12_isSort, f_X12_isDay, f_X11_isSort, f_X11_isDay, inI, inP, f_X5_size, f_X5_isFull, f_X11_now, f_X2_isKind, f_X2_has, f_X3_has, f_X8_hasPage, f_X8_hasAllPages, f_X8_stands, f_X1_isPrinted, f_X1_rule, f_X9_has, f_X9_isFull, f_X12_isPage, f_X12_isVerse, sC_s, sC_n, sC_2, sN_1, sN_s, sN_n, sN_2, sS_1, sS_2, sS_s, sS_n, upd_s, upd_e, upd_n, rAt, rPut, rAdd, rSwap, rPush, rNumber, cp_0, cp_1, cp_2, cp_3, cp_4, cp_5, cp_6, cp_7, cp_8, cp_9, cp_10, cp_11, cp_12, cp_13, cp_14, cp_15, cp_16, cp_17, cp_18, cp_19, cp_20, cp_21, cp_22, cp_23, cp_24, cp_25, cp_26, cp_27, cp_28, cp_29, cp_30, cp_31, cp_32, cp_33, cp_34, cp_35, cp_36, cp_37, cp_38, cp_39, cp_40, cp_41, cp_42, cp_43, cp_44, cp_45, cp_46, cp_47, cp_48, cp_49, cp_50, cp_51, cp_52, cp_53, cp_54, cp_55, cp_56, cp_57]
    · have hmle : more ≤ s ^^^ 2 ^ i := by
        have : more &&& (s ^^^ 2 ^ i) ≤ s ^^^ 2 ^ i := Nat.and_le_right
        omega
      have hsubm := sub_iff.mp hm
      have hmi : more.testBit i = false := by
        cases h : more.testBit i
        · rfl
        · have := hsubm i h
          rw [x2] at this; cases this
      -- the hand and what it leaves
      have hsubs : ∀ j, more.testBit j = true → s.testBit j = true := fun j hj => by
        have := hsubm j hj
        rw [xor_bit] at this
        by_cases c : i = j
        · rw [← c]; exact hL.2.1
        · rw [decide_eq_false c, Bool.xor_false] at this; exact this
      have hhs : (2 ^ i ||| more) &&& s = 2 ^ i ||| more := sub_iff.mpr fun j hj => by
        rw [Nat.or_comm, or_bit, Bool.or_eq_true, decide_eq_true_iff] at hj
        rcases hj with hj | rfl
        · exact hsubs j hj
        · exact hL.2.1
      have hh2 : 2 ^ i ||| more ≤ s := by
        have : (2 ^ i ||| more) &&& s ≤ s := Nat.and_le_right
        omega
      have hus : (s ^^^ 2 ^ i ^^^ more) &&& (s ^^^ 2 ^ i) = s ^^^ 2 ^ i ^^^ more := sub_iff.mpr fun j hj => by
        rw [Nat.testBit_xor] at hj
        cases h : (s ^^^ 2 ^ i).testBit j
        · rw [h] at hj
          cases h2 : more.testBit j
          · rw [h2] at hj; cases hj
          · have := hsubm j h2
            rw [h] at this; cases this
        · rfl
      have hul : s ^^^ 2 ^ i ^^^ more < s := by
        have : (s ^^^ 2 ^ i ^^^ more) &&& (s ^^^ 2 ^ i) ≤ s ^^^ 2 ^ i := Nat.and_le_right
        omega
      have hsub : s &&& ((2 ^ i ||| more) ^^^ (2 ^ 31 - 1)) = s ^^^ 2 ^ i ^^^ more := by
        apply Nat.eq_of_testBit_eq
        intro j
        rw [Nat.testBit_and, Nat.testBit_xor, Nat.testBit_two_pow_sub_one, Nat.or_comm, or_bit, Nat.testBit_xor, xor_bit]
        by_cases cj : j < 31
        · rw [decide_eq_true cj]
          by_cases c : i = j
          · subst c; rw [hL.2.1, hmi, decide_eq_true rfl]; rfl
          · rw [decide_eq_false c]
            cases h1 : s.testBit j
            · cases h2 : more.testBit j
              · rfl
              · have := hsubs j h2
                rw [h1] at this; cases this
            · cases more.testBit j <;> rfl
        · have h1 : s.testBit j = false := Nat.testBit_lt_two_pow (Nat.lt_of_lt_of_le (show s < 2 ^ 10 by omega) (Nat.pow_le_pow_right (by decide) (by omega)))
          have h2 : more.testBit j = false := by
            cases h : more.testBit j
            · rfl
            · have := hsubs j h
              rw [h1] at this; cases this
          rw [h1, h2, decide_eq_false (show ¬ i = j by omega)]; rfl
      have j1 : x.1 55 (2 ^ i ||| more) = nI (if cqB al n (2 ^ i ||| more) = true then 1 else 0) := by
        by_cases c : 2 ^ i ||| more = s
        · rw [c]; exact h55
        · exact (hJ _ (by omega)).1
      obtain ⟨-, b, z, j2, j3, j4, j5⟩ := hJ _ hul
      have hco1 := co_or hi x2
      rw [x1] at hco1
      have hco2 := co_mono (n := n) (sub_iff.mp hus)
      obtain ⟨hX, a', y', k1, k2, k3⟩ := l_try (G := Fm al n i (s ^^^ 2 ^ i) more) (by omega) (by omega) (by omega) (by omega) hsub j1 j2 j3 j4 (by omega) h56 h57 hG
      have hnle : (more - 1) &&& (s ^^^ 2 ^ i) ≤ more - 1 := Nat.and_le_left
      obtain ⟨x', m1, m2, m3⟩ := ih ((more - 1) &&& (s ^^^ 2 ^ i)) (f_X1_tryHand x (nI s) (nI (2 ^ i ||| more))) a' y' (by omega) (by rw [Nat.and_assoc, Nat.and_self]) (fun t ht => by
        obtain ⟨t1, ta, ty, t2, t3, t4⟩ := hJ t ht
        obtain ⟨u1, u2⟩ := hX.2.2 t (by omega)
        exact ⟨by rw [hX.1 55 (by decide) (by decide)]; exact t1, ta, ty, by rw [u1]; exact t2, by rw [u2]; exact t3, t4⟩) (by rw [hX.1 55 (by decide) (by decide)]; exact h55) k1 k2 (k3.congr fun m _ => (Fm_next m hm (by omega) (by omega)).symm)
      refine ⟨x', fun j => ?_, hX.trans m2, m3⟩
      rw [← m1 j]
      have o1 : nI (2 ^ i) ||| nI more = nI (2 ^ i ||| more) := nI_or _ _
      have o2 : nI (more - 1) &&& nI (s ^^^ 2 ^ i) = nI ((more - 1) &&& (s ^^^ 2 ^ i)) := nI_and _ _
      simp (disch := omega) only [f_X1_explain_L13, ↓nmk_e, ↓reduceIte, Option.bind_some, Option.map_some, lit, ofN, nI_add, pk_sub, pk_mul, nI_clamp, nI_leI, nI_ltI, nI_eq, pk_div, nI_an, nleT, nleF, nltT, nltF, neqT, neqF, or_false, false_or, or_self, or_true, true_or, and_self, and_true, true_and, and_false, false_and, not_true_eq_false, not_false_eq_true, f_X12_isSort, f_X12_isDay, f_X11_isSort, f_X11_isDay, inI, inP, f_X5_size, f_X5_isFull, f_X11_now, f_X2_isKind, f_X2_has, f_X3_has, f_X8_hasPage, f_X8_hasAllPages, f_X8_stands, f_X1_isPrinted, f_X1_rule, f_X9_has, f_X9_isFull, f_X12_isPage, f_X12_isVerse, sC_s, sC_n, sC_2, sN_1, sN_s, sN_n, sN_2, sS_1, sS_2, sS_s, sS_n, upd_s, upd_e, upd_n, rAt, rPut, rAdd, rSwap, rPush, rNumber, cp_0, cp_1, cp_2, cp_3, cp_4, cp_5, cp_6, cp_7, cp_8, cp_9, cp_10, cp_11, cp_12, cp_13, cp_14, cp_15, cp_16, cp_17, cp_18, cp_19, cp_20, cp_21, cp_22, cp_23, cp_24, cp_25, cp_26, cp_27, cp_28, cp_29, cp_30, cp_31, cp_32, cp_33, cp_34, cp_35, cp_36, cp_37, cp_38, cp_39, cp_40, cp_41, cp_42, cp_43, cp_44, cp_45, cp_46, cp_47, cp_48, cp_49, cp_50, cp_51, cp_52, cp_53, cp_54, cp_55, cp_56, cp_57, o1, o2]
theorem l_hand1 {hb : Nat → Nat} {d n s : Nat} (hn : n ≤ 10) (hs : s < 2 ^ n) (h0 : s ≠ 0) (x : CW) (hA : ∀ a, a < n → x.1 53 a = nI (Alk hb d n a)) (hJ : ∀ t, t < s → Jt (Alk hb d n) n x t) (q : Nat) : ∃ x', f_X1_findHands_L49 (nI (2 ^ n)) (q + 1) (nI s) x = f_X1_findHands_L49 (nI (2 ^ n)) q (nI (s + 1)) x' ∧ (∀ k, k ≠ 55 → k ≠ 56 → k ≠ 57 → x'.1 k = x.1 k) ∧ x'.2 = x.2 ∧ ∀ t, t < s + 1 → Jt (Alk hb d n) n x' t := by
  have hp := pow10 hn
  obtain ⟨i, hL⟩ := Lst_ex hs h0
  have hi := hL.1
  have htz := hL.tz hn
  obtain ⟨t1, t2⟩ := l_tz s (by omega) h0
  rw [htz] at t1 t2
  obtain ⟨x1, x2, x3⟩ := xor_out hL.2.1
  have hr := Alk_r hb d n
  have hal31 : Alk hb d n i < 2 ^ 31 := Nat.lt_of_lt_of_le (Alk_lt hb d n i) (Nat.pow_le_pow_right (by decide) (by omega))
  have han := andn (a := s ^^^ 2 ^ i) (b := Alk hb d n i) (by omega) hal31
  have han0 := andn0 (a := s ^^^ 2 ^ i) (b := Alk hb d n i) (by omega)
  have hcl : cqB (Alk hb d n) n s = true ↔ cqB (Alk hb d n) n (s ^^^ 2 ^ i) = true ∧ (s ^^^ 2 ^ i) &&& (Alk hb d n i ^^^ (2 ^ 31 - 1)) = 0 := by
    constructor
    · intro h
      have h2 : cqB (Alk hb d n) n (s ^^^ 2 ^ i) = true := cqB_sub h (fun j hj => by
        rw [← x1, or_bit, hj]; rfl)
      refine ⟨h2, han0.mpr ((cq_add hi (xor_lt hs hi) h2).mp (by rw [x1]; exact h))⟩
    · rintro ⟨h1, h2⟩
      have := (cq_add hi (xor_lt hs hi) h1).mpr (han0.mp h2)
      rwa [x1] at this
  obtain ⟨j1, -⟩ := hJ _ x3
  have hlt31 : (s ^^^ 2 ^ i) &&& (Alk hb d n i ^^^ (2 ^ 31 - 1)) < 2 ^ 31 := Nat.lt_of_le_of_lt Nat.and_le_left (by omega)
  let y := sC (sC x 55 s (nI (if cqB (Alk hb d n) n s = true then 1 else 0))) 56 s (nI 11)
  have hy1 : ∀ k, k ≠ 55 → k ≠ 56 → y.1 k = x.1 k := fun k h1 h2 => by
    show (sC (sC x 55 s _) 56 s (nI 11)).1 k = _
    simp (disch := omega) only [sC_s, sC_n, sC_2, sN_1, sN_s, sN_n, sN_2, sS_1, sS_2, sS_s, sS_n, upd_s, upd_e, upd_n]
  have hyJ : ∀ t, t < s → Jt (Alk hb d n) n y t := fun t ht => by
    obtain ⟨e1, ea, ey, e2, e3, e4⟩ := hJ t ht
    refine ⟨?_, ea, ey, ?_, ?_, e4⟩
    · show (sC (sC x 55 s _) 56 s (nI 11)).1 55 t = _
      simp (disch := omega) only [sC_s, sC_n, sC_2, sN_1, sN_s, sN_n, sN_2, sS_1, sS_2, sS_s, sS_n, upd_s, upd_e, upd_n]; exact e1
    · show (sC (sC x 55 s _) 56 s (nI 11)).1 56 t = _
      simp (disch := omega) only [sC_s, sC_n, sC_2, sN_1, sN_s, sN_n, sN_2, sS_1, sS_2, sS_s, sS_n, upd_s, upd_e, upd_n]; exact e2
    · show (sC (sC x 55 s _) 56 s (nI 11)).1 57 t = _
      simp (disch := omega) only [sC_s, sC_n, sC_2, sN_1, sN_s, sN_n, sN_2, sS_1, sS_2, sS_s, sS_n, upd_s, upd_e, upd_n]; exact e3
  have hy55 : y.1 55 s = nI (if cqB (Alk hb d n) n s = true then 1 else 0) := by
    show (sC (sC x 55 s _) 56 s (nI 11)).1 55 s = _
    simp (disch := omega) only [sC_s, sC_n, sC_2, sN_1, sN_s, sN_n, sN_2, sS_1, sS_2, sS_s, sS_n, upd_s, upd_e, upd_n]
  have hy56 : y.1 56 s = nI 11 := by
    show (sC (sC x 55 s _) 56 s (nI 11)).1 56 s = _
    simp (disch := omega) only [sC_s, sC_n, sC_2, sN_1, sN_s, sN_n, sN_2, sS_1, sS_2, sS_s, sS_n, upd_s, upd_e, upd_n]
  obtain ⟨y0, hy57⟩ : ∃ y0, y.1 57 s = nI y0 := by
    exact all32 _
  obtain ⟨x', e1, e2, a', y', e3, e4, e5⟩ := l_expl (al := Alk hb d n) hn hs hL hr FU (s ^^^ 2 ^ i) y 11 y0 (by unfold FU; omega) (Nat.and_self _) hyJ hy55 hy56 hy57 (.inr ⟨rfl, fun b _ => Fm_start _ _ _ _ _⟩)
  -- the last hand: the least page alone
  have hco1 := co_or hi x2
  rw [x1] at hco1
  obtain ⟨-, b, z, j2, j3, j4, j5⟩ := hyJ _ x3
  obtain ⟨u1, u2⟩ := e2.2.2 (s ^^^ 2 ^ i) (by omega)
  have hisl : 2 ^ i ≤ s := by
    have h2 : 2 ^ i &&& s = 2 ^ i := sub_iff.mpr fun j hj => by
      rw [Nat.testBit_two_pow] at hj
      rw [← of_decide_eq_true hj]; exact hL.2.1
    have : 2 ^ i &&& s ≤ s := Nat.and_le_right
    omega
  have hsub : s &&& (2 ^ i ^^^ (2 ^ 31 - 1)) = s ^^^ 2 ^ i := by
    apply Nat.eq_of_testBit_eq
    intro j
    rw [Nat.testBit_and, Nat.testBit_xor, Nat.testBit_two_pow_sub_one, Nat.testBit_two_pow, xor_bit]
    by_cases cj : j < 31
    · rw [decide_eq_true cj]
      by_cases c : i = j
      · subst c; rw [hL.2.1, decide_eq_true rfl]; rfl
      · rw [decide_eq_false c]; simp
    · have h1 : s.testBit j = false := Nat.testBit_lt_two_pow (Nat.lt_of_lt_of_le (show s < 2 ^ 10 by omega) (Nat.pow_le_pow_right (by decide) (by omega)))
      rw [h1, decide_eq_false (show ¬ i = j by omega)]; rfl
  have k55 : x'.1 55 (2 ^ i) = nI (if cqB (Alk hb d n) n (2 ^ i) = true then 1 else 0) := by
    rw [e2.1 55 (by decide) (by decide)]
    by_cases c : 2 ^ i = s
    · rw [c]; exact hy55
    · exact (hyJ _ (by omega)).1
  obtain ⟨hX, a2, y2, k1, k2, k3⟩ := l_try (G := Fm (Alk hb d n) n i (s ^^^ 2 ^ i) 0) (by omega) (by omega) (by omega) (by omega) hsub k55 (by rw [u1]; exact j2) (by rw [u2]; exact j3) j4 (by omega) e3 e4 e5
  have k4 : LdZ (fun m => Cc (Alk hb d n) n m s) a2 y2 := k3.congr fun m _ => Fm_end hn hL m
  obtain ⟨m0, hm0, hm1⟩ := Cc_ex hn hr s hs
  have k5 : Ld (fun m => Cc (Alk hb d n) n m s) a2 y2 ∧ a2 + co n s ≤ n := by
    rcases k4 with ⟨h1, h2⟩ | ⟨h1, h2⟩
    · refine ⟨h1, ?_⟩
      have : ¬ m0 < a2 := fun z => by
        have h3 : Cc (Alk hb d n) n m0 s = 0 := h1.2.2 m0 z
        omega
      omega
    · have h3 : Cc (Alk hb d n) n m0 s = 0 := h2 m0 (by omega)
      omega
  have hXX := e2.trans hX
  refine ⟨f_X1_tryHand x' (nI s) (nI (2 ^ i)), ?_, fun k h1 h2 h3 => ?_, ?_, fun t ht => ?_⟩
  · have hA1 := hA i hi
    have o2 : nI s &&& nI (s - 1) = nI (s ^^^ 2 ^ i) := by rw [nI_and, t2]
    have hsh := shl1 (p := i) (by omega)
    have e1 : ∀ j, f_X1_explain_L13 (nI s) (nI (2 ^ i)) (nI (s ^^^ 2 ^ i)) j FU (nI (s ^^^ 2 ^ i)) (sC (sC x 55 s (nI (if cqB (Alk hb d n) n s = true then 1 else 0))) 56 s (nI 11)) = j x' := e1
    by_cases c1 : cqB (Alk hb d n) n (s ^^^ 2 ^ i) = true
    · rw [if_pos c1] at j1
      by_cases c2 : (s ^^^ 2 ^ i) &&& (Alk hb d n i ^^^ (2 ^ 31 - 1)) = 0
      · rw [if_pos (hcl.mpr ⟨c1, c2⟩)] at e1
        rw [c2] at han
        simp (disch := omega) only [f_X1_findHands_L49, ↓nmk_e, ↓reduceIte, Option.bind_some, Option.map_some, lit, ofN, nI_add, pk_sub, pk_mul, nI_clamp, nI_leI, nI_ltI, nI_eq, pk_div, nI_an, nleT, nleF, nltT, nltF, neqT, neqF, or_false, false_or, or_self, or_true, true_or, and_self, and_true, true_and, and_false, false_and, not_true_eq_false, not_false_eq_true, f_X12_isSort, f_X12_isDay, f_X11_isSort, f_X11_isDay, inI, inP, f_X5_size, f_X5_isFull, f_X11_now, f_X2_isKind, f_X2_has, f_X3_has, f_X8_hasPage, f_X8_hasAllPages, f_X8_stands, f_X1_isPrinted, f_X1_rule, f_X9_has, f_X9_isFull, f_X12_isPage, f_X12_isVerse, sC_s, sC_n, sC_2, sN_1, sN_s, sN_n, sN_2, sS_1, sS_2, sS_s, sS_n, upd_s, upd_e, upd_n, rAt, rPut, rAdd, rSwap, rPush, rNumber, cp_0, cp_1, cp_2, cp_3, cp_4, cp_5, cp_6, cp_7, cp_8, cp_9, cp_10, cp_11, cp_12, cp_13, cp_14, cp_15, cp_16, cp_17, cp_18, cp_19, cp_20, cp_21, cp_22, cp_23, cp_24, cp_25, cp_26, cp_27, cp_28, cp_29, cp_30, cp_31, cp_32, cp_33, cp_34, cp_35, cp_36, cp_37, cp_38, cp_39, cp_40, cp_41, cp_42, cp_43, cp_44, cp_45, cp_46, cp_47, cp_48, cp_49, cp_50, cp_51, cp_52, cp_53, cp_54, cp_55, cp_56, cp_57, t1, o2, j1, hA1, han, f_X1_explain, hsh, e1]
      · rw [if_neg (fun z => c2 (hcl.mp z).2)] at e1
        have hz2 : ¬ nI ((s ^^^ 2 ^ i) &&& (Alk hb d n i ^^^ (2 ^ 31 - 1))) = nI 0 := fun z => c2 ((nI_eq hlt31 (by decide)).mp z)
        simp (disch := omega) only [f_X1_findHands_L49, ↓nmk_e, ↓reduceIte, Option.bind_some, Option.map_some, lit, ofN, nI_add, pk_sub, nI_clamp, nI_leI, nI_ltI, nleT, nleF, nltT, nltF, neqT, neqF, or_false, false_or, or_self, or_true, true_or, and_self, and_true, true_and, and_false, false_and, not_true_eq_false, not_false_eq_true, sC_s, sC_n, sC_2, sN_1, sN_s, sN_n, sN_2, sS_1, sS_2, sS_s, sS_n, upd_s, upd_e, upd_n, rAt, rPut, rAdd, rSwap, rPush, rNumber, cp_0, cp_1, cp_2, cp_3, cp_4, cp_5, cp_6, cp_7, cp_8, cp_9, cp_10, cp_11, cp_12, cp_13, cp_14, cp_15, cp_16, cp_17, cp_18, cp_19, cp_20, cp_21, cp_22, cp_23, cp_24, cp_25, cp_26, cp_27, cp_28, cp_29, cp_30, cp_31, cp_32, cp_33, cp_34, cp_35, cp_36, cp_37, cp_38, cp_39, cp_40, cp_41, cp_42, cp_43, cp_44, cp_45, cp_46, cp_47, cp_48, cp_49, cp_50, cp_51, cp_52, cp_53, cp_54, cp_55, cp_56, cp_57, t1, o2, j1, hA1, han, hz2, f_X1_explain, hsh, e1]
    · rw [if_neg c1] at j1
      rw [if_neg (fun z => c1 (hcl.mp z).1)] at e1
      simp (disch := omega) only [f_X1_findHands_L49, ↓nmk_e, ↓reduceIte, Option.bind_some, Option.map_some, lit, ofN, nI_add, pk_sub, pk_mul, nI_clamp, nI_leI, nI_ltI, nI_eq, pk_div, nI_an, nleT, nleF, nltT, nltF, neqT, neqF, or_false, false_or, or_self, or_true, true_or, and_self, and_true, true_and, and_false, false_and, not_true_eq_false, not_false_eq_true, f_X12_isSort, f_X12_isDay, f_X11_isSort, f_X11_isDay, inI, inP, f_X5_size, f_X5_isFull, f_X11_now, f_X2_isKind, f_X2_has, f_X3_has, f_X8_hasPage, f_X8_hasAllPages, f_X8_stands, f_X1_isPrinted, f_X1_rule, f_X9_has, f_X9_isFull, f_X12_isPage, f_X12_isVerse, sC_s, sC_n, sC_2, sN_1, sN_s, sN_n, sN_2, sS_1, sS_2, sS_s, sS_n, upd_s, upd_e, upd_n, rAt, rPut, rAdd, rSwap, rPush, rNumber, cp_0, cp_1, cp_2, cp_3, cp_4, cp_5, cp_6, cp_7, cp_8, cp_9, cp_10, cp_11, cp_12, cp_13, cp_14, cp_15, cp_16, cp_17, cp_18, cp_19, cp_20, cp_21, cp_22, cp_23, cp_24, cp_25, cp_26, cp_27, cp_28, cp_29, cp_30, cp_31, cp_32, cp_33, cp_34, cp_35, cp_36, cp_37, cp_38, cp_39, cp_40, cp_41, cp_42, cp_43, cp_44, cp_45, cp_46, cp_47, cp_48, cp_49, cp_50, cp_51, cp_52, cp_53, cp_54, cp_55, cp_56, cp_57, t1, o2, j1, f_X1_explain, hsh, e1]
  · rw [hXX.1 k h2 h3, hy1 k h1 h2]
  · rw [hXX.2.1]; rfl
  · by_cases c : t = s
    · subst c
      exact ⟨by rw [hXX.1 55 (by decide) (by decide)]; exact hy55, a2, y2, k1, k2, k5⟩
    · obtain ⟨f1, fa, fy, f2, f3, f4⟩ := hyJ t (by omega)
      obtain ⟨w1, w2⟩ := hXX.2.2 t c
      exact ⟨by rw [hXX.1 55 (by decide) (by decide)]; exact f1, fa, fy, by rw [w1]; exact f2, by rw [w2]; exact f3, f4⟩
