/-! sparing of the reference -/
def AlR (y : CW) (ch : Nat → Nat) (k n : Nat) (c : Int32) : Prop := (∀ t, k ≤ t → t < k + n → y.1 9 t = nI 1) ∧ ∃ t, k ≤ t ∧ t < k + n ∧ nI (ch t - 97) = c
def SpR (y : CW) (z : Nat) (ch : Nat → Nat) (c : Int32) (k n r : Nat) : Prop := (n = 2 ∨ n = 3) ∧ fit z ch k n = true ∧ fkN ch k n = r ∧ AlR y ch k n c
def jSp : Int32 → Int32 → Option Int32 := fun a b => some (if a = 0 then 0 else (if b = 0 then 0 else 1))
theorem n_uq {z : Nat} {ch : Nat → Nat} {k n a b d : Nat} (hc : ∀ i, i < z → ch i ≤ 122) (hn : n = 2 ∨ n = 3) (hf : fit z ch k n = true) (he : fkN ch k n = 10000 * a + 100 * b + d) (hd : d < 26 ∨ d = 99) : n = if d = 99 then 2 else 3 := by
  obtain ⟨h1, -⟩ := fit_le hn hf
  unfold fkN at he
  rcases hn with rfl | rfl
  · rw [if_pos rfl] at he
    rw [if_pos (by omega)]
  · have := hc (k + 2) (by omega)
    rw [if_neg (by decide)] at he
    rw [if_neg (by omega)]
theorem l_sp46 {y : CW} {x z k n : Nat} {ch : Nat → Nat} (h : VR (y.1 0) x z ch) (hk : k + n ≤ z) (hn : n = 2 ∨ n = 3) (hl : ∀ t, k ≤ t → t < k + n → 97 ≤ ch t) (c : Int32) : (f_X12_spares_L46 y (nI x) (nI k) c (nI n) jSp FU (nI 1) (nI 0) (nI 0) = some (nI 1) ∧ AlR y ch k n c) ∨ (f_X12_spares_L46 y (nI x) (nI k) c (nI n) jSp FU (nI 1) (nI 0) (nI 0) = some (nI 0) ∧ ¬ AlR y ch k n c) := by
  have hz := h.2.2.1
  refine run1 (fun q i (s : Int32 × Int32) => f_X12_spares_L46 y (nI x) (nI k) c (nI n) jSp q s.1 s.2 i) (fun i s => ((s.1 = nI 1 ∧ ∀ t, k ≤ t → t < k + i → y.1 9 t = nI 1) ∨ (s.1 = nI 0 ∧ ∃ t, k ≤ t ∧ t < k + i ∧ ¬ y.1 9 t = nI 1)) ∧ ((s.2 = nI 0 ∧ ∀ t, k ≤ t → t < k + i → ¬ nI (ch t - 97) = c) ∨ (s.2 = nI 1 ∧ ∃ t, k ≤ t ∧ t < k + i ∧ nI (ch t - 97) = c))) n (fun r => (r = some (nI 1) ∧ AlR y ch k n c) ∨ (r = some (nI 0) ∧ ¬ AlR y ch k n c)) ?_ ?_ FU 0 (nI 1, nI 0) (by omega) (by unfold FU; omega) ⟨.inl ⟨rfl, fun t h1 h2 => absurd h2 (by omega)⟩, .inl ⟨rfl, fun t h1 h2 => absurd h2 (by omega)⟩⟩
  · rintro q ⟨s, f⟩ ⟨h1, h2⟩
    have e : f_X12_spares_L46 y (nI x) (nI k) c (nI n) jSp (q + 1) s f (nI n) = jSp s f := by
      simp (disch := omega) only [f_X12_spares_L46, ↓nmk_e, ↓reduceIte, Option.bind_some, Option.map_some, lit, ofN, nI_add, pk_sub, pk_mul, nI_clamp, nI_leI, nI_ltI, nI_eq, pk_div, nI_an, nleT, nleF, nltT, nltF, neqT, neqF, or_false, false_or, or_self, or_true, true_or, and_self, and_true, true_and, and_false, false_and, not_true_eq_false, not_false_eq_true]
    show ((f_X12_spares_L46 y (nI x) (nI k) c (nI n) jSp (q + 1) s f (nI n)) = some (nI 1) ∧ _) ∨ ((f_X12_spares_L46 y (nI x) (nI k) c (nI n) jSp (q + 1) s f (nI n)) = some (nI 0) ∧ _)
    rw [e]
    rcases h1 with ⟨h0, h1⟩ | ⟨h0, t, t1, t2, t3⟩
    · have h0 : s = nI 1 := h0
      rcases h2 with ⟨g0, h2⟩ | ⟨g0, h2⟩
      · have g0 : f = nI 0 := g0
        subst h0 g0
        exact .inr ⟨rfl, fun ⟨_, t, t1, t2, t3⟩ => h2 t t1 t2 t3⟩
      · have g0 : f = nI 1 := g0
        subst h0 g0
        exact .inl ⟨rfl, h1, h2⟩
    · have h0 : s = nI 0 := h0
      subst h0
      exact .inr ⟨rfl, fun ⟨w, _⟩ => t3 (w t t1 t2)⟩
  · rintro q i ⟨s, f⟩ hi ⟨h1, h2⟩
    rcases h1 with ⟨h0, h1⟩ | ⟨h0, t, t1, t2, t3⟩
    · have h0 : s = nI 1 := h0
      have ea := l_at h (k := k + i) (by omega)
      rw [if_pos (by omega)] at ea
      have el := hl (k + i) (by omega) (by omega)
      have nx : (((if y.1 9 (k + i) = nI 1 then nI 1 else nI 0) = nI 1 ∧ ∀ t, k ≤ t → t < k + (i + 1) → y.1 9 t = nI 1) ∨ ((if y.1 9 (k + i) = nI 1 then nI 1 else nI 0) = nI 0 ∧ ∃ t, k ≤ t ∧ t < k + (i + 1) ∧ ¬ y.1 9 t = nI 1)) := by
        by_cases c9 : y.1 9 (k + i) = nI 1
        · rw [if_pos c9]
          refine .inl ⟨rfl, fun t t1 t2 => ?_⟩
          by_cases e : t = k + i
          · rw [e]; exact c9
          · exact h1 t t1 (by omega)
        · rw [if_neg c9]
          exact .inr ⟨rfl, k + i, by omega, by omega, c9⟩
      have hst : ∀ g : Int32, (f = nI 1 ∧ g = nI 1 ∨ f = nI 0 ∧ g = (if nI (ch (k + i) - 97) = c then nI 1 else nI 0)) → f_X12_spares_L46 y (nI x) (nI k) c (nI n) jSp (q + 1) (nI 1) f (nI i) = f_X12_spares_L46 y (nI x) (nI k) c (nI n) jSp q (if y.1 9 (k + i) = nI 1 then nI 1 else nI 0) g (nI (i + 1)) := by
        rintro g (⟨rfl, rfl⟩ | ⟨rfl, rfl⟩)
        · simp (disch := omega) only [f_X12_spares_L46, ↓nmk_e, ↓reduceIte, Option.bind_some, Option.map_some, lit, ofN, nI_add, pk_sub, pk_mul, nI_clamp, nI_leI, nI_ltI, nI_eq, pk_div, nI_an, nleT, nleF, nltT, nltF, neqT, neqF, or_false, false_or, or_self, or_true, true_or, and_self, and_true, true_and, and_false, false_and, not_true_eq_false, not_false_eq_true]
        · by_cases cc : nI (ch (k + i) - 97) = c
          · simp (disch := omega) only [f_X12_spares_L46, ↓nmk_e, ↓reduceIte, Option.bind_some, Option.map_some, lit, ofN, nI_add, pk_sub, pk_mul, nI_clamp, nI_leI, nI_ltI, nI_eq, pk_div, nI_an, nleT, nleF, nltT, nltF, neqT, neqF, or_false, false_or, or_self, or_true, true_or, and_self, and_true, true_and, and_false, false_and, not_true_eq_false, not_false_eq_true, ea, cc]
          · simp (disch := omega) only [f_X12_spares_L46, ↓nmk_e, ↓reduceIte, Option.bind_some, Option.map_some, lit, ofN, nI_add, pk_sub, pk_mul, nI_clamp, nI_leI, nI_ltI, nI_eq, pk_div, nI_an, nleT, nleF, nltT, nltF, neqT, neqF, or_false, false_or, or_self, or_true, true_or, and_self, and_true, true_and, and_false, false_and, not_true_eq_false, not_false_eq_true, ea, cc]
      subst h0
      rcases h2 with ⟨g0, h2⟩ | ⟨g0, t0, t1, t2, t3⟩
      · have g0 : f = nI 0 := g0
        refine .inr ⟨(_, if nI (ch (k + i) - 97) = c then nI 1 else nI 0), hst _ (.inr ⟨g0, rfl⟩), nx, ?_⟩
        by_cases cc : nI (ch (k + i) - 97) = c
        · exact .inr ⟨if_pos cc, k + i, by omega, by omega, cc⟩
        · refine .inl ⟨if_neg cc, fun t t1 t2 => ?_⟩
          by_cases e : t = k + i
          · rw [e]; exact cc
          · exact h2 t t1 (by omega)
      · have g0 : f = nI 1 := g0
        exact .inr ⟨(_, nI 1), hst _ (.inl ⟨g0, rfl⟩), nx, .inr ⟨rfl, t0, t1, by omega, t3⟩⟩
    · have h0 : s = nI 0 := h0
      subst h0
      refine .inl (.inr ⟨?_, fun ⟨w, _⟩ => t3 (w t t1 (by omega))⟩)
      simp (disch := omega) only [f_X12_spares_L46, ↓nmk_e, ↓reduceIte, Option.bind_some, Option.map_some, lit, ofN, nI_add, pk_sub, pk_mul, nI_clamp, nI_leI, nI_ltI, nI_eq, pk_div, nI_an, nleT, nleF, nltT, nltF, neqT, neqF, or_false, false_or, or_self, or_true, true_or, and_self, and_true, true_and, and_false, false_and, not_true_eq_false, not_false_eq_true]
      rfl
theorem l_spares {y : CW} {x z t k : Nat} {ch WD : Nat → Nat} {A : CA} (h : EnvR y x z ch WD A) (ht : t < A.2.2) (hk : k < z) (c : Int32) : (f_X12_spares y (nI x) (nI t) (nI k) c = some (nI 1) ∧ ∃ n, nI (fkN ch k n) = y.1 4 t ∧ SpR y z ch c k n (fkN ch k n)) ∨ (f_X12_spares y (nI x) (nI t) (nI k) c = some (nI 0) ∧ ¬ ∃ n r, nI r = y.1 4 t ∧ SpR y z ch c k n r) := by
  obtain ⟨hV, hR, hA, hW⟩ := h
  have hM := hR.2.2.2.2.2
  have hf := hM.2.1
  have hz := hV.2.2.1
  have hc : ∀ i, i < z → ch i ≤ 122 := fun i hi => by
    have := (hV.2.2.2.2 i hi).2; omega
  have hm := Mp_some hM.2.2 ht
  obtain ⟨⟨a, b, d, ha, hb, hd, hkey⟩, -⟩ := hA.2.2.2 _ _ _ hm
  have hn : (if d = 99 then 2 else 3) = 2 ∨ (if d = 99 then 2 else 3) = 3 := by split <;> simp
  have hh : f_X12_spares y (nI x) (nI t) (nI k) c = Option.bind (f_X12_formAt y (nI x) (nI k) (nI (if d = 99 then 2 else 3))) fun q26 => f_X12_spares_L46 y (nI x) (nI k) c (nI (if d = 99 then 2 else 3)) jSp FU (if q26 = nI t then 1 else 0) 0 0 := by
    unfold f_X12_spares
    have e4 : (nI t).toNatClampNeg = t := nI_clamp (by omega)
    have ex : (if (nI (10000 * a + 100 * b + d) - nI (10000 * a + 100 * b + d) / 100 * 100) = 99 then (2 : Int32) else 3) = nI (if d = 99 then 2 else 3) := by
      by_cases c99 : d = 99
      · subst c99
        simp (disch := omega) only [↓nmk_e, ↓reduceIte, Option.bind_some, Option.map_some, lit, ofN, nI_add, pk_sub, pk_mul, nI_clamp, nI_leI, nI_ltI, nI_eq, pk_div, nI_an, nleT, nleF, nltT, nltF, neqT, neqF, or_false, false_or, or_self, or_true, true_or, and_self, and_true, true_and, and_false, false_and, not_true_eq_false, not_false_eq_true]
      · simp (disch := omega) only [↓nmk_e, ↓reduceIte, Option.bind_some, Option.map_some, lit, ofN, nI_add, pk_sub, pk_mul, nI_clamp, nI_leI, nI_ltI, nI_eq, pk_div, nI_an, nleT, nleF, nltT, nltF, neqT, neqF, or_false, false_or, or_self, or_true, true_or, and_self, and_true, true_and, and_false, false_and, not_true_eq_false, not_false_eq_true, c99]
    rw [e4, if_neg (by rintro (q | q); exact nI_pos (by omega) q; omega), hkey, ex, nmk_e]
    refine congrArg _ (funext fun q26 => ?_)
    rw [nmk_e, nmk_e]
    rfl
  have no : ∀ n r, nI r = y.1 4 t → SpR y z ch c k n r → n = (if d = 99 then 2 else 3) := by
    rintro n r e ⟨s1, s2, s3, -⟩
    have hk2 := fkN_le hc s1 s2
    have e2 : r = 10000 * a + 100 * b + d := by
      rw [hkey] at e
      have := congrArg tN e
      rw [show tN (nI r) = r from nI_clamp (by omega), show tN (nI (10000 * a + 100 * b + d)) = 10000 * a + 100 * b + d from nI_clamp (by omega)] at this
      exact this
    exact n_uq hc s1 s2 (s3.trans e2) hd
  rw [hh]
  clear hh
  generalize (if d = 99 then 2 else 3) = N at *
  have hF : FU = 9999 + 1 := rfl
  have z0 : ∀ q : Int32, ¬ q = nI t → f_X12_spares_L46 y (nI x) (nI k) c (nI N) jSp FU (if q = nI t then 1 else 0) 0 0 = some (nI 0) := fun q hq => by
    rw [if_neg hq, hF]
    rcases hn with rfl | rfl <;> simp (disch := omega) only [f_X12_spares_L46, ↓nmk_e, ↓reduceIte, Option.bind_some, Option.map_some, lit, ofN, nI_add, pk_sub, pk_mul, nI_clamp, nI_leI, nI_ltI, nI_eq, pk_div, nI_an, nleT, nleF, nltT, nltF, neqT, neqF, or_false, false_or, or_self, or_true, true_or, and_self, and_true, true_and, and_false, false_and, not_true_eq_false, not_false_eq_true] <;> rfl
  rcases l_formAt (k := k) (n := N) hV hM (by omega) hn with ⟨e1, e2⟩ | ⟨i, hi, e1, e2, e3, e4⟩
  · refine .inr ⟨?_, ?_⟩
    · rw [e1, Option.bind_some]
      refine z0 _ fun w => ?_
      have := congrArg Int32.toInt w
      rw [nI_toInt (by omega), show (-nI 1).toInt = -1 from rfl] at this
      omega
    · rintro ⟨n, r, w1, w2⟩
      have w3 := no n r w1 w2
      subst w3
      refine e2 ⟨w2.2.1, ?_⟩
      rw [w2.2.2.1, w1, hm]
      exact fun q => by cases q
  · rw [e1, Option.bind_some]
    by_cases cit : i = t
    · subst cit
      obtain ⟨g1, g2⟩ := fit_le hn e2
      rw [if_pos rfl]
      rcases l_sp46 hV g1 hn g2 c with ⟨f1, f2⟩ | ⟨f1, f2⟩
      · exact .inl ⟨f1, N, e3.symm, hn, e2, rfl, f2⟩
      · refine .inr ⟨f1, ?_⟩
        rintro ⟨n, r, w1, w2⟩
        have w3 := no n r w1 w2
        subst w3
        exact f2 w2.2.2.2
    · refine .inr ⟨z0 _ fun w => cit ?_, ?_⟩
      · have := congrArg tN w
        rw [show tN (nI i) = i from nI_clamp (by omega), show tN (nI t) = t from nI_clamp (by omega)] at this
        exact this
      · rintro ⟨n, r, w1, w2⟩
        have w3 := no n r w1 w2
        subst w3
        refine cit (hM.2.2.1 i t hi ht ?_)
        rw [e3, ← w1, w2.2.2.1]
theorem l_en92 {y : CW} {x z t : Nat} {ch WD : Nat → Nat} {A : CA} (h : EnvR y x z ch WD A) (ht : t < A.2.2) (c x0 : Int32) {b : Int32} {Q : Nat → Prop} (hb : Mn Q b) : ∃ b', (fun j => f_X12_enough_L92 (nI x) (x0, y) c (nI t) j FU b (nI 0)) = (fun j => j b') ∧ Mn (fun r => Q r ∨ ∃ k, k < z ∧ ∃ n, nI r = y.1 4 t ∧ SpR y z ch c k n r) b' := by
  have hV := h.1
  have hf := h.2.1.2.2.2.2.2.2.1
  obtain ⟨hx, -, hz, h166, -⟩ := hV
  have hc : ∀ i, i < z → ch i ≤ 122 := fun i hi => by
    have := (h.1.2.2.2.2 i hi).2; omega
  refine run1 (fun q i s => fun j => f_X12_enough_L92 (nI x) (x0, y) c (nI t) j q s i) (fun i s => Mn (fun r => Q r ∨ ∃ k, k < i ∧ ∃ n, nI r = y.1 4 t ∧ SpR y z ch c k n r) s) z (fun r => ∃ b', r = (fun j => j b') ∧ Mn (fun r => Q r ∨ ∃ k, k < z ∧ ∃ n, nI r = y.1 4 t ∧ SpR y z ch c k n r) b') ?_ ?_ FU 0 b (Nat.zero_le _) (by unfold FU; omega) (hb.cg fun r => ⟨.inl, fun w => ?_⟩)
  · rintro q s hI
    refine ⟨s, funext fun j => ?_, hI⟩
    simp (disch := omega) only [f_X12_enough_L92, ↓nmk_e, ↓reduceIte, Option.bind_some, Option.map_some, lit, ofN, nI_add, pk_sub, pk_mul, nI_clamp, nI_leI, nI_ltI, nI_eq, pk_div, nI_an, nleT, nleF, nltT, nltF, neqT, neqF, or_false, false_or, or_self, or_true, true_or, and_self, and_true, true_and, and_false, false_and, not_true_eq_false, not_false_eq_true, h166]
  · rintro q k s hk hI
    have e1 : ∀ j, f_X12_enough_L92 (nI x) (x0, y) c (nI t) j (q + 1) s (nI k) = Option.bind (f_X12_spares y (nI x) (nI t) (nI k) c) fun q114 => if q114 = 0 then f_X12_enough_L92 (nI x) (x0, y) c (nI t) j q s (nI (k + 1)) else f_X12_enough_L92 (nI x) (x0, y) c (nI t) j q (ls3 s (y.1 4 t)) (nI (k + 1)) := fun j => by
      rw [f_X12_enough_L92, if_neg (show ¬ ((1660 + nI x) < 0 ∨ 3250 ≤ (1660 + nI x).toNatClampNeg) from of_eq_true (by simp (disch := omega) only [↓nmk_e, ↓reduceIte, Option.bind_some, Option.map_some, lit, ofN, nI_add, pk_sub, pk_mul, nI_clamp, nI_leI, nI_ltI, nI_eq, pk_div, nI_an, nleT, nleF, nltT, nltF, neqT, neqF, or_false, false_or, or_self, or_true, true_or, and_self, and_true, true_and, and_false, false_and, not_true_eq_false, not_false_eq_true, nI_nlt])), if_neg (show ¬ (x0, y).2.1 0 (1660 + nI x).toNatClampNeg ≤ nI k from of_eq_true (by simp (disch := omega) only [↓nmk_e, ↓reduceIte, Option.bind_some, Option.map_some, lit, ofN, nI_add, pk_sub, pk_mul, nI_clamp, nI_leI, nI_ltI, nI_eq, pk_div, nI_an, nleT, nleF, nltT, nltF, neqT, neqF, or_false, false_or, or_self, or_true, true_or, and_self, and_true, true_and, and_false, false_and, not_true_eq_false, not_false_eq_true, h166]))]
      congr 1
      funext q114
      have ek : nI k + 1 = nI (k + 1) := by simp (disch := omega) only [↓nmk_e, ↓reduceIte, Option.bind_some, Option.map_some, lit, ofN, nI_add, pk_sub, pk_mul, nI_clamp, nI_leI, nI_ltI, nI_eq, pk_div, nI_an, nleT, nleF, nltT, nltF, neqT, neqF, or_false, false_or, or_self, or_true, true_or, and_self, and_true, true_and, and_false, false_and, not_true_eq_false, not_false_eq_true]
      have et : (nI t).toNatClampNeg = t := nI_clamp (by omega)
      have hb80 : (nI t < 0 ∨ 80 ≤ t) = False := eq_false (by rintro (w | w); exact nI_pos (by omega) w; omega)
      simp only [↓nmk_e, ek, et, hb80, if_false]
      by_cases c0 : q114 = 0
      · rw [if_pos c0, if_pos c0]
      · rw [if_neg c0, if_neg c0]
        unfold ls3
        by_cases c5 : s = -nI 5
        · rw [if_pos (show s = -5 from c5), if_pos c5]
        · rw [if_neg (show ¬ s = -5 from c5), if_neg c5]
          by_cases cl : s ≤ y.1 4 t
          · rw [if_pos (show s ≤ (x0, y).2.1 4 t from cl), if_neg (show ¬ y.1 4 t < s by rw [i_lt]; rw [i_le] at cl; omega)]
          · rw [if_neg (show ¬ s ≤ (x0, y).2.1 4 t from cl), if_pos (show y.1 4 t < s by rw [i_lt]; rw [i_le] at cl; omega)]
    rcases l_spares h ht hk c with ⟨f1, n, f2, f3⟩ | ⟨f1, f2⟩
    · refine .inr ⟨ls3 s (y.1 4 t), funext fun j => ?_, ?_⟩
      · show f_X12_enough_L92 (nI x) (x0, y) c (nI t) j (q + 1) s (nI k) = _
        rw [e1 j, f1, Option.bind_some, if_neg (show ¬ nI 1 = 0 by decide)]
      · have hl := fkN_le hc f3.1 f3.2.1
        have hA := hI.add (r := fkN ch k n) (by omega)
        rw [f2] at hA
        refine hA.cg fun r => ⟨fun w => ?_, fun w => ?_⟩
        · rcases w with (w | ⟨k', w1, w2⟩) | rfl
          · exact .inl w
          · exact .inr ⟨k', by omega, w2⟩
          · exact .inr ⟨k, by omega, n, f2, f3⟩
        · rcases w with w | ⟨k', w1, n', w2, w3⟩
          · exact .inl (.inl w)
          · by_cases e : k' = k
            · refine .inr ?_
              have hl2 := fkN_le hc w3.1 w3.2.1
              have := congrArg tN (w2.trans f2.symm)
              rw [w3.2.2.1] at hl2
              rw [show tN (nI r) = r from nI_clamp (by omega), show tN (nI (fkN ch k n)) = fkN ch k n from nI_clamp (by omega)] at this
              exact this
            · exact .inl (.inr ⟨k', by omega, n', w2, w3⟩)
    · refine .inr ⟨s, funext fun j => ?_, ?_⟩
      · show f_X12_enough_L92 (nI x) (x0, y) c (nI t) j (q + 1) s (nI k) = _
        rw [e1 j, f1, Option.bind_some, if_pos (show nI 0 = 0 from rfl)]
      · refine hI.cg fun r => ⟨fun w => ?_, fun w => ?_⟩
        · rcases w with w | ⟨k', w1, w2⟩
          · exact .inl w
          · exact .inr ⟨k', by omega, w2⟩
        · rcases w with w | ⟨k', w1, n', w2, w3⟩
          · exact .inl w
          · by_cases e : k' = k
            · subst e
              exact absurd ⟨n', r, w2, w3⟩ f2
            · exact .inr ⟨k', by omega, n', w2, w3⟩
  · rcases w with w | ⟨k, w, _⟩
    · exact w
    · exact absurd w (Nat.not_lt_zero k)
theorem l_en74 {y : CW} {x z : Nat} {ch WD : Nat → Nat} {A : CA} (h : EnvR y x z ch WD A) {c : Int32} (hc : ¬ c = -nI 5) (x0 : Int32) : ∃ b, f_X12_enough_L74 (nI x) (x0, y) c FU (-5) 0 = some (b, y) ∧ Mn (fun r => ∃ t, t < A.2.2 ∧ ∃ k, k < z ∧ ∃ n, nI r = y.1 4 t ∧ SpR y z ch c k n r) b := by
  have hM := h.2.1.2.2.2.2.2
  have hf := hM.2.1
  have h13 : (x0, y).2.2.2 13 = nI A.2.2 := hM.1
  refine run1 (fun q i s => f_X12_enough_L74 (nI x) (x0, y) c q s i) (fun i s => Mn (fun r => ∃ t, t < i ∧ ∃ k, k < z ∧ ∃ n, nI r = y.1 4 t ∧ SpR y z ch c k n r) s) A.2.2 (fun r => ∃ b, r = some (b, y) ∧ Mn (fun r => ∃ t, t < A.2.2 ∧ ∃ k, k < z ∧ ∃ n, nI r = y.1 4 t ∧ SpR y z ch c k n r) b) ?_ ?_ FU 0 (-5) (Nat.zero_le _) (by unfold FU; omega) (.inl ⟨rfl, fun r ⟨t, ht, _⟩ => Nat.not_lt_zero t ht⟩)
  · rintro q s hI
    refine ⟨s, ?_, hI⟩
    show f_X12_enough_L74 (nI x) (x0, y) c (q + 1) s (nI A.2.2) = _
    rw [f_X12_enough_L74, h13, if_pos (show nI A.2.2 ≤ nI A.2.2 from of_eq_true (by simp (disch := omega) only [↓nmk_e, ↓reduceIte, Option.bind_some, Option.map_some, lit, ofN, nI_add, pk_sub, pk_mul, nI_clamp, nI_leI, nI_ltI, nI_eq, pk_div, nI_an, nleT, nleF, nltT, nltF, neqT, neqF, or_false, false_or, or_self, or_true, true_or, and_self, and_true, true_and, and_false, false_and, not_true_eq_false, not_false_eq_true]))]
  · rintro q t s ht hI
    obtain ⟨b', e1, e2⟩ := l_en92 h ht c x0 hI
    refine .inr ⟨b', ?_, e2.cg fun r => ⟨fun w => ?_, fun ⟨t', w1, w2⟩ => ?_⟩⟩
    · show f_X12_enough_L74 (nI x) (x0, y) c (q + 1) s (nI t) = _
      rw [f_X12_enough_L74, h13, if_neg (show ¬ nI A.2.2 ≤ nI t from of_eq_true (by simp (disch := omega) only [↓nmk_e, ↓reduceIte, Option.bind_some, Option.map_some, lit, ofN, nI_add, pk_sub, pk_mul, nI_clamp, nI_leI, nI_ltI, nI_eq, pk_div, nI_an, nleT, nleF, nltT, nltF, neqT, neqF, or_false, false_or, or_self, or_true, true_or, and_self, and_true, true_and, and_false, false_and, not_true_eq_false, not_false_eq_true])), if_neg (show ¬ c = -5 from hc), nmk_e]
      refine (congrFun e1 _).trans ?_
      show nmk (nI t + 1) _ = _
      rw [nmk_e, show nI t + 1 = nI (t + 1) by simp (disch := omega) only [↓nmk_e, ↓reduceIte, Option.bind_some, Option.map_some, lit, ofN, nI_add, pk_sub, pk_mul, nI_clamp, nI_leI, nI_ltI, nI_eq, pk_div, nI_an, nleT, nleF, nltT, nltF, neqT, neqF, or_false, false_or, or_self, or_true, true_or, and_self, and_true, true_and, and_false, false_and, not_true_eq_false, not_false_eq_true]]
    · rcases w with ⟨t', w1, w2⟩ | w
      · exact ⟨t', by omega, w2⟩
      · exact ⟨t, by omega, w⟩
    · by_cases e : t' = t
      · subst e; exact .inr w2
      · exact .inl ⟨t', by omega, w2⟩
