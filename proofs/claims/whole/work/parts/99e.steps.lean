/-! one step of both, in the tables -/
theorem mf_ex {f : Nat → Nat} {V : Nat} (hV : V < EE) : ∀ n, mf f n = V → ∃ i, i < n ∧ f i = V := by
  intro n
  induction n with
  | zero =>
    intro h
    have h : EE = V := h
    omega
  | succ n ih =>
    intro h
    have h : min (mf f n) (f n) = V := h
    by_cases c : f n = V
    · exact ⟨n, by omega, c⟩
    · obtain ⟨i, h1, h2⟩ := ih (by omega)
      exact ⟨i, by omega, h2⟩
/-- both stand at k -/
def AtK (P : PP) (lt : Nat → Bool) (A C : Nat → Nat → Nat → Nat) (k w h p : Nat) : Prop := k ≤ P.1 ∧ w ≤ P.2.1 ∧ h < 2 ∧ p < 3 ∧ A k w h < EE ∧ C k w p = A k w h ∧ (lt k = true → (h = 0 ∧ p = 0) ∨ (h = 1 ∧ (p = 1 ∨ p = 2)))
theorem dp' {P : PP} {lt : Nat → Bool} {pw pu : Nat → Nat → Nat} {A C : Nat → Nat → Nat → Nat} (hP : okP P lt pw pu) (hA : isA P lt pw pu A) (hC : isC P lt pw pu C) {k w : Nat} (hk : k ≤ P.1) (hw : w ≤ P.2.1) : ap (C k w 0) (A k w 0) ∧ (lt k = true → ap (C k w 1) (A k w 1) ∧ ap (C k w 2) (min (A k w 1) (if w + P.2.2.2.2.2.2 = P.2.1 then P.2.2.2.2.1 + A k 0 0 else EE))) ∧ (¬ lt k = true → ∀ p h, p < 3 → h < 2 → ap (C k w p) (A k w h)) := dp hP hA hC P.1 k hk (by omega) w hw
theorem cu_ap {P : PP} {lt : Nat → Bool} {pw pu : Nat → Nat → Nat} {A C : Nat → Nat → Nat → Nat} (hP : okP P lt pw pu) (hA : isA P lt pw pu A) (hC : isC P lt pw pu C) {k n w h p : Nat} (n1 : 1 ≤ n) (n3 : n ≤ 3) (hr : (h = 0 ∧ p = 0) ∨ (h = 1 ∧ (p = 1 ∨ p = 2))) : ap (cuC P pw pu C k n w p) (min (goA P lt pw pu A k n w) (brA P lt pw pu A k n w h)) := by
  by_cases c0 : pw k n = 0
  · have b0 : brA P lt pw pu A k n w h = EE := if_neg (fun z => by omega)
    rw [b0]
    unfold cuC goA
    rw [if_pos c0, if_pos c0]; exact ap_22
  have hle := hP.2.1 k n n1 n3 (by omega)
  by_cases c1 : w + pw k n ≤ P.2.1
  · have eg : goA P lt pw pu A k n w = pu k n + A (k + n) (w + pw k n) (if lt (k + n) = true then 1 else 0) := by
      unfold goA; rw [if_neg c0, if_neg (show ¬ P.2.1 < w + pw k n by omega)]
    have ec : cuC P pw pu C k n w p = pu k n + C (k + n) (w + pw k n) (min (p + 1) 2) := by
      unfold cuC; rw [if_neg c0, if_pos c1]
    rw [eg, ec]
    obtain ⟨i1, i2, i3⟩ := dp' hP hA hC hle c1
    rcases hr with ⟨rfl, rfl⟩ | ⟨rfl, hp⟩
    · have b0 : brA P lt pw pu A k n w 0 = EE := if_neg (fun z => by omega)
      rw [b0]
      refine ap_k ?_
      by_cases c2 : lt (k + n) = true
      · rw [if_pos c2]; exact (i2 c2).1
      · rw [if_neg c2]; exact i3 c2 _ _ (by decide) (by decide)
    · have hm : min (p + 1) 2 = 2 := by omega
      rw [hm]
      by_cases c2 : lt (k + n) = true
      · obtain ⟨-, i4⟩ := i2 c2
        rw [if_pos c2]
        by_cases c3 : w + pw k n + P.2.2.2.2.2.2 = P.2.1
        · rw [if_pos c3] at i4
          have b1 : brA P lt pw pu A k n w 1 = pu k n + P.2.2.2.2.1 + A (k + n) 0 0 := if_pos ⟨by omega, rfl, c2, c3⟩
          rw [b1]
          exact ap_g i4
        · rw [if_neg c3] at i4
          have b1 : brA P lt pw pu A k n w 1 = EE := if_neg (fun z => c3 z.2.2.2)
          rw [b1]
          exact ap_h i4
      · have b1 : brA P lt pw pu A k n w 1 = EE := if_neg (fun z => c2 z.2.2.1)
        rw [if_neg c2, b1]
        exact ap_k (i3 c2 2 0 (by decide) (by decide))
  · have b1 : brA P lt pw pu A k n w h = EE := if_neg (fun z => by omega)
    rw [b1]
    unfold cuC goA
    rw [if_neg c0, if_neg c1, if_neg c0, if_pos (show P.2.1 < w + pw k n by omega)]
    exact ap_z
/-- the least is at most each -/
theorem le6 {E a b c d e f V : Nat} (h : V = min (min (min (min (min (min E a) b) c) d) e) f) : (V ≤ a ∧ V ≤ b) ∧ (V ≤ c ∧ V ≤ d) ∧ (V ≤ e ∧ V ≤ f) ∧ (V < E → (e = V ∨ f = V) ∨ (c = V ∨ d = V) ∨ (a = V ∨ b = V)) := by omega
theorem ap_min {V x a b : Nat} (hV : V < EE) (h1 : V ≤ a) (h2 : V ≤ b) (h : ap x (min a b)) : x = V ↔ (a = V ∨ b = V) := by
  unfold ap at h; omega
theorem ls_le {P : PP} {lt : Nat → Bool} {pw pu : Nat → Nat → Nat} {A : Nat → Nat → Nat → Nat} (hP : okP P lt pw pu) (hA : isA P lt pw pu A) {k w h : Nat} (hk : lt k = true) (hw : w ≤ P.2.1) (hh : h < 2) : A k w h = min (min (min (min (min (min EE (goA P lt pw pu A k 3 w)) (brA P lt pw pu A k 3 w h)) (goA P lt pw pu A k 2 w)) (brA P lt pw pu A k 2 w h)) (goA P lt pw pu A k 1 w)) (brA P lt pw pu A k 1 w h) := by
  rw [hA.2 k (hP.1 k hk) w hw h hh]; exact if_pos hk
theorem at_letter {P : PP} {lt : Nat → Bool} {pw pu : Nat → Nat → Nat} {A C : Nat → Nat → Nat → Nat} (hP : okP P lt pw pu) (hA : isA P lt pw pu A) (hC : isC P lt pw pu C) {k w h p : Nat} (hI : AtK P lt A C k w h p) (hk : lt k = true) : (∃ n, 1 ≤ n ∧ n ≤ 3 ∧ (goA P lt pw pu A k n w = A k w h ∨ brA P lt pw pu A k n w h = A k w h)) ∧ ∀ n, 1 ≤ n → n ≤ 3 → (cuC P pw pu C k n w p = A k w h ↔ (goA P lt pw pu A k n w = A k w h ∨ brA P lt pw pu A k n w h = A k w h)) := by
  obtain ⟨k1, w1, h2, p3, v1, v2, rl⟩ := hI
  obtain ⟨l3, l2, l1, lx⟩ := le6 (ls_le hP hA hk w1 h2)
  constructor
  · rcases lx v1 with c | c | c
    · exact ⟨1, by decide, by decide, c⟩
    · exact ⟨2, by decide, by decide, c⟩
    · exact ⟨3, by decide, by decide, c⟩
  · intro n n1 n3
    have hm : A k w h ≤ goA P lt pw pu A k n w ∧ A k w h ≤ brA P lt pw pu A k n w h := by
      have : n = 1 ∨ n = 2 ∨ n = 3 := by omega
      rcases this with rfl | rfl | rfl
      · exact l1
      · exact l2
      · exact l3
    exact ap_min v1 hm.1 hm.2 (cu_ap hP hA hC n1 n3 (rl hk))
/-- what follows a piece -/
theorem by_letter {P : PP} {lt : Nat → Bool} {pw pu : Nat → Nat → Nat} {A C : Nat → Nat → Nat → Nat} (hP : okP P lt pw pu) (hA : isA P lt pw pu A) (hC : isC P lt pw pu C) {k w h p n : Nat} (hI : AtK P lt A C k w h p) (hk : lt k = true) (n1 : 1 ≤ n) (n3 : n ≤ 3) (hc : cuC P pw pu C k n w p = A k w h) : 0 < pw k n ∧ w + pw k n ≤ P.2.1 ∧ k + n ≤ P.1 ∧ ((goA P lt pw pu A k n w = A k w h ∧ AtK P lt A C (k + n) (w + pw k n) (if lt (k + n) = true then 1 else 0) (min (p + 1) 2)) ∨ (goA P lt pw pu A k n w ≠ A k w h ∧ lt (k + n) = true ∧ min (p + 1) 2 = 2 ∧ w + pw k n + P.2.2.2.2.2.2 = P.2.1 ∧ C (k + n) (w + pw k n) 2 < EE ∧ (∀ m, 1 ≤ m → m ≤ 3 → cuC P pw pu C (k + n) m (w + pw k n) 2 ≠ C (k + n) (w + pw k n) 2) ∧ AtK P lt A C (k + n) 0 0 0)) := by
  obtain ⟨hex, hiff⟩ := at_letter hP hA hC hI hk
  have hor := (hiff n n1 n3).mp hc
  obtain ⟨k1, w1, h2, p3, v1, v2, rl⟩ := hI
  have c0 : ¬ pw k n = 0 := fun c => by
    unfold cuC at hc; rw [if_pos c] at hc; omega
  have c1 : w + pw k n ≤ P.2.1 := by
    by_cases c : w + pw k n ≤ P.2.1
    · exact c
    · unfold cuC at hc; rw [if_neg c0, if_neg c] at hc; omega
  have hle := hP.2.1 k n n1 n3 (by omega)
  have hc' : pu k n + C (k + n) (w + pw k n) (min (p + 1) 2) = A k w h := by
    unfold cuC at hc; rw [if_neg c0, if_pos c1] at hc; exact hc
  have eg : goA P lt pw pu A k n w = pu k n + A (k + n) (w + pw k n) (if lt (k + n) = true then 1 else 0) := by
    unfold goA; rw [if_neg c0, if_neg (by omega)]
  refine ⟨by omega, c1, hle, ?_⟩
  by_cases cg : goA P lt pw pu A k n w = A k w h
  · refine .inl ⟨cg, hle, c1, ?_, by omega, by omega, by omega, fun hl => .inr ⟨if_pos hl, ?_⟩⟩
    · split <;> omega
    · rcases rl hk with ⟨-, rfl⟩ | ⟨-, rfl | rfl⟩
      · exact .inl rfl
      · exact .inr rfl
      · exact .inr rfl
  · have hb : brA P lt pw pu A k n w h = A k w h := by omega
    have hgt : A k w h ≤ goA P lt pw pu A k n w := by
      obtain ⟨l3, l2, l1, -⟩ := le6 (ls_le hP hA hk w1 h2)
      have : n = 1 ∨ n = 2 ∨ n = 3 := by omega
      rcases this with rfl | rfl | rfl
      · exact l1.1
      · exact l2.1
      · exact l3.1
    have hcond : 0 < pw k n ∧ h = 1 ∧ lt (k + n) = true ∧ w + pw k n + P.2.2.2.2.2.2 = P.2.1 := by
      by_cases c : 0 < pw k n ∧ h = 1 ∧ lt (k + n) = true ∧ w + pw k n + P.2.2.2.2.2.2 = P.2.1
      · exact c
      · unfold brA at hb; rw [if_neg c] at hb; omega
    have hb' : pu k n + P.2.2.2.2.1 + A (k + n) 0 0 = A k w h := by
      unfold brA at hb; rw [if_pos hcond] at hb; exact hb
    obtain ⟨-, h1, hl, hcol⟩ := hcond
    have hm : min (p + 1) 2 = 2 := by
      rcases rl hk with ⟨z, -⟩ | ⟨-, z⟩ <;> omega
    rw [hm] at hc'
    rw [if_pos hl] at eg
    obtain ⟨i1, -, -⟩ := dp' hP hA hC hle (Nat.zero_le P.2.1)
    refine .inr ⟨cg, hl, hm, hcol, by omega, fun m m1 m3 hq => ?_, hle, Nat.zero_le _, by decide, by decide, by omega, ?_, fun _ => .inl ⟨rfl, rfl⟩⟩
    · have a1 := cu_ap hP hA hC (k := k + n) (w := w + pw k n) (h := 1) (p := 2) m1 m3 (.inr ⟨rfl, .inr rfl⟩)
      rw [hq] at a1
      obtain ⟨l3, l2, l1, -⟩ := le6 (ls_le hP hA (h := 1) hl c1 (by decide))
      have hmin : A (k + n) (w + pw k n) 1 ≤ goA P lt pw pu A (k + n) m (w + pw k n) ∧ A (k + n) (w + pw k n) 1 ≤ brA P lt pw pu A (k + n) m (w + pw k n) 1 := by
        have : m = 1 ∨ m = 2 ∨ m = 3 := by omega
        rcases this with rfl | rfl | rfl
        · exact l1
        · exact l2
        · exact l3
      unfold ap at a1
      omega
    · unfold ap at i1
      omega
theorem at_blank {P : PP} {lt : Nat → Bool} {pw pu : Nat → Nat → Nat} {A C : Nat → Nat → Nat → Nat} (hP : okP P lt pw pu) (hA : isA P lt pw pu A) (hC : isC P lt pw pu C) {k w h p : Nat} (hI : AtK P lt A C k w h p) (hk : ¬ lt k = true) (hkN : k < P.1) (n : Nat) : cbC P C k w n = A k w h ↔ blA P A k w n = A k w h := by
  obtain ⟨k1, w1, h2, p3, v1, v2, rl⟩ := hI
  have : ap (cbC P C k w n) (blA P A k w n) := by
    unfold cbC blA
    by_cases c1 : w + n ≤ P.2.1
    · rw [if_pos c1, if_neg (by omega)]
      exact ap.add _ (dp' hP hA hC (show k + 1 ≤ P.1 by omega) c1).1
    · rw [if_neg c1, if_pos (by omega)]
      exact ap_y
  unfold ap at this
  omega
theorem by_blank {P : PP} {lt : Nat → Bool} {pw pu : Nat → Nat → Nat} {A C : Nat → Nat → Nat → Nat} (hP : okP P lt pw pu) (hA : isA P lt pw pu A) (hC : isC P lt pw pu C) {k w h p n : Nat} (hI : AtK P lt A C k w h p) (hk : ¬ lt k = true) (hkN : k < P.1) (hn : blA P A k w n = A k w h) : w + n ≤ P.2.1 ∧ AtK P lt A C (k + 1) (w + n) 0 0 := by
  have hc := (at_blank hP hA hC hI hk hkN n).mpr hn
  obtain ⟨k1, w1, h2, p3, v1, v2, rl⟩ := hI
  have c1 : w + n ≤ P.2.1 := by
    by_cases c : w + n ≤ P.2.1
    · exact c
    · unfold cbC at hc; rw [if_neg c] at hc; omega
  unfold cbC at hc
  unfold blA at hn
  rw [if_pos c1] at hc
  rw [if_neg (by omega)] at hn
  exact ⟨c1, hkN, c1, by decide, by decide, by omega, by omega, fun _ => .inl ⟨rfl, rfl⟩⟩
theorem end_blank {P : PP} {lt : Nat → Bool} {pw pu : Nat → Nat → Nat} {A C : Nat → Nat → Nat → Nat} (hP : okP P lt pw pu) (hA : isA P lt pw pu A) (hC : isC P lt pw pu C) {k w h p : Nat} (hI : AtK P lt A C k w h p) (hk : ¬ lt k = true) (hkN : k < P.1) (hn : ∀ m, P.2.2.1 ≤ m → m ≤ P.2.2.2.1 → blA P A k w m ≠ A k w h) : AtK P lt A C (k + 1) 0 0 0 := by
  obtain ⟨k1, w1, h2, p3, v1, v2, rl⟩ := hI
  have e := hA.2 k hkN w w1 h h2
  unfold lsA at e
  rw [if_neg hk] at e
  have hm : mf (fun i => blA P A k w (P.2.2.1 + i)) (P.2.2.2.1 + 1 - P.2.2.1) ≠ A k w h := fun q => by
    obtain ⟨i, h1, h2⟩ := mf_ex v1 _ q
    exact hn (P.2.2.1 + i) (by omega) (by omega) h2
  have he : enA P A k w = A k w h := by omega
  have c : w = P.2.1 := by
    by_cases c : w = P.2.1
    · exact c
    · unfold enA at he; rw [if_neg c] at he; omega
  unfold enA at he
  rw [if_pos c] at he
  have i1 := (dp' hP hA hC (show k + 1 ≤ P.1 by omega) (Nat.zero_le P.2.1)).1
  unfold ap at i1
  exact ⟨hkN, Nat.zero_le _, by decide, by decide, by omega, by omega, fun _ => .inl ⟨rfl, rfl⟩⟩
