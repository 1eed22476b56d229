/-! the setting: two tables of the least ugliness -/
abbrev EE : Nat := 1000000
def mf (f : Nat → Nat) : Nat → Nat
  | 0 => EE
  | n + 1 => min (mf f n) (f n)
/-- N, column, least, most, break, wide, width of a break -/
abbrev PP : Type := Nat × Nat × Nat × Nat × Nat × Nat × Nat
section DP
variable (P : PP) (lt : Nat → Bool) (pw pu : Nat → Nat → Nat) (T : Nat → Nat → Nat → Nat)
def goA (k n w : Nat) : Nat := if pw k n = 0 then EE else pu k n + (if P.2.1 < w + pw k n then EE else T (k + n) (w + pw k n) (if lt (k + n) = true then 1 else 0))
def brA (k n w h : Nat) : Nat := if 0 < pw k n ∧ h = 1 ∧ lt (k + n) = true ∧ w + pw k n + P.2.2.2.2.2.2 = P.2.1 then pu k n + P.2.2.2.2.1 + T (k + n) 0 0 else EE
def blA (k w x : Nat) : Nat := P.2.2.2.2.2.1 * (x - P.2.2.1) + (if P.2.1 < w + x then EE else T (k + 1) (w + x) 0)
def enA (k w : Nat) : Nat := if w = P.2.1 then T (k + 1) 0 0 else EE
def lsA (k w h : Nat) : Nat := if lt k = true then min (min (min (min (min (min EE (goA P lt pw pu T k 3 w)) (brA P lt pw pu T k 3 w h)) (goA P lt pw pu T k 2 w)) (brA P lt pw pu T k 2 w h)) (goA P lt pw pu T k 1 w)) (brA P lt pw pu T k 1 w h) else min (mf (fun i => blA P T k w (P.2.2.1 + i)) (P.2.2.2.1 + 1 - P.2.2.1)) (enA P T k w)
def isA : Prop := (∀ w h, w ≤ P.2.1 → h < 2 → T P.1 w h = 0) ∧ ∀ k, k < P.1 → ∀ w, w ≤ P.2.1 → ∀ h, h < 2 → T k w h = lsA P lt pw pu T k w h
def cuC (k n w p : Nat) : Nat := if pw k n = 0 then 2 * EE else if w + pw k n ≤ P.2.1 then pu k n + T (k + n) (w + pw k n) (min (p + 1) 2) else EE
def cbC (k w x : Nat) : Nat := if w + x ≤ P.2.1 then P.2.2.2.2.2.1 * (x - P.2.2.1) + T (k + 1) (w + x) 0 else EE
def ceC (k w p : Nat) : Nat := if lt k = true then (if p = 2 ∧ w + P.2.2.2.2.2.2 = P.2.1 then P.2.2.2.2.1 + T k 0 0 else EE) else if w = P.2.1 then T (k + 1) 0 0 else EE
def lsC (k w p : Nat) : Nat := if lt k = true then min (min (min (ceC P lt T k w p) (cuC P pw pu T k 3 w p)) (cuC P pw pu T k 2 w p)) (cuC P pw pu T k 1 w p) else min (ceC P lt T k w p) (mf (fun i => cbC P T k w (P.2.2.1 + i)) (P.2.2.2.1 + 1 - P.2.2.1))
def isC : Prop := (∀ w p, w ≤ P.2.1 → p < 3 → T P.1 w p = 0) ∧ ∀ k, k < P.1 → ∀ w, w ≤ P.2.1 → ∀ p, p < 3 → T k w p = lsC P lt pw pu T k w p
end DP
/-- the same number, or both are none -/
def ap (x y : Nat) : Prop := x = y ∨ (EE ≤ x ∧ EE ≤ y)
theorem ap.min {a b c d : Nat} (h : ap a b) (h' : ap c d) : ap (min a c) (min b d) := by unfold ap at *; omega
theorem ap.add {a b : Nat} (c : Nat) (h : ap a b) : ap (c + a) (c + b) := by unfold ap at *; omega
theorem ap.rfl' (a : Nat) : ap a a := .inl rfl
theorem ap.e {a b : Nat} (h : ap a b) : ap a (Min.min b EE) := by unfold ap at *; omega
theorem ap.e' {a b : Nat} (h : ap a b) : ap a (Min.min EE b) := by unfold ap at *; omega
theorem ap_g {u b c a x : Nat} (h : ap c (min a (b + x))) : ap (u + c) (min (u + a) (u + b + x)) := by unfold ap at *; omega
theorem ap_h {u c a : Nat} (h : ap c (min a EE)) : ap (u + c) (min (u + a) EE) := by unfold ap at *; omega
theorem ap_k {u c a : Nat} (h : ap c a) : ap (u + c) (min (u + a) EE) := by unfold ap at *; omega
theorem ap_z {u : Nat} : ap EE (min (u + EE) EE) := by unfold ap; omega
theorem ap_y {u : Nat} : ap EE (u + EE) := by unfold ap; omega
theorem ap_2 : ap (2 * EE) EE := by unfold ap; omega
theorem ap_22 : ap (2 * EE) (min EE EE) := by unfold ap; omega
theorem ap_mf {f g : Nat → Nat} : ∀ n, (∀ i, i < n → ap (f i) (g i)) → ap (mf f n) (mf g n) := by
  intro n
  induction n with
  | zero => intro _; exact ap.rfl' _
  | succ n ih => intro h; exact (ih (fun i hi => h i (by omega))).min (h n (by omega))
/-- what the pieces are -/
def okP (P : PP) (lt : Nat → Bool) (pw pu : Nat → Nat → Nat) : Prop := (∀ k, lt k = true → k < P.1) ∧ (∀ k n, 1 ≤ n → n ≤ 3 → 0 < pw k n → k + n ≤ P.1) ∧ (∀ k n, pu k n ≤ 9) ∧ P.2.2.2.2.1 ≤ 9
theorem dp {P : PP} {lt : Nat → Bool} {pw pu : Nat → Nat → Nat} {A C : Nat → Nat → Nat → Nat} (hP : okP P lt pw pu) (hA : isA P lt pw pu A) (hC : isC P lt pw pu C) : ∀ j k, k ≤ P.1 → P.1 ≤ k + j → ∀ w, w ≤ P.2.1 → ap (C k w 0) (A k w 0) ∧ (lt k = true → ap (C k w 1) (A k w 1) ∧ ap (C k w 2) (min (A k w 1) (if w + P.2.2.2.2.2.2 = P.2.1 then P.2.2.2.2.1 + A k 0 0 else EE))) ∧ (¬ lt k = true → ∀ p h, p < 3 → h < 2 → ap (C k w p) (A k w h)) := by
  obtain ⟨p1, p2, p3, p4⟩ := hP
  intro j
  induction j with
  | zero =>
    intro k hk hj w hw
    have : k = P.1 := by omega
    subst this
    have nl : ¬ lt P.1 = true := fun z => by have := p1 _ z; omega
    refine ⟨?_, fun z => absurd z nl, fun _ p h hp hh => ?_⟩
    · rw [hA.1 w 0 hw (by decide), hC.1 w 0 hw (by decide)]; exact ap.rfl' _
    · rw [hA.1 w h hw hh, hC.1 w p hw hp]; exact ap.rfl' _
  | succ j ih =>
    intro k hk hj w hw
    by_cases ck : P.1 ≤ k + j
    · exact ih k hk ck w hw
    have hkN : k < P.1 := by omega
    by_cases cl : lt k = true
    · -- a letter
      have go1 : ∀ n w, 1 ≤ n → n ≤ 3 → w ≤ P.2.1 → ap (cuC P pw pu C k n w 0) (goA P lt pw pu A k n w) := fun n w n1 n3 hw => by
        unfold cuC goA
        by_cases c0 : pw k n = 0
        · rw [if_pos c0, if_pos c0]; exact ap_2
        rw [if_neg c0, if_neg c0]
        have hle := p2 k n n1 n3 (by omega)
        by_cases c1 : w + pw k n ≤ P.2.1
        · rw [if_pos c1, if_neg (by omega)]
          obtain ⟨i1, i2, i3⟩ := ih (k + n) hle (by omega) (w + pw k n) c1
          refine ap.add _ ?_
          by_cases c2 : lt (k + n) = true
          · rw [if_pos c2]; exact (i2 c2).1
          · rw [if_neg c2]; exact i3 c2 _ _ (by decide) (by decide)
        · rw [if_neg c1, if_pos (by omega)]
          exact ap_y
      have go2 : ∀ n w p, 1 ≤ n → n ≤ 3 → w ≤ P.2.1 → 1 ≤ p → p < 3 → ap (cuC P pw pu C k n w p) (min (goA P lt pw pu A k n w) (brA P lt pw pu A k n w 1)) := fun n w p n1 n3 hw hp1 hp3 => by
        unfold cuC goA brA
        by_cases c0 : pw k n = 0
        · rw [if_pos c0, if_pos c0, if_neg (fun z => by omega)]; exact ap_22
        rw [if_neg c0, if_neg c0]
        have hle := p2 k n n1 n3 (by omega)
        have hm : min (p + 1) 2 = 2 := by omega
        by_cases c1 : w + pw k n ≤ P.2.1
        · rw [if_pos c1, if_neg (show ¬ P.2.1 < w + pw k n by omega), hm]
          obtain ⟨i1, i2, i3⟩ := ih (k + n) hle (by omega) (w + pw k n) c1
          by_cases c2 : lt (k + n) = true
          · obtain ⟨-, i4⟩ := i2 c2
            rw [if_pos c2]
            by_cases c3 : w + pw k n + P.2.2.2.2.2.2 = P.2.1
            · rw [if_pos c3] at i4
              rw [if_pos ⟨by omega, rfl, c2, c3⟩]
              exact ap_g i4
            · rw [if_neg c3] at i4
              rw [if_neg (fun z => c3 z.2.2.2)]
              exact ap_h i4
          · rw [if_neg c2, if_neg (fun z => c2 z.2.2.1)]
            exact ap_k (i3 c2 2 0 (by decide) (by decide))
        · have nb : ¬ (0 < pw k n ∧ (1 : Nat) = 1 ∧ lt (k + n) = true ∧ w + pw k n + P.2.2.2.2.2.2 = P.2.1) := fun z => by omega
          rw [if_neg c1, if_pos (show P.2.1 < w + pw k n by omega), if_neg nb]
          exact ap_z
      have eA : ∀ w h, w ≤ P.2.1 → h < 2 → A k w h = min (min (min (min (min (min EE (goA P lt pw pu A k 3 w)) (brA P lt pw pu A k 3 w h)) (goA P lt pw pu A k 2 w)) (brA P lt pw pu A k 2 w h)) (goA P lt pw pu A k 1 w)) (brA P lt pw pu A k 1 w h) := fun w h hw hh => by
        rw [hA.2 k hkN w hw h hh]; exact if_pos cl
      have eC : ∀ w p, w ≤ P.2.1 → p < 3 → C k w p = min (min (min (if p = 2 ∧ w + P.2.2.2.2.2.2 = P.2.1 then P.2.2.2.2.1 + C k 0 0 else EE) (cuC P pw pu C k 3 w p)) (cuC P pw pu C k 2 w p)) (cuC P pw pu C k 1 w p) := fun w p hw hp => by
        rw [hC.2 k hkN w hw p hp]
        unfold lsC
        rw [if_pos cl]
        unfold ceC
        rw [if_pos cl]
      have b0 : ∀ n w, brA P lt pw pu A k n w 0 = EE := fun n w => if_neg (fun z => by omega)
      have a0 : ∀ w, w ≤ P.2.1 → ap (C k w 0) (A k w 0) := fun w hw => by
        have h1 := go1 1 w (by decide) (by decide) hw
        have h2 := go1 2 w (by decide) (by decide) hw
        have h3 := go1 3 w (by decide) (by decide) hw
        rw [eA w 0 hw (by decide), eC w 0 hw (by decide), b0, b0, b0, if_neg (fun z => absurd z.1 (by decide))]
        exact ((((((ap.rfl' EE).min h3).e).min h2).e).min h1).e
      have a1 : ap (C k w 1) (A k w 1) := by
        have h1 := go2 1 w 1 (by decide) (by decide) hw (by decide) (by decide)
        have h2 := go2 2 w 1 (by decide) (by decide) hw (by decide) (by decide)
        have h3 := go2 3 w 1 (by decide) (by decide) hw (by decide) (by decide)
        rw [eA w 1 hw (by decide), eC w 1 hw (by decide), if_neg (fun z => absurd z.1 (by decide))]
        have := (((ap.rfl' EE).min h3).min h2).min h1
        simp only [Nat.min_assoc] at this ⊢
        exact this
      refine ⟨a0 w hw, fun _ => ⟨a1, ?_⟩, fun z => absurd cl z⟩
      have h1 := go2 1 w 2 (by decide) (by decide) hw (by decide) (by decide)
      have h2 := go2 2 w 2 (by decide) (by decide) hw (by decide) (by decide)
      have h3 := go2 3 w 2 (by decide) (by decide) hw (by decide) (by decide)
      have h0 := a0 0 (Nat.zero_le _)
      have hX : ap (if 2 = 2 ∧ w + P.2.2.2.2.2.2 = P.2.1 then P.2.2.2.2.1 + C k 0 0 else EE) (if w + P.2.2.2.2.2.2 = P.2.1 then P.2.2.2.2.1 + A k 0 0 else EE) := by
        by_cases c3 : w + P.2.2.2.2.2.2 = P.2.1
        · rw [if_pos ⟨rfl, c3⟩, if_pos c3]; exact h0.add _
        · rw [if_neg (fun z => c3 z.2), if_neg c3]; exact ap.rfl' _
      rw [eA w 1 hw (by decide), eC w 2 hw (by decide)]
      generalize (if w + P.2.2.2.2.2.2 = P.2.1 then P.2.2.2.2.1 + A k 0 0 else EE) = Y at *
      have := (((hX.min h3).min h2).min h1).e'
      generalize goA P lt pw pu A k 1 w = g1 at *
      generalize goA P lt pw pu A k 2 w = g2 at *
      generalize goA P lt pw pu A k 3 w = g3 at *
      generalize brA P lt pw pu A k 1 w 1 = r1 at *
      generalize brA P lt pw pu A k 2 w 1 = r2 at *
      generalize brA P lt pw pu A k 3 w 1 = r3 at *
      have e : min EE (min (min (min Y (min g3 r3)) (min g2 r2)) (min g1 r1)) = min (min (min (min (min (min (min EE g3) r3) g2) r2) g1) r1) Y := by
        rw [Nat.min_comm _ Y]
        simp only [Nat.min_assoc, Nat.min_left_comm Y EE]
      rw [← e]; exact this
    · -- a blank
      have key : ∀ p h, p < 3 → h < 2 → ap (C k w p) (A k w h) := fun p h hp hh => by
        rw [hA.2 k hkN w hw h hh, hC.2 k hkN w hw p hp]
        unfold lsA lsC
        rw [if_neg cl, if_neg cl]
        have hm : ap (mf (fun i => cbC P C k w (P.2.2.1 + i)) (P.2.2.2.1 + 1 - P.2.2.1)) (mf (fun i => blA P A k w (P.2.2.1 + i)) (P.2.2.2.1 + 1 - P.2.2.1)) := ap_mf _ fun i _ => by
          show ap (cbC P C k w (P.2.2.1 + i)) (blA P A k w (P.2.2.1 + i))
          unfold cbC blA
          by_cases c1 : w + (P.2.2.1 + i) ≤ P.2.1
          · rw [if_pos c1, if_neg (by omega)]
            exact ap.add _ (ih (k + 1) (by omega) (by omega) _ c1).1
          · rw [if_neg c1, if_pos (by omega)]
            exact ap_y
        have he : ap (ceC P lt C k w p) (enA P A k w) := by
          unfold ceC enA
          rw [if_neg cl]
          by_cases c1 : w = P.2.1
          · rw [if_pos c1, if_pos c1]
            exact (ih (k + 1) (by omega) (by omega) 0 (Nat.zero_le _)).1
          · rw [if_neg c1, if_neg c1]; exact ap.rfl' _
        rw [Nat.min_comm]
        exact hm.min he
      exact ⟨key 0 0 (by decide) (by decide), fun z => absurd z cl, fun _ => key⟩
