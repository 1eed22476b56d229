/-! the fewest hands: leads, likeness -/
def Ld (F : Nat → Nat) (a x : Nat) : Prop := F a = x ∧ 0 < x ∧ ∀ b, b < a → F b = 0
def LdZ (F : Nat → Nat) (a x : Nat) : Prop := (Ld F a x ∧ a ≤ 10) ∨ (a = 11 ∧ ∀ b, b ≤ 10 → F b = 0)
theorem LdZ.congr {F G : Nat → Nat} {a x : Nat} (h : LdZ F a x) (e : ∀ m, m ≤ 10 → F m = G m) : LdZ G a x := by
  rcases h with ⟨⟨h1, h2, h3⟩, h4⟩ | ⟨h1, h2⟩
  · exact .inl ⟨⟨by rw [← e a h4]; exact h1, h2, fun b hb => by rw [← e b (by omega)]; exact h3 b hb⟩, h4⟩
  · exact .inr ⟨h1, fun b hb => by rw [← e b hb]; exact h2 b hb⟩
theorem LdZ.u {F : Nat → Nat} {a x b y : Nat} (h : LdZ F a x) (h' : Ld F b y) (hb : b ≤ 10) : a = b ∧ x = y := by
  obtain ⟨g1, g2, g3⟩ := h'
  rcases h with ⟨⟨h1, h2, h3⟩, h4⟩ | ⟨h1, h2⟩
  · have : a = b := by
      rcases Nat.lt_trichotomy a b with c | c | c
      · have := g3 a c; omega
      · exact c
      · have := h3 b c; omega
    subst this
    exact ⟨rfl, by omega⟩
  · have := h2 b hb; omega
theorem LdZ.add {F G : Nat → Nat} {a x b y : Nat} (h : LdZ F a x) (h' : Ld G b y) (hb : b ≤ 10) : (b < a → LdZ (fun m => F m + G m) b y) ∧ (b = a → LdZ (fun m => F m + G m) a (x + y)) ∧ (a < b → LdZ (fun m => F m + G m) a x) := by
  obtain ⟨g1, g2, g3⟩ := h'
  rcases h with ⟨⟨h1, h2, h3⟩, h4⟩ | ⟨h1, h2⟩
  · refine ⟨fun c => .inl ⟨⟨?_, g2, fun t ht => ?_⟩, hb⟩, fun c => .inl ⟨⟨?_, by omega, fun t ht => ?_⟩, h4⟩, fun c => .inl ⟨⟨?_, h2, fun t ht => ?_⟩, h4⟩⟩
    · show F b + G b = y; have := h3 b c; omega
    · show F t + G t = 0; have := h3 t (by omega); have := g3 t ht; omega
    · show F a + G a = x + y; rw [h1, ← c, g1]
    · show F t + G t = 0; have := h3 t ht; have := g3 t (by omega); omega
    · show F a + G a = x; have := g3 a c; omega
    · show F t + G t = 0; have := h3 t ht; have := g3 t (by omega); omega
  · refine ⟨fun c => .inl ⟨⟨?_, g2, fun t ht => ?_⟩, hb⟩, fun c => by omega, fun c => by omega⟩
    · show F b + G b = y; have := h2 b hb; omega
    · show F t + G t = 0; have := h2 t (by omega); have := g3 t ht; omega
def ad (x y : Nat) : Nat := (x - y) + (y - x)
theorem adC {x y : Nat} {inst : Decidable (nI 0 ≤ nI x - nI y)} (hx : x < 10) (hy : y < 10) : @ite _ (nI 0 ≤ nI x - nI y) inst (nI x - nI y) (nI 0 - (nI x - nI y)) = nI (ad x y) := by
  have h : ∀ x, x < 10 → ∀ y, y < 10 → (if nI 0 ≤ nI x - nI y then nI x - nI y else nI 0 - (nI x - nI y)) = nI (ad x y) := by decide +kernel
  rw [← h x hx y hy]
  congr
theorem adR {x y : Nat} {inst : Decidable (nI 0 ≤ nI x - nI y)} (hx : x < 10) (hy : y < 10) : @ite _ (nI 0 ≤ nI x - nI y) inst (nI x - nI y) (-(nI x - nI y)) = nI (ad x y) := by
  have h : ∀ x, x < 10 → ∀ y, y < 10 → (if nI 0 ≤ nI x - nI y then nI x - nI y else -(nI x - nI y)) = nI (ad x y) := by decide +kernel
  rw [← h x hx y hy]
  congr
def Dst (a b : Nat) : Nat := ad (a % 10) (b % 10) + ad (a / 10 % 10) (b / 10 % 10) + ad (a / 100 % 10) (b / 100 % 10) + ad (a / 1000 % 10) (b / 1000 % 10)
theorem Dst_le (a b : Nat) : Dst a b ≤ 36 := by unfold Dst ad; omega
theorem Dst_0 (a : Nat) : Dst a a = 0 := by unfold Dst ad; omega
theorem Dst_s (a b : Nat) : Dst a b = Dst b a := by unfold Dst ad; omega
theorem dg10 (u : Nat) : nI u - nI (u / 10 * 10) = nI (u % 10) := by
  rw [pk_sub (by omega)]
  congr 1
  omega
theorem l_dstC {a b : Nat} (ha : a < 10000) (hb : b < 10000) : f_X1_distance (nI a) (nI b) = some (nI (Dst a b)) := by
  have hF : FU = 9995 + 1 + 1 + 1 + 1 + 1 := rfl
  unfold f_X1_distance
  rw [hF]
  simp (disch := omega) only [f_X1_distance_L10, ↓nmk_e, ↓reduceIte, lit, nI_add, pk_mul, nI_leI, nI_eq, pk_div, nleT, nleF, nltT, nltF, neqT, neqF, or_false, false_or, or_self, or_true, true_or, and_self, and_true, true_and, and_false, false_and, not_true_eq_false, not_false_eq_true, dg10, adC]
  unfold Dst
  congr 2
  simp only [Nat.div_div_eq_div_mul, Nat.reduceMul, Nat.zero_add]
theorem l_dstR {a b : Nat} (ha : a < 10000) (hb : b < 10000) : f_X12_apart (nI a) (nI b) = some (nI (Dst a b)) := by
  have hF : FU = 9995 + 1 + 1 + 1 + 1 + 1 := rfl
  unfold f_X12_apart
  rw [hF]
  simp (disch := omega) only [f_X12_apart_L10, ↓nmk_e, ↓reduceIte, lit, nI_add, pk_mul, nI_leI, nI_eq, pk_div, nleT, nleF, nltT, nltF, neqT, neqF, or_false, false_or, or_self, or_true, true_or, and_self, and_true, true_and, and_false, false_and, not_true_eq_false, not_false_eq_true, dg10, adR]
  unfold Dst
  congr 2
  simp only [Nat.div_div_eq_div_mul, Nat.reduceMul, Nat.zero_add]
