/-! LEVEL 2: the relation between the class's world and the reference's world -/
abbrev rg (x lo hi : Int32) : Prop := lo ≤ x ∧ x ≤ hi
abbrev tN (x : Int32) : Nat := x.toNatClampNeg
theorem i_rg {x : Int32} {n : Nat} (hn : n < 2 ^ 31) (h0 : (0 : Int32) ≤ x) (h1 : x ≤ nI n) : x = nI (tN x) ∧ tN x ≤ n := by
  have e1 := Int32.le_iff_toInt_le.mp h0
  have e2 := Int32.le_iff_toInt_le.mp h1
  have e3 := nI_toInt hn
  have e4 : (0 : Int) ≤ x.toInt := by simpa using e1
  have e5 : tN x = x.toInt.toNat := rfl
  have hlt : tN x < 2 ^ 31 := by rw [e5]; omega
  refine ⟨?_, by rw [e5]; omega⟩
  apply Int32.toInt_inj.mp
  rw [nI_toInt hlt, e5]
  omega
/-- (row, place in s, how many): the same ints, always -/
def fixT : List (Nat × Nat × Nat) := [(0, 0, 1), (12, 20, 27), (13, 50, 27), (14, 80, 27), (18, 2870, 4), (36, 3240, 8)]
/-- (row, place in s, the size's place, stride): the same ints, below the size -/
def lisT : List (Nat × Nat × Nat × Nat) := [(1, 110, 9, 1), (2, 230, 1, 1), (5, 1330, 1, 1), (10, 1660, 2, 1), (15, 2310, 3, 1), (16, 2290, 3, 1), (17, 2330, 3, 27), (20, 2880, 4, 1), (21, 2892, 4, 1), (22, 2904, 4, 1), (23, 2920, 5, 1), (24, 2960, 5, 1), (25, 3000, 5, 1), (26, 3040, 5, 1), (27, 3080, 6, 1), (28, 3090, 7, 1), (30, 3160, 8, 1), (31, 3166, 8, 1), (32, 3172, 8, 1), (33, 3180, 11, 1), (34, 3200, 11, 1), (35, 3220, 11, 1)]
/-- (row, the size's place) -/
def ownT : List (Nat × Nat) := [(1, 9), (2, 1), (3, 1), (10, 2), (15, 3), (20, 4), (21, 4), (22, 4), (23, 5), (24, 5), (25, 5), (26, 5), (27, 6), (28, 7), (29, 10), (30, 8), (31, 8), (32, 8), (33, 11), (34, 11), (35, 11)]
/-- (the size's place, the most) -/
def sizT : List (Nat × Nat) := [(9, 120), (1, 8), (2, 10), (3, 20), (4, 12), (5, 40), (6, 7), (7, 10), (10, 30), (8, 6), (11, 20)]
/-- (place, how many, least, most): ranges in s -/
def rngT : List (Nat × Nat × Nat × Nat) := [(0, 1, 0, 999), (20, 27, 1, 9), (50, 27, 0, 9999), (80, 27, 0, 9999), (110, 120, 0, 255), (2870, 4, 0, 99), (3090, 10, 0, 9999), (3240, 8, 0, 9999)]
def cFix (C : Nat → Nat → Int32) (s : Nat → Int32) : Prop := ∀ q ∈ fixT, ∀ i, i < q.2.2 → C q.1 i = s (q.2.1 + i)
def cLis (C : Nat → Nat → Int32) (s : Nat → Int32) : Prop := ∀ q ∈ lisT, ∀ i, i < q.2.2.2 * tN (s q.2.2.1) → C q.1 i = s (q.2.1 + i)
def cOwn (N : Nat → Int32) (s : Nat → Int32) : Prop := ∀ q ∈ ownT, N q.1 = s q.2
def cSiz (s : Nat → Int32) : Prop := ∀ q ∈ sizT, rg (s q.1) 0 (nI q.2)
def cRng (s : Nat → Int32) : Prop := ∀ q ∈ rngT, ∀ i, i < q.2.1 → rg (s (q.1 + i)) (nI q.2.2.1) (nI q.2.2.2)
/-- the presses' first free days -/
def cFree (C : Nat → Nat → Int32) (s : Nat → Int32) : Prop := ∀ k, k < 4 → (C 19 k = s (2874 + k) ∧ rg (s (2874 + k)) 0 1000) ∨ (C 19 k = 9999 ∧ s (2874 + k) = 1001)
/-- the verses' letters -/
def cVer (C : Nat → Nat → Int32) (s : Nat → Int32) : Prop := ∀ x, x < tN (s 2) → rg (s (1660 + x)) 1 60 ∧ ∀ i, i < tN (s (1660 + x)) → (C 11 (60 * x + i) = -1 ∧ s (1670 + 60 * x + i) = 32) ∨ (C 11 (60 * x + i) = s (1670 + 60 * x + i) - 97 ∧ rg (s (1670 + 60 * x + i)) 97 122)
/-- the rules of the evidence -/
def cRul (C : Nat → Nat → Int32) (s : Nat → Int32) : Prop := ∀ i, i < tN (s 10) → C 29 i = 10 * s (3100 + i) + s (3130 + i) ∧ rg (s (3100 + i)) 0 9 ∧ rg (s (3130 + i)) 0 9
/-- the ways: kept for the next text; the days' order, the feasts, the clauses -/
def cWay (C : Nat → Nat → Int32) (s : Nat → Int32) : Prop := ∀ a, a < tN (s 1) → rg (s (1330 + a)) 1 8 ∧ ∀ k, k < tN (s (1330 + a)) →
  rg (C 6 (8 * a + k)) 0 7 ∧ s (1340 + (8 * a + k)) = (C 6 (8 * a + k) + 2) % 8 ∧ ((C 6 (8 * a + k) = 6 ∨ C 6 (8 * a + k) = 7) → C 7 (8 * a + k) = s (1420 + (8 * a + k))) ∧ (C 6 (8 * a + k) ≠ 7 → C 8 (8 * a + k) = s (1500 + (8 * a + k))) ∧ (C 6 (8 * a + k) = 6 → C 9 (8 * a + k) = s (1580 + (8 * a + k)))
def RSt (C : Nat → Nat → Int32) (N s : Nat → Int32) : Prop := cFix C s ∧ cLis C s ∧ cOwn N s ∧ cSiz s ∧ cRng s ∧ cFree C s ∧ cVer C s ∧ cRul C s ∧ cWay C s
def Sim (w v : CW) : Prop := RSt w.1 w.2.1 (v.1 0) ∧ ((w.2.2 10 = 0 ∧ v.2.2 3 = 0) ∨ (w.2.2 10 = 1 ∧ v.2.2 3 = 1 ∧ RSt (fun k => w.1 (58 + k)) (fun k => w.2.1 (58 + k)) (v.1 1)))
theorem Sim_fix {w v : CW} (h : Sim w v) (q : Nat × Nat × Nat) (hq : q ∈ fixT) (i : Nat) (hi : i < q.2.2) : w.1 q.1 i = v.1 0 (q.2.1 + i) := h.1.1 q hq i hi
theorem Sim_siz {w v : CW} (h : Sim w v) (q : Nat × Nat) (hq : q ∈ sizT) : rg (v.1 0 q.1) 0 (nI q.2) := h.1.2.2.2.1 q hq
theorem Sim_own {w v : CW} (h : Sim w v) (q : Nat × Nat) (hq : q ∈ ownT) : w.2.1 q.1 = v.1 0 q.2 := h.1.2.2.1 q hq
theorem Sim_rng {w v : CW} (h : Sim w v) (q : Nat × Nat × Nat × Nat) (hq : q ∈ rngT) (i : Nat) (hi : i < q.2.1) : rg (v.1 0 (q.1 + i)) (nI q.2.2.1) (nI q.2.2.2) := h.1.2.2.2.2.1 q hq i hi
theorem sim_0 : Sim w0 v0 := by
  have z : ∀ k, k < 20 → sIni 27 k = 0 := by decide +kernel
  have z2 : ∀ k, 47 ≤ k → sIni 27 k = 0 := fun k hk => if_neg (by omega)
  have hv : ∀ i, v0.1 0 i = sIni 27 i := fun i => rfl
  refine ⟨⟨?_, ?_, ?_, ?_, ?_, ?_, ?_, ?_, ?_⟩, .inl ⟨rfl, rfl⟩⟩
  · have a : ∀ q ∈ fixT, ∀ i, i < q.2.2 → w0.1 q.1 i = v0.1 0 (q.2.1 + i) := by decide +kernel
    exact a
  · intro q hq i hi
    have a : ∀ q ∈ lisT, v0.1 0 q.2.2.1 = 0 := by decide +kernel
    have e : q.2.2.2 * tN (v0.1 0 q.2.2.1) = 0 := by rw [a q hq]; exact Nat.mul_zero _
    exact absurd (show i < q.2.2.2 * tN (v0.1 0 q.2.2.1) from hi) (by rw [e]; omega)
  · have a : ∀ q ∈ ownT, w0.2.1 q.1 = v0.1 0 q.2 := by decide +kernel
    exact a
  · have a : ∀ q ∈ sizT, 0 ≤ v0.1 0 q.1 ∧ v0.1 0 q.1 ≤ nI q.2 := by decide +kernel
    exact a
  · have a : ∀ q ∈ rngT, ∀ i, i < q.2.1 → nI q.2.2.1 ≤ v0.1 0 (q.1 + i) ∧ v0.1 0 (q.1 + i) ≤ nI q.2.2.2 := by decide +kernel
    exact a
  · have a : ∀ k, k < 4 → (w0.1 19 k = v0.1 0 (2874 + k) ∧ (0 ≤ v0.1 0 (2874 + k) ∧ v0.1 0 (2874 + k) ≤ 1000)) := by decide +kernel
    exact fun k hk => .inl (a k hk)
  · intro x hx
    exact absurd (show x < tN (v0.1 0 2) from hx) (by rw [hv, z 2 (by decide)]; exact Nat.not_lt_zero x)
  · intro x hx
    exact absurd (show x < tN (v0.1 0 10) from hx) (by rw [hv, z 10 (by decide)]; exact Nat.not_lt_zero x)
  · intro x hx
    exact absurd (show x < tN (v0.1 0 1) from hx) (by rw [hv, z 1 (by decide)]; exact Nat.not_lt_zero x)
