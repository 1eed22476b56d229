/-! LEVEL 2: the relation between the class's world and the reference's world, by groups of cells -/
abbrev Bd (x : Int32) (n : Nat) : Prop := ∃ m : Nat, m ≤ n ∧ x = nI m
abbrev Br (x : Int32) (l n : Nat) : Prop := ∃ m : Nat, l ≤ m ∧ m ≤ n ∧ x = nI m
/-- the group of a row of the class's shelf -/
def gR (k : Nat) : Nat := if k < 1 then 0 else if k < 2 then 1 else if k < 10 then 2 else if k < 12 then 3 else if k < 15 then 4 else if k < 18 then 5 else if k < 20 then 6 else if k < 23 then 7 else if k < 27 then 8 else if k < 28 then 9 else if k < 29 then 10 else if k < 30 then 11 else if k < 33 then 12 else if k < 36 then 13 else if k < 37 then 14 else 15
/-- the group of a place in the reference's row -/
def gP (j : Nat) : Nat := if j < 20 then (if j = 0 then 0 else if j = 9 then 1 else if j = 1 then 2 else if j = 2 then 3 else if j = 3 then 5 else if j = 4 then 7 else if j = 5 then 8 else if j = 6 then 9 else if j = 7 then 10 else if j = 10 then 11 else if j = 8 then 12 else if j = 11 then 13 else 15) else if j < 110 then 4 else if j < 230 then 1 else if j < 1660 then 2 else if j < 2270 then 3 else if j < 2870 then 5 else if j < 2880 then 6 else if j < 2920 then 7 else if j < 3080 then 8 else if j < 3090 then 9 else if j < 3100 then 10 else if j < 3160 then 11 else if j < 3180 then 12 else if j < 3240 then 13 else if j < 3250 then 14 else 15
/-- the ways in their order, the last one first -/
def insR (d : Nat → Nat) (a : Nat) : List Nat → List Nat
  | [] => [a]
  | x :: r => if d a < d x then x :: insR d a r else a :: x :: r
def ordR (d : Nat → Nat) : Nat → List Nat
  | 0 => []
  | a + 1 => insR d a (ordR d a)
/-- what stands in an array in this order -/
def Rep (f : Nat → Int32) (l : List Nat) : Prop := ∀ i, i < l.length → f i = nI (l.getD (l.length - 1 - i) 0)
/-- the letters of a form as a number -/
abbrev Ltr (x : Int32) : Prop := ∃ a b c : Nat, a < 26 ∧ b < 26 ∧ (c < 26 ∨ c = 99) ∧ x = nI (10000 * a + 100 * b + c)
def cClause (C : Nat → Nat → Int32) (s : Nat → Int32) (p : Nat) : Prop := ∃ x, x < 8 ∧ C 6 p = nI x ∧ s (1340 + p) = nI ((x + 2) % 8) ∧
  (6 ≤ x → C 7 p = s (1420 + p) ∧ Ltr (s (1420 + p))) ∧ (x ≠ 7 → C 8 p = s (1500 + p) ∧ Bd (s (1500 + p)) 99) ∧ (x = 6 → Br (s (1500 + p)) 1 9 ∧ C 9 p = s (1580 + p) ∧ Bd (s (1580 + p)) 9) ∧ (x = 3 ∨ x = 4 → Bd (s (1500 + p)) 9)
/-- the feasts of a way: a bit for each clause 'feast' under 30 -/
def cFeast (C : Nat → Nat → Int32) (s : Nat → Int32) (a c : Nat) : Prop := ∃ q, q < 2 ^ 30 ∧ C 4 a = nI q ∧ ∀ d, d < 30 → (q.testBit d = true ↔ ∃ k, k < c ∧ s (1340 + (8 * a + k)) = nI 7 ∧ s (1500 + (8 * a + k)) = nI d)
def cWay (C : Nat → Nat → Int32) (s : Nat → Int32) (a : Nat) : Prop := ∃ c, 1 ≤ c ∧ c ≤ 8 ∧ C 5 a = nI c ∧ s (1330 + a) = nI c ∧ (∀ k, k < c → cClause C s (8 * a + k)) ∧ cFeast C s a c
def RG (C : Nat → Nat → Int32) (N s : Nat → Int32) : Nat → Prop
  | 0 => C 0 0 = s 0 ∧ Bd (s 0) 999
  | 1 => ∃ m, m ≤ 120 ∧ N 1 = nI m ∧ s 9 = nI m ∧ ∀ i, i < m → C 1 i = s (110 + i) ∧ Bd (s (110 + i)) 255
  | 2 => ∃ m, m ≤ 8 ∧ N 2 = nI m ∧ N 3 = nI m ∧ s 1 = nI m ∧ ∃ d : Nat → Nat, (∀ a, a < m → C 2 a = nI (d a) ∧ s (230 + a) = nI (d a) ∧ d a ≤ 999) ∧ Rep (C 3) (ordR d m) ∧ ∀ a, a < m → cWay C s a
  | 3 => ∃ m, m ≤ 10 ∧ N 10 = nI m ∧ s 2 = nI m ∧ ∀ x, x < m → ∃ z, 1 ≤ z ∧ z ≤ 60 ∧ C 10 x = nI z ∧ s (1660 + x) = nI z ∧ ∀ i, i < z → (C 11 (x * 60 + i) = -1 ∧ s (1670 + 60 * x + i) = nI 32) ∨ ∃ c, c < 26 ∧ C 11 (x * 60 + i) = nI c ∧ s (1670 + 60 * x + i) = nI (97 + c)
  | 4 => ∀ i, i < 27 → C 12 i = s (20 + i) ∧ Br (s (20 + i)) 1 9 ∧ C 13 i = s (50 + i) ∧ C 14 i = s (80 + i)
  | 5 => ∃ m, m ≤ 20 ∧ N 15 = nI m ∧ s 3 = nI m ∧ ∀ p, p < m → C 15 p = s (2310 + p) ∧ C 16 p = s (2290 + p) ∧ Bd (s (2290 + p)) 1 ∧ ∀ k, k < 27 → C 17 (p * 27 + k) = s (2330 + 27 * p + k)
  | 6 => ∀ k, k < 4 → C 18 k = s (2870 + k) ∧ Bd (s (2870 + k)) 99 ∧ ((∃ m, m ≤ 1000 ∧ C 19 k = nI m ∧ s (2874 + k) = nI m) ∨ (C 19 k = nI 9999 ∧ s (2874 + k) = nI 1001))
  | 7 => ∃ m, m ≤ 12 ∧ N 20 = nI m ∧ N 21 = nI m ∧ N 22 = nI m ∧ s 4 = nI m ∧ ∀ j, j < m → C 20 j = s (2880 + j) ∧ C 21 j = s (2892 + j) ∧ C 22 j = s (2904 + j)
  | 8 => ∃ m, m ≤ 40 ∧ N 23 = nI m ∧ N 24 = nI m ∧ N 25 = nI m ∧ N 26 = nI m ∧ s 5 = nI m ∧ ∀ j, j < m → C 23 j = s (2920 + j) ∧ C 24 j = s (2960 + j) ∧ C 25 j = s (3000 + j) ∧ C 26 j = s (3040 + j) ∧ Bd (s (2920 + j)) 6 ∧ Bd (s (2960 + j)) 29 ∧ Bd (s (3000 + j)) 255 ∧ Bd (s (3040 + j)) 9
  | 9 => ∃ m, m ≤ 7 ∧ N 27 = nI m ∧ s 6 = nI m ∧ ∀ j, j < m → C 27 j = s (3080 + j) ∧ Bd (s (3080 + j)) 65535
  | 10 => ∃ m, m ≤ 10 ∧ N 28 = nI m ∧ s 7 = nI m ∧ ∀ j, j < m → C 28 j = s (3090 + j) ∧ Bd (s (3090 + j)) 9999
  | 11 => ∃ m, m ≤ 30 ∧ N 29 = nI m ∧ s 10 = nI m ∧ ∀ j, j < m → ∃ a b, a < 10 ∧ b < 10 ∧ C 29 j = nI (10 * a + b) ∧ s (3100 + j) = nI a ∧ s (3130 + j) = nI b
  | 12 => ∃ m, m ≤ 6 ∧ N 30 = nI m ∧ N 31 = nI m ∧ N 32 = nI m ∧ s 8 = nI m ∧ ∀ j, j < m → C 30 j = s (3160 + j) ∧ C 31 j = s (3166 + j) ∧ C 32 j = s (3172 + j) ∧ Br (s (3160 + j)) 1 9999 ∧ Bd (s (3166 + j)) 999 ∧ Bd (s (3172 + j)) 40
  | 13 => ∃ m, m ≤ 20 ∧ N 33 = nI m ∧ N 34 = nI m ∧ N 35 = nI m ∧ s 11 = nI m ∧ ∀ j, j < m → C 33 j = s (3180 + j) ∧ C 34 j = s (3200 + j) ∧ C 35 j = s (3220 + j) ∧ Bd (s (3180 + j)) 5 ∧ Bd (s (3200 + j)) 999 ∧ Br (s (3220 + j)) 1 9999
  | 14 => ∀ j, j < 8 → C 36 j = s (3240 + j) ∧ Bd (s (3240 + j)) 9999
  | _ => True
def RSt (C : Nat → Nat → Int32) (N s : Nat → Int32) : Prop := ∀ g, g < 15 → RG C N s g
def Sim (w v : CW) : Prop := RSt w.1 w.2.1 (v.1 0) ∧ ((w.2.2 10 = 0 ∧ v.2.2 3 = 0) ∨ (w.2.2 10 = 1 ∧ v.2.2 3 = 1 ∧ RSt (fun k => w.1 (58 + k)) (fun k => w.2.1 (58 + k)) (v.1 1)))
abbrev Same (w v : CW) (x : Option (Int32 × CW)) (y : Option (Int32 × CW)) : Prop := ∃ (r : Int32) (w' v' : CW), x = some (r, w') ∧ y = some (r, v') ∧ Sim w' v'
/-- a group speaks of its own cells alone -/
theorem insR_len (d : Nat → Nat) (a : Nat) (l : List Nat) : (insR d a l).length = l.length + 1 := by
  induction l with
  | nil => rfl
  | cons x r ih =>
    unfold insR
    by_cases h : d a < d x
    · rw [if_pos h, List.length_cons, ih, List.length_cons]
    · rw [if_neg h, List.length_cons, List.length_cons]
theorem ordR_len (d : Nat → Nat) (m : Nat) : (ordR d m).length = m := by
  induction m with
  | zero => rfl
  | succ m ih => show (insR d m (ordR d m)).length = _; rw [insR_len, ih]
theorem RG_loc {C C' : Nat → Nat → Int32} {N N' s s' : Nat → Int32} {g : Nat} (hg : g < 15) (h : RG C N s g) (hC : ∀ k, gR k = g → (∀ i, i < cp k → C' k i = C k i) ∧ N' k = N k) (hs : ∀ j, j < 3250 → gP j = g → s' j = s j) : RG C' N' s' g := by
  have eC : ∀ k i, gR k = g → i < cp k → C' k i = C k i := fun k i a b => (hC k a).1 i b
  have eN : ∀ k, gR k = g → N' k = N k := fun k a => (hC k a).2
  have hcases : g = 0 ∨ g = 1 ∨ g = 2 ∨ g = 3 ∨ g = 4 ∨ g = 5 ∨ g = 6 ∨ g = 7 ∨ g = 8 ∨ g = 9 ∨ g = 10 ∨ g = 11 ∨ g = 12 ∨ g = 13 ∨ g = 14 := by omega
  rcases hcases with rfl | rfl | rfl | rfl | rfl | rfl | rfl | rfl | rfl | rfl | rfl | rfl | rfl | rfl | rfl
  · obtain ⟨a, b⟩ := h
    refine ⟨?_, ?_⟩
    · rw [eC 0 0 rfl (by decide), hs 0 (by decide) rfl]; exact a
    · rw [hs 0 (by decide) rfl]; exact b
  · obtain ⟨m, hm, a, b, c⟩ := h
    refine ⟨m, hm, by rw [eN 1 rfl]; exact a, by rw [hs 9 (by decide) rfl]; exact b, fun i hi => ?_⟩
    rw [eC 1 i rfl (by show i < 120; omega), hs (110 + i) (by omega) (by simp (disch := omega) only [gP, nltT, nltF, neqT, neqF, ↓reduceIte])]
    exact c i hi
  · obtain ⟨m, hm, a, b, c, d, e1, e2, e3⟩ := h
    refine ⟨m, hm, by rw [eN 2 rfl]; exact a, by rw [eN 3 rfl]; exact b, by rw [hs 1 (by decide) rfl]; exact c, d, fun i hi => ?_, fun i hi => ?_, fun i hi => ?_⟩
    · rw [eC 2 i rfl (by show i < 8; omega), hs (230 + i) (by omega) (by simp (disch := omega) only [gP, nltT, nltF, neqT, neqF, ↓reduceIte])]
      exact e1 i hi
    · rw [eC 3 i rfl (by rw [ordR_len] at hi; show i < 8; omega)]
      exact e2 i hi
    · obtain ⟨cc, h1, h2, h3, h4, h5, q, h6, h7, h8⟩ := e3 i hi
      refine ⟨cc, h1, h2, by rw [eC 5 i rfl (by show i < 9; omega)]; exact h3, by rw [hs (1330 + i) (by omega) (by simp (disch := omega) only [gP, nltT, nltF, neqT, neqF, ↓reduceIte])]; exact h4, fun k hk => ?_, q, h6, by rw [eC 4 i rfl (by show i < 9; omega)]; exact h7, fun dd hd => ?_⟩
      · have z := h5 k hk
        unfold cClause at z ⊢
        rw [eC 6 (8 * i + k) rfl (by show _ < 72; omega), eC 7 (8 * i + k) rfl (by show _ < 72; omega), eC 8 (8 * i + k) rfl (by show _ < 72; omega), eC 9 (8 * i + k) rfl (by show _ < 72; omega), hs (1340 + (8 * i + k)) (by omega) (by simp (disch := omega) only [gP, nltT, nltF, neqT, neqF, ↓reduceIte]), hs (1420 + (8 * i + k)) (by omega) (by simp (disch := omega) only [gP, nltT, nltF, neqT, neqF, ↓reduceIte]), hs (1500 + (8 * i + k)) (by omega) (by simp (disch := omega) only [gP, nltT, nltF, neqT, neqF, ↓reduceIte]), hs (1580 + (8 * i + k)) (by omega) (by simp (disch := omega) only [gP, nltT, nltF, neqT, neqF, ↓reduceIte])]
        exact z
      · rw [h8 dd hd]
        refine exists_congr fun k => ?_
        constructor
        · rintro ⟨z1, z2, z3⟩
          exact ⟨z1, by rw [hs (1340 + (8 * i + k)) (by omega) (by simp (disch := omega) only [gP, nltT, nltF, neqT, neqF, ↓reduceIte])]; exact z2, by rw [hs (1500 + (8 * i + k)) (by omega) (by simp (disch := omega) only [gP, nltT, nltF, neqT, neqF, ↓reduceIte])]; exact z3⟩
        · rintro ⟨z1, z2, z3⟩
          rw [hs (1340 + (8 * i + k)) (by omega) (by simp (disch := omega) only [gP, nltT, nltF, neqT, neqF, ↓reduceIte])] at z2
          rw [hs (1500 + (8 * i + k)) (by omega) (by simp (disch := omega) only [gP, nltT, nltF, neqT, neqF, ↓reduceIte])] at z3
          exact ⟨z1, z2, z3⟩
  · obtain ⟨m, hm, a, b, c⟩ := h
    refine ⟨m, hm, by rw [eN 10 rfl]; exact a, by rw [hs 2 (by decide) rfl]; exact b, fun x hx => ?_⟩
    obtain ⟨z, h1, h2, h3, h4, h5⟩ := c x hx
    refine ⟨z, h1, h2, by rw [eC 10 x rfl (by show x < 10; omega)]; exact h3, by rw [hs (1660 + x) (by omega) (by simp (disch := omega) only [gP, nltT, nltF, neqT, neqF, ↓reduceIte])]; exact h4, fun i hi => ?_⟩
    rw [eC 11 (x * 60 + i) rfl (by show _ < 600; omega), hs (1670 + 60 * x + i) (by omega) (by simp (disch := omega) only [gP, nltT, nltF, neqT, neqF, ↓reduceIte])]
    exact h5 i hi
  · intro i hi
    rw [eC 12 i rfl (by show i < 27; omega), eC 13 i rfl (by show i < 27; omega), eC 14 i rfl (by show i < 27; omega), hs (20 + i) (by omega) (by simp (disch := omega) only [gP, nltT, nltF, neqT, neqF, ↓reduceIte]), hs (50 + i) (by omega) (by simp (disch := omega) only [gP, nltT, nltF, neqT, neqF, ↓reduceIte]), hs (80 + i) (by omega) (by simp (disch := omega) only [gP, nltT, nltF, neqT, neqF, ↓reduceIte])]
    exact h i hi
  · obtain ⟨m, hm, a, b, c⟩ := h
    refine ⟨m, hm, by rw [eN 15 rfl]; exact a, by rw [hs 3 (by decide) rfl]; exact b, fun p hp => ?_⟩
    obtain ⟨h1, h2, h3, h4⟩ := c p hp
    rw [eC 15 p rfl (by show p < 20; omega), eC 16 p rfl (by show p < 20; omega), hs (2310 + p) (by omega) (by simp (disch := omega) only [gP, nltT, nltF, neqT, neqF, ↓reduceIte]), hs (2290 + p) (by omega) (by simp (disch := omega) only [gP, nltT, nltF, neqT, neqF, ↓reduceIte])]
    refine ⟨h1, h2, h3, fun k hk => ?_⟩
    rw [eC 17 (p * 27 + k) rfl (by show _ < 540; omega), hs (2330 + 27 * p + k) (by omega) (by simp (disch := omega) only [gP, nltT, nltF, neqT, neqF, ↓reduceIte])]
    exact h4 k hk
  · intro i hi
    rw [eC 18 i rfl (by show i < 4; omega), eC 19 i rfl (by show i < 4; omega), hs (2870 + i) (by omega) (by simp (disch := omega) only [gP, nltT, nltF, neqT, neqF, ↓reduceIte]), hs (2874 + i) (by omega) (by simp (disch := omega) only [gP, nltT, nltF, neqT, neqF, ↓reduceIte])]
    exact h i hi
  · obtain ⟨m, hm, a, b, c, d, e⟩ := h
    refine ⟨m, hm, by rw [eN 20 rfl]; exact a, by rw [eN 21 rfl]; exact b, by rw [eN 22 rfl]; exact c, by rw [hs 4 (by decide) rfl]; exact d, fun i hi => ?_⟩
    rw [eC 20 i rfl (by show i < 12; omega), eC 21 i rfl (by show i < 12; omega), eC 22 i rfl (by show i < 12; omega), hs (2880 + i) (by omega) (by simp (disch := omega) only [gP, nltT, nltF, neqT, neqF, ↓reduceIte]), hs (2892 + i) (by omega) (by simp (disch := omega) only [gP, nltT, nltF, neqT, neqF, ↓reduceIte]), hs (2904 + i) (by omega) (by simp (disch := omega) only [gP, nltT, nltF, neqT, neqF, ↓reduceIte])]
    exact e i hi
  · obtain ⟨m, hm, a, b, c, d, d2, e⟩ := h
    refine ⟨m, hm, by rw [eN 23 rfl]; exact a, by rw [eN 24 rfl]; exact b, by rw [eN 25 rfl]; exact c, by rw [eN 26 rfl]; exact d, by rw [hs 5 (by decide) rfl]; exact d2, fun i hi => ?_⟩
    rw [eC 23 i rfl (by show i < 40; omega), eC 24 i rfl (by show i < 40; omega), eC 25 i rfl (by show i < 40; omega), eC 26 i rfl (by show i < 40; omega), hs (2920 + i) (by omega) (by simp (disch := omega) only [gP, nltT, nltF, neqT, neqF, ↓reduceIte]), hs (2960 + i) (by omega) (by simp (disch := omega) only [gP, nltT, nltF, neqT, neqF, ↓reduceIte]), hs (3000 + i) (by omega) (by simp (disch := omega) only [gP, nltT, nltF, neqT, neqF, ↓reduceIte]), hs (3040 + i) (by omega) (by simp (disch := omega) only [gP, nltT, nltF, neqT, neqF, ↓reduceIte])]
    exact e i hi
  · obtain ⟨m, hm, a, b, c⟩ := h
    refine ⟨m, hm, by rw [eN 27 rfl]; exact a, by rw [hs 6 (by decide) rfl]; exact b, fun i hi => ?_⟩
    rw [eC 27 i rfl (by show i < 7; omega), hs (3080 + i) (by omega) (by simp (disch := omega) only [gP, nltT, nltF, neqT, neqF, ↓reduceIte])]
    exact c i hi
  · obtain ⟨m, hm, a, b, c⟩ := h
    refine ⟨m, hm, by rw [eN 28 rfl]; exact a, by rw [hs 7 (by decide) rfl]; exact b, fun i hi => ?_⟩
    rw [eC 28 i rfl (by show i < 10; omega), hs (3090 + i) (by omega) (by simp (disch := omega) only [gP, nltT, nltF, neqT, neqF, ↓reduceIte])]
    exact c i hi
  · obtain ⟨m, hm, a, b, c⟩ := h
    refine ⟨m, hm, by rw [eN 29 rfl]; exact a, by rw [hs 10 (by decide) rfl]; exact b, fun i hi => ?_⟩
    rw [eC 29 i rfl (by show i < 30; omega), hs (3100 + i) (by omega) (by simp (disch := omega) only [gP, nltT, nltF, neqT, neqF, ↓reduceIte]), hs (3130 + i) (by omega) (by simp (disch := omega) only [gP, nltT, nltF, neqT, neqF, ↓reduceIte])]
    exact c i hi
  · obtain ⟨m, hm, a, b, c, d, e⟩ := h
    refine ⟨m, hm, by rw [eN 30 rfl]; exact a, by rw [eN 31 rfl]; exact b, by rw [eN 32 rfl]; exact c, by rw [hs 8 (by decide) rfl]; exact d, fun i hi => ?_⟩
    rw [eC 30 i rfl (by show i < 6; omega), eC 31 i rfl (by show i < 6; omega), eC 32 i rfl (by show i < 6; omega), hs (3160 + i) (by omega) (by simp (disch := omega) only [gP, nltT, nltF, neqT, neqF, ↓reduceIte]), hs (3166 + i) (by omega) (by simp (disch := omega) only [gP, nltT, nltF, neqT, neqF, ↓reduceIte]), hs (3172 + i) (by omega) (by simp (disch := omega) only [gP, nltT, nltF, neqT, neqF, ↓reduceIte])]
    exact e i hi
  · obtain ⟨m, hm, a, b, c, d, e⟩ := h
    refine ⟨m, hm, by rw [eN 33 rfl]; exact a, by rw [eN 34 rfl]; exact b, by rw [eN 35 rfl]; exact c, by rw [hs 11 (by decide) rfl]; exact d, fun i hi => ?_⟩
    rw [eC 33 i rfl (by show i < 20; omega), eC 34 i rfl (by show i < 20; omega), eC 35 i rfl (by show i < 20; omega), hs (3180 + i) (by omega) (by simp (disch := omega) only [gP, nltT, nltF, neqT, neqF, ↓reduceIte]), hs (3200 + i) (by omega) (by simp (disch := omega) only [gP, nltT, nltF, neqT, neqF, ↓reduceIte]), hs (3220 + i) (by omega) (by simp (disch := omega) only [gP, nltT, nltF, neqT, neqF, ↓reduceIte])]
    exact e i hi
  · intro i hi
    rw [eC 36 i rfl (by show i < 8; omega), hs (3240 + i) (by omega) (by simp (disch := omega) only [gP, nltT, nltF, neqT, neqF, ↓reduceIte])]
    exact h i hi
/-- cells outside of the groups in P are as they were -/
theorem RSt_upd (P : Nat → Prop) {C C' : Nat → Nat → Int32} {N N' s s' : Nat → Int32} (h : RSt C N s) (hC : ∀ k, k < 37 → ¬ P (gR k) → C' k = C k ∧ N' k = N k) (hs : ∀ j, j < 3250 → ¬ P (gP j) → s' j = s j) (hP : ∀ g, g < 15 → P g → RG C' N' s' g) : RSt C' N' s' := by
  intro g hg
  by_cases c : P g
  · exact hP g hg c
  · refine RG_loc hg (h g hg) (fun k hk => ?_) (fun j hj hjg => hs j hj (by rw [hjg]; exact c))
    have hk37 : k < 37 := by
      refine Nat.not_le.mp fun z => ?_
      simp (disch := omega) only [gR, nltF, ↓reduceIte] at hk
      omega
    obtain ⟨a, b⟩ := hC k hk37 (by rw [hk]; exact c)
    exact ⟨fun i _ => by rw [a], b⟩
theorem RSt_congr {C C' : Nat → Nat → Int32} {N N' s s' : Nat → Int32} (h : RSt C N s) (hC : ∀ k, k < 37 → ∀ i, i < cp k → C' k i = C k i) (hN : ∀ k, k < 37 → N' k = N k) (hs : ∀ i, i < 3250 → s' i = s i) : RSt C' N' s' := by
  intro g hg
  refine RG_loc hg (h g hg) (fun k hk => ?_) (fun j hj _ => hs j hj)
  have hk37 : k < 37 := by
    refine Nat.not_le.mp fun z => ?_
    simp (disch := omega) only [gR, nltF, ↓reduceIte] at hk
    omega
  exact ⟨hC k hk37, hN k hk37⟩
/-- a call writes cells of groups in P, and scratch -/
theorem Sim_upd (P : Nat → Prop) {w v w' v' : CW} (h : Sim w v) (hC : ∀ k, 58 ≤ k ∨ k < 37 ∧ ¬ P (gR k) → w'.1 k = w.1 k ∧ w'.2.1 k = w.2.1 k) (h10 : w'.2.2 10 = w.2.2 10) (hs : ∀ j, j < 3250 → ¬ P (gP j) → v'.1 0 j = v.1 0 j) (h1 : v'.1 1 = v.1 1) (h3 : v'.2.2 3 = v.2.2 3) (hP : ∀ g, g < 15 → P g → RG w'.1 w'.2.1 (v'.1 0) g) : Sim w' v' := by
  refine ⟨RSt_upd P h.1 (fun k hk hp => hC k (.inr ⟨hk, hp⟩)) hs hP, ?_⟩
  rcases h.2 with ⟨a, b⟩ | ⟨a, b, c⟩
  · exact .inl ⟨by rw [h10]; exact a, by rw [h3]; exact b⟩
  · refine .inr ⟨by rw [h10]; exact a, by rw [h3]; exact b, ?_⟩
    rw [show (fun k => w'.1 (58 + k)) = fun k => w.1 (58 + k) from funext fun k => (hC (58 + k) (.inl (by omega))).1, show (fun k => w'.2.1 (58 + k)) = fun k => w.2.1 (58 + k) from funext fun k => (hC (58 + k) (.inl (by omega))).2, h1]
    exact c
/-- a call that only writes scratch -/
theorem Sim_scr {w v w' v' : CW} (h : Sim w v) (hC : ∀ k, 58 ≤ k ∨ k < 37 → w'.1 k = w.1 k ∧ w'.2.1 k = w.2.1 k) (h10 : w'.2.2 10 = w.2.2 10) (hs : v'.1 0 = v.1 0) (h1 : v'.1 1 = v.1 1) (h3 : v'.2.2 3 = v.2.2 3) : Sim w' v' :=
  Sim_upd (fun _ => False) h (fun k hk => hC k (hk.imp id And.left)) h10 (fun j _ _ => by rw [hs]) h1 h3 (fun _ _ q => q.elim)
theorem sim_0 : Sim w0 v0 := by
  have z : ∀ k, k < 20 → sIni 27 k = 0 := by decide +kernel
  have hv : ∀ i, v0.1 0 i = sIni 27 i := fun i => rfl
  refine ⟨fun g hg => ?_, .inl ⟨rfl, rfl⟩⟩
  have hcases : g = 0 ∨ g = 1 ∨ g = 2 ∨ g = 3 ∨ g = 4 ∨ g = 5 ∨ g = 6 ∨ g = 7 ∨ g = 8 ∨ g = 9 ∨ g = 10 ∨ g = 11 ∨ g = 12 ∨ g = 13 ∨ g = 14 := by omega
  have n0 : ∀ i : Nat, ¬ i < 0 := fun i => Nat.not_lt_zero i
  rcases hcases with rfl | rfl | rfl | rfl | rfl | rfl | rfl | rfl | rfl | rfl | rfl | rfl | rfl | rfl | rfl
  · exact ⟨rfl, 0, by decide, z 0 (by decide)⟩
  · exact ⟨0, by decide, rfl, z 9 (by decide), fun i hi => absurd hi (n0 i)⟩
  · exact ⟨0, by decide, rfl, rfl, z 1 (by decide), fun _ => 0, fun i hi => absurd hi (n0 i), fun i hi => absurd hi (n0 i), fun i hi => absurd hi (n0 i)⟩
  · exact ⟨0, by decide, rfl, z 2 (by decide), fun i hi => absurd hi (n0 i)⟩
  · have a : ∀ i, i < 27 → w0.1 12 i = v0.1 0 (20 + i) ∧ (v0.1 0 (20 + i) = nI 1 ∨ v0.1 0 (20 + i) = nI 2) ∧ w0.1 13 i = v0.1 0 (50 + i) ∧ w0.1 14 i = v0.1 0 (80 + i) := by decide +kernel
    intro i hi
    obtain ⟨a1, a2, a3, a4⟩ := a i hi
    exact ⟨a1, a2.elim (fun q => ⟨1, by decide, by decide, q⟩) (fun q => ⟨2, by decide, by decide, q⟩), a3, a4⟩
  · exact ⟨0, by decide, rfl, z 3 (by decide), fun i hi => absurd hi (n0 i)⟩
  · have a : ∀ i, i < 4 → w0.1 18 i = v0.1 0 (2870 + i) ∧ v0.1 0 (2870 + i) = nI 0 ∧ w0.1 19 i = nI 0 ∧ v0.1 0 (2874 + i) = nI 0 := by decide +kernel
    intro i hi
    obtain ⟨a1, a2, a3, a4⟩ := a i hi
    exact ⟨a1, ⟨0, by decide, a2⟩, .inl ⟨0, by decide, a3, a4⟩⟩
  · exact ⟨0, by decide, rfl, rfl, rfl, z 4 (by decide), fun i hi => absurd hi (n0 i)⟩
  · exact ⟨0, by decide, rfl, rfl, rfl, rfl, z 5 (by decide), fun i hi => absurd hi (n0 i)⟩
  · exact ⟨0, by decide, rfl, z 6 (by decide), fun i hi => absurd hi (n0 i)⟩
  · exact ⟨0, by decide, rfl, z 7 (by decide), fun i hi => absurd hi (n0 i)⟩
  · exact ⟨0, by decide, rfl, z 10 (by decide), fun i hi => absurd hi (n0 i)⟩
  · exact ⟨0, by decide, rfl, rfl, rfl, z 8 (by decide), fun i hi => absurd hi (n0 i)⟩
  · exact ⟨0, by decide, rfl, rfl, rfl, z 11 (by decide), fun i hi => absurd hi (n0 i)⟩
  · have a : ∀ i, i < 8 → w0.1 36 i = v0.1 0 (3240 + i) ∧ v0.1 0 (3240 + i) = nI 0 := by decide +kernel
    intro i hi
    obtain ⟨a1, a2⟩ := a i hi
    exact ⟨a1, 0, by decide, a2⟩
