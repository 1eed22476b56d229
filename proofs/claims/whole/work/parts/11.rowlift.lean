/-! Row's methods as plain functions -/
theorem cp_le (k : Nat) : cp k ≤ 7503 := by
  by_cases h : k < 95
  · have : ∀ k, k < 95 → cp k ≤ 7503 := by decide +kernel
    exact this k h
  · have e : cp k = 0 := by
      unfold cp
      rw [List.getD_eq_getElem?_getD, List.getElem?_eq_none (by show 95 ≤ k; omega)]
      rfl
    omega
theorem cp_lt (k : Nat) : cp k < 2 ^ 31 := Nat.lt_of_le_of_lt (cp_le k) (by decide)
theorem iN_le {n : Nat} (hn : n < 2 ^ 31) {a : Int32} (ha : ¬ a < 0) : Int32.ofNat n ≤ a ↔ n ≤ a.toNatClampNeg := by
  obtain ⟨j, hj, rfl⟩ := nI_of ha
  rw [show Int32.ofNat n = nI n from rfl, nI_leI hn hj, nI_clamp hj]
theorem iN_lt {n : Nat} (hn : n < 2 ^ 31) {a : Int32} (ha : ¬ a < 0) : a < Int32.ofNat n ↔ a.toNatClampNeg < n := by
  obtain ⟨j, hj, rfl⟩ := nI_of ha
  rw [show Int32.ofNat n = nI n from rfl, nI_ltI hj hn, nI_clamp hj]
theorem i_add_sub (a b : Int32) : a + b - b = a := by
  apply Int32.toBitVec_inj.mp
  simp
def rAt (w : CW) (k : Nat) (i : Int32) : Int32 := if i < 0 ∨ cp k ≤ i.toNatClampNeg then 0 else w.1 k i.toNatClampNeg
def rPut (w : CW) (k : Nat) (i v : Int32) : CW := if i < 0 ∨ cp k ≤ i.toNatClampNeg then w else sC w k i.toNatClampNeg v
def rAdd (w : CW) (k : Nat) (i v : Int32) : CW := rPut w k i (rAt w k i + v)
def rSwap (w : CW) (k : Nat) (i v : Int32) : Int32 × CW := (rAt w k i, rPut w k i v)
def rFill (w : CW) (k : Nat) (v : Int32) : CW := sF w k (fun i => if i < cp k then v else w.1 k i)
def rOut (w : CW) (k : Nat) : Prop := w.2.1 k < 0 ∨ cp k ≤ (w.2.1 k).toNatClampNeg
def rPush (w : CW) (k : Nat) (v : Int32) : CW := if w.2.1 k < 0 ∨ cp k ≤ (w.2.1 k).toNatClampNeg then w else sN (sC w k (w.2.1 k).toNatClampNeg v) k (w.2.1 k + 1)
def rNumber (w : CW) (k : Nat) (v : Int32) : Int32 × CW := if w.2.1 k < 0 ∨ cp k ≤ (w.2.1 k).toNatClampNeg then (-4, w) else (w.2.1 k, sN (sC w k (w.2.1 k).toNatClampNeg v) k (w.2.1 k + 1))
/-- the first of n places from i on that hold v -/
def rIx (f : Nat → Int32) (v : Int32) : Nat → Nat → Int32
  | 0, _ => -1
  | n + 1, i => if f i = v then nI i else rIx f v n (i + 1)
def rIndexOf (w : CW) (k : Nat) (v : Int32) : Int32 := rIx (w.1 k) v (min (w.2.1 k).toNatClampNeg (cp k)) 0
def rHas (w : CW) (k : Nat) (v : Int32) : Int32 := if rIndexOf w k v < 0 then 0 else 1
theorem zb_X5_has (w : CW) (k : Nat) (v : Int32) : rHas w k v = 0 ∨ rHas w k v = 1 := zb_ite zb0 zb1
theorem g_at (w : CW) (k : Nat) (i : Int32) : f_X5_at w k i = some (rAt w k i) := by
  unfold f_X5_at rAt
  by_cases h : i < 0
  · rw [if_pos h, if_pos (Or.inl h)]
  · rw [if_neg h]
    by_cases h2 : Int32.ofNat (cp k) ≤ i
    · rw [if_pos h2, if_pos (Or.inr ((iN_le (cp_lt k) h).mp h2))]
    · have h3 : ¬ (i < 0 ∨ cp k ≤ i.toNatClampNeg) := fun z => z.elim h (fun z => h2 ((iN_le (cp_lt k) h).mpr z))
      rw [if_neg h2, if_neg h3, if_neg h3]
theorem g_put (w : CW) (k : Nat) (i v : Int32) : f_X5_put w k i v = some (rPut w k i v) := by
  unfold f_X5_put rPut
  by_cases h : i < 0
  · rw [if_pos h, if_pos (Or.inl h)]
  · rw [if_neg h]
    by_cases h2 : Int32.ofNat (cp k) ≤ i
    · rw [if_pos h2, if_pos (Or.inr ((iN_le (cp_lt k) h).mp h2))]
    · have h3 : ¬ (i < 0 ∨ cp k ≤ i.toNatClampNeg) := fun z => z.elim h (fun z => h2 ((iN_le (cp_lt k) h).mpr z))
      rw [if_neg h2, if_neg h3, if_neg h3]; rfl
theorem g_add (w : CW) (k : Nat) (i v : Int32) : f_X5_add w k i v = some (rAdd w k i v) := by
  unfold f_X5_add
  rw [g_at, Option.bind_some, g_put, Option.bind_some]; rfl
theorem g_swap (w : CW) (k : Nat) (i v : Int32) : f_X5_swap w k i v = some (rSwap w k i v) := by
  unfold f_X5_swap
  rw [g_at, Option.bind_some, g_put, Option.bind_some]; rfl
theorem g_push (w : CW) (k : Nat) (v : Int32) : f_X5_push w k v = some (rPush w k v) := by
  unfold f_X5_push rPush
  by_cases h : w.2.1 k < 0
  · rw [if_pos h, if_pos (Or.inl h)]
  · rw [if_neg h]
    by_cases h2 : Int32.ofNat (cp k) ≤ w.2.1 k
    · rw [if_pos h2, if_pos (Or.inr ((iN_le (cp_lt k) h).mp h2))]
    · have h3 : ¬ (w.2.1 k < 0 ∨ cp k ≤ (w.2.1 k).toNatClampNeg) := fun z => z.elim h (fun z => h2 ((iN_le (cp_lt k) h).mpr z))
      rw [if_neg h2, if_neg h3, if_neg h3]; rfl
theorem g_number (w : CW) (k : Nat) (v : Int32) : f_X5_number w k v = some (rNumber w k v) := by
  unfold f_X5_number rNumber
  by_cases h : w.2.1 k < 0
  · rw [if_pos h, if_pos (Or.inl h)]
  · rw [if_neg h]
    by_cases h2 : w.2.1 k < Int32.ofNat (cp k)
    · have h3 : ¬ (w.2.1 k < 0 ∨ cp k ≤ (w.2.1 k).toNatClampNeg) := fun z => z.elim h (fun z => absurd ((iN_lt (cp_lt k) h).mp h2) (by omega))
      rw [if_pos h2, if_neg h3, if_neg h3]
      simp only [nmk, sN, sC, if_true, i_add_sub]
    · have h3 : w.2.1 k < 0 ∨ cp k ≤ (w.2.1 k).toNatClampNeg := Or.inr (Nat.not_lt.mp (fun z => h2 ((iN_lt (cp_lt k) h).mpr z)))
      rw [if_neg h2, if_pos h3]
theorem g_fill_L (k : Nat) (v : Int32) : ∀ (n i : Nat) (w : CW), i ≤ cp k → cp k - i < n → f_X5_fill_L2 k v n (nI i) w = some (sF w k (fun j => if i ≤ j ∧ j < cp k then v else w.1 k j)) := by
  intro n
  induction n with
  | zero => intro i w h1 h2; omega
  | succ n ih =>
    intro i w h1 h2
    have hc := cp_le k
    rw [f_X5_fill_L2, show Int32.ofNat (cp k) = nI (cp k) from rfl]
    by_cases h : i = cp k
    · subst h
      rw [if_pos (nI_le (Nat.le_refl _) (cp_lt k))]
      congr 1
      refine Prod.ext (funext fun a => ?_) rfl
      show w.1 a = if a = k then _ else w.1 a
      by_cases ha : a = k
      · subst ha
        rw [if_pos rfl]
        funext j
        rw [if_neg (by omega)]
      · rw [if_neg ha]
    · have hlt : i < cp k := by omega
      have hp : ¬ (nI i < 0 ∨ cp k ≤ (nI i).toNatClampNeg) := nI_in hlt (cp_lt k)
      rw [if_neg (nI_ge hlt (cp_lt k)), if_neg hp]
      simp only [nmk]
      rw [nI_1, nI_clamp (by omega), ih (i + 1) _ (by omega) (by omega)]
      congr 1
      refine Prod.ext (funext fun a => ?_) rfl
      simp only [sF, sC]
      by_cases ha : a = k
      · subst ha
        rw [if_pos rfl, if_pos rfl]
        funext j
        by_cases hj : j = i
        · subst hj
          simp [upd, hlt]
        · by_cases hj2 : i ≤ j ∧ j < cp a
          · rw [if_pos hj2, if_pos (by omega)]
          · rw [if_neg hj2, if_neg (by omega)]
            simp [upd, hj]
      · rw [if_neg ha, if_neg ha, if_neg ha]
theorem g_fill (w : CW) (k : Nat) (v : Int32) : f_X5_fill w k v = some (rFill w k v) := by
  unfold f_X5_fill
  have h := g_fill_L k v FU 0 w (Nat.zero_le _) (by have := cp_le k; unfold FU; omega)
  rw [show nI 0 = 0 from rfl] at h
  rw [h]
  simp [rFill]
theorem g_indexOf_L (w : CW) (k : Nat) (v : Int32) : ∀ (n i : Nat), i ≤ cp k → cp k - i < n → (w.2.1 k < 0 → i = 0) → f_X5_indexOf_L2 w k v n (nI i) = some (rIx (w.1 k) v (min (w.2.1 k).toNatClampNeg (cp k) - i) i) := by
  intro n
  induction n with
  | zero => intro i h1 h2; omega
  | succ n ih =>
    intro i h1 h2 h0
    have hc := cp_le k
    rw [f_X5_indexOf_L2, show Int32.ofNat (cp k) = nI (cp k) from rfl]
    by_cases hs : w.2.1 k < 0
    · have hz : (w.2.1 k).toNatClampNeg = 0 := by
        have := Int32.lt_iff_toInt_lt.mp hs
        show (w.2.1 k).toInt.toNat = 0
        simp at this
        omega
      have e : i = 0 := h0 hs
      subst e
      rw [if_pos (by rw [nI_0]; exact Int32.le_of_lt hs), hz]
      simp [rIx]
    · by_cases hle : w.2.1 k ≤ nI i
      · rw [if_pos hle]
        have : (w.2.1 k).toNatClampNeg ≤ i := by
          obtain ⟨j, hj, e⟩ := nI_of hs
          rw [e] at hle ⊢
          rw [nI_clamp hj]
          exact (nI_leI hj (by omega)).mp hle
        rw [show min (w.2.1 k).toNatClampNeg (cp k) - i = 0 by omega]
        rfl
      · rw [if_neg hle]
        have hgt : i < (w.2.1 k).toNatClampNeg := by
          obtain ⟨j, hj, e⟩ := nI_of hs
          rw [e] at hle ⊢
          rw [nI_clamp hj]
          exact Nat.lt_of_not_le (fun z => hle ((nI_leI hj (by omega)).mpr z))
        by_cases h : i = cp k
        · subst h
          rw [if_pos (nI_le (Nat.le_refl _) (cp_lt k)), show min (w.2.1 k).toNatClampNeg (cp k) - cp k = 0 by omega]
          rfl
        · have hlt : i < cp k := by omega
          have hp : ¬ (nI i < 0 ∨ cp k ≤ (nI i).toNatClampNeg) := nI_in hlt (cp_lt k)
          rw [if_neg (nI_ge hlt (cp_lt k)), if_neg hp, nI_clamp (by omega)]
          rw [show min (w.2.1 k).toNatClampNeg (cp k) - i = (min (w.2.1 k).toNatClampNeg (cp k) - (i + 1)) + 1 by omega, rIx]
          by_cases hv : w.1 k i = v
          · rw [if_pos hv, if_pos hv]
          · rw [if_neg hv, if_neg hv]
            simp only [nmk]
            rw [nI_1, ih (i + 1) (by omega) (by omega) (fun z => absurd z hs)]
theorem g_indexOf (w : CW) (k : Nat) (v : Int32) : f_X5_indexOf w k v = some (rIndexOf w k v) := by
  unfold f_X5_indexOf
  have h := g_indexOf_L w k v FU 0 (Nat.zero_le _) (by have := cp_le k; unfold FU; omega) (fun _ => rfl)
  rw [show nI 0 = 0 from rfl] at h
  rw [h]
  rfl
theorem g_has (w : CW) (k : Nat) (v : Int32) : f_X5_has w k v = some (rHas w k v) := by
  unfold f_X5_has
  rw [g_indexOf]; rfl
section RL
variable (l : Launch) (G : GX) (w : CW) (k0 : Nat)
theorem cl_X5_at (hk0 : k0 < 95) (a1 q : Int32) (hf : rAt w k0 a1 = q) : MI l G yX5_at cX5_at 2 (some .int) rm_X5_at [.ref (G.2.2.1 k0), .int a1] (cA G) (cH G w) (cH G w) q := c_X5_at l G w k0 hk0 a1 q (by rw [g_at, hf])
theorem cl_X5_put (hk0 : k0 < 95) (a1 a2 : Int32) (q : CW) (hf : rPut w k0 a1 a2 = q) : MV l G yX5_put cX5_put 3 rm_X5_put [.ref (G.2.2.1 k0), .int a1, .int a2] (cA G) (cH G w) (cH G q) := c_X5_put l G w k0 hk0 a1 a2 q (by rw [g_put, hf])
theorem cl_X5_add (hk0 : k0 < 95) (a1 a2 : Int32) (q : CW) (hf : rAdd w k0 a1 a2 = q) : MV l G yX5_add cX5_add 3 rm_X5_add [.ref (G.2.2.1 k0), .int a1, .int a2] (cA G) (cH G w) (cH G q) := c_X5_add l G w k0 hk0 a1 a2 q (by rw [g_add, hf])
theorem cl_X5_swap (hk0 : k0 < 95) (a1 a2 : Int32) (q : Int32 × CW) (hf : rSwap w k0 a1 a2 = q) : MI l G yX5_swap cX5_swap 4 (some .int) rm_X5_swap [.ref (G.2.2.1 k0), .int a1, .int a2] (cA G) (cH G w) (cH G q.2) q.1 := c_X5_swap l G w k0 hk0 a1 a2 q (by rw [g_swap, hf])
theorem cl_X5_fill (hk0 : k0 < 95) (a1 : Int32) (q : CW) (hf : rFill w k0 a1 = q) : MV l G yX5_fill cX5_fill 3 rm_X5_fill [.ref (G.2.2.1 k0), .int a1] (cA G) (cH G w) (cH G q) := c_X5_fill l G w k0 hk0 a1 q (by rw [g_fill, hf])
theorem cl_X5_push (hk0 : k0 < 95) (a1 : Int32) (q : CW) (hf : rPush w k0 a1 = q) : MV l G yX5_push cX5_push 2 rm_X5_push [.ref (G.2.2.1 k0), .int a1] (cA G) (cH G w) (cH G q) := c_X5_push l G w k0 hk0 a1 q (by rw [g_push, hf])
theorem cl_X5_number (hk0 : k0 < 95) (a1 : Int32) (q : Int32 × CW) (hf : rNumber w k0 a1 = q) : MI l G yX5_number cX5_number 2 (some .int) rm_X5_number [.ref (G.2.2.1 k0), .int a1] (cA G) (cH G w) (cH G q.2) q.1 := c_X5_number l G w k0 hk0 a1 q (by rw [g_number, hf])
theorem cl_X5_indexOf (hk0 : k0 < 95) (a1 q : Int32) (hf : rIndexOf w k0 a1 = q) : MI l G yX5_indexOf cX5_indexOf 3 (some .int) rm_X5_indexOf [.ref (G.2.2.1 k0), .int a1] (cA G) (cH G w) (cH G w) q := c_X5_indexOf l G w k0 hk0 a1 q (by rw [g_indexOf, hf])
theorem cl_X5_has (hk0 : k0 < 95) (a1 q : Int32) (hf : rHas w k0 a1 = q) : MZ l G yX5_has cX5_has 2 (some .boolean) rm_X5_has [.ref (G.2.2.1 k0), .int a1] (cA G) (cH G w) (cH G w) q := c_X5_has l G w k0 hk0 a1 q (by rw [g_has, hf])
end RL
