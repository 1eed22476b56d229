/-! bits; orders of pages by sets -/
theorem nI_bit (a : Nat) {i : Nat} (hi : i < 32) : (nI a).toBitVec.getLsbD i = a.testBit i := by
  show (BitVec.ofNat 32 a).getLsbD i = _
  rw [BitVec.getLsbD_ofNat]
  simp [hi]
theorem nI_ext {x : Int32} {a : Nat} (h : ∀ i, i < 32 → x.toBitVec.getLsbD i = a.testBit i) : x = nI a := by
  apply Int32.toBitVec_inj.mp
  apply BitVec.eq_of_getLsbD_eq
  intro i hi
  rw [h i hi, nI_bit a hi]
theorem nI_or (a b : Nat) : nI a ||| nI b = nI (a ||| b) := nI_ext fun i hi => by
  show ((nI a).toBitVec ||| (nI b).toBitVec).getLsbD i = _
  rw [BitVec.getLsbD_or, nI_bit a hi, nI_bit b hi, Nat.testBit_or]
theorem nI_and (a b : Nat) : nI a &&& nI b = nI (a &&& b) := nI_ext fun i hi => by
  show ((nI a).toBitVec &&& (nI b).toBitVec).getLsbD i = _
  rw [BitVec.getLsbD_and, nI_bit a hi, nI_bit b hi, Nat.testBit_and]
theorem nI_xor (a b : Nat) : nI a ^^^ nI b = nI (a ^^^ b) := nI_ext fun i hi => by
  show ((nI a).toBitVec ^^^ (nI b).toBitVec).getLsbD i = _
  rw [BitVec.getLsbD_xor, nI_bit a hi, nI_bit b hi, Nat.testBit_xor]
theorem shl1 {p : Nat} (hp : p < 31) : nI 1 <<< (nI p &&& nI 31) = nI (2 ^ p) := by
  have h := Nat.pow_lt_pow_right (a := 2) (by decide) hp
  have := pk_shlN (n := 1) (nI p &&& nI 31) p (s_l p (by omega)) (by omega)
  rw [this, Nat.one_mul]
theorem or1 {s p : Nat} (hp : p < 31) : nI s ||| (nI 1 <<< (nI p &&& nI 31)) = nI (s ||| 2 ^ p) := by rw [shl1 hp, nI_or]
theorem tb01 (s p : Nat) : s / 2 ^ p % 2 = if s.testBit p = true then 1 else 0 := by
  have h := Nat.testBit_eq_decide_div_mod_eq (x := s) (i := p)
  have h2 := Nat.mod_two_eq_zero_or_one (s / 2 ^ p)
  by_cases c : s / 2 ^ p % 2 = 1
  · rw [h, if_pos (decide_eq_true c)]; exact c
  · rw [h, if_neg (fun z => c (of_decide_eq_true z))]; omega
/-- a without b -/
theorem andn {a b : Nat} (ha : a < 2 ^ 31) (hb : b < 2 ^ 31) : nI a &&& (nI b ^^^ -nI 1) = nI (a &&& (b ^^^ (2 ^ 31 - 1))) := nI_ext fun i hi => by
  show ((nI a).toBitVec &&& ((nI b).toBitVec ^^^ (-nI 1).toBitVec)).getLsbD i = _
  have e1 : (-nI 1).toBitVec = BitVec.allOnes 32 := by decide
  rw [BitVec.getLsbD_and, BitVec.getLsbD_xor, nI_bit a hi, nI_bit b hi, e1, BitVec.getLsbD_allOnes, Nat.testBit_and, Nat.testBit_xor, Nat.testBit_two_pow_sub_one]
  by_cases c : i < 31
  · rw [decide_eq_true hi, decide_eq_true c]
  · have e : a.testBit i = false := Nat.testBit_lt_two_pow (Nat.lt_of_lt_of_le ha (Nat.pow_le_pow_right (by decide) (by omega)))
    rw [e]; simp
theorem andn0 {a b : Nat} (ha : a < 2 ^ 31) : (a &&& (b ^^^ (2 ^ 31 - 1)) = 0) ↔ ∀ i, a.testBit i = true → b.testBit i = true := by
  constructor
  · intro h i hi
    have := congrArg (fun x => x.testBit i) h
    simp only [Nat.testBit_and, Nat.testBit_xor, Nat.testBit_two_pow_sub_one, hi, Nat.zero_testBit, Bool.true_and] at this
    have hlt : i < 31 := by
      refine Nat.not_le.mp fun z => ?_
      have e : a.testBit i = false := Nat.testBit_lt_two_pow (Nat.lt_of_lt_of_le ha (Nat.pow_le_pow_right (by decide) z))
      rw [hi] at e; cases e
    rw [decide_eq_true hlt] at this
    cases hb : b.testBit i
    · rw [hb] at this; cases this
    · rfl
  · intro h
    apply Nat.eq_of_testBit_eq
    intro i
    rw [Nat.testBit_and, Nat.testBit_xor, Nat.testBit_two_pow_sub_one, Nat.zero_testBit]
    cases ha' : a.testBit i
    · rfl
    · have hlt : i < 31 := by
        refine Nat.not_le.mp fun z => ?_
        have e : a.testBit i = false := Nat.testBit_lt_two_pow (Nat.lt_of_lt_of_le ha (Nat.pow_le_pow_right (by decide) z))
        rw [ha'] at e; cases e
      rw [h i ha', decide_eq_true hlt]; rfl
theorem or_bit (s p q : Nat) : (s ||| 2 ^ p).testBit q = (s.testBit q || decide (p = q)) := by
  rw [Nat.testBit_or, Nat.testBit_two_pow]
theorem or_lt {s p n : Nat} (hs : s < 2 ^ n) (hp : p < n) : s ||| 2 ^ p < 2 ^ n := Nat.or_lt_two_pow hs (Nat.pow_lt_pow_right (by decide) hp)
theorem or_gt {s p : Nat} (h : s.testBit p = false) : s < s ||| 2 ^ p := by
  have h1 : s ≤ s ||| 2 ^ p := Nat.left_le_or
  have h2 : s ≠ s ||| 2 ^ p := fun z => by
    have := or_bit s p p
    rw [← z, h] at this
    simp at this
  omega
theorem or_swap (s p q : Nat) : s ||| 2 ^ p ||| 2 ^ q = s ||| 2 ^ q ||| 2 ^ p := by
  rw [Nat.or_assoc, Nat.or_comm (2 ^ p), ← Nat.or_assoc]
theorem full_bit {n p : Nat} (hp : p < n) : (2 ^ n - 1).testBit p = true := by
  rw [Nat.testBit_two_pow_sub_one]; exact decide_eq_true hp
theorem not_full {s n : Nat} (hs : s < 2 ^ n) (h : s ≠ 2 ^ n - 1) : ∃ p, p < n ∧ s.testBit p = false := by
  refine Classical.byContradiction fun z => h ?_
  apply Nat.eq_of_testBit_eq
  intro i
  rw [Nat.testBit_two_pow_sub_one]
  by_cases c : i < n
  · rw [decide_eq_true c]
    cases e : s.testBit i
    · exact absurd ⟨i, c, e⟩ z
    · rfl
  · rw [Nat.testBit_lt_two_pow (Nat.lt_of_lt_of_le hs (Nat.pow_le_pow_right (by decide) (by omega)))]
    exact (decide_eq_false c).symm
theorem sg_pos {f : Nat → Nat} : ∀ n, 0 < sg f n → ∃ i, i < n ∧ 0 < f i := by
  intro n
  induction n with
  | zero => intro h; exact absurd h (Nat.lt_irrefl 0)
  | succ n ih =>
    intro h
    have h : 0 < sg f n + f n := h
    by_cases c : 0 < f n
    · exact ⟨n, by omega, c⟩
    · obtain ⟨i, h1, h2⟩ := ih (by omega)
      exact ⟨i, by omega, h2⟩
theorem sg_ge (f : Nat → Nat) : ∀ n i, i < n → f i ≤ sg f n := by
  intro n
  induction n with
  | zero => intro i h; omega
  | succ n ih =>
    intro i h
    show f i ≤ sg f n + f n
    by_cases c : i = n
    · subst c; omega
    · have := ih i (by omega); omega
theorem sg_mono {f g : Nat → Nat} : ∀ n, (∀ i, i < n → f i ≤ g i) → sg f n ≤ sg g n := by
  intro n
  induction n with
  | zero => intro _; exact Nat.le_refl _
  | succ n ih =>
    intro h
    have h1 := ih (fun i hi => h i (by omega))
    have h2 := h n (by omega)
    show sg f n + f n ≤ sg g n + g n
    omega
theorem sg_zero {f : Nat → Nat} (n : Nat) (h : ∀ i, i < n → f i = 0) : sg f n = 0 := by
  have := sg_le (f := f) (b := 0) n (fun i hi => by rw [h i hi]; exact Nat.le_refl _)
  omega
theorem sg_mul (f : Nat → Nat) (c : Nat) : ∀ n, sg (fun i => f i * c) n = sg f n * c := by
  intro n
  induction n with
  | zero => exact (Nat.zero_mul _).symm
  | succ n ih =>
    show sg (fun i => f i * c) n + f n * c = (sg f n + f n) * c
    rw [ih, Nat.add_mul]
def fac : Nat → Nat
  | 0 => 1
  | n + 1 => (n + 1) * fac n
theorem fac_pos : ∀ n, 0 < fac n := by
  intro n
  induction n with
  | zero => decide
  | succ n ih => exact Nat.mul_pos (by omega) ih
theorem fac_mono {a : Nat} : ∀ {b}, a ≤ b → fac a ≤ fac b := by
  intro b
  induction b with
  | zero => intro h; rw [show a = 0 by omega]; exact Nat.le_refl _
  | succ b ih =>
    intro h
    by_cases c : a = b + 1
    · rw [c]; exact Nat.le_refl _
    · refine Nat.le_trans (ih (by omega)) ?_
      show fac b ≤ (b + 1) * fac b
      exact Nat.le_mul_of_pos_left _ (by omega)
/-- how many are not in a set -/
def co (n s : Nat) : Nat := sg (fun p => if s.testBit p = true then 0 else 1) n
theorem co_le (n s : Nat) : co n s ≤ n := by
  have := sg_le (f := fun p => if s.testBit p = true then 0 else 1) (b := 1) n (fun i _ => by show (if _ then _ else _) ≤ _; split <;> omega)
  unfold co; omega
theorem co_or {n s p : Nat} (hp : p < n) (h : s.testBit p = false) : co n (s ||| 2 ^ p) + 1 = co n s := by
  have := sg_upd (f := fun q => if s.testBit q = true then 0 else 1) (g := fun q => if (s ||| 2 ^ p).testBit q = true then 0 else 1) (p := p) n hp (fun i _ hi => by
    show (if _ then _ else _) = (if _ then _ else _)
    rw [or_bit, decide_eq_false (fun z => hi z.symm), Bool.or_false])
  simp only [or_bit, h, decide_true, Bool.or_true, Bool.false_eq_true, ↓reduceIte] at this
  unfold co
  simp only [or_bit]
  omega
/-- no rule at all: as many ways as orders of what is left -/
theorem fac_sum {n s : Nat} (hs : s < 2 ^ n) (h : s ≠ 2 ^ n - 1) (mc : Nat → Nat → Bool) (h1 : ∀ p s, mc p s = true → s.testBit p = false) : sg (fun p => if mc p s = true then fac (co n (s ||| 2 ^ p)) else 0) n ≤ fac (co n s) := by
  obtain ⟨p0, hp0, hb0⟩ := not_full hs h
  have e0 := co_or hp0 hb0
  obtain ⟨c, hc⟩ : ∃ c, co n s = c + 1 := ⟨co n (s ||| 2 ^ p0), e0.symm⟩
  have h2 : sg (fun p => if mc p s = true then fac (co n (s ||| 2 ^ p)) else 0) n ≤ sg (fun p => (if s.testBit p = true then 0 else 1) * fac c) n := sg_mono n fun p hp => by
    show (if _ then _ else _) ≤ (if _ then _ else _) * _
    by_cases q : mc p s = true
    · have hb := h1 p s q
      have := co_or hp hb
      rw [if_pos q, if_neg (by rw [hb]; decide), Nat.one_mul, show co n (s ||| 2 ^ p) = c by omega]
      exact Nat.le_refl _
    · rw [if_neg q]; exact Nat.zero_le _
  rw [sg_mul] at h2
  have h3 : sg (fun p => if s.testBit p = true then 0 else 1) n = co n s := rfl
  rw [h3, hc] at h2
  rw [hc]
  exact h2
/-- the ways to the end from a set -/
def isB (mc : Nat → Nat → Bool) (n : Nat) (B : Nat → Nat) (s : Nat) : Prop := B s = (if s = 2 ^ n - 1 then 1 else 0) + sg (fun p => if mc p s = true then B (s ||| 2 ^ p) else 0) n
theorem B_fac {mc : Nat → Nat → Bool} {n : Nat} {B : Nat → Nat} {s : Nat} (h1 : ∀ p s, mc p s = true → s.testBit p = false) (hs : s < 2 ^ n) (h : isB mc n B s) (hI : ∀ t, s < t → t < 2 ^ n → B t ≤ fac (co n t)) : B s ≤ fac (co n s) := by
  rw [h]
  by_cases c : s = 2 ^ n - 1
  · rw [if_pos c, sg_zero n (fun p hp => ?_)]
    · exact fac_pos _
    · show (if _ then _ else _) = _
      refine if_neg fun z => ?_
      have := h1 p s z
      rw [c, full_bit hp] at this
      cases this
  · rw [if_neg c, Nat.zero_add]
    refine Nat.le_trans (sg_mono n fun p hp => ?_) (fac_sum hs c mc h1)
    show (if _ then _ else _) ≤ (if _ then _ else _)
    by_cases q : mc p s = true
    · rw [if_pos q, if_pos q]
      exact hI _ (or_gt (h1 p s q)) (or_lt hs hp)
    · rw [if_neg q, if_neg q]; exact Nat.le_refl _
/-- if there is a way at all, each that may come next leads on -/
theorem B_exch {mc : Nat → Nat → Bool} {n : Nat} {B : Nat → Nat} (h1 : ∀ p s, mc p s = true → s.testBit p = false) (h2 : ∀ p q s, mc p s = true → q ≠ p → mc p (s ||| 2 ^ q) = true) (h : ∀ s, s < 2 ^ n → isB mc n B s) : ∀ k s p, s < 2 ^ n → 2 ^ n - s ≤ k → p < n → mc p s = true → 0 < B s → 0 < B (s ||| 2 ^ p) := by
  intro k
  induction k with
  | zero => intro s p hs hk; omega
  | succ k ih =>
    intro s p hs hk hp hm hB
    have hb := h1 p s hm
    have hnf : s ≠ 2 ^ n - 1 := fun z => by rw [z, full_bit hp] at hb; cases hb
    rw [h s hs, if_neg hnf, Nat.zero_add] at hB
    obtain ⟨q, hq, hq2⟩ := sg_pos n hB
    have hq2 : 0 < (if mc q s = true then B (s ||| 2 ^ q) else 0) := hq2
    by_cases hmq : mc q s = true
    · rw [if_pos hmq] at hq2
      by_cases c : q = p
      · rw [← c]; exact hq2
      · have g1 := or_gt (h1 q s hmq)
        have g2 := or_lt hs hq
        have a1 := ih (s ||| 2 ^ q) p g2 (by omega) hp (h2 p q s hm c) hq2
        rw [h _ (or_lt hs hp)]
        have a2 := sg_ge (fun r => if mc r (s ||| 2 ^ p) = true then B (s ||| 2 ^ p ||| 2 ^ r) else 0) n q hq
        have a2 : (if mc q (s ||| 2 ^ p) = true then B (s ||| 2 ^ p ||| 2 ^ q) else 0) ≤ _ := a2
        rw [if_pos (h2 q p s hmq (fun z => c z.symm)), or_swap] at a2
        omega
    · rw [if_neg hmq] at hq2; omega
theorem B_next {mc : Nat → Nat → Bool} {n : Nat} {B : Nat → Nat} {s : Nat} (hs : s ≠ 2 ^ n - 1) (h : isB mc n B s) (hB : 0 < B s) : ∃ q, q < n ∧ mc q s = true := by
  rw [h, if_neg hs, Nat.zero_add] at hB
  obtain ⟨q, hq, hq2⟩ := sg_pos n hB
  have hq2 : 0 < (if mc q s = true then B (s ||| 2 ^ q) else 0) := hq2
  refine ⟨q, hq, Decidable.byContradiction fun z => ?_⟩
  rw [if_neg z] at hq2; omega
/-- the potential: what the numbers of the sets still to be gone through will bring -/
def PH (N : Nat) (D W : Nat → Nat) (s : Nat) : Nat := sg (fun t => if s ≤ t then W t * D t else 0) N
def PS (mc : Nat → Nat → Bool) (n N : Nat) (D W : Nat → Nat) (s p : Nat) : Nat := PH N D W (s + 1) + W s * sg (fun q => if p ≤ q ∧ mc q s = true then D (s ||| 2 ^ q) else 0) n
theorem PH_s {N : Nat} {D W : Nat → Nat} {s : Nat} (hs : s < N) : PH N D W s = PH N D W (s + 1) + W s * D s := by
  have := sg_upd (f := fun t => if s + 1 ≤ t then W t * D t else 0) (g := fun t => if s ≤ t then W t * D t else 0) (p := s) N hs (fun i _ hi => by
    show (if _ then _ else _) = (if _ then _ else _)
    by_cases c : s ≤ i
    · rw [if_pos c, if_pos (by omega)]
    · rw [if_neg c, if_neg (by omega)])
  simp only [Nat.le_refl, ↓reduceIte, show ¬ (s + 1 ≤ s) by omega] at this
  unfold PH
  omega
theorem PS_end (mc : Nat → Nat → Bool) (n N : Nat) (D W : Nat → Nat) (s : Nat) : PS mc n N D W s n = PH N D W (s + 1) := by
  unfold PS
  rw [sg_zero n (fun i hi => if_neg (fun z => by omega)), Nat.mul_zero, Nat.add_zero]
theorem PS_zero {mc : Nat → Nat → Bool} {n N : Nat} {D W : Nat → Nat} {s : Nat} (p : Nat) (h : W s = 0) : PS mc n N D W s p = PH N D W (s + 1) := by
  unfold PS
  rw [h, Nat.zero_mul, Nat.add_zero]
theorem PS_no {mc : Nat → Nat → Bool} {n N : Nat} {D W : Nat → Nat} {s p : Nat} (h : ¬ mc p s = true) : PS mc n N D W s (p + 1) = PS mc n N D W s p := by
  unfold PS
  congr 2
  refine sg_congr n fun i _ => ?_
  show (if _ then _ else _) = (if _ then _ else _)
  by_cases c : i = p
  · rw [c, if_neg (fun z => h z.2), if_neg (fun z => h z.2)]
  · by_cases c2 : p ≤ i ∧ mc i s = true
    · rw [if_pos c2, if_pos ⟨by omega, c2.2⟩]
    · rw [if_neg c2, if_neg (fun z => c2 ⟨by omega, z.2⟩)]
theorem PS_yes {mc : Nat → Nat → Bool} {n N : Nat} {D W W' : Nat → Nat} {s p : Nat} (hp : p < n) (hN : s ||| 2 ^ p < N) (hb : s.testBit p = false) (h : mc p s = true) (e1 : W' (s ||| 2 ^ p) = W (s ||| 2 ^ p) + W s) (e2 : ∀ t, t ≠ s ||| 2 ^ p → W' t = W t) : PS mc n N D W' s (p + 1) = PS mc n N D W s p := by
  have hgt := or_gt hb
  have hW : W' s = W s := e2 s (by omega)
  have a1 := sg_upd (f := fun t => if s + 1 ≤ t then W t * D t else 0) (g := fun t => if s + 1 ≤ t then W' t * D t else 0) (p := s ||| 2 ^ p) N hN (fun i _ hi => by
    show (if _ then _ else _) = (if _ then _ else _)
    rw [e2 i hi])
  simp only [show s + 1 ≤ s ||| 2 ^ p from hgt, ↓reduceIte, e1, Nat.add_mul] at a1
  have a2 := sg_upd (f := fun q => if p + 1 ≤ q ∧ mc q s = true then D (s ||| 2 ^ q) else 0) (g := fun q => if p ≤ q ∧ mc q s = true then D (s ||| 2 ^ q) else 0) (p := p) n hp (fun i _ hi => by
    show (if _ then _ else _) = (if _ then _ else _)
    by_cases c2 : p ≤ i ∧ mc i s = true
    · rw [if_pos c2, if_pos ⟨by omega, c2.2⟩]
    · rw [if_neg c2, if_neg (fun z => c2 ⟨by omega, z.2⟩)])
  simp only [Nat.le_refl, h, true_and, ↓reduceIte, and_true, show ¬ (p + 1 ≤ p) by omega] at a2
  unfold PS PH
  rw [hW]
  have a3 : sg (fun q => if p ≤ q ∧ mc q s = true then D (s ||| 2 ^ q) else 0) n = sg (fun q => if p + 1 ≤ q ∧ mc q s = true then D (s ||| 2 ^ q) else 0) n + D (s ||| 2 ^ p) := by omega
  rw [a3, Nat.mul_add]
  omega
theorem PS_0 (mc : Nat → Nat → Bool) (n N : Nat) (D W : Nat → Nat) (s : Nat) : PS mc n N D W s 0 = PH N D W (s + 1) + W s * sg (fun q => if mc q s = true then D (s ||| 2 ^ q) else 0) n := by
  unfold PS
  congr 2
  refine sg_congr n fun i _ => ?_
  simp only [Nat.zero_le, true_and]
