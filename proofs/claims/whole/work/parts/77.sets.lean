/-! sets of sets of pages of hands -/
theorem sg_app (g : Nat → Nat) (a : Nat) : ∀ b, sg g (a + b) = sg g a + sg (fun x => g (a + x)) b := by
  intro b
  induction b with
  | zero => rfl
  | succ b ih =>
    show sg g (a + b) + g (a + b) = sg g a + (sg (fun x => g (a + x)) b + g (a + b))
    rw [ih, Nat.add_assoc]
theorem pow_s (n : Nat) : 2 ^ (n + 1) = 2 ^ n + 2 ^ n := by rw [Nat.pow_succ]; omega
theorem sgsplit (i : Nat) : ∀ n (g : Nat → Nat), i < n → sg g (2 ^ n) = sg (fun x => if x.testBit i = true then 0 else g x + g (x ||| 2 ^ i)) (2 ^ n) := by
  intro n
  induction n with
  | zero => intro g h; omega
  | succ n ih =>
    intro g hi
    rw [pow_s, sg_app, sg_app]
    by_cases c : i = n
    · subst c
      rw [sg_zero (f := fun x => (fun x => if x.testBit i = true then 0 else g x + g (x ||| 2 ^ i)) (2 ^ i + x)) (2 ^ i) (fun x hx => by
        show (if _ then _ else _) = _
        rw [Nat.testBit_two_pow_add_eq, Nat.testBit_lt_two_pow hx]; rfl), Nat.add_zero, ← sg_add]
      refine sg_congr _ fun x hx => ?_
      show g x + g (2 ^ i + x) = if _ then _ else _
      rw [Nat.testBit_lt_two_pow hx, if_neg (by decide), Nat.or_two_pow_eq_add_of_lt hx, Nat.add_comm x]
    · rw [ih g (by omega), ih (fun x => g (2 ^ n + x)) (by omega)]
      congr 1
      refine sg_congr _ fun x hx => ?_
      show (if _ then _ else _) = (if _ then _ else _)
      rw [Nat.testBit_two_pow_add_gt (by omega)]
      have e : 2 ^ n + x ||| 2 ^ i = 2 ^ n + (x ||| 2 ^ i) := by
        rw [Nat.add_comm (2 ^ n) x, ← Nat.or_two_pow_eq_add_of_lt hx, or_swap, Nat.or_two_pow_eq_add_of_lt (or_lt hx (by omega)), Nat.add_comm]
      rw [e]
theorem sub_iff {x o : Nat} : x &&& o = x ↔ ∀ i, x.testBit i = true → o.testBit i = true := by
  constructor
  · intro h i hi
    have := congrArg (fun y => y.testBit i) h
    simp only [Nat.testBit_and, hi, Bool.true_and] at this
    exact this
  · intro h
    apply Nat.eq_of_testBit_eq
    intro i
    rw [Nat.testBit_and]
    cases e : x.testBit i
    · rfl
    · rw [h i e]; rfl
theorem xor_bit (s p q : Nat) : (s ^^^ 2 ^ p).testBit q = (s.testBit q ^^ decide (p = q)) := by
  rw [Nat.testBit_xor, Nat.testBit_two_pow]
def Su (n o : Nat) (f : Nat → Nat) : Nat := sg (fun x => if x &&& o = x then f x else 0) (2 ^ n)
theorem Su_congr {n o : Nat} {f g : Nat → Nat} (h : ∀ x, x < 2 ^ n → (∀ i, x.testBit i = true → o.testBit i = true) → f x = g x) : Su n o f = Su n o g := sg_congr _ fun x hx => by
  show (if _ then _ else _) = (if _ then _ else _)
  by_cases c : x &&& o = x
  · rw [if_pos c, if_pos c, h x hx (sub_iff.mp c)]
  · rw [if_neg c, if_neg c]
theorem Su_add (n o : Nat) (f g : Nat → Nat) : Su n o (fun x => f x + g x) = Su n o f + Su n o g := by
  unfold Su
  rw [← sg_add]
  refine sg_congr _ fun x _ => ?_
  show (if _ then _ else _) = (if _ then _ else _) + (if _ then _ else _)
  by_cases c : x &&& o = x
  · rw [if_pos c, if_pos c, if_pos c]
  · rw [if_neg c, if_neg c, if_neg c]
theorem Su_z (n o : Nat) : Su n o (fun _ => 0) = 0 := sg_zero _ fun x _ => by
  show (if _ then _ else _) = _
  split <;> rfl
theorem Su_ite (n o : Nat) (c : Bool) (f : Nat → Nat) : (if c = true then Su n o f else 0) = Su n o (fun x => if c = true then f x else 0) := by
  cases c
  · exact (Su_z n o).symm
  · rfl
theorem Su_0 (n : Nat) (f : Nat → Nat) : Su n 0 f = f 0 := by
  have hp : 0 < 2 ^ n := Nat.two_pow_pos n
  have := sg_upd (f := fun _ => 0) (g := fun x => if x &&& 0 = x then f x else 0) (p := 0) (2 ^ n) hp (fun i _ hi => by
    show (if _ then _ else _) = _
    rw [Nat.and_zero, if_neg (fun z => hi z.symm)])
  simp only [Nat.and_zero, ↓reduceIte, Nat.add_zero] at this
  rw [sg_zero (f := fun _ => 0) _ (fun _ _ => rfl), Nat.zero_add] at this
  unfold Su
  simp only [Nat.and_zero]
  exact this
theorem Su_split {n i o : Nat} (hi : i < n) (ho : o.testBit i = true) (f : Nat → Nat) : Su n o f = Su n (o ^^^ 2 ^ i) (fun x => f x + f (x ||| 2 ^ i)) := by
  unfold Su
  rw [sgsplit i n _ hi]
  refine sg_congr _ fun x _ => ?_
  show (if _ then _ else (if _ then _ else _) + (if _ then _ else _)) = (if _ then _ else _)
  by_cases cb : x.testBit i = true
  · rw [if_pos cb, if_neg]
    intro z
    have := sub_iff.mp z i cb
    rw [xor_bit, ho] at this
    simp at this
  · have cb' : x.testBit i = false := Bool.eq_false_iff.mpr cb
    rw [if_neg cb]
    have e1 : x &&& o = x ↔ x &&& (o ^^^ 2 ^ i) = x := by
      rw [sub_iff, sub_iff]
      constructor
      · intro h j hj
        rw [xor_bit, h j hj]
        by_cases c : i = j
        · rw [← c, cb'] at hj; cases hj
        · rw [decide_eq_false c]; rfl
      · intro h j hj
        have := h j hj
        rw [xor_bit] at this
        by_cases c : i = j
        · rw [← c, cb'] at hj; cases hj
        · rw [decide_eq_false c, Bool.xor_false] at this; exact this
    have e2 : (x ||| 2 ^ i) &&& o = (x ||| 2 ^ i) ↔ x &&& (o ^^^ 2 ^ i) = x := by
      rw [← e1]
      rw [sub_iff, sub_iff]
      constructor
      · intro h j hj
        exact h j (by rw [or_bit, hj]; rfl)
      · intro h j hj
        rw [or_bit] at hj
        by_cases c : i = j
        · rw [← c]; exact ho
        · rw [decide_eq_false c, Bool.or_false] at hj
          exact h j hj
    by_cases c : x &&& (o ^^^ 2 ^ i) = x
    · rw [if_pos (e1.mpr c), if_pos (e2.mpr c), if_pos c]
    · rw [if_neg (fun z => c (e1.mp z)), if_neg (fun z => c (e2.mp z)), if_neg c]
/-- the least of a set -/
def tzr : Nat → Nat → Nat → Nat
  | 0, i, _ => i
  | k + 1, i, s => if s.testBit i = true then i else tzr k (i + 1) s
def tz (s : Nat) : Nat := tzr 10 0 s
theorem tzr_eq {s i : Nat} (hb : s.testBit i = true) : ∀ k a, a ≤ i → i < a + k → (∀ j, a ≤ j → j < i → s.testBit j = false) → tzr k a s = i := by
  intro k
  induction k with
  | zero => intro a h1 h2; omega
  | succ k ih =>
    intro a h1 h2 h3
    unfold tzr
    by_cases c : a = i
    · subst c; rw [if_pos hb]
    · rw [if_neg (by rw [h3 a (by omega) (by omega)]; decide)]
      exact ih (a + 1) (by omega) (by omega) (fun j hj1 hj2 => h3 j (by omega) hj2)
/-- the least of a set, as a statement -/
def Lst (n s i : Nat) : Prop := i < n ∧ s.testBit i = true ∧ ∀ j, j < i → s.testBit j = false
theorem Lst.tz {n s i : Nat} (h : Lst n s i) (hn : n ≤ 10) : tz s = i := tzr_eq h.2.1 10 0 (Nat.zero_le _) (by have := h.1; omega) (fun j _ hj => h.2.2 j hj)
theorem Lst_ex {n s : Nat} (hs : s < 2 ^ n) (h0 : s ≠ 0) : ∃ i, Lst n s i := by
  have : ∀ k, (∃ i, i < k ∧ s.testBit i = true ∧ ∀ j, j < i → s.testBit j = false) ∨ ∀ j, j < k → s.testBit j = false := by
    intro k
    induction k with
    | zero => exact .inr fun j hj => absurd hj (Nat.not_lt_zero j)
    | succ k ih =>
      rcases ih with ⟨i, h1, h2⟩ | h
      · exact .inl ⟨i, by omega, h2⟩
      · cases e : s.testBit k
        · refine .inr fun j hj => ?_
          by_cases c : j = k
          · rw [c]; exact e
          · exact h j (by omega)
        · exact .inl ⟨k, by omega, e, h⟩
  rcases this n with ⟨i, h1, h2, h3⟩ | h
  · exact ⟨i, h1, h2, h3⟩
  · refine absurd ?_ h0
    apply Nat.eq_of_testBit_eq
    intro j
    rw [Nat.zero_testBit]
    by_cases c : j < n
    · exact h j c
    · exact Nat.testBit_lt_two_pow (Nat.lt_of_lt_of_le hs (Nat.pow_le_pow_right (by decide) (by omega)))
theorem Lst.ne {n s i : Nat} (h : Lst n s i) : s ≠ 0 := fun z => by
  have := h.2.1
  rw [z, Nat.zero_testBit] at this; cases this
theorem xor_lt {s i n : Nat} (hs : s < 2 ^ n) (hi : i < n) : s ^^^ 2 ^ i < 2 ^ n := Nat.xor_lt_two_pow hs (Nat.pow_lt_pow_right (by decide) hi)
section CL
variable (al : Nat → Nat) (n : Nat)
def cqB (s : Nat) : Bool := decide (∀ a, a < n → s.testBit a = true → ∀ b, b < n → s.testBit b = true → (al a).testBit b = true)
/-- in how many ways a set is m sets of pages that are all alike -/
def Cc : Nat → Nat → Nat
  | 0, s => if s = 0 then 1 else 0
  | m + 1, s => if s = 0 then 0 else Su n (s ^^^ 2 ^ tz s) (fun e => if cqB al n (2 ^ tz s ||| e) = true then Cc m (s ^^^ 2 ^ tz s ^^^ e) else 0)
/-- the same with sets that are begun -/
def Ex : List Nat → Nat → Nat → Nat
  | [], m, r => Cc al n m r
  | _ :: _, 0, _ => 0
  | g :: gs, m + 1, r => Su n r (fun e => if cqB al n (g ||| e) = true then Ex gs m (r ^^^ e) else 0)
def sJ (i : Nat) (F : List Nat → Nat) : List Nat → Nat
  | [] => 0
  | g :: gs => (if cqB al n (g ||| 2 ^ i) = true then F ((g ||| 2 ^ i) :: gs) else 0) + sJ i (fun x => F (g :: x)) gs
def Rg : Nat → List Nat → Nat → Nat
  | 0, gs, m => if gs.length = m then 1 else 0
  | k + 1, gs, m => sJ al n (n - (k + 1)) (fun x => Rg k x m) gs + Rg k (gs ++ [2 ^ (n - (k + 1))]) m
end CL
theorem cqB_iff {al : Nat → Nat} {n s : Nat} : cqB al n s = true ↔ ∀ a, a < n → s.testBit a = true → ∀ b, b < n → s.testBit b = true → (al a).testBit b = true := decide_eq_true_iff
theorem cqB_sub {al : Nat → Nat} {n s t : Nat} (h : cqB al n t = true) (hs : ∀ i, s.testBit i = true → t.testBit i = true) : cqB al n s = true := by
  rw [cqB_iff] at h ⊢
  exact fun a ha h1 b hb h2 => h a ha (hs a h1) b hb (hs b h2)
theorem sJ_congr {al : Nat → Nat} {n i : Nat} : ∀ (gs : List Nat) (F G : List Nat → Nat), (∀ x, x.length = gs.length → (∀ g, g ∈ x → cqB al n g = true) → F x = G x) → (∀ g, g ∈ gs → cqB al n g = true) → sJ al n i F gs = sJ al n i G gs := by
  intro gs
  induction gs with
  | nil => intro F G _ _; rfl
  | cons g gs ih =>
    intro F G h hg
    show (if _ then _ else _) + _ = (if _ then _ else _) + _
    have e := ih (fun x => F (g :: x)) (fun x => G (g :: x)) (fun x hx hc => h _ (by rw [List.length_cons, List.length_cons, hx]) (fun y hy => by
      rcases List.mem_cons.mp hy with rfl | hy
      · exact hg _ List.mem_cons_self
      · exact hc y hy)) (fun y hy => hg y (List.mem_cons_of_mem _ hy))
    rw [e]
    by_cases c : cqB al n (g ||| 2 ^ i) = true
    · rw [if_pos c, if_pos c, h _ (by simp) (fun y hy => by
        rcases List.mem_cons.mp hy with rfl | hy
        · exact c
        · exact hg y (List.mem_cons_of_mem _ hy))]
    · rw [if_neg c, if_neg c]
theorem sJ_ite {al : Nat → Nat} {n i : Nat} (c : Bool) : ∀ (gs : List Nat) (F : List Nat → Nat), sJ al n i (fun x => if c = true then F x else 0) gs = if c = true then sJ al n i F gs else 0 := by
  intro gs F
  cases c
  · have : ∀ gs, sJ al n i (fun _ => 0) gs = 0 := by
      intro gs
      induction gs with
      | nil => rfl
      | cons g gs ih =>
        show (if _ then 0 else 0) + sJ al n i (fun _ => 0) gs = 0
        rw [ih]
        split <;> rfl
    exact this gs
  · rfl
theorem sJ_Su {al : Nat → Nat} {n i o N : Nat} : ∀ (gs : List Nat) (F : Nat → List Nat → Nat), sJ al n i (fun x => Su N o (fun e => F e x)) gs = Su N o (fun e => sJ al n i (F e) gs) := by
  intro gs
  induction gs with
  | nil => intro F; exact (Su_z N o).symm
  | cons g gs ih =>
    intro F
    show (if cqB al n (g ||| 2 ^ i) = true then Su N o (fun e => F e ((g ||| 2 ^ i) :: gs)) else 0) + sJ al n i (fun x => Su N o (fun e => F e (g :: x))) gs = Su N o (fun e => (if cqB al n (g ||| 2 ^ i) = true then F e ((g ||| 2 ^ i) :: gs) else 0) + sJ al n i (fun x => F e (g :: x)) gs)
    rw [ih (fun e x => F e (g :: x)), Su_add, Su_ite]
theorem Ex_step {al : Nat → Nat} {n i : Nat} (hn : n ≤ 10) : ∀ (gs : List Nat) (m r : Nat), r < 2 ^ n → Lst n r i → Ex al n gs m r = sJ al n i (fun x => Ex al n x m (r ^^^ 2 ^ i)) gs + Ex al n (gs ++ [2 ^ i]) m (r ^^^ 2 ^ i) := by
  intro gs
  induction gs with
  | nil =>
    intro m r hr hL
    have ht := hL.tz hn
    have h0 := hL.ne
    show Cc al n m r = 0 + Ex al n [2 ^ i] m (r ^^^ 2 ^ i)
    rw [Nat.zero_add]
    cases m with
    | zero => show (if _ then _ else _) = 0; rw [if_neg h0]
    | succ m =>
      show (if r = 0 then 0 else Su n (r ^^^ 2 ^ tz r) (fun e => if cqB al n (2 ^ tz r ||| e) = true then Cc al n m (r ^^^ 2 ^ tz r ^^^ e) else 0)) = Su n (r ^^^ 2 ^ i) (fun e => if cqB al n (2 ^ i ||| e) = true then Cc al n m (r ^^^ 2 ^ i ^^^ e) else 0)
      rw [if_neg h0, ht]
  | cons g gs ih =>
    intro m r hr hL
    obtain ⟨hi, hb, hl⟩ := hL
    cases m with
    | zero =>
      have : ∀ (x : List Nat) (F : List Nat → Nat), (∀ y, F y = 0) → sJ al n i F x = 0 := by
        intro x
        induction x with
        | nil => intro F _; rfl
        | cons a x ihx =>
          intro F hF
          show (if _ then _ else _) + sJ al n i (fun y => F (a :: y)) x = 0
          rw [ihx _ (fun y => hF _), hF]
          split <;> rfl
      show 0 = (if _ then 0 else 0) + sJ al n i (fun x => 0) gs + 0
      rw [this gs (fun _ => 0) (fun _ => rfl)]
      split <;> rfl
    | succ m =>
      show Su n r (fun e => if cqB al n (g ||| e) = true then Ex al n gs m (r ^^^ e) else 0) = (if cqB al n (g ||| 2 ^ i) = true then Su n (r ^^^ 2 ^ i) (fun e => if cqB al n (g ||| 2 ^ i ||| e) = true then Ex al n gs m (r ^^^ 2 ^ i ^^^ e) else 0) else 0) + sJ al n i (fun x => Su n (r ^^^ 2 ^ i) (fun e => if cqB al n (g ||| e) = true then Ex al n x m (r ^^^ 2 ^ i ^^^ e) else 0)) gs + Su n (r ^^^ 2 ^ i) (fun e => if cqB al n (g ||| e) = true then Ex al n (gs ++ [2 ^ i]) m (r ^^^ 2 ^ i ^^^ e) else 0)
      rw [Su_split hi hb, sJ_Su, Su_ite, ← Su_add, ← Su_add]
      refine Su_congr fun e he hs => ?_
      show (if cqB al n (g ||| e) = true then Ex al n gs m (r ^^^ e) else 0) + (if cqB al n (g ||| (e ||| 2 ^ i)) = true then Ex al n gs m (r ^^^ (e ||| 2 ^ i)) else 0) = (if cqB al n (g ||| 2 ^ i) = true then (if cqB al n (g ||| 2 ^ i ||| e) = true then Ex al n gs m (r ^^^ 2 ^ i ^^^ e) else 0) else 0) + sJ al n i (fun x => if cqB al n (g ||| e) = true then Ex al n x m (r ^^^ 2 ^ i ^^^ e) else 0) gs + (if cqB al n (g ||| e) = true then Ex al n (gs ++ [2 ^ i]) m (r ^^^ 2 ^ i ^^^ e) else 0)
      have hei : e.testBit i = false := by
        cases h : e.testBit i
        · rfl
        · have := hs i h
          rw [xor_bit, hb] at this
          simp at this
      have hsub : ∀ j, e.testBit j = true → r.testBit j = true := fun j hj => by
        have := hs j hj
        rw [xor_bit] at this
        by_cases c : i = j
        · rw [← c]; exact hb
        · rw [decide_eq_false c, Bool.xor_false] at this; exact this
      have e1 : r ^^^ (e ||| 2 ^ i) = r ^^^ 2 ^ i ^^^ e := by
        apply Nat.eq_of_testBit_eq
        intro j
        rw [Nat.testBit_xor, or_bit, Nat.testBit_xor, xor_bit]
        by_cases c : i = j
        · subst c; rw [hb, hei, decide_eq_true rfl]; rfl
        · rw [decide_eq_false c]; simp
      have e2 : r ^^^ e ^^^ 2 ^ i = r ^^^ 2 ^ i ^^^ e := by rw [Nat.xor_assoc, Nat.xor_comm e, ← Nat.xor_assoc]
      have e3 : g ||| (e ||| 2 ^ i) = g ||| 2 ^ i ||| e := by rw [Nat.or_comm e, ← Nat.or_assoc]
      have hL2 : Lst n (r ^^^ e) i := by
        refine ⟨hi, by rw [Nat.testBit_xor, hb, hei]; rfl, fun j hj => ?_⟩
        rw [Nat.testBit_xor, hl j hj]
        cases h : e.testBit j
        · rfl
        · have := hsub j h
          rw [hl j hj] at this; cases this
      have IH := ih m (r ^^^ e) (Nat.xor_lt_two_pow hr he) hL2
      rw [e2] at IH
      rw [e1, e3, IH, sJ_ite]
      have key : (if cqB al n (g ||| 2 ^ i) = true then (if cqB al n (g ||| 2 ^ i ||| e) = true then Ex al n gs m (r ^^^ 2 ^ i ^^^ e) else 0) else 0) = if cqB al n (g ||| 2 ^ i ||| e) = true then Ex al n gs m (r ^^^ 2 ^ i ^^^ e) else 0 := by
        by_cases c : cqB al n (g ||| 2 ^ i ||| e) = true
        · rw [if_pos c, if_pos (cqB_sub c (fun j hj => by rw [Nat.testBit_or, hj]; rfl))]
        · rw [if_neg c]
          split <;> rfl
      rw [key]
      by_cases c : cqB al n (g ||| e) = true
      · rw [if_pos c, if_pos c, if_pos c]; omega
      · rw [if_neg c, if_neg c, if_neg c]; omega
/-- the last k pages -/
def Rm (n : Nat) : Nat → Nat
  | 0 => 0
  | k + 1 => Rm n k ||| 2 ^ (n - (k + 1))
theorem Rm_bit (n : Nat) : ∀ k j, k ≤ n → (Rm n k).testBit j = decide (n - k ≤ j ∧ j < n) := by
  intro k
  induction k with
  | zero =>
    intro j _
    show (0 : Nat).testBit j = _
    rw [Nat.zero_testBit, decide_eq_false (by omega)]
  | succ k ih =>
    intro j hk
    show (Rm n k ||| 2 ^ (n - (k + 1))).testBit j = _
    rw [or_bit, ih j (by omega)]
    by_cases c : n - (k + 1) = j
    · rw [decide_eq_true c, Bool.or_true, decide_eq_true (by omega)]
    · rw [decide_eq_false c, Bool.or_false]
      by_cases c2 : n - k ≤ j ∧ j < n
      · rw [decide_eq_true c2, decide_eq_true (by omega)]
      · rw [decide_eq_false c2, decide_eq_false (by omega)]
theorem Rm_lt (n : Nat) : ∀ k, k ≤ n → Rm n k < 2 ^ n := by
  intro k
  induction k with
  | zero => intro _; exact Nat.two_pow_pos n
  | succ k ih => intro h; exact or_lt (ih (by omega)) (by omega)
theorem Rm_full (n : Nat) : Rm n n = 2 ^ n - 1 := by
  apply Nat.eq_of_testBit_eq
  intro j
  rw [Rm_bit n n j (Nat.le_refl _), Nat.testBit_two_pow_sub_one]
  by_cases c : j < n
  · rw [decide_eq_true c, decide_eq_true (by omega)]
  · rw [decide_eq_false c, decide_eq_false (by omega)]
theorem Ex_0 {al : Nat → Nat} {n : Nat} : ∀ (gs : List Nat) (m : Nat), (∀ g, g ∈ gs → cqB al n g = true) → Ex al n gs m 0 = if gs.length = m then 1 else 0 := by
  intro gs
  induction gs with
  | nil =>
    intro m _
    show Cc al n m 0 = _
    cases m with
    | zero => rfl
    | succ m => show (if (0 : Nat) = 0 then 0 else _) = _; rw [if_pos rfl, if_neg (by simp)]
  | cons g gs ih =>
    intro m hg
    cases m with
    | zero => rw [if_neg (by simp)]; rfl
    | succ m =>
      show Su n 0 (fun e => if cqB al n (g ||| e) = true then Ex al n gs m (0 ^^^ e) else 0) = _
      rw [Su_0, Nat.or_zero, if_pos (hg g List.mem_cons_self), Nat.xor_zero, ih m (fun y hy => hg y (List.mem_cons_of_mem _ hy)), List.length_cons]
      by_cases c : gs.length = m
      · rw [if_pos c, if_pos (by omega)]
      · rw [if_neg c, if_neg (by omega)]
theorem cq1 {al : Nat → Nat} {n i : Nat} (hr : ∀ a, a < n → (al a).testBit a = true) : cqB al n (2 ^ i) = true := by
  rw [cqB_iff]
  intro a ha h1 b hb h2
  rw [Nat.testBit_two_pow] at h1 h2
  have h1 := of_decide_eq_true h1
  have h2 := of_decide_eq_true h2
  subst h1; subst h2
  exact hr _ ha
theorem Ex_Rg {al : Nat → Nat} {n : Nat} (hn : n ≤ 10) (hr : ∀ a, a < n → (al a).testBit a = true) (m : Nat) : ∀ k, k ≤ n → ∀ gs : List Nat, (∀ g, g ∈ gs → cqB al n g = true) → Ex al n gs m (Rm n k) = Rg al n k gs m := by
  intro k
  induction k with
  | zero => intro _ gs hg; exact Ex_0 gs m hg
  | succ k ih =>
    intro hk gs hg
    have hL : Lst n (Rm n (k + 1)) (n - (k + 1)) := by
      refine ⟨by omega, ?_, fun j hj => ?_⟩
      · rw [Rm_bit n (k + 1) _ hk, decide_eq_true (by omega)]
      · rw [Rm_bit n (k + 1) _ hk, decide_eq_false (by omega)]
    have hx : Rm n (k + 1) ^^^ 2 ^ (n - (k + 1)) = Rm n k := by
      apply Nat.eq_of_testBit_eq
      intro j
      rw [xor_bit, Rm_bit n (k + 1) j hk, Rm_bit n k j (by omega)]
      by_cases c : n - (k + 1) = j
      · rw [decide_eq_true c, decide_eq_true (show n - (k + 1) ≤ j ∧ j < n by omega), decide_eq_false (show ¬ (n - k ≤ j ∧ j < n) by omega)]; rfl
      · rw [decide_eq_false c, Bool.xor_false]
        by_cases c2 : n - k ≤ j ∧ j < n
        · rw [decide_eq_true c2, decide_eq_true (by omega)]
        · rw [decide_eq_false c2, decide_eq_false (by omega)]
    rw [Ex_step hn gs m _ (Rm_lt n (k + 1) hk) hL, hx]
    show _ = sJ al n (n - (k + 1)) (fun x => Rg al n k x m) gs + Rg al n k (gs ++ [2 ^ (n - (k + 1))]) m
    rw [ih (by omega) (gs ++ [2 ^ (n - (k + 1))]) (fun g h => by
      rcases List.mem_append.mp h with h | h
      · exact hg g h
      · rw [List.mem_singleton.mp h]; exact cq1 hr)]
    congr 1
    exact sJ_congr gs _ _ (fun x _ hx => ih (by omega) x hx) hg
