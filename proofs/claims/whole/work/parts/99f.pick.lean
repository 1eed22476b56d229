/-! the class picks -/
theorem chL_ix {f : CT → Nat} {V k n : Nat} {pw pu : Nat → Nat → Nat} (hn : n = 1 ∨ n = 2 ∨ n = 3) (hp : ¬ pw k n = 0) (hu : pu k 1 = 0) (hV : f (n, pw k n, pu k n) = V) (hb : ∀ m, n < m → m ≤ 3 → ¬ pw k m = 0 → f (m, pw k m, pu k m) ≠ V) : ∃ i, i < (chL pw pu k).length ∧ (chL pw pu k).getD i c0T = (n, pw k n, pu k n) ∧ ∀ j, j < i → f ((chL pw pu k).getD j c0T) ≠ V := by
  have n0 : ∀ j, j < 0 → f ((chL pw pu k).getD j c0T) ≠ V := fun j hj => absurd hj (Nat.not_lt_zero j)
  unfold chL at n0 ⊢
  by_cases c2 : pw k 2 = 0
  · by_cases c3 : pw k 3 = 0
    · rw [if_pos c2, if_pos c3] at n0 ⊢
      rcases hn with rfl | rfl | rfl
      · exact ⟨0, by show 0 < 1; decide, by rw [hu]; rfl, n0⟩
      · exact absurd c2 hp
      · exact absurd c3 hp
    · rw [if_pos c2, if_neg c3] at n0 ⊢
      rcases hn with rfl | rfl | rfl
      · refine ⟨1, by show 1 < 2; decide, by rw [hu]; rfl, fun j hj => ?_⟩
        have : j = 0 := by omega
        subst this
        exact hb 3 (by decide) (by decide) c3
      · exact absurd c2 hp
      · exact ⟨0, by show 0 < 2; decide, rfl, n0⟩
  · by_cases c3 : pw k 3 = 0
    · rw [if_neg c2, if_pos c3] at n0 ⊢
      rcases hn with rfl | rfl | rfl
      · refine ⟨1, by show 1 < 2; decide, by rw [hu]; rfl, fun j hj => ?_⟩
        have : j = 0 := by omega
        subst this
        exact hb 2 (by decide) (by decide) c2
      · exact ⟨0, by show 0 < 2; decide, rfl, n0⟩
      · exact absurd c3 hp
    · rw [if_neg c2, if_neg c3] at n0 ⊢
      rcases hn with rfl | rfl | rfl
      · refine ⟨2, by show 2 < 3; decide, by rw [hu]; rfl, fun j hj => ?_⟩
        have : j = 0 ∨ j = 1 := by omega
        rcases this with rfl | rfl
        · exact hb 3 (by decide) (by decide) c3
        · exact hb 2 (by decide) (by decide) c2
      · refine ⟨1, by show 1 < 3; decide, rfl, fun j hj => ?_⟩
        have : j = 0 := by omega
        subst this
        exact hb 3 (by decide) (by decide) c3
      · exact ⟨0, by show 0 < 3; decide, rfl, n0⟩
theorem chL_all {f : CT → Nat} {V k : Nat} {pw pu : Nat → Nat → Nat} (hp : ¬ pw k 1 = 0) (hu : pu k 1 = 0) (hb : ∀ m, 1 ≤ m → m ≤ 3 → ¬ pw k m = 0 → f (m, pw k m, pu k m) ≠ V) : ∀ i, i < (chL pw pu k).length → f ((chL pw pu k).getD i c0T) ≠ V := by
  have b1 : f (1, pw k 1, 0) ≠ V := by have := hb 1 (by decide) (by decide) hp; rw [hu] at this; exact this
  intro i hi
  unfold chL at hi ⊢
  by_cases c2 : pw k 2 = 0
  · by_cases c3 : pw k 3 = 0
    · rw [if_pos c2, if_pos c3] at hi ⊢
      have : i = 0 := by simp at hi; omega
      subst this; exact b1
    · rw [if_pos c2, if_neg c3] at hi ⊢
      have : i = 0 ∨ i = 1 := by simp at hi; omega
      rcases this with rfl | rfl
      · exact hb 3 (by decide) (by decide) c3
      · exact b1
  · by_cases c3 : pw k 3 = 0
    · rw [if_neg c2, if_pos c3] at hi ⊢
      have : i = 0 ∨ i = 1 := by simp at hi; omega
      rcases this with rfl | rfl
      · exact hb 2 (by decide) (by decide) c2
      · exact b1
    · rw [if_neg c2, if_neg c3] at hi ⊢
      have : i = 0 ∨ i = 1 ∨ i = 2 := by simp at hi; omega
      rcases this with rfl | rfl | rfl
      · exact hb 3 (by decide) (by decide) c3
      · exact hb 2 (by decide) (by decide) c2
      · exact b1
theorem chB_get (le wi : Nat) : ∀ n i, i < n → (chB le wi n).getD i c0T = (1, le + i, wi * i) := by
  intro n
  induction n with
  | zero => intro i hi; exact absurd hi (Nat.not_lt_zero i)
  | succ n ih =>
    intro i hi
    show (chB le wi n ++ [(1, le + n, wi * n)]).getD i c0T = _
    rw [getD_app _ _ i (by rw [chB_len]; omega), chB_len]
    by_cases c : i = n
    · rw [if_pos c, c]
    · rw [if_neg c]; exact ih i (by omega)
/-- all that a step of the class needs to know of its state -/
def StC (u : CW) (z : Nat) (ch WD : Nat → Nat) (A : CA) : Prop := EnvC u z ch WD A ∧ Fnd u z ch A z ∧ TabC u z ch WD A 0
theorem StC.env {u : CW} {z : Nat} {ch WD : Nat → Nat} {A : CA} (h : StC u z ch WD A) : EnvC u z ch WD A := h.1
theorem StC.fnd {u : CW} {z : Nat} {ch WD : Nat → Nat} {A : CA} (h : StC u z ch WD A) : Fnd u z ch A z := h.2.1
theorem StC.tab {u : CW} {z : Nat} {ch WD : Nat → Nat} {A : CA} (h : StC u z ch WD A) : TabC u z ch WD A 0 := h.2.2
def LsK (u u1 : CW) (z : Nat) (ch WD : Nat → Nat) (A : CA) (k : Nat) : Prop := f_X6_listChoices u (nI k) = some u1 ∧ LFr u u1 ∧ CHs u1 (chs z ch WD A k) ∧ u1.2.2 6 = nI (if ltF z ch k = true then 0 else 1)
theorem LsK.eq {u u1 : CW} {z k : Nat} {ch WD : Nat → Nat} {A : CA} (h : LsK u u1 z ch WD A k) : f_X6_listChoices u (nI k) = some u1 := h.1
theorem LsK.lfr {u u1 : CW} {z k : Nat} {ch WD : Nat → Nat} {A : CA} (h : LsK u u1 z ch WD A k) : LFr u u1 := h.2.1
theorem LsK.chs {u u1 : CW} {z k : Nat} {ch WD : Nat → Nat} {A : CA} (h : LsK u u1 z ch WD A k) : CHs u1 (chs z ch WD A k) := h.2.2.1
theorem LsK.h6 {u u1 : CW} {z k : Nat} {ch WD : Nat → Nat} {A : CA} (h : LsK u u1 z ch WD A k) : u1.2.2 6 = nI (if ltF z ch k = true then 0 else 1) := h.2.2.2
theorem StC.lst {u : CW} {z k : Nat} {ch WD : Nat → Nat} {A : CA} (h : StC u z ch WD A) (hk : k < z) : ∃ u1, LsK u u1 z ch WD A k := by
  obtain ⟨u1, e1, e2, e3⟩ := l_list h.env (show k ≤ z by omega)
  obtain ⟨e4, e5⟩ := e3 h.fnd hk
  exact ⟨u1, e1, e2, e4, e5⟩
theorem LsK.tc {u u1 : CW} {z k : Nat} {ch WD : Nat → Nat} {A : CA} (h : LsK u u1 z ch WD A k) : TC u1 = TC u := by
  funext a b c
  unfold TC
  rw [h.lfr.1 46 (by decide)]
theorem TabC.ok {u : CW} {z : Nat} {ch WD : Nat → Nat} {A : CA} (h : TabC u z ch WD A 0) (k : Nat) : TCok u A z k := fun k' _ h2 w hw p hp => h.1 k' (Nat.zero_le _) h2 w hw p hp
theorem okCs_of {u : CW} {z k : Nat} {ch WD : Nat → Nat} {A : CA} (h : EnvC u z ch WD A) (hk : k < z) : okCs z k (chs z ch WD A k) ∧ (ltF z ch k = true → 0 < pwF WD A.2.1 z ch k 1) := by
  obtain ⟨g1, g2, g3, hlet, ⟨q1, -⟩, hA, hW⟩ := id h
  obtain ⟨hP, -, -, c5, c6⟩ := hA.ok z ch WD
  have hmb := mosN_b A
  have h9 := hA.pw9 z ch WD (fun c hc => (hW c hc).2) (fun i hi => by rcases (hlet i hi).2 with e | e <;> omega)
  have h1 : ltF z ch k = true → 0 < pwF WD A.2.1 z ch k 1 := fun cl => by
    have hkl := ltF_iff.mp cl
    have hc : ch k ≤ 122 := by rcases (hlet k hk).2 with e | e <;> omega
    show 0 < (if 1 = 1 then (if ltF z ch k = true then WD (ch k - 97) else 0) else _)
    rw [if_pos rfl, if_pos cl]
    exact (hW _ (by omega)).2.1
  obtain ⟨okL, okB⟩ := chs_ok (le := leaN A) (mo := mosN A) (wi := tN (A.1 6)) hP (show k < (PA z A WD).1 from hk) (fun n => h9 k n) h1 ⟨hmb.1, hmb.2, c6⟩
  refine ⟨?_, h1⟩
  unfold chs
  by_cases cl : ltF z ch k = true
  · rw [if_pos cl]; exact okL cl
  · rw [if_neg cl]; exact okB
/-- the best choice -/
theorem StC.best {u u1 : CW} {z k w p V : Nat} {ch WD : Nat → Nat} {A : CA} (h : StC u z ch WD A) (hk : k < z) (hL : LsK u u1 z ch WD A k) (hw : w ≤ colN A) (hp : p < 3) (hV : TC u k w p = V) (hV2 : V ≤ EE + 90) : (f_X6_bestChoice u1 (nI k) (nI w) (nI p) = some (-nI 1) ∧ ∀ i, i < (chs z ch WD A k).length → cvl (colN A) (TC u) k w (if ltF z ch k = true then min (p + 1) 2 else 0) ((chs z ch WD A k).getD i c0T) ≠ V) ∨ ∃ n, n < (chs z ch WD A k).length ∧ f_X6_bestChoice u1 (nI k) (nI w) (nI p) = some (nI n) ∧ cvl (colN A) (TC u) k w (if ltF z ch k = true then min (p + 1) 2 else 0) ((chs z ch WD A k).getD n c0T) = V ∧ ∀ i, i < n → cvl (colN A) (TC u) k w (if ltF z ch k = true then min (p + 1) 2 else 0) ((chs z ch WD A k).getD i c0T) ≠ V := by
  have hz := h.env.2.1
  have hE1 := h.env.f hL.lfr.s
  have hT : TCok u1 A z (k + 1) := (h.tab.ok (k + 1)).w (fun i _ => by rw [hL.lfr.1 46 (by decide)])
  have hv : u1.1 46 ((k * 41 + w) * 3 + p) = nI V := by
    rw [hL.lfr.1 46 (by decide), ← hV]
    exact (h.tab.1 k (Nat.zero_le _) (by omega) w hw p hp).1
  have := l_best (lt := ltF z ch k) hE1.2.2.2.2.1.1 hz hL.chs hL.h6 (okCs_of h.env hk).1 hT hw hp hk hv hV2
  rw [hL.tc] at this
  exact this
theorem cvl_cu {P : PP} {pw pu : Nat → Nat → Nat} {T : Nat → Nat → Nat → Nat} {k w p n : Nat} (c : ¬ pw k n = 0) : cvl P.2.1 T k w (min (p + 1) 2) (n, pw k n, pu k n) = cuC P pw pu T k n w p := by
  unfold cuC; rw [if_neg c]; rfl
/-- a letter: the piece that is taken -/
theorem StC.pickL {u u1 : CW} {z k w p V n : Nat} {ch WD : Nat → Nat} {A : CA} (h : StC u z ch WD A) (hk : k < z) (hl : ltF z ch k = true) (hL : LsK u u1 z ch WD A k) (hw : w ≤ colN A) (hp : p < 3) (hV : TC u k w p = V) (hV2 : V < EE) (hn : n = 1 ∨ n = 2 ∨ n = 3) (hc : cuC (PA z A WD) (pwF WD A.2.1 z ch) (puF A.2.1 z ch) (TC u) k n w p = V) (hb : ∀ m, n < m → m ≤ 3 → cuC (PA z A WD) (pwF WD A.2.1 z ch) (puF A.2.1 z ch) (TC u) k m w p ≠ V) : ∃ i, i < 9 ∧ f_X6_bestChoice u1 (nI k) (nI w) (nI p) = some (nI i) ∧ u1.1 43 i = nI n ∧ u1.1 44 i = nI (pwF WD A.2.1 z ch k n) := by
  have c0 : ¬ pwF WD A.2.1 z ch k n = 0 := fun c => by
    unfold cuC at hc; rw [if_pos c] at hc; omega
  have ec : chs z ch WD A k = chL (pwF WD A.2.1 z ch) (puF A.2.1 z ch) k := if_pos hl
  have hlen := hL.chs.2.2.2.1
  obtain ⟨i, i1, i2, i3⟩ := chL_ix (f := cvl (colN A) (TC u) k w (min (p + 1) 2)) (V := V) (pu := puF A.2.1 z ch) hn c0 rfl ((cvl_cu (P := PA z A WD) c0).trans hc) (fun m m1 m2 c => fun q => hb m m1 m2 ((cvl_cu (P := PA z A WD) c).symm.trans q))
  have hB := h.best hk hL hw hp hV (by omega)
  rw [if_pos hl, ec] at hB
  have hget := hL.chs.2.2.2.2 i (by rw [ec]; exact i1)
  rw [ec, i2] at hget
  rw [ec] at hlen
  rcases hB with ⟨-, b2⟩ | ⟨j, j1, j2, j3, j4⟩
  · exact absurd (by rw [i2]; exact (cvl_cu (P := PA z A WD) c0).trans hc) (b2 i i1)
  · have : j = i := by
      rcases Nat.lt_trichotomy j i with c | c | c
      · exact absurd j3 (i3 j c)
      · exact c
      · exact absurd (by rw [i2]; exact (cvl_cu (P := PA z A WD) c0).trans hc) (j4 i c)
    subst this
    exact ⟨j, by omega, j2, hget.1, hget.2.1⟩
theorem StC.pickE {u u1 : CW} {z k w p V : Nat} {ch WD : Nat → Nat} {A : CA} (h : StC u z ch WD A) (hk : k < z) (hl : ltF z ch k = true) (hL : LsK u u1 z ch WD A k) (hw : w ≤ colN A) (hp : p < 3) (hV : TC u k w p = V) (hV2 : V < EE) (hb : ∀ m, 1 ≤ m → m ≤ 3 → cuC (PA z A WD) (pwF WD A.2.1 z ch) (puF A.2.1 z ch) (TC u) k m w p ≠ V) : f_X6_bestChoice u1 (nI k) (nI w) (nI p) = some (-nI 1) := by
  have h1 := (okCs_of h.env hk).2 hl
  have ec : chs z ch WD A k = chL (pwF WD A.2.1 z ch) (puF A.2.1 z ch) k := if_pos hl
  have hB := h.best hk hL hw hp hV (by omega)
  rw [if_pos hl, ec] at hB
  have hall := chL_all (f := cvl (colN A) (TC u) k w (min (p + 1) 2)) (V := V) (k := k) (pw := pwF WD A.2.1 z ch) (pu := puF A.2.1 z ch) (by omega) rfl (fun m m1 m2 c => fun q => hb m m1 m2 ((cvl_cu (P := PA z A WD) c).symm.trans q))
  rcases hB with ⟨b1, -⟩ | ⟨j, j1, -, j3, -⟩
  · exact b1
  · exact absurd j3 (hall j j1)
theorem cvl_cb {z k w n : Nat} {A : CA} {WD : Nat → Nat} {T : Nat → Nat → Nat → Nat} : cvl (colN A) T k w 0 (1, leaN A + n, tN (A.1 6) * n) = cbC (PA z A WD) T k w (leaN A + n) := by
  unfold cbC
  show _ = (if w + (leaN A + n) ≤ colN A then tN (A.1 6) * (leaN A + n - leaN A) + T (k + 1) (w + (leaN A + n)) 0 else EE)
  rw [Nat.add_sub_cancel_left]; rfl
theorem StC.pickB {u u1 : CW} {z k w p V n : Nat} {ch WD : Nat → Nat} {A : CA} (h : StC u z ch WD A) (hk : k < z) (hl : ¬ ltF z ch k = true) (hL : LsK u u1 z ch WD A k) (hw : w ≤ colN A) (hp : p < 3) (hV : TC u k w p = V) (hV2 : V < EE) (n1 : leaN A ≤ n) (n2 : n ≤ mosN A) (hc : cbC (PA z A WD) (TC u) k w n = V) (hb : ∀ m, leaN A ≤ m → m < n → cbC (PA z A WD) (TC u) k w m ≠ V) : ∃ i, i < 9 ∧ f_X6_bestChoice u1 (nI k) (nI w) (nI p) = some (nI i) ∧ u1.1 43 i = nI 1 ∧ u1.1 44 i = nI n := by
  have ec : chs z ch WD A k = chB (leaN A) (tN (A.1 6)) (mosN A + 1 - leaN A) := if_neg hl
  have hlen := hL.chs.2.2.2.1
  have hB := h.best hk hL hw hp hV (by omega)
  have hget := hL.chs.2.2.2.2 (n - leaN A) (by rw [ec, chB_len]; omega)
  rw [if_neg hl, ec, chB_len] at hB
  rw [ec, chB_len] at hlen
  rw [ec, chB_get _ _ _ _ (by omega)] at hget
  have e : leaN A + (n - leaN A) = n := by omega
  have ei : cvl (colN A) (TC u) k w 0 (1, leaN A + (n - leaN A), tN (A.1 6) * (n - leaN A)) = V := by
    rw [cvl_cb (z := z) (WD := WD), e]; exact hc
  rcases hB with ⟨-, b2⟩ | ⟨j, j1, j2, j3, j4⟩
  · exact absurd (by rw [chB_get _ _ _ _ (by omega)]; exact ei) (b2 (n - leaN A) (by omega))
  · have : j = n - leaN A := by
      rcases Nat.lt_trichotomy j (n - leaN A) with c | c | c
      · rw [chB_get _ _ _ _ (by omega), cvl_cb (z := z) (WD := WD)] at j3
        exact absurd j3 (hb _ (by omega) (by omega))
      · exact c
      · exact absurd (by rw [chB_get _ _ _ _ (by omega)]; exact ei) (j4 (n - leaN A) c)
    subst this
    refine ⟨_, by omega, j2, hget.1, ?_⟩
    have := hget.2.1
    rw [this]
    show nI (leaN A + (n - leaN A)) = _
    rw [e]
theorem StC.pickN {u u1 : CW} {z k w p V : Nat} {ch WD : Nat → Nat} {A : CA} (h : StC u z ch WD A) (hk : k < z) (hl : ¬ ltF z ch k = true) (hL : LsK u u1 z ch WD A k) (hw : w ≤ colN A) (hp : p < 3) (hV : TC u k w p = V) (hV2 : V < EE) (hb : ∀ m, leaN A ≤ m → m ≤ mosN A → cbC (PA z A WD) (TC u) k w m ≠ V) : f_X6_bestChoice u1 (nI k) (nI w) (nI p) = some (-nI 1) := by
  have ec : chs z ch WD A k = chB (leaN A) (tN (A.1 6)) (mosN A + 1 - leaN A) := if_neg hl
  have hB := h.best hk hL hw hp hV (by omega)
  rw [if_neg hl, ec, chB_len] at hB
  rcases hB with ⟨b1, -⟩ | ⟨j, j1, -, j3, -⟩
  · exact b1
  · rw [chB_get _ _ _ _ (by omega), cvl_cb (z := z) (WD := WD)] at j3
    exact absurd j3 (hb _ (by omega) (by omega))
