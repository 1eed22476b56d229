/-! calls that only read: done -/
theorem le_pred {a : Int32} {m : Nat} (hm : m ≤ 100000) : a ≤ nI m - 1 ↔ a < nI m := by
  rw [i_le, i_lt, Int32.toInt_sub, nI_toInt (by omega)]
  have k1 : (1 : Int32).toInt = 1 := rfl
  rw [k1, Int.bmod_eq_of_le (by omega) (by omega)]
  omega
theorem Sim_size {w v : CW} (h : Sim w v) (q : Nat × Nat) (hq : q ∈ sizT) : ∃ m, m ≤ q.2 ∧ v.1 0 q.1 = nI m := by
  have h1 := Sim_siz h q hq
  have h2 := fx_s q hq
  have h3 := i_rg (Nat.lt_of_le_of_lt h2.2.2 (by decide)) h1.1 h1.2
  exact ⟨tN (v.1 0 q.1), h3.2, h3.1⟩
theorem Sim_lis {w v : CW} (h : Sim w v) (q : Nat × Nat × Nat × Nat) (hq : q ∈ lisT) {m : Nat} (hm : m < 2 ^ 31) (hs : v.1 0 q.2.2.1 = nI m) (i : Nat) (hi : i < q.2.2.2 * m) : w.1 q.1 i = v.1 0 (q.2.1 + i) := by
  refine h.1.2.1 q hq i ?_
  rw [hs]
  show i < q.2.2.2 * (nI m).toNatClampNeg
  rw [nI_clamp hm]
  exact hi
theorem s_done {w v : CW} (h : Sim w v) (a b : Int32) : Same w v (some (f_X11_done w a b, w)) ((f_X12_done v a b).map (fun x => (x, v))) := by
  obtain ⟨m, hm, hs⟩ := Sim_size h (4, 12) (by decide)
  have hs : v.1 0 4 = nI m := hs
  have hm : m ≤ 12 := hm
  have ho : w.2.1 20 = nI m := (Sim_own h (20, 4) (by decide)).trans hs
  have z4 : ¬ ((4 : Int32) < 0 ∨ 3250 ≤ (4 : Int32).toNatClampNeg) := by decide
  have y4 : (4 : Int32).toNatClampNeg = 4 := by decide
  unfold f_X11_done f_X12_done f_X5_size
  rw [if_neg z4, y4, hs, ho]
  by_cases c1 : a < 0
  · rw [if_pos c1, if_pos (in_0 fun q => absurd c1 (Int32.not_lt.mpr q.1))]
    exact ⟨_, _, _, rfl, rfl, h⟩
  by_cases c2 : a < nI m
  · rw [if_neg c1, if_pos c2, if_neg (in_1 (Int32.not_lt.mp c1) ((le_pred (by omega)).mpr c2))]
    obtain ⟨i, hi, rfl⟩ := i_ex (n := m) (by omega) c1 (Int32.le_of_lt c2)
    have hi : i < m := by
      rw [i_lt, nI_toInt (by omega), nI_toInt (by omega)] at c2
      omega
    obtain ⟨p1, p2⟩ := r_ok (b := 2880) (i := i) (by omega)
    obtain ⟨q1, q2⟩ := r_ok (b := 2892) (i := i) (by omega)
    obtain ⟨r1, r2⟩ := r_ok (b := 2904) (i := i) (by omega)
    have p1 : ¬ (2880 + nI i < 0 ∨ 3250 ≤ (2880 + nI i).toNatClampNeg) := p1
    have q1 : ¬ (2892 + nI i < 0 ∨ 3250 ≤ (2892 + nI i).toNatClampNeg) := q1
    have r1 : ¬ (2904 + nI i < 0 ∨ 3250 ≤ (2904 + nI i).toNatClampNeg) := r1
    have p2 : (2880 + nI i).toNatClampNeg = 2880 + i := p2
    have q2 : (2892 + nI i).toNatClampNeg = 2892 + i := q2
    have r2 : (2904 + nI i).toNatClampNeg = 2904 + i := r2
    rw [if_neg p1, if_neg q1, if_neg r1, p2, q2, r2, c_at (k := 20) (by show i < 12; omega) (by omega), c_at (k := 21) (by show i < 12; omega) (by omega), c_at (k := 22) (by show i < 12; omega) (by omega), Sim_lis h (20, 2880, 4, 1) (by decide) (by omega) hs i (by show i < 1 * m; omega), Sim_lis h (21, 2892, 4, 1) (by decide) (by omega) hs i (by show i < 1 * m; omega), Sim_lis h (22, 2904, 4, 1) (by decide) (by omega) hs i (by show i < 1 * m; omega)]
    by_cases d0 : b = 0
    · rw [if_pos d0, if_pos d0]; exact ⟨_, _, _, rfl, rfl, h⟩
    rw [if_neg d0, if_neg d0]
    by_cases d1 : b = 1
    · rw [if_pos d1, if_pos d1]; exact ⟨_, _, _, rfl, rfl, h⟩
    rw [if_neg d1, if_neg d1]
    by_cases d2 : b = 2
    · rw [if_pos d2, if_pos d2]; exact ⟨_, _, _, rfl, rfl, h⟩
    rw [if_neg d2, if_neg d2]
    exact ⟨_, _, _, rfl, rfl, h⟩
  · rw [if_neg c1, if_neg c2, if_pos (in_0 fun q => c2 ((le_pred (by omega)).mp q.2))]
    exact ⟨_, _, _, rfl, rfl, h⟩
