def f_X10_spellingOf (a0 : Int32) : Nat := (if a0 = 0 then 0 else (if a0 = 1 then 1 else (if a0 = 2 then 2 else (if a0 = 3 then 3 else (if a0 = 4 then 4 else (if a0 = 5 then 5 else (if a0 = 6 then 6 else 7)))))))
abbrev rm_X10_spellingOf : Room := { frames := 1, cells := 0, slots := 0, locals := 0 }
theorem cn_X10_spellingOf : CN yX10_spellingOf 1 := ⟨by decide +kernel, by decide +kernel, by decide +kernel⟩
set_option maxHeartbeats 4000000 in
set_option maxRecDepth 100000 in
theorem c_X10_spellingOf (l : Launch) (G : GX) (P : Heap → Prop) (A : Nat → Prop) (hAG : ∀ q, A q → gA G q) (a0 : Int32) (q : Nat) (hf : f_X10_spellingOf a0 = q) : MR l G yX10_spellingOf cX10_spellingOf 1 (some (.object "java/lang/String")) rm_X10_spellingOf [.int a0] A P P (G.2.2.2.1 q) := by
  refine cM_start (by decide +kernel) (Nat.le_of_ble_eq_true rfl) ?_
  intro p e s m below meth c ls X hH hl
  have hS : va_S A s.heap s.heap [] := va_S.rf
  have hx := X.1.1
  have hb := X.1.2.1
  generalize hargs : ([.int a0] : List Value).toArray = args at X ⊢
  generalize hQ : MQ below (QR A P (G.2.2.2.1 q)) args s 0 0 A = Q
  have hl : lv_has ls 1 [(0, .int a0)] := hl
  unfold f_X10_spellingOf at hf
  refine lv_iload_n hx hb dX10_spellingOf_0 rfl (lv_at hl 0 rfl) ?_
  by_cases hc0 : a0 = 0
  · have hf := fo_t hc0 hf
    refine lv_tableIn (tgt := 44) hx hb dX10_spellingOf_1 (by rw [hc0]; decide) (by rw [hc0]; decide) (by rw [hc0]; rfl) (by decide) ?_
    refine va_ldcS hx hb X.1.2.2.2.1 (X.2.2.2.2.2.1 0 (by decide)) dX10_spellingOf_44 ?_
    subst hf
    subst hQ
    exact cEr X (Or.inl ⟨_, rfl⟩) hH hS dX10_spellingOf_46
  have hf := fo_f hc0 hf
  by_cases hc1 : a0 = 1
  · have hf := fo_t hc1 hf
    refine lv_tableIn (tgt := 47) hx hb dX10_spellingOf_1 (by rw [hc1]; decide) (by rw [hc1]; decide) (by rw [hc1]; rfl) (by decide) ?_
    refine va_ldcS hx hb X.1.2.2.2.1 (X.2.2.2.2.2.1 1 (by decide)) dX10_spellingOf_47 ?_
    subst hf
    subst hQ
    exact cEr X (Or.inl ⟨_, rfl⟩) hH hS dX10_spellingOf_49
  have hf := fo_f hc1 hf
  by_cases hc2 : a0 = 2
  · have hf := fo_t hc2 hf
    refine lv_tableIn (tgt := 50) hx hb dX10_spellingOf_1 (by rw [hc2]; decide) (by rw [hc2]; decide) (by rw [hc2]; rfl) (by decide) ?_
    refine va_ldcS hx hb X.1.2.2.2.1 (X.2.2.2.2.2.1 2 (by decide)) dX10_spellingOf_50 ?_
    subst hf
    subst hQ
    exact cEr X (Or.inl ⟨_, rfl⟩) hH hS dX10_spellingOf_52
  have hf := fo_f hc2 hf
  by_cases hc3 : a0 = 3
  · have hf := fo_t hc3 hf
    refine lv_tableIn (tgt := 53) hx hb dX10_spellingOf_1 (by rw [hc3]; decide) (by rw [hc3]; decide) (by rw [hc3]; rfl) (by decide) ?_
    refine va_ldcS hx hb X.1.2.2.2.1 (X.2.2.2.2.2.1 3 (by decide)) dX10_spellingOf_53 ?_
    subst hf
    subst hQ
    exact cEr X (Or.inl ⟨_, rfl⟩) hH hS dX10_spellingOf_55
  have hf := fo_f hc3 hf
  by_cases hc4 : a0 = 4
  · have hf := fo_t hc4 hf
    refine lv_tableIn (tgt := 56) hx hb dX10_spellingOf_1 (by rw [hc4]; decide) (by rw [hc4]; decide) (by rw [hc4]; rfl) (by decide) ?_
    refine va_ldcS hx hb X.1.2.2.2.1 (X.2.2.2.2.2.1 4 (by decide)) dX10_spellingOf_56 ?_
    subst hf
    subst hQ
    exact cEr X (Or.inl ⟨_, rfl⟩) hH hS dX10_spellingOf_58
  have hf := fo_f hc4 hf
  by_cases hc5 : a0 = 5
  · have hf := fo_t hc5 hf
    refine lv_tableIn (tgt := 59) hx hb dX10_spellingOf_1 (by rw [hc5]; decide) (by rw [hc5]; decide) (by rw [hc5]; rfl) (by decide) ?_
    refine va_ldcS hx hb X.1.2.2.2.1 (X.2.2.2.2.2.1 5 (by decide)) dX10_spellingOf_59 ?_
    subst hf
    subst hQ
    exact cEr X (Or.inl ⟨_, rfl⟩) hH hS dX10_spellingOf_61
  have hf := fo_f hc5 hf
  by_cases hc6 : a0 = 6
  · have hf := fo_t hc6 hf
    refine lv_tableIn (tgt := 62) hx hb dX10_spellingOf_1 (by rw [hc6]; decide) (by rw [hc6]; decide) (by rw [hc6]; rfl) (by decide) ?_
    refine va_ldcS hx hb X.1.2.2.2.1 (X.2.2.2.2.2.1 6 (by decide)) dX10_spellingOf_62 ?_
    subst hf
    subst hQ
    exact cEr X (Or.inl ⟨_, rfl⟩) hH hS dX10_spellingOf_64
  have hf := fo_f hc6 hf
  refine lv_tableOut (tgt := 65) hx hb dX10_spellingOf_1 (sw_out (ks := [0, 1, 2, 3, 4, 5, 6]) (by intro k hk; simp only [List.mem_cons, List.not_mem_nil, or_false] at hk; rcases hk with rfl | rfl | rfl | rfl | rfl | rfl | rfl <;> assumption) (sw_all 0 [0, 1, 2, 3, 4, 5, 6] (by decide))) (by decide) ?_
  refine va_ldcS hx hb X.1.2.2.2.1 (X.2.2.2.2.2.1 7 (by decide)) dX10_spellingOf_65 ?_
  subst hf
  subst hQ
  exact cEr X (Or.inl ⟨_, rfl⟩) hH hS dX10_spellingOf_67
theorem sl_X10_spellingOf (a0 : Int32) : f_X10_spellingOf a0 < 16 := by
  unfold f_X10_spellingOf
  repeat' split
  all_goals decide
def f_X1_follow_L35 (rc : CW → Int32 → Int32 → Int32 → Option (Int32 × CW)) (a1 : Int32) (a2 : Int32) (a3 : Int32) (x7 : Int32) : Nat → Int32 → Int32 → CW → Option (Int32 × CW)
  | 0, _, _, _ => none
  | n35 + 1, v35_5, v35_6, w35_ => (if x7 ≤ v35_6 then (some (v35_5, w35_)) else (nmk (if a1 = 0 then 0 else ((rAt w35_ 27 v35_6) ^^^ (rAt w35_ 27 (rAt w35_ 51 (a1 - 1))))) fun (x77 : Int32) => (nmk (fun (y127_5 : Int32) (w127_ : CW) => (nmk (v35_6 + 1) fun (x127 : Int32) => (f_X1_follow_L35 rc a1 a2 a3 x7 n35 y127_5 x127 w127_))) fun j127 => (if ((a2 >>> (v35_6 &&& 31)) &&& 1) = 0 then (if (x77 &&& a3) = 0 then (nmk (rPut w35_ 51 a1 v35_6) fun q102 => (Option.bind (rc q102 (a1 + 1) (a2 ||| ((1 : Int32) <<< (v35_6 &&& 31))) (a3 ||| x77)) fun q121 => (nmk (v35_5 + q121.1) fun (x125 : Int32) => (j127 x125 q121.2)))) else (j127 v35_5 w35_)) else (j127 v35_5 w35_)))))
def h_X1_follow (rc : CW → Int32 → Int32 → Int32 → Option (Int32 × CW)) (w : CW) (a1 : Int32) (a2 : Int32) (a3 : Int32) : Option (Int32 × CW) := (nmk (f_X5_size w 27) fun (x7 : Int32) => (nmk (fun (_ : Unit) => (Option.bind (f_X1_keepFirst w x7) fun q24 => (some (1, q24)))) fun j21 => (if x7 ≤ a1 then (j21 ()) else (if a1 < 7 then (f_X1_follow_L35 rc a1 a2 a3 x7 FU 0 0 w) else (j21 ())))))
def f_X1_follow : Nat → CW → Int32 → Int32 → Int32 → Option (Int32 × CW)
  | 0 => fun _ _ _ _ => none
  | d + 1 => h_X1_follow (f_X1_follow d)
abbrev KF_X1_follow : Nat := 4
abbrev KL_X1_follow : Nat := 70
abbrev rmU_X1_follow (rmd : Room) : Room := { frames := rmd.frames + KF_X1_follow, cells := 0, slots := 0, locals := rmd.locals + KL_X1_follow }
def rmR_X1_follow (d : Nat) : Room := { frames := KF_X1_follow * d, cells := 0, slots := 0, locals := KL_X1_follow * d }
theorem cn_X1_follow : CN yX1_follow 4 := ⟨by decide +kernel, by decide +kernel, by decide +kernel⟩
set_option maxHeartbeats 4000000 in
set_option maxRecDepth 100000 in
theorem b_X1_follow (l : Launch) (G : GX) (rmd : Room) (hrz : rmd.cells = 0 ∧ rmd.slots = 0) (rc : CW → Int32 → Int32 → Int32 → Option (Int32 × CW)) (hrc : ∀ (w : CW) (a1 : Int32) (a2 : Int32) (a3 : Int32) (q : Int32 × CW), rc w a1 a2 a3 = some q → MI l G yX1_follow cX1_follow 8 (some .int) rmd [.ref (G.2.2.1 199), .int a1, .int a2, .int a3] (cA G) (cH G w) (cH G q.2) q.1) (w : CW) (a1 : Int32) (a2 : Int32) (a3 : Int32) (q : Int32 × CW) (hf : h_X1_follow rc w a1 a2 a3 = some q) : MI l G yX1_follow cX1_follow 8 (some .int) (rmU_X1_follow rmd) [.ref (G.2.2.1 199), .int a1, .int a2, .int a3] (cA G) (cH G w) (cH G q.2) q.1 := by
  refine cM_start (by decide +kernel) (Nat.le_of_ble_eq_true rfl) ?_
  intro p e s m below meth c ls X hH hl
  have hS : va_S (cA G) s.heap s.heap [] := va_S.rf
  have hx := X.1.1
  have hb := X.1.2.1
  generalize hargs : ([.ref (G.2.2.1 199), .int a1, .int a2, .int a3] : List Value).toArray = args at X ⊢
  generalize hQ : MQ below (QI (cA G) (cH G q.2) q.1) args s 0 0 (cA G) = Q
  have hl : lv_has ls 8 [(0, .ref (G.2.2.1 199)), (1, .int a1), (2, .int a2), (3, .int a3)] := hl
  unfold h_X1_follow at hf
  refine lv_aload_n hx hb dX1_follow_0 rfl (lv_at hl 0 rfl) ?_
  refine co_get X hH 199 (by decide) eO199 rfl inBX1 0 (by decide) rfl bw504 dX1_follow_1 ?_
  refine cGi (cVrun (rest := []) X (c_X5_size l G w 27 (by decide) _ rfl) bw1170 bw624 bw625 bw91 bw626 cn_X5_size ⟨rfl, rfl, Nat.le_trans (Nat.le_of_ble_eq_true rfl) (Nat.le_add_left KF_X1_follow rmd.frames), Nat.le_trans (Nat.le_of_ble_eq_true rfl) (Nat.le_add_left KL_X1_follow rmd.locals)⟩ (c_recR X hH (by decide)) cA_g hH hS hl rfl (Nat.le_of_ble_eq_true rfl) dX1_follow_4) hS (fun H locs hH hS => ?_)
  refine lv_topi (fun x7 ex7 => ?_)
  have hf := nm_s hf x7 ex7
  refine lv_istore (lv' := [(4, .int x7), (0, .ref (G.2.2.1 199)), (1, .int a1), (2, .int a2), (3, .int a3)]) hx hb dX1_follow_7 hl (by decide) rfl (fun ls hl => ?_)
  refine lv_iload_n hx hb dX1_follow_9 rfl (lv_at hl 2 rfl) ?_
  refine lv_iload hx hb dX1_follow_10 (lv_at hl 0 rfl) ?_
  obtain ⟨j21, ej21, hf⟩ := nm_x hf
  have hj21 : ∀ (u0 : Unit) (H : Heap) (locs : List Loc) (ls : Array Slot), j21 u0 = some q → cH G w H → va_S (cA G) s.heap H locs → lv_has ls 8 [(4, .int x7), (0, .ref (G.2.2.1 199))] → W p l e (rmU_X1_follow rmd) s m args below meth c H locs 0 0 Q (F0 m 21 ls []) := by
    intro u0 H locs ls hf hH hS hl
    have hf := jb1 ej21 hf
    refine lv_aload_n hx hb dX1_follow_21 rfl (lv_at hl 1 rfl) ?_
    refine lv_iload hx hb dX1_follow_22 (lv_at hl 0 rfl) ?_
    obtain ⟨q24, hq24, hf⟩ := bd_s hf
    refine cGv (cVrun (rest := []) X (c_X1_keepFirst l G w x7 q24 hq24) bw1171 bw1173 bw39 bw103 bw1174 cn_X1_keepFirst ⟨rfl, rfl, Nat.le_trans (Nat.le_of_ble_eq_true rfl) (Nat.le_add_left KF_X1_follow rmd.frames), Nat.le_trans (Nat.le_of_ble_eq_true rfl) (Nat.le_add_left KL_X1_follow rmd.locals)⟩ (c_rec X hH 199 (by decide) eO199 rfl) cA_g hH hS hl rfl (Nat.le_of_ble_eq_true rfl) dX1_follow_24) hS (fun H locs hH hS => ?_)
    refine lv_iconst (v := 1) hx hb dX1_follow_27 (by decide) ?_
    subst hQ
    exact cEi X (cH2 (so_s hf) hH) hS (pf1 (so_s hf)) dX1_follow_28
  refine lv_icmp_ge (tgt := 21) hx hb dX1_follow_12 (by decide) (fun hc => ?_) (fun hc => ?_)
  · have hf := fo_t hc hf
    exact hj21 () _ _ _ hf hH hS (lv_sub hl [0, 1] rfl)
  have hf := fo_f hc hf
  refine lv_iload_n hx hb dX1_follow_15 rfl (lv_at hl 2 rfl) ?_
  refine lv_bipush (v := 7) hx hb dX1_follow_16 (by decide) ?_
  refine lv_icmp_lt (tgt := 29) hx hb dX1_follow_18 (by decide) (fun hc => ?_) (fun hc => ?_)
  rotate_left
  · have hf := fo_f hc hf
    exact hj21 () _ _ _ hf hH hS (lv_sub hl [0, 1] rfl)
  have hf := fo_t hc hf
  refine lv_iconst (v := 0) hx hb dX1_follow_29 (by decide) ?_
  refine lv_istore (lv' := [(5, .int 0), (4, .int x7), (0, .ref (G.2.2.1 199)), (1, .int a1), (2, .int a2), (3, .int a3)]) hx hb dX1_follow_30 hl (by decide) rfl (fun ls hl => ?_)
  refine lv_iconst (v := 0) hx hb dX1_follow_32 (by decide) ?_
  refine lv_istore (lv' := [(6, .int 0), (5, .int 0), (4, .int x7), (0, .ref (G.2.2.1 199)), (1, .int a1), (2, .int a2), (3, .int a3)]) hx hb dX1_follow_33 hl (by decide) rfl (fun ls hl => ?_)
  have hL35 : ∀ (n35 : Nat) (v35_5 : Int32) (v35_6 : Int32) (w35_ : CW) (H : Heap) (locs : List Loc) (ls : Array Slot), f_X1_follow_L35 rc a1 a2 a3 x7 n35 v35_5 v35_6 w35_ = some q → cH G w35_ H → va_S (cA G) s.heap H locs → lv_has ls 8 [(6, .int v35_6), (5, .int v35_5), (4, .int x7), (0, .ref (G.2.2.1 199)), (1, .int a1), (2, .int a2), (3, .int a3)] → W p l e (rmU_X1_follow rmd) s m args below meth c H locs 0 0 Q (F0 m 35 ls []) := by
    intro n35
    induction n35 with
    | zero => intro v35_5 v35_6 w35_ H locs ls hf; rw [f_X1_follow_L35] at hf; cases hf
    | succ n35 ih35 =>
      intro v35_5 v35_6 w35_ H locs ls hf hH hS hl
      rw [f_X1_follow_L35] at hf
      refine lv_iload hx hb dX1_follow_35 (lv_at hl 0 rfl) ?_
      refine lv_iload hx hb dX1_follow_37 (lv_at hl 2 rfl) ?_
      refine lv_icmp_ge (tgt := 133) hx hb dX1_follow_39 (by decide) (fun hc => ?_) (fun hc => ?_)
      · have hf := fo_t hc hf
        refine lv_iload hx hb dX1_follow_133 (lv_at hl 1 rfl) ?_
        subst hQ
        exact cEi X (cH2 (so_s hf) hH) hS (pf1 (so_s hf)) dX1_follow_135
      have hf := fo_f hc hf
      refine lv_iload_n hx hb dX1_follow_42 rfl (lv_at hl 4 rfl) ?_
      have hJ : ∀ (H : Heap) (locs : List Loc), cH G w35_ H → va_S (cA G) s.heap H locs → W p l e (rmU_X1_follow rmd) s m args below meth c H locs 0 0 Q (F0 m 77 ls [.int (if a1 = 0 then 0 else ((rAt w35_ 27 v35_6) ^^^ (rAt w35_ 27 (rAt w35_ 51 (a1 - 1)))))]) := by
        intro H locs hH hS
        refine lv_topi (fun x77 ex77 => ?_)
        have hf := nm_s hf x77 ex77
        refine lv_istore (lv' := [(7, .int x77), (6, .int v35_6), (5, .int v35_5), (4, .int x7), (0, .ref (G.2.2.1 199)), (1, .int a1), (2, .int a2), (3, .int a3)]) hx hb dX1_follow_77 hl (by decide) rfl (fun ls hl => ?_)
        refine lv_iload_n hx hb dX1_follow_79 rfl (lv_at hl 6 rfl) ?_
        refine lv_iload hx hb dX1_follow_80 (lv_at hl 1 rfl) ?_
        refine lv_ishr hx hb dX1_follow_82 ?_
        refine lv_iconst (v := 1) hx hb dX1_follow_83 (by decide) ?_
        refine lv_iand hx hb dX1_follow_84 ?_
        obtain ⟨j127, ej127, hf⟩ := nm_x hf
        have hj127 : ∀ (y127_5 : Int32) (w127_ : CW) (H : Heap) (locs : List Loc) (ls : Array Slot), j127 y127_5 w127_ = some q → cH G w127_ H → va_S (cA G) s.heap H locs → lv_has ls 8 [(6, .int v35_6), (5, .int y127_5), (4, .int x7), (0, .ref (G.2.2.1 199)), (1, .int a1), (2, .int a2), (3, .int a3)] → W p l e (rmU_X1_follow rmd) s m args below meth c H locs 0 0 Q (F0 m 127 ls []) := by
          intro y127_5 w127_ H locs ls hf hH hS hl
          have hf := jb2 ej127 hf
          obtain ⟨x127, ex127⟩ : ∃ z : Int32, z = (v35_6 + 1) := ⟨_, rfl⟩
          have hf := nm_s hf x127 ex127
          refine lv_iinc (v := x127) (lv' := [(6, .int x127), (5, .int y127_5), (4, .int x7), (0, .ref (G.2.2.1 199)), (1, .int a1), (2, .int a2), (3, .int a3)]) hx hb dX1_follow_127 hl (k := 0) rfl (by rw [ex127]; rfl) (by decide) rfl (fun ls hl => ?_)
          refine lv_goto (tgt := 35) hx hb dX1_follow_130 (by decide) ?_
          exact ih35 _ _ _ _ _ _ hf hH hS (lv_sub hl [0, 1, 2, 3, 4, 5, 6] rfl)
        refine lv_if_ne (tgt := 127) hx hb dX1_follow_85 (by decide) (fun hc => ?_) (fun hc => ?_)
        · have hf := fo_f hc hf
          exact hj127 _ _ _ _ _ hf hH hS (lv_sub hl [1, 2, 3, 4, 5, 6, 7] rfl)
        have hf := fo_t hc hf
        refine lv_iload hx hb dX1_follow_88 (lv_at hl 0 rfl) ?_
        refine lv_iload_n hx hb dX1_follow_90 rfl (lv_at hl 7 rfl) ?_
        refine lv_iand hx hb dX1_follow_91 ?_
        refine lv_if_ne (tgt := 127) hx hb dX1_follow_92 (by decide) (fun hc => ?_) (fun hc => ?_)
        · have hf := fo_f hc hf
          exact hj127 _ _ _ _ _ hf hH hS (lv_sub hl [1, 2, 3, 4, 5, 6, 7] rfl)
        have hf := fo_t hc hf
        refine lv_aload_n hx hb dX1_follow_95 rfl (lv_at hl 4 rfl) ?_
        refine co_get X hH 199 (by decide) eO199 rfl inBX1 3 (by decide) rfl bw510 dX1_follow_96 ?_
        refine lv_iload_n hx hb dX1_follow_99 rfl (lv_at hl 5 rfl) ?_
        refine lv_iload hx hb dX1_follow_100 (lv_at hl 1 rfl) ?_
        obtain ⟨q102, hq102, hf⟩ := nm_x hf
        have hq102 := hq102.symm
        refine cGv (cVrun (rest := []) X (cl_X5_put l G w35_ 51 (by decide) a1 v35_6 q102 hq102) bw1177 bw352 bw353 bw91 bw354 cn_X5_put ⟨rfl, rfl, Nat.le_trans (Nat.le_of_ble_eq_true rfl) (Nat.le_add_left KF_X1_follow rmd.frames), Nat.le_trans (Nat.le_of_ble_eq_true rfl) (Nat.le_add_left KL_X1_follow rmd.locals)⟩ (c_recR X hH (by decide)) cA_g hH hS hl rfl (Nat.le_of_ble_eq_true rfl) dX1_follow_102) hS (fun H locs hH hS => ?_)
        refine lv_iload hx hb dX1_follow_105 (lv_at hl 2 rfl) ?_
        refine lv_aload_n hx hb dX1_follow_107 rfl (lv_at hl 4 rfl) ?_
        refine lv_iload_n hx hb dX1_follow_108 rfl (lv_at hl 5 rfl) ?_
        refine lv_iconst (v := 1) hx hb dX1_follow_109 (by decide) ?_
        refine lv_iadd hx hb dX1_follow_110 ?_
        refine lv_iload_n hx hb dX1_follow_111 rfl (lv_at hl 6 rfl) ?_
        refine lv_iconst (v := 1) hx hb dX1_follow_112 (by decide) ?_
        refine lv_iload hx hb dX1_follow_113 (lv_at hl 1 rfl) ?_
        refine lv_ishl hx hb dX1_follow_115 ?_
        refine lv_ior hx hb dX1_follow_116 ?_
        refine lv_iload_n hx hb dX1_follow_117 rfl (lv_at hl 7 rfl) ?_
        refine lv_iload hx hb dX1_follow_118 (lv_at hl 0 rfl) ?_
        refine lv_ior hx hb dX1_follow_120 ?_
        obtain ⟨q121, hq121, hf⟩ := bd_s hf
        refine cGi (cSrun (rest := [.int v35_5]) X (hrc q102 (a1 + 1) (a2 ||| ((1 : Int32) <<< (v35_6 &&& 31))) (a3 ||| x77) q121 hq121) bw1167 bw1168 bw103 bw1169 cn_X1_follow ⟨hrz.1, hrz.2, Nat.add_le_add_left (Nat.le_of_ble_eq_true rfl) _, Nat.le_trans (Nat.le_of_eq (Nat.add_comm _ _)) (Nat.add_le_add_left (Nat.le_of_ble_eq_true rfl) _)⟩ cA_g hH hS hl rfl (Nat.le_of_ble_eq_true rfl) dX1_follow_121) hS (fun H locs hH hS => ?_)
        refine lv_iadd hx hb dX1_follow_124 ?_
        refine lv_topi (fun x125 ex125 => ?_)
        have hf := nm_s hf x125 ex125
        refine lv_istore (lv' := [(5, .int x125), (7, .int x77), (6, .int v35_6), (4, .int x7), (0, .ref (G.2.2.1 199)), (1, .int a1), (2, .int a2), (3, .int a3)]) hx hb dX1_follow_125 hl (by decide) rfl (fun ls hl => ?_)
        exact hj127 _ _ _ _ _ hf hH hS (lv_sub hl [2, 0, 3, 4, 5, 6, 7] rfl)
      refine lv_if_ne (tgt := 50) hx hb dX1_follow_43 (by decide) (fun hc43 => ?_) (fun hc43 => ?_)
      · refine lv_aload_n hx hb dX1_follow_50 rfl (lv_at hl 3 rfl) ?_
        refine co_get X hH 199 (by decide) eO199 rfl inBX1 0 (by decide) rfl bw504 dX1_follow_51 ?_
        refine lv_iload hx hb dX1_follow_54 (lv_at hl 0 rfl) ?_
        refine cGi (cVrun (rest := []) X (cl_X5_at l G w35_ 27 (by decide) v35_6 _ rfl) bw1175 bw628 bw629 bw91 bw630 cn_X5_at ⟨rfl, rfl, Nat.le_trans (Nat.le_of_ble_eq_true rfl) (Nat.le_add_left KF_X1_follow rmd.frames), Nat.le_trans (Nat.le_of_ble_eq_true rfl) (Nat.le_add_left KL_X1_follow rmd.locals)⟩ (c_recR X hH (by decide)) cA_g hH hS hl rfl (Nat.le_of_ble_eq_true rfl) dX1_follow_56) hS (fun H locs hH hS => ?_)
        refine lv_aload_n hx hb dX1_follow_59 rfl (lv_at hl 3 rfl) ?_
        refine co_get X hH 199 (by decide) eO199 rfl inBX1 0 (by decide) rfl bw504 dX1_follow_60 ?_
        refine lv_aload_n hx hb dX1_follow_63 rfl (lv_at hl 3 rfl) ?_
        refine co_get X hH 199 (by decide) eO199 rfl inBX1 3 (by decide) rfl bw510 dX1_follow_64 ?_
        refine lv_iload_n hx hb dX1_follow_67 rfl (lv_at hl 4 rfl) ?_
        refine lv_iconst (v := 1) hx hb dX1_follow_68 (by decide) ?_
        refine lv_isub hx hb dX1_follow_69 ?_
        refine cGi (cVrun (rest := [.ref (G.2.2.1 27), .int (rAt w35_ 27 v35_6)]) X (cl_X5_at l G w35_ 51 (by decide) (a1 - 1) _ rfl) bw1175 bw628 bw629 bw91 bw630 cn_X5_at ⟨rfl, rfl, Nat.le_trans (Nat.le_of_ble_eq_true rfl) (Nat.le_add_left KF_X1_follow rmd.frames), Nat.le_trans (Nat.le_of_ble_eq_true rfl) (Nat.le_add_left KL_X1_follow rmd.locals)⟩ (c_recR X hH (by decide)) cA_g hH hS hl rfl (Nat.le_of_ble_eq_true rfl) dX1_follow_70) hS (fun H locs hH hS => ?_)
        refine cGi (cVrun (rest := [.int (rAt w35_ 27 v35_6)]) X (cl_X5_at l G w35_ 27 (by decide) (rAt w35_ 51 (a1 - 1)) _ rfl) bw1175 bw628 bw629 bw91 bw630 cn_X5_at ⟨rfl, rfl, Nat.le_trans (Nat.le_of_ble_eq_true rfl) (Nat.le_add_left KF_X1_follow rmd.frames), Nat.le_trans (Nat.le_of_ble_eq_true rfl) (Nat.le_add_left KL_X1_follow rmd.locals)⟩ (c_recR X hH (by decide)) cA_g hH hS hl rfl (Nat.le_of_ble_eq_true rfl) dX1_follow_73) hS (fun H locs hH hS => ?_)
        refine lv_ixor hx hb dX1_follow_76 ?_
        exact W.eq (by rw [if_neg hc43] <;> rfl) (hJ _ _ hH hS)
      · refine lv_iconst (v := 0) hx hb dX1_follow_46 (by decide) ?_
        refine lv_goto (tgt := 77) hx hb dX1_follow_47 (by decide) ?_
        exact W.eq (by rw [if_pos hc43] <;> rfl) (hJ _ _ hH hS)
  exact hL35 _ _ _ _ _ _ _ hf hH hS (lv_sub hl [0, 1, 2, 3, 4, 5, 6] rfl)
theorem cr_X1_follow (l : Launch) (G : GX) : ∀ (d : Nat) (w : CW) (a1 : Int32) (a2 : Int32) (a3 : Int32) (q : Int32 × CW), f_X1_follow d w a1 a2 a3 = some q → MI l G yX1_follow cX1_follow 8 (some .int) (rmR_X1_follow d) [.ref (G.2.2.1 199), .int a1, .int a2, .int a3] (cA G) (cH G w) (cH G q.2) q.1 := by
  intro d
  induction d with
  | zero => intro w a1 a2 a3 q hf; cases hf
  | succ d ih =>
    intro w a1 a2 a3 q hf
    have h := b_X1_follow l G (rmR_X1_follow d) ⟨rfl, rfl⟩ (f_X1_follow d) ih w a1 a2 a3 q hf
    exact h
abbrev rm_X1_follow : Room := { frames := 36, cells := 0, slots := 0, locals := 630 }
theorem c_X1_follow (l : Launch) (G : GX) (w : CW) (a1 : Int32) (a2 : Int32) (a3 : Int32) (q : Int32 × CW) (hf : f_X1_follow 9 w a1 a2 a3 = some q) : MI l G yX1_follow cX1_follow 8 (some .int) rm_X1_follow [.ref (G.2.2.1 199), .int a1, .int a2, .int a3] (cA G) (cH G w) (cH G q.2) q.1 := cr_X1_follow l G 9 w a1 a2 a3 q hf
def f_X1_countStateOrders (w : CW) : Option (Int32 × CW) := (nmk (f_X5_clear w 52) fun q4 => (Option.bind (f_X1_follow 9 q4 0 0 0) fun q11 => (some (q11.1, q11.2))))
abbrev rm_X1_countStateOrders : Room := { frames := 37, cells := 0, slots := 0, locals := 657 }
theorem cn_X1_countStateOrders : CN yX1_countStateOrders 0 := ⟨by decide +kernel, by decide +kernel, by decide +kernel⟩
set_option maxHeartbeats 4000000 in
set_option maxRecDepth 100000 in
theorem c_X1_countStateOrders (l : Launch) (G : GX) (w : CW) (q : Int32 × CW) (hf : f_X1_countStateOrders w = some q) : MI l G yX1_countStateOrders cX1_countStateOrders 1 (some .int) rm_X1_countStateOrders [.ref (G.2.2.1 199)] (cA G) (cH G w) (cH G q.2) q.1 := by
  refine cM_start (by decide +kernel) (Nat.le_of_ble_eq_true rfl) ?_
  intro p e s m below meth c ls X hH hl
  have hS : va_S (cA G) s.heap s.heap [] := va_S.rf
  have hx := X.1.1
  have hb := X.1.2.1
  generalize hargs : ([.ref (G.2.2.1 199)] : List Value).toArray = args at X ⊢
  generalize hQ : MQ below (QI (cA G) (cH G q.2) q.1) args s 0 0 (cA G) = Q
  have hl : lv_has ls 1 [(0, .ref (G.2.2.1 199))] := hl
  unfold f_X1_countStateOrders at hf
  refine lv_aload_n hx hb dX1_countStateOrders_0 rfl (lv_at hl 0 rfl) ?_
  refine co_get X hH 199 (by decide) eO199 rfl inBX1 4 (by decide) rfl bw511 dX1_countStateOrders_1 ?_
  obtain ⟨q4, hq4, hf⟩ := nm_x hf
  have hq4 := hq4.symm
  refine cGv (cVrun (rest := []) X (c_X5_clear l G w 52 (by decide) q4 hq4) bw1166 bw809 bw810 bw91 bw811 cn_X5_clear ⟨rfl, rfl, Nat.le_of_ble_eq_true rfl, Nat.le_of_ble_eq_true rfl⟩ (c_recR X hH (by decide)) cA_g hH hS hl rfl (Nat.le_of_ble_eq_true rfl) dX1_countStateOrders_4) hS (fun H locs hH hS => ?_)
  refine lv_aload_n hx hb dX1_countStateOrders_7 rfl (lv_at hl 0 rfl) ?_
  refine lv_iconst (v := 0) hx hb dX1_countStateOrders_8 (by decide) ?_
  refine lv_iconst (v := 0) hx hb dX1_countStateOrders_9 (by decide) ?_
  refine lv_iconst (v := 0) hx hb dX1_countStateOrders_10 (by decide) ?_
  obtain ⟨q11, hq11, hf⟩ := bd_s hf
  refine cGi (cSrun (rest := []) X (c_X1_follow l G q4 0 0 0 q11 hq11) bw1167 bw1168 bw103 bw1169 cn_X1_follow ⟨rfl, rfl, Nat.le_of_ble_eq_true rfl, Nat.le_of_ble_eq_true rfl⟩ cA_g hH hS hl rfl (Nat.le_of_ble_eq_true rfl) dX1_countStateOrders_11) hS (fun H locs hH hS => ?_)
  subst hQ
  exact cEi X (cH2 (so_s hf) hH) hS (pf1 (so_s hf)) dX1_countStateOrders_14
def f_X10_sameBytes_L2 (w : CW) (t1 : Nat) (j55 : Unit → Option (Int32)) : Nat → Int32 → Option (Int32)
  | 0, _ => none
  | n2 + 1, v2_2 => (if (f_J0_length t1) ≤ v2_2 then (j55 ()) else (if (f_X5_size w 1) ≤ ((w.2.2 0) + v2_2) then (some v2_2) else (Option.bind (f_J0_charAt t1 v2_2) fun q41 => (if (rAt w 1 ((w.2.2 0) + v2_2)) = q41 then (nmk (v2_2 + 1) fun (x49 : Int32) => (f_X10_sameBytes_L2 w t1 j55 n2 x49)) else (some v2_2)))))
def f_X10_sameBytes (w : CW) (t1 : Nat) : Option (Int32) := (nmk (fun (_ : Unit) => (some (f_J0_length t1))) fun j55 => (f_X10_sameBytes_L2 w t1 j55 FU 0))
abbrev rm_X10_sameBytes : Room := { frames := 5, cells := 0, slots := 0, locals := 85 }
theorem cn_X10_sameBytes : CN yX10_sameBytes 1 := ⟨by decide +kernel, by decide +kernel, by decide +kernel⟩
set_option maxHeartbeats 4000000 in
set_option maxRecDepth 100000 in
theorem c_X10_sameBytes (l : Launch) (G : GX) (w : CW) (t1 : Nat) (ht1 : t1 < 16) (q : Int32) (hf : f_X10_sameBytes w t1 = some q) : MI l G yX10_sameBytes cX10_sameBytes 3 (some .int) rm_X10_sameBytes [.ref (G.2.2.1 192), .ref (G.2.2.2.1 t1)] (cA G) (cH G w) (cH G w) q := by
  refine cM_start (by decide +kernel) (Nat.le_of_ble_eq_true rfl) ?_
  intro p e s m below meth c ls X hH hl
  have hS : va_S (cA G) s.heap s.heap [] := va_S.rf
  have hx := X.1.1
  have hb := X.1.2.1
  generalize hargs : ([.ref (G.2.2.1 192), .ref (G.2.2.2.1 t1)] : List Value).toArray = args at X ⊢
  generalize hQ : MQ below (QI (cA G) (cH G w) q) args s 0 0 (cA G) = Q
  have hl : lv_has ls 3 [(0, .ref (G.2.2.1 192)), (1, .ref (G.2.2.2.1 t1))] := hl
  unfold f_X10_sameBytes at hf
  refine lv_iconst (v := 0) hx hb dX10_sameBytes_0 (by decide) ?_
  refine lv_istore_n (lv' := [(2, .int 0), (0, .ref (G.2.2.1 192)), (1, .ref (G.2.2.2.1 t1))]) hx hb dX10_sameBytes_1 rfl hl (by decide) rfl (fun ls hl => ?_)
  obtain ⟨j55, ej55, hf⟩ := nm_x hf
  have hj55 : ∀ (u0 : Unit) (H : Heap) (locs : List Loc) (ls : Array Slot), j55 u0 = some q → cH G w H → va_S (cA G) s.heap H locs → lv_has ls 3 [(1, .ref (G.2.2.2.1 t1))] → W p l e rm_X10_sameBytes s m args below meth c H locs 0 0 Q (F0 m 55 ls []) := by
    intro u0 H locs ls hf hH hS hl
    have hf := jb1 ej55 hf
    refine lv_aload_n hx hb dX10_sameBytes_55 rfl (lv_at hl 0 rfl) ?_
    refine cGi (cVrun (rest := []) X (c_J0_length l G (cH G w) (cA G) cA_g t1 ht1 _ rfl) bw730 bw731 bw732 bw106 bw733 cn_J0_length_8abf5 ⟨rfl, rfl, Nat.le_of_ble_eq_true rfl, Nat.le_of_ble_eq_true rfl⟩ (g_recS X hS cA_g ht1) cA_g hH hS hl rfl (Nat.le_of_ble_eq_true rfl) dX10_sameBytes_56) hS (fun H locs hH hS => ?_)
    subst hQ
    exact cEi X hH hS (so_s hf) dX10_sameBytes_59
  have hL2 : ∀ (n2 : Nat) (v2_2 : Int32) (H : Heap) (locs : List Loc) (ls : Array Slot), f_X10_sameBytes_L2 w t1 j55 n2 v2_2 = some q → cH G w H → va_S (cA G) s.heap H locs → lv_has ls 3 [(2, .int v2_2), (0, .ref (G.2.2.1 192)), (1, .ref (G.2.2.2.1 t1))] → W p l e rm_X10_sameBytes s m args below meth c H locs 0 0 Q (F0 m 2 ls []) := by
    intro n2
    induction n2 with
    | zero => intro v2_2 H locs ls hf; rw [f_X10_sameBytes_L2] at hf; cases hf
    | succ n2 ih2 =>
      intro v2_2 H locs ls hf hH hS hl
      rw [f_X10_sameBytes_L2] at hf
      refine lv_iload_n hx hb dX10_sameBytes_2 rfl (lv_at hl 0 rfl) ?_
      refine lv_aload_n hx hb dX10_sameBytes_3 rfl (lv_at hl 2 rfl) ?_
      refine cGi (cVrun (rest := [.int v2_2]) X (c_J0_length l G (cH G w) (cA G) cA_g t1 ht1 _ rfl) bw730 bw731 bw732 bw106 bw733 cn_J0_length_8abf5 ⟨rfl, rfl, Nat.le_of_ble_eq_true rfl, Nat.le_of_ble_eq_true rfl⟩ (g_recS X hS cA_g ht1) cA_g hH hS hl rfl (Nat.le_of_ble_eq_true rfl) dX10_sameBytes_4) hS (fun H locs hH hS => ?_)
      refine lv_icmp_ge (tgt := 55) hx hb dX10_sameBytes_7 (by decide) (fun hc => ?_) (fun hc => ?_)
      · have hf := fo_t hc hf
        exact hj55 () _ _ _ hf hH hS (lv_sub hl [2] rfl)
      have hf := fo_f hc hf
      refine lv_aload_n hx hb dX10_sameBytes_10 rfl (lv_at hl 1 rfl) ?_
      refine co_get X hH 192 (by decide) eO192 rfl inBX10 9 (by decide) rfl bw262 dX10_sameBytes_11 ?_
      refine lv_iload_n hx hb dX10_sameBytes_14 rfl (lv_at hl 0 rfl) ?_
      refine lv_iadd hx hb dX10_sameBytes_15 ?_
      refine lv_aload_n hx hb dX10_sameBytes_16 rfl (lv_at hl 1 rfl) ?_
      refine co_get X hH 192 (by decide) eO192 rfl inBX10 0 (by decide) rfl bw245 dX10_sameBytes_17 ?_
      refine cGi (cVrun (rest := [.int ((w.2.2 0) + v2_2)]) X (c_X5_size l G w 1 (by decide) _ rfl) bw705 bw624 bw625 bw91 bw626 cn_X5_size ⟨rfl, rfl, Nat.le_of_ble_eq_true rfl, Nat.le_of_ble_eq_true rfl⟩ (c_recR X hH (by decide)) cA_g hH hS hl rfl (Nat.le_of_ble_eq_true rfl) dX10_sameBytes_20) hS (fun H locs hH hS => ?_)
      refine lv_icmp_ge (tgt := 47) hx hb dX10_sameBytes_23 (by decide) (fun hc => ?_) (fun hc => ?_)
      · have hf := fo_t hc hf
        refine lv_iload_n hx hb dX10_sameBytes_47 rfl (lv_at hl 0 rfl) ?_
        subst hQ
        exact cEi X hH hS (so_s hf) dX10_sameBytes_48
      have hf := fo_f hc hf
      refine lv_aload_n hx hb dX10_sameBytes_26 rfl (lv_at hl 1 rfl) ?_
      refine co_get X hH 192 (by decide) eO192 rfl inBX10 0 (by decide) rfl bw245 dX10_sameBytes_27 ?_
      refine lv_aload_n hx hb dX10_sameBytes_30 rfl (lv_at hl 1 rfl) ?_
      refine co_get X hH 192 (by decide) eO192 rfl inBX10 9 (by decide) rfl bw262 dX10_sameBytes_31 ?_
      refine lv_iload_n hx hb dX10_sameBytes_34 rfl (lv_at hl 0 rfl) ?_
      refine lv_iadd hx hb dX10_sameBytes_35 ?_
      refine cGi (cVrun (rest := []) X (cl_X5_at l G w 1 (by decide) ((w.2.2 0) + v2_2) _ rfl) bw740 bw628 bw629 bw91 bw630 cn_X5_at ⟨rfl, rfl, Nat.le_of_ble_eq_true rfl, Nat.le_of_ble_eq_true rfl⟩ (c_recR X hH (by decide)) cA_g hH hS hl rfl (Nat.le_of_ble_eq_true rfl) dX10_sameBytes_36) hS (fun H locs hH hS => ?_)
      refine lv_aload_n hx hb dX10_sameBytes_39 rfl (lv_at hl 2 rfl) ?_
      refine lv_iload_n hx hb dX10_sameBytes_40 rfl (lv_at hl 0 rfl) ?_
      obtain ⟨q41, hq41, hf⟩ := bd_s hf
      refine cGi (cVrun (rest := [.int (rAt w 1 ((w.2.2 0) + v2_2))]) X (c_J0_charAt l G (cH G w) (cA G) cA_g t1 ht1 v2_2 q41 hq41) bw741 bw742 bw743 bw106 bw744 cn_J0_charAt_5068e ⟨rfl, rfl, Nat.le_of_ble_eq_true rfl, Nat.le_of_ble_eq_true rfl⟩ (g_recS X hS cA_g ht1) cA_g hH hS hl rfl (Nat.le_of_ble_eq_true rfl) dX10_sameBytes_41) hS (fun H locs hH hS => ?_)
      refine lv_icmp_eq (tgt := 49) hx hb dX10_sameBytes_44 (by decide) (fun hc => ?_) (fun hc => ?_)
      rotate_left
      · have hf := fo_f hc hf
        refine lv_iload_n hx hb dX10_sameBytes_47 rfl (lv_at hl 0 rfl) ?_
        subst hQ
        exact cEi X hH hS (so_s hf) dX10_sameBytes_48
      have hf := fo_t hc hf
      obtain ⟨x49, ex49⟩ : ∃ z : Int32, z = (v2_2 + 1) := ⟨_, rfl⟩
      have hf := nm_s hf x49 ex49
      refine lv_iinc (v := x49) (lv' := [(2, .int x49), (0, .ref (G.2.2.1 192)), (1, .ref (G.2.2.2.1 t1))]) hx hb dX10_sameBytes_49 hl (k := 0) rfl (by rw [ex49]; rfl) (by decide) rfl (fun ls hl => ?_)
      refine lv_goto (tgt := 2) hx hb dX10_sameBytes_52 (by decide) ?_
      exact ih2 _ _ _ _ hf hH hS (lv_sub hl [0, 1, 2] rfl)
  exact hL2 _ _ _ _ _ hf hH hS (lv_sub hl [0, 1, 2] rfl)
def f_X10_readWord_L4 (w : CW) (j57 : Int32 → Option (Int32 × CW)) : Nat → Int32 → Int32 → Option (Int32 × CW)
  | 0, _, _ => none
  | n4 + 1, v4_1, v4_2 => (if 8 ≤ v4_2 then (j57 v4_1) else (nmk (f_X10_spellingOf v4_2) fun (t11_ : Nat) => (Option.bind (f_X10_sameBytes w t11_) fun q17 => (if q17 = (f_J0_length t11_) then (nmk (sS w 0 ((w.2.2 0) + q17)) fun w39 => (some (v4_2, w39))) else (nmk (if v4_1 < q17 then q17 else v4_1) fun (x50 : Int32) => (nmk (v4_2 + 1) fun (x51 : Int32) => (f_X10_readWord_L4 w j57 n4 x50 x51)))))))
def f_X10_readWord (w : CW) : Option (Int32 × CW) := (nmk (fun (y57_1 : Int32) => (nmk (sS w 0 ((w.2.2 0) + y57_1)) fun w64 => (some ((-1), w64)))) fun j57 => (f_X10_readWord_L4 w j57 FU 0 0))
abbrev rm_X10_readWord : Room := { frames := 6, cells := 0, slots := 0, locals := 107 }
theorem cn_X10_readWord : CN yX10_readWord 0 := ⟨by decide +kernel, by decide +kernel, by decide +kernel⟩
set_option maxHeartbeats 4000000 in
set_option maxRecDepth 100000 in
theorem c_X10_readWord (l : Launch) (G : GX) (w : CW) (q : Int32 × CW) (hf : f_X10_readWord w = some q) : MI l G yX10_readWord cX10_readWord 5 (some .int) rm_X10_readWord [.ref (G.2.2.1 192)] (cA G) (cH G w) (cH G q.2) q.1 := by
  refine cM_start (by decide +kernel) (Nat.le_of_ble_eq_true rfl) ?_
  intro p e s m below meth c ls X hH hl
  have hS : va_S (cA G) s.heap s.heap [] := va_S.rf
  have hx := X.1.1
  have hb := X.1.2.1
  generalize hargs : ([.ref (G.2.2.1 192)] : List Value).toArray = args at X ⊢
  generalize hQ : MQ below (QI (cA G) (cH G q.2) q.1) args s 0 0 (cA G) = Q
  have hl : lv_has ls 5 [(0, .ref (G.2.2.1 192))] := hl
  unfold f_X10_readWord at hf
  refine lv_iconst (v := 0) hx hb dX10_readWord_0 (by decide) ?_
  refine lv_istore_n (lv' := [(1, .int 0), (0, .ref (G.2.2.1 192))]) hx hb dX10_readWord_1 rfl hl (by decide) rfl (fun ls hl => ?_)
  refine lv_iconst (v := 0) hx hb dX10_readWord_2 (by decide) ?_
  refine lv_istore_n (lv' := [(2, .int 0), (1, .int 0), (0, .ref (G.2.2.1 192))]) hx hb dX10_readWord_3 rfl hl (by decide) rfl (fun ls hl => ?_)
  obtain ⟨j57, ej57, hf⟩ := nm_x hf
  have hj57 : ∀ (y57_1 : Int32) (H : Heap) (locs : List Loc) (ls : Array Slot), j57 y57_1 = some q → cH G w H → va_S (cA G) s.heap H locs → lv_has ls 5 [(1, .int y57_1), (0, .ref (G.2.2.1 192))] → W p l e rm_X10_readWord s m args below meth c H locs 0 0 Q (F0 m 57 ls []) := by
    intro y57_1 H locs ls hf hH hS hl
    have hf := jb1 ej57 hf
    refine lv_aload_n hx hb dX10_readWord_57 rfl (lv_at hl 1 rfl) ?_
    refine lv_dup hx hb dX10_readWord_58 rfl ?_
    refine co_get X hH 192 (by decide) eO192 rfl inBX10 9 (by decide) rfl bw262 dX10_readWord_59 ?_
    refine lv_iload_n hx hb dX10_readWord_62 rfl (lv_at hl 0 rfl) ?_
    refine lv_iadd hx hb dX10_readWord_63 ?_
    refine co_put (C := RX10) (N := 10) X hH hS 192 (by decide) eO192 rfl inBX10 tyX10 tyX10_ok nmX10 9 (by decide) bw262 rfl rfl rfl (by simp) (sS w 0 ((w.2.2 0) + y57_1)) rfl cE_s0 dX10_readWord_64 (fun H locs hH hS => ?_)
    obtain ⟨w64, ew64⟩ : ∃ z : CW, z = (sS w 0 ((w.2.2 0) + y57_1)) := ⟨_, rfl⟩
    have hf := nm_s hf w64 ew64
    have hH : cH G w64 H := ew64 ▸ hH
    refine lv_iconst (v := (-1)) hx hb dX10_readWord_67 (by decide) ?_
    subst hQ
    exact cEi X (cH2 (so_s hf) hH) hS (pf1 (so_s hf)) dX10_readWord_68
  have hL4 : ∀ (n4 : Nat) (v4_1 : Int32) (v4_2 : Int32) (H : Heap) (locs : List Loc) (ls : Array Slot), f_X10_readWord_L4 w j57 n4 v4_1 v4_2 = some q → cH G w H → va_S (cA G) s.heap H locs → lv_has ls 5 [(2, .int v4_2), (1, .int v4_1), (0, .ref (G.2.2.1 192))] → W p l e rm_X10_readWord s m args below meth c H locs 0 0 Q (F0 m 4 ls []) := by
    intro n4
    induction n4 with
    | zero => intro v4_1 v4_2 H locs ls hf; rw [f_X10_readWord_L4] at hf; cases hf
    | succ n4 ih4 =>
      intro v4_1 v4_2 H locs ls hf hH hS hl
      rw [f_X10_readWord_L4] at hf
      refine lv_iload_n hx hb dX10_readWord_4 rfl (lv_at hl 0 rfl) ?_
      refine lv_bipush (v := 8) hx hb dX10_readWord_5 (by decide) ?_
      refine lv_icmp_ge (tgt := 57) hx hb dX10_readWord_7 (by decide) (fun hc => ?_) (fun hc => ?_)
      · have hf := fo_t hc hf
        exact hj57 _ _ _ _ hf hH hS (lv_sub hl [1, 2] rfl)
      have hf := fo_f hc hf
      refine lv_iload_n hx hb dX10_readWord_10 rfl (lv_at hl 0 rfl) ?_
      obtain ⟨t11_, et11_, hf⟩ := nm_x hf
      have ht11_ : t11_ < 16 := by rw [et11_]; exact sl_X10_spellingOf v4_2
      refine cGr (cSrun (rest := []) X (c_X10_spellingOf l G (cH G w) (cA G) cA_g v4_2 t11_ et11_.symm) bw715 bw716 bw96 bw717 cn_X10_spellingOf ⟨rfl, rfl, Nat.le_of_ble_eq_true rfl, Nat.le_of_ble_eq_true rfl⟩ cA_g hH hS hl rfl (Nat.le_of_ble_eq_true rfl) dX10_readWord_11) hS (fun H locs hH hS => ?_)
      refine lv_astore_n (lv' := [(3, .ref (G.2.2.2.1 t11_)), (2, .int v4_2), (1, .int v4_1), (0, .ref (G.2.2.1 192))]) hx hb dX10_readWord_14 rfl hl (by decide) rfl (fun ls hl => ?_)
      refine lv_aload_n hx hb dX10_readWord_15 rfl (lv_at hl 3 rfl) ?_
      refine lv_aload_n hx hb dX10_readWord_16 rfl (lv_at hl 0 rfl) ?_
      obtain ⟨q17, hq17, hf⟩ := bd_s hf
      refine cGi (cVrun (rest := []) X (c_X10_sameBytes l G w t11_ ht11_ q17 hq17) bw726 bw728 bw6 bw96 bw729 cn_X10_sameBytes ⟨rfl, rfl, Nat.le_of_ble_eq_true rfl, Nat.le_of_ble_eq_true rfl⟩ (c_rec X hH 192 (by decide) eO192 rfl) cA_g hH hS hl rfl (Nat.le_of_ble_eq_true rfl) dX10_readWord_17) hS (fun H locs hH hS => ?_)
      refine lv_istore (lv' := [(4, .int q17), (3, .ref (G.2.2.2.1 t11_)), (2, .int v4_2), (1, .int v4_1), (0, .ref (G.2.2.1 192))]) hx hb dX10_readWord_20 hl (by decide) rfl (fun ls hl => ?_)
      refine lv_iload hx hb dX10_readWord_22 (lv_at hl 0 rfl) ?_
      refine lv_aload_n hx hb dX10_readWord_24 rfl (lv_at hl 1 rfl) ?_
      refine cGi (cVrun (rest := [.int q17]) X (c_J0_length l G (cH G w) (cA G) cA_g t11_ ht11_ _ rfl) bw730 bw731 bw732 bw106 bw733 cn_J0_length_8abf5 ⟨rfl, rfl, Nat.le_of_ble_eq_true rfl, Nat.le_of_ble_eq_true rfl⟩ (g_recS X hS cA_g ht11_) cA_g hH hS hl rfl (Nat.le_of_ble_eq_true rfl) dX10_readWord_25) hS (fun H locs hH hS => ?_)
      refine lv_icmp_ne (tgt := 44) hx hb dX10_readWord_28 (by decide) (fun hc => ?_) (fun hc => ?_)
      · have hf := fo_f hc hf
        refine lv_iload_n hx hb dX10_readWord_44 rfl (lv_at hl 3 rfl) ?_
        refine lv_iload hx hb dX10_readWord_45 (lv_at hl 0 rfl) ?_
        refine va_mmax hx hb (X.1.2.2.1.trans hl.1.symm) X.1.2.2.2.1 (X.w bw779) (X.w bw197) (X.w bw93) (X.w bw198) (Nat.le_of_ble_eq_true rfl) (Nat.le_of_ble_eq_true rfl) (Nat.zero_le _) (Nat.zero_le _) dX10_readWord_47 ?_
        refine lv_topi (fun x50 ex50 => ?_)
        have hf := nm_s hf x50 ex50
        refine lv_istore_n (lv' := [(1, .int x50), (4, .int q17), (3, .ref (G.2.2.2.1 t11_)), (2, .int v4_2), (0, .ref (G.2.2.1 192))]) hx hb dX10_readWord_50 rfl hl (by decide) rfl (fun ls hl => ?_)
        obtain ⟨x51, ex51⟩ : ∃ z : Int32, z = (v4_2 + 1) := ⟨_, rfl⟩
        have hf := nm_s hf x51 ex51
        refine lv_iinc (v := x51) (lv' := [(2, .int x51), (1, .int x50), (4, .int q17), (3, .ref (G.2.2.2.1 t11_)), (0, .ref (G.2.2.1 192))]) hx hb dX10_readWord_51 hl (k := 3) rfl (by rw [ex51]; rfl) (by decide) rfl (fun ls hl => ?_)
        refine lv_goto (tgt := 4) hx hb dX10_readWord_54 (by decide) ?_
        exact ih4 _ _ _ _ _ hf hH hS (lv_sub hl [0, 1, 4] rfl)
      have hf := fo_t hc hf
      refine lv_aload_n hx hb dX10_readWord_31 rfl (lv_at hl 4 rfl) ?_
      refine lv_dup hx hb dX10_readWord_32 rfl ?_
      refine co_get X hH 192 (by decide) eO192 rfl inBX10 9 (by decide) rfl bw262 dX10_readWord_33 ?_
      refine lv_iload hx hb dX10_readWord_36 (lv_at hl 0 rfl) ?_
      refine lv_iadd hx hb dX10_readWord_38 ?_
      refine co_put (C := RX10) (N := 10) X hH hS 192 (by decide) eO192 rfl inBX10 tyX10 tyX10_ok nmX10 9 (by decide) bw262 rfl rfl rfl (by simp) (sS w 0 ((w.2.2 0) + q17)) rfl cE_s0 dX10_readWord_39 (fun H locs hH hS => ?_)
      obtain ⟨w39, ew39⟩ : ∃ z : CW, z = (sS w 0 ((w.2.2 0) + q17)) := ⟨_, rfl⟩
      have hf := nm_s hf w39 ew39
      have hH : cH G w39 H := ew39 ▸ hH
      refine lv_iload_n hx hb dX10_readWord_42 rfl (lv_at hl 2 rfl) ?_
      subst hQ
      exact cEi X (cH2 (so_s hf) hH) hS (pf1 (so_s hf)) dX10_readWord_43
  exact hL4 _ _ _ _ _ _ hf hH hS (lv_sub hl [0, 1, 2] rfl)
def f_X10_readClause (w : CW) (a1 : Int32) (a2 : Int32) : Option (Int32 × CW) := (Option.bind (f_X10_readWord w) fun q1 => (if q1.1 < 0 then (some (0, q1.2)) else (nmk (f_X10_readBlank q1.2) fun q10 => (if q10.1 = 0 then (some (0, q10.2)) else (nmk (rPut q10.2 6 a2 q1.1) fun q24 => (if q1.1 = 3 then (nmk (f_X10_readFigure q24 0 8 a2) fun q131 => (some (q131.1, q131.2))) else (if q1.1 = 4 then (nmk (f_X10_readFigure q24 0 8 a2) fun q131 => (some (q131.1, q131.2))) else (if q1.1 = 5 then (nmk (f_X10_readNumber q24 a2) fun q137 => (if q137.1 = 0 then (some (0, q137.2)) else (nmk (f_X10_addFeast q137.2 a1 (rAt q137.2 8 a2)) fun q153 => (some ((if q153.1 = 0 then 0 else 1), q153.2))))) else (if q1.1 = 6 then (Option.bind (f_X10_readLetters q24 a2) fun q66 => (if q66.1 = 0 then (some (0, q66.2)) else (nmk (f_X10_readBlank q66.2) fun q73 => (if q73.1 = 0 then (some (0, q73.2)) else (nmk (f_X10_readFigure q73.2 1 8 a2) fun q86 => (if q86.1 = 0 then (some (0, q86.2)) else (nmk (f_X10_readBlank q86.2) fun q93 => (if q93.1 = 0 then (some (0, q93.2)) else (nmk (f_X10_readFigure q93.2 0 9 a2) fun q106 => (some ((if q106.1 = 0 then 0 else 1), q106.2))))))))))) else (if q1.1 = 7 then (Option.bind (f_X10_readLetters q24 a2) fun q120 => (some (q120.1, q120.2))) else (nmk (f_X10_readNumber q24 a2) fun q167 => (some (q167.1, q167.2)))))))))))))
abbrev rm_X10_readClause : Room := { frames := 7, cells := 0, slots := 0, locals := 131 }
theorem cn_X10_readClause : CN yX10_readClause 2 := ⟨by decide +kernel, by decide +kernel, by decide +kernel⟩
set_option maxHeartbeats 4000000 in
set_option maxRecDepth 100000 in
theorem c_X10_readClause (l : Launch) (G : GX) (w : CW) (a1 : Int32) (a2 : Int32) (q : Int32 × CW) (hf : f_X10_readClause w a1 a2 = some q) : MZ l G yX10_readClause cX10_readClause 4 (some .boolean) rm_X10_readClause [.ref (G.2.2.1 192), .int a1, .int a2] (cA G) (cH G w) (cH G q.2) q.1 := by
  refine cM_start (by decide +kernel) (Nat.le_of_ble_eq_true rfl) ?_
  intro p e s m below meth c ls X hH hl
  have hS : va_S (cA G) s.heap s.heap [] := va_S.rf
  have hx := X.1.1
  have hb := X.1.2.1
  generalize hargs : ([.ref (G.2.2.1 192), .int a1, .int a2] : List Value).toArray = args at X ⊢
  generalize hQ : MQ below (QZ (cA G) (cH G q.2) q.1) args s 0 0 (cA G) = Q
  have hl : lv_has ls 4 [(0, .ref (G.2.2.1 192)), (1, .int a1), (2, .int a2)] := hl
  unfold f_X10_readClause at hf
  refine lv_aload_n hx hb dX10_readClause_0 rfl (lv_at hl 0 rfl) ?_
  obtain ⟨q1, hq1, hf⟩ := bd_s hf
  refine cGi (cVrun (rest := []) X (c_X10_readWord l G w q1 hq1) bw711 bw713 bw5 bw96 bw714 cn_X10_readWord ⟨rfl, rfl, Nat.le_of_ble_eq_true rfl, Nat.le_of_ble_eq_true rfl⟩ (c_rec X hH 192 (by decide) eO192 rfl) cA_g hH hS hl rfl (Nat.le_of_ble_eq_true rfl) dX10_readClause_1) hS (fun H locs hH hS => ?_)
  refine lv_istore_n (lv' := [(3, .int q1.1), (0, .ref (G.2.2.1 192)), (1, .int a1), (2, .int a2)]) hx hb dX10_readClause_4 rfl hl (by decide) rfl (fun ls hl => ?_)
  refine lv_iload_n hx hb dX10_readClause_5 rfl (lv_at hl 0 rfl) ?_
  refine lv_if_lt (tgt := 16) hx hb dX10_readClause_6 (by decide) (fun hc => ?_) (fun hc => ?_)
  · have hf := fo_t hc hf
    refine lv_iconst (v := 0) hx hb dX10_readClause_16 (by decide) ?_
    subst hQ
    exact cEzz X (cH2 (so_s hf) hH) hS (pf1 (so_s hf)) zb0 dX10_readClause_17
  have hf := fo_f hc hf
  refine lv_aload_n hx hb dX10_readClause_9 rfl (lv_at hl 1 rfl) ?_
  obtain ⟨q10, hq10, hf⟩ := nm_x hf
  have hq10 := hq10.symm
  refine cGz (cVrun (rest := []) X (c_X10_readBlank l G q1.2 q10 hq10) bw780 bw782 bw7 bw96 bw783 cn_X10_readBlank ⟨rfl, rfl, Nat.le_of_ble_eq_true rfl, Nat.le_of_ble_eq_true rfl⟩ (c_rec X hH 192 (by decide) eO192 rfl) cA_g hH hS hl rfl (Nat.le_of_ble_eq_true rfl) dX10_readClause_10) hS (fun hz10 H locs hH hS => ?_)
  refine lv_if_ne (tgt := 18) hx hb dX10_readClause_13 (by decide) (fun hc => ?_) (fun hc => ?_)
  rotate_left
  · have hf := fo_t hc hf
    refine lv_iconst (v := 0) hx hb dX10_readClause_16 (by decide) ?_
    subst hQ
    exact cEzz X (cH2 (so_s hf) hH) hS (pf1 (so_s hf)) zb0 dX10_readClause_17
  have hf := fo_f hc hf
  refine lv_aload_n hx hb dX10_readClause_18 rfl (lv_at hl 1 rfl) ?_
  refine co_get X hH 192 (by decide) eO192 rfl inBX10 5 (by decide) rfl bw254 dX10_readClause_19 ?_
  refine lv_iload_n hx hb dX10_readClause_22 rfl (lv_at hl 3 rfl) ?_
  refine lv_iload_n hx hb dX10_readClause_23 rfl (lv_at hl 0 rfl) ?_
  obtain ⟨q24, hq24, hf⟩ := nm_x hf
  have hq24 := hq24.symm
  refine cGv (cVrun (rest := []) X (cl_X5_put l G q10.2 6 (by decide) a2 q1.1 q24 hq24) bw706 bw352 bw353 bw91 bw354 cn_X5_put ⟨rfl, rfl, Nat.le_of_ble_eq_true rfl, Nat.le_of_ble_eq_true rfl⟩ (c_recR X hH (by decide)) cA_g hH hS hl rfl (Nat.le_of_ble_eq_true rfl) dX10_readClause_24) hS (fun H locs hH hS => ?_)
  refine lv_iload_n hx hb dX10_readClause_27 rfl (lv_at hl 0 rfl) ?_
  by_cases hc3 : q1.1 = 3
  · have hf := fo_t hc3 hf
    refine lv_tableIn (tgt := 124) hx hb dX10_readClause_28 (by rw [hc3]; decide) (by rw [hc3]; decide) (by rw [hc3]; rfl) (by decide) ?_
    refine lv_aload_n hx hb dX10_readClause_124 rfl (lv_at hl 1 rfl) ?_
    refine lv_iconst (v := 0) hx hb dX10_readClause_125 (by decide) ?_
    refine lv_aload_n hx hb dX10_readClause_126 rfl (lv_at hl 1 rfl) ?_
    refine co_get X hH 192 (by decide) eO192 rfl inBX10 7 (by decide) rfl bw258 dX10_readClause_127 ?_
    refine lv_iload_n hx hb dX10_readClause_130 rfl (lv_at hl 3 rfl) ?_
    obtain ⟨q131, hq131, hf⟩ := nm_x hf
    have hq131 := hq131.symm
    refine cGz (cVrun (rest := []) X (c_X10_readFigure l G q24 0 8 (by decide) a2 q131 hq131) bw795 bw797 bw10 bw96 bw798 cn_X10_readFigure ⟨rfl, rfl, Nat.le_of_ble_eq_true rfl, Nat.le_of_ble_eq_true rfl⟩ (c_rec X hH 192 (by decide) eO192 rfl) cA_g hH hS hl rfl (Nat.le_of_ble_eq_true rfl) dX10_readClause_131) hS (fun hz131 H locs hH hS => ?_)
    subst hQ
    exact cEzz X (cH2 (so_s hf) hH) hS (pf1 (so_s hf)) hz131 dX10_readClause_134
  have hf := fo_f hc3 hf
  by_cases hc4 : q1.1 = 4
  · have hf := fo_t hc4 hf
    refine lv_tableIn (tgt := 124) hx hb dX10_readClause_28 (by rw [hc4]; decide) (by rw [hc4]; decide) (by rw [hc4]; rfl) (by decide) ?_
    refine lv_aload_n hx hb dX10_readClause_124 rfl (lv_at hl 1 rfl) ?_
    refine lv_iconst (v := 0) hx hb dX10_readClause_125 (by decide) ?_
    refine lv_aload_n hx hb dX10_readClause_126 rfl (lv_at hl 1 rfl) ?_
    refine co_get X hH 192 (by decide) eO192 rfl inBX10 7 (by decide) rfl bw258 dX10_readClause_127 ?_
    refine lv_iload_n hx hb dX10_readClause_130 rfl (lv_at hl 3 rfl) ?_
    obtain ⟨q131, hq131, hf⟩ := nm_x hf
    have hq131 := hq131.symm
    refine cGz (cVrun (rest := []) X (c_X10_readFigure l G q24 0 8 (by decide) a2 q131 hq131) bw795 bw797 bw10 bw96 bw798 cn_X10_readFigure ⟨rfl, rfl, Nat.le_of_ble_eq_true rfl, Nat.le_of_ble_eq_true rfl⟩ (c_rec X hH 192 (by decide) eO192 rfl) cA_g hH hS hl rfl (Nat.le_of_ble_eq_true rfl) dX10_readClause_131) hS (fun hz131 H locs hH hS => ?_)
    subst hQ
    exact cEzz X (cH2 (so_s hf) hH) hS (pf1 (so_s hf)) hz131 dX10_readClause_134
  have hf := fo_f hc4 hf
  by_cases hc5 : q1.1 = 5
  · have hf := fo_t hc5 hf
    refine lv_tableIn (tgt := 135) hx hb dX10_readClause_28 (by rw [hc5]; decide) (by rw [hc5]; decide) (by rw [hc5]; rfl) (by decide) ?_
    refine lv_aload_n hx hb dX10_readClause_135 rfl (lv_at hl 1 rfl) ?_
    refine lv_iload_n hx hb dX10_readClause_136 rfl (lv_at hl 3 rfl) ?_
    obtain ⟨q137, hq137, hf⟩ := nm_x hf
    have hq137 := hq137.symm
    refine cGz (cVrun (rest := []) X (c_X10_readNumber l G q24 a2 q137 hq137) bw799 bw801 bw11 bw96 bw802 cn_X10_readNumber ⟨rfl, rfl, Nat.le_of_ble_eq_true rfl, Nat.le_of_ble_eq_true rfl⟩ (c_rec X hH 192 (by decide) eO192 rfl) cA_g hH hS hl rfl (Nat.le_of_ble_eq_true rfl) dX10_readClause_137) hS (fun hz137 H locs hH hS => ?_)
    refine lv_if_eq (tgt := 163) hx hb dX10_readClause_140 (by decide) (fun hc => ?_) (fun hc => ?_)
    · have hf := fo_t hc hf
      refine lv_iconst (v := 0) hx hb dX10_readClause_163 (by decide) ?_
      subst hQ
      exact cEzz X (cH2 (so_s hf) hH) hS (pf1 (so_s hf)) zb0 dX10_readClause_164
    have hf := fo_f hc hf
    refine lv_aload_n hx hb dX10_readClause_143 rfl (lv_at hl 1 rfl) ?_
    refine lv_iload_n hx hb dX10_readClause_144 rfl (lv_at hl 2 rfl) ?_
    refine lv_aload_n hx hb dX10_readClause_145 rfl (lv_at hl 1 rfl) ?_
    refine co_get X hH 192 (by decide) eO192 rfl inBX10 7 (by decide) rfl bw258 dX10_readClause_146 ?_
    refine lv_iload_n hx hb dX10_readClause_149 rfl (lv_at hl 3 rfl) ?_
    refine cGi (cVrun (rest := [.int a1, .ref (G.2.2.1 192)]) X (cl_X5_at l G q137.2 8 (by decide) a2 _ rfl) bw740 bw628 bw629 bw91 bw630 cn_X5_at ⟨rfl, rfl, Nat.le_of_ble_eq_true rfl, Nat.le_of_ble_eq_true rfl⟩ (c_recR X hH (by decide)) cA_g hH hS hl rfl (Nat.le_of_ble_eq_true rfl) dX10_readClause_150) hS (fun H locs hH hS => ?_)
    obtain ⟨q153, hq153, hf⟩ := nm_x hf
    have hq153 := hq153.symm
    refine cGz (cVrun (rest := []) X (c_X10_addFeast l G q137.2 a1 (rAt q137.2 8 a2) q153 hq153) bw804 bw806 bw12 bw96 bw807 cn_X10_addFeast ⟨rfl, rfl, Nat.le_of_ble_eq_true rfl, Nat.le_of_ble_eq_true rfl⟩ (c_rec X hH 192 (by decide) eO192 rfl) cA_g hH hS hl rfl (Nat.le_of_ble_eq_true rfl) dX10_readClause_153) hS (fun hz153 H locs hH hS => ?_)
    have hJ : ∀ (H : Heap) (locs : List Loc), cH G q153.2 H → va_S (cA G) s.heap H locs → W p l e rm_X10_readClause s m args below meth c H locs 0 0 Q (F0 m 164 ls [.int (if q153.1 = 0 then 0 else 1)]) := by
      intro H locs hH hS
      subst hQ
      exact cEzz X (cH2 (so_s hf) hH) hS (pf1 (so_s hf)) (zb_ite zb0 zb1) dX10_readClause_164
    refine lv_if_eq (tgt := 163) hx hb dX10_readClause_156 (by decide) (fun hc156 => ?_) (fun hc156 => ?_)
    · refine lv_iconst (v := 0) hx hb dX10_readClause_163 (by decide) ?_
      exact W.eq (by rw [if_pos hc156] <;> rfl) (hJ _ _ hH hS)
    · refine lv_iconst (v := 1) hx hb dX10_readClause_159 (by decide) ?_
      refine lv_goto (tgt := 164) hx hb dX10_readClause_160 (by decide) ?_
      exact W.eq (by rw [if_neg hc156] <;> rfl) (hJ _ _ hH hS)
  have hf := fo_f hc5 hf
  by_cases hc6 : q1.1 = 6
  · have hf := fo_t hc6 hf
    refine lv_tableIn (tgt := 64) hx hb dX10_readClause_28 (by rw [hc6]; decide) (by rw [hc6]; decide) (by rw [hc6]; rfl) (by decide) ?_
    refine lv_aload_n hx hb dX10_readClause_64 rfl (lv_at hl 1 rfl) ?_
    refine lv_iload_n hx hb dX10_readClause_65 rfl (lv_at hl 3 rfl) ?_
    obtain ⟨q66, hq66, hf⟩ := bd_s hf
    refine cGz (cVrun (rest := []) X (c_X10_readLetters l G q24 a2 q66 hq66) bw788 bw790 bw9 bw96 bw791 cn_X10_readLetters ⟨rfl, rfl, Nat.le_of_ble_eq_true rfl, Nat.le_of_ble_eq_true rfl⟩ (c_rec X hH 192 (by decide) eO192 rfl) cA_g hH hS hl rfl (Nat.le_of_ble_eq_true rfl) dX10_readClause_66) hS (fun hz66 H locs hH hS => ?_)
    refine lv_if_eq (tgt := 116) hx hb dX10_readClause_69 (by decide) (fun hc => ?_) (fun hc => ?_)
    · have hf := fo_t hc hf
      refine lv_iconst (v := 0) hx hb dX10_readClause_116 (by decide) ?_
      subst hQ
      exact cEzz X (cH2 (so_s hf) hH) hS (pf1 (so_s hf)) zb0 dX10_readClause_117
    have hf := fo_f hc hf
    refine lv_aload_n hx hb dX10_readClause_72 rfl (lv_at hl 1 rfl) ?_
    obtain ⟨q73, hq73, hf⟩ := nm_x hf
    have hq73 := hq73.symm
    refine cGz (cVrun (rest := []) X (c_X10_readBlank l G q66.2 q73 hq73) bw780 bw782 bw7 bw96 bw783 cn_X10_readBlank ⟨rfl, rfl, Nat.le_of_ble_eq_true rfl, Nat.le_of_ble_eq_true rfl⟩ (c_rec X hH 192 (by decide) eO192 rfl) cA_g hH hS hl rfl (Nat.le_of_ble_eq_true rfl) dX10_readClause_73) hS (fun hz73 H locs hH hS => ?_)
    refine lv_if_eq (tgt := 116) hx hb dX10_readClause_76 (by decide) (fun hc => ?_) (fun hc => ?_)
    · have hf := fo_t hc hf
      refine lv_iconst (v := 0) hx hb dX10_readClause_116 (by decide) ?_
      subst hQ
      exact cEzz X (cH2 (so_s hf) hH) hS (pf1 (so_s hf)) zb0 dX10_readClause_117
    have hf := fo_f hc hf
    refine lv_aload_n hx hb dX10_readClause_79 rfl (lv_at hl 1 rfl) ?_
    refine lv_iconst (v := 1) hx hb dX10_readClause_80 (by decide) ?_
    refine lv_aload_n hx hb dX10_readClause_81 rfl (lv_at hl 1 rfl) ?_
    refine co_get X hH 192 (by decide) eO192 rfl inBX10 7 (by decide) rfl bw258 dX10_readClause_82 ?_
    refine lv_iload_n hx hb dX10_readClause_85 rfl (lv_at hl 3 rfl) ?_
    obtain ⟨q86, hq86, hf⟩ := nm_x hf
    have hq86 := hq86.symm
    refine cGz (cVrun (rest := []) X (c_X10_readFigure l G q73.2 1 8 (by decide) a2 q86 hq86) bw795 bw797 bw10 bw96 bw798 cn_X10_readFigure ⟨rfl, rfl, Nat.le_of_ble_eq_true rfl, Nat.le_of_ble_eq_true rfl⟩ (c_rec X hH 192 (by decide) eO192 rfl) cA_g hH hS hl rfl (Nat.le_of_ble_eq_true rfl) dX10_readClause_86) hS (fun hz86 H locs hH hS => ?_)
    refine lv_if_eq (tgt := 116) hx hb dX10_readClause_89 (by decide) (fun hc => ?_) (fun hc => ?_)
    · have hf := fo_t hc hf
      refine lv_iconst (v := 0) hx hb dX10_readClause_116 (by decide) ?_
      subst hQ
      exact cEzz X (cH2 (so_s hf) hH) hS (pf1 (so_s hf)) zb0 dX10_readClause_117
    have hf := fo_f hc hf
    refine lv_aload_n hx hb dX10_readClause_92 rfl (lv_at hl 1 rfl) ?_
    obtain ⟨q93, hq93, hf⟩ := nm_x hf
    have hq93 := hq93.symm
    refine cGz (cVrun (rest := []) X (c_X10_readBlank l G q86.2 q93 hq93) bw780 bw782 bw7 bw96 bw783 cn_X10_readBlank ⟨rfl, rfl, Nat.le_of_ble_eq_true rfl, Nat.le_of_ble_eq_true rfl⟩ (c_rec X hH 192 (by decide) eO192 rfl) cA_g hH hS hl rfl (Nat.le_of_ble_eq_true rfl) dX10_readClause_93) hS (fun hz93 H locs hH hS => ?_)
    refine lv_if_eq (tgt := 116) hx hb dX10_readClause_96 (by decide) (fun hc => ?_) (fun hc => ?_)
    · have hf := fo_t hc hf
      refine lv_iconst (v := 0) hx hb dX10_readClause_116 (by decide) ?_
      subst hQ
      exact cEzz X (cH2 (so_s hf) hH) hS (pf1 (so_s hf)) zb0 dX10_readClause_117
    have hf := fo_f hc hf
    refine lv_aload_n hx hb dX10_readClause_99 rfl (lv_at hl 1 rfl) ?_
    refine lv_iconst (v := 0) hx hb dX10_readClause_100 (by decide) ?_
    refine lv_aload_n hx hb dX10_readClause_101 rfl (lv_at hl 1 rfl) ?_
    refine co_get X hH 192 (by decide) eO192 rfl inBX10 8 (by decide) rfl bw260 dX10_readClause_102 ?_
    refine lv_iload_n hx hb dX10_readClause_105 rfl (lv_at hl 3 rfl) ?_
    obtain ⟨q106, hq106, hf⟩ := nm_x hf
    have hq106 := hq106.symm
    refine cGz (cVrun (rest := []) X (c_X10_readFigure l G q93.2 0 9 (by decide) a2 q106 hq106) bw795 bw797 bw10 bw96 bw798 cn_X10_readFigure ⟨rfl, rfl, Nat.le_of_ble_eq_true rfl, Nat.le_of_ble_eq_true rfl⟩ (c_rec X hH 192 (by decide) eO192 rfl) cA_g hH hS hl rfl (Nat.le_of_ble_eq_true rfl) dX10_readClause_106) hS (fun hz106 H locs hH hS => ?_)
    have hJ : ∀ (H : Heap) (locs : List Loc), cH G q106.2 H → va_S (cA G) s.heap H locs → W p l e rm_X10_readClause s m args below meth c H locs 0 0 Q (F0 m 117 ls [.int (if q106.1 = 0 then 0 else 1)]) := by
      intro H locs hH hS
      subst hQ
      exact cEzz X (cH2 (so_s hf) hH) hS (pf1 (so_s hf)) (zb_ite zb0 zb1) dX10_readClause_117
    refine lv_if_eq (tgt := 116) hx hb dX10_readClause_109 (by decide) (fun hc109 => ?_) (fun hc109 => ?_)
    · refine lv_iconst (v := 0) hx hb dX10_readClause_116 (by decide) ?_
      exact W.eq (by rw [if_pos hc109] <;> rfl) (hJ _ _ hH hS)
    · refine lv_iconst (v := 1) hx hb dX10_readClause_112 (by decide) ?_
      refine lv_goto (tgt := 117) hx hb dX10_readClause_113 (by decide) ?_
      exact W.eq (by rw [if_neg hc109] <;> rfl) (hJ _ _ hH hS)
  have hf := fo_f hc6 hf
  by_cases hc7 : q1.1 = 7
  · have hf := fo_t hc7 hf
    refine lv_tableIn (tgt := 118) hx hb dX10_readClause_28 (by rw [hc7]; decide) (by rw [hc7]; decide) (by rw [hc7]; rfl) (by decide) ?_
    refine lv_aload_n hx hb dX10_readClause_118 rfl (lv_at hl 1 rfl) ?_
    refine lv_iload_n hx hb dX10_readClause_119 rfl (lv_at hl 3 rfl) ?_
    obtain ⟨q120, hq120, hf⟩ := bd_s hf
    refine cGz (cVrun (rest := []) X (c_X10_readLetters l G q24 a2 q120 hq120) bw788 bw790 bw9 bw96 bw791 cn_X10_readLetters ⟨rfl, rfl, Nat.le_of_ble_eq_true rfl, Nat.le_of_ble_eq_true rfl⟩ (c_rec X hH 192 (by decide) eO192 rfl) cA_g hH hS hl rfl (Nat.le_of_ble_eq_true rfl) dX10_readClause_120) hS (fun hz120 H locs hH hS => ?_)
    subst hQ
    exact cEzz X (cH2 (so_s hf) hH) hS (pf1 (so_s hf)) hz120 dX10_readClause_123
  have hf := fo_f hc7 hf
  refine lv_tableOut (tgt := 165) hx hb dX10_readClause_28 (sw_out (ks := [3, 4, 5, 6, 7]) (by intro k hk; simp only [List.mem_cons, List.not_mem_nil, or_false] at hk; rcases hk with rfl | rfl | rfl | rfl | rfl <;> assumption) (sw_all 3 [3, 4, 5, 6, 7] (by decide))) (by decide) ?_
  refine lv_aload_n hx hb dX10_readClause_165 rfl (lv_at hl 1 rfl) ?_
  refine lv_iload_n hx hb dX10_readClause_166 rfl (lv_at hl 3 rfl) ?_
  obtain ⟨q167, hq167, hf⟩ := nm_x hf
  have hq167 := hq167.symm
  refine cGz (cVrun (rest := []) X (c_X10_readNumber l G q24 a2 q167 hq167) bw799 bw801 bw11 bw96 bw802 cn_X10_readNumber ⟨rfl, rfl, Nat.le_of_ble_eq_true rfl, Nat.le_of_ble_eq_true rfl⟩ (c_rec X hH 192 (by decide) eO192 rfl) cA_g hH hS hl rfl (Nat.le_of_ble_eq_true rfl) dX10_readClause_167) hS (fun hz167 H locs hH hS => ?_)
  subst hQ
  exact cEzz X (cH2 (so_s hf) hH) hS (pf1 (so_s hf)) hz167 dX10_readClause_170
def f_X10_read_L21 (x4 : Int32) : Nat → Int32 → CW → Option (Int32 × CW)
  | 0, _, _ => none
  | n21 + 1, v21_2, w21_ => (if 8 ≤ v21_2 then (some ((w21_.2.2 0), w21_)) else (Option.bind (f_X10_readClause w21_ x4 ((x4 * 8) + v21_2)) fun q35 => (if q35.1 = 0 then (some ((q35.2.2.2 0), q35.2)) else (nmk (rPut q35.2 5 x4 (v21_2 + 1)) fun q54 => (if (q54.2.2 0) < (f_X5_size q54 1) then (if (f_X10_next q54) = 59 then (if v21_2 = 7 then (some ((q54.2.2 0), q54)) else (nmk (sS q54 0 ((q54.2.2 0) + 1)) fun w100 => (nmk (v21_2 + 1) fun (x103 : Int32) => (f_X10_read_L21 x4 n21 x103 w100)))) else (some ((q54.2.2 0), q54))) else (some ((-1), q54)))))))
def f_X10_read (w : CW) : Option (Int32 × CW) := (nmk (f_X10_nextSlot w) fun (x4 : Int32) => (nmk (rPut w 4 x4 0) fun q11 => (nmk (sS q11 0 0) fun w16 => (f_X10_read_L21 x4 FU 0 w16))))
abbrev rm_X10_read : Room := { frames := 8, cells := 0, slots := 0, locals := 154 }
theorem cn_X10_read : CN yX10_read 0 := ⟨by decide +kernel, by decide +kernel, by decide +kernel⟩
set_option maxHeartbeats 4000000 in
set_option maxRecDepth 100000 in
theorem c_X10_read (l : Launch) (G : GX) (w : CW) (q : Int32 × CW) (hf : f_X10_read w = some q) : MI l G yX10_read cX10_read 3 (some .int) rm_X10_read [.ref (G.2.2.1 192)] (cA G) (cH G w) (cH G q.2) q.1 := by
  refine cM_start (by decide +kernel) (Nat.le_of_ble_eq_true rfl) ?_
  intro p e s m below meth c ls X hH hl
  have hS : va_S (cA G) s.heap s.heap [] := va_S.rf
  have hx := X.1.1
  have hb := X.1.2.1
  generalize hargs : ([.ref (G.2.2.1 192)] : List Value).toArray = args at X ⊢
  generalize hQ : MQ below (QI (cA G) (cH G q.2) q.1) args s 0 0 (cA G) = Q
  have hl : lv_has ls 3 [(0, .ref (G.2.2.1 192))] := hl
  unfold f_X10_read at hf
  refine lv_aload_n hx hb dX10_read_0 rfl (lv_at hl 0 rfl) ?_
  refine cGi (cVrun (rest := []) X (c_X10_nextSlot l G w _ rfl) bw701 bw702 bw703 bw96 bw704 cn_X10_nextSlot ⟨rfl, rfl, Nat.le_of_ble_eq_true rfl, Nat.le_of_ble_eq_true rfl⟩ (c_rec X hH 192 (by decide) eO192 rfl) cA_g hH hS hl rfl (Nat.le_of_ble_eq_true rfl) dX10_read_1) hS (fun H locs hH hS => ?_)
  refine lv_topi (fun x4 ex4 => ?_)
  have hf := nm_s hf x4 ex4
  refine lv_istore_n (lv' := [(1, .int x4), (0, .ref (G.2.2.1 192))]) hx hb dX10_read_4 rfl hl (by decide) rfl (fun ls hl => ?_)
  refine lv_aload_n hx hb dX10_read_5 rfl (lv_at hl 1 rfl) ?_
  refine co_get X hH 192 (by decide) eO192 rfl inBX10 3 (by decide) rfl bw251 dX10_read_6 ?_
  refine lv_iload_n hx hb dX10_read_9 rfl (lv_at hl 0 rfl) ?_
  refine lv_iconst (v := 0) hx hb dX10_read_10 (by decide) ?_
  obtain ⟨q11, hq11, hf⟩ := nm_x hf
  have hq11 := hq11.symm
  refine cGv (cVrun (rest := []) X (cl_X5_put l G w 4 (by decide) x4 0 q11 hq11) bw706 bw352 bw353 bw91 bw354 cn_X5_put ⟨rfl, rfl, Nat.le_of_ble_eq_true rfl, Nat.le_of_ble_eq_true rfl⟩ (c_recR X hH (by decide)) cA_g hH hS hl rfl (Nat.le_of_ble_eq_true rfl) dX10_read_11) hS (fun H locs hH hS => ?_)
  refine lv_aload_n hx hb dX10_read_14 rfl (lv_at hl 1 rfl) ?_
  refine lv_iconst (v := 0) hx hb dX10_read_15 (by decide) ?_
  refine co_put (C := RX10) (N := 10) X hH hS 192 (by decide) eO192 rfl inBX10 tyX10 tyX10_ok nmX10 9 (by decide) bw262 rfl rfl rfl (by simp) (sS q11 0 0) rfl cE_s0 dX10_read_16 (fun H locs hH hS => ?_)
  obtain ⟨w16, ew16⟩ : ∃ z : CW, z = (sS q11 0 0) := ⟨_, rfl⟩
  have hf := nm_s hf w16 ew16
  have hH : cH G w16 H := ew16 ▸ hH
  refine lv_iconst (v := 0) hx hb dX10_read_19 (by decide) ?_
  refine lv_istore_n (lv' := [(2, .int 0), (1, .int x4), (0, .ref (G.2.2.1 192))]) hx hb dX10_read_20 rfl hl (by decide) rfl (fun ls hl => ?_)
  have hL21 : ∀ (n21 : Nat) (v21_2 : Int32) (w21_ : CW) (H : Heap) (locs : List Loc) (ls : Array Slot), f_X10_read_L21 x4 n21 v21_2 w21_ = some q → cH G w21_ H → va_S (cA G) s.heap H locs → lv_has ls 3 [(2, .int v21_2), (1, .int x4), (0, .ref (G.2.2.1 192))] → W p l e rm_X10_read s m args below meth c H locs 0 0 Q (F0 m 21 ls []) := by
    intro n21
    induction n21 with
    | zero => intro v21_2 w21_ H locs ls hf; rw [f_X10_read_L21] at hf; cases hf
    | succ n21 ih21 =>
      intro v21_2 w21_ H locs ls hf hH hS hl
      rw [f_X10_read_L21] at hf
      refine lv_iload_n hx hb dX10_read_21 rfl (lv_at hl 0 rfl) ?_
      refine lv_bipush (v := 8) hx hb dX10_read_22 (by decide) ?_
      refine lv_icmp_ge (tgt := 109) hx hb dX10_read_24 (by decide) (fun hc => ?_) (fun hc => ?_)
      · have hf := fo_t hc hf
        refine lv_aload_n hx hb dX10_read_109 rfl (lv_at hl 2 rfl) ?_
        refine co_get X hH 192 (by decide) eO192 rfl inBX10 9 (by decide) rfl bw262 dX10_read_110 ?_
        subst hQ
        exact cEi X (cH2 (so_s hf) hH) hS (pf1 (so_s hf)) dX10_read_113
      have hf := fo_f hc hf
      refine lv_aload_n hx hb dX10_read_27 rfl (lv_at hl 2 rfl) ?_
      refine lv_iload_n hx hb dX10_read_28 rfl (lv_at hl 1 rfl) ?_
      refine lv_iload_n hx hb dX10_read_29 rfl (lv_at hl 1 rfl) ?_
      refine lv_bipush (v := 8) hx hb dX10_read_30 (by decide) ?_
      refine lv_imul hx hb dX10_read_32 ?_
      refine lv_iload_n hx hb dX10_read_33 rfl (lv_at hl 0 rfl) ?_
      refine lv_iadd hx hb dX10_read_34 ?_
      obtain ⟨q35, hq35, hf⟩ := bd_s hf
      refine cGz (cVrun (rest := []) X (c_X10_readClause l G w21_ x4 ((x4 * 8) + v21_2) q35 hq35) bw707 bw709 bw4 bw96 bw710 cn_X10_readClause ⟨rfl, rfl, Nat.le_of_ble_eq_true rfl, Nat.le_of_ble_eq_true rfl⟩ (c_rec X hH 192 (by decide) eO192 rfl) cA_g hH hS hl rfl (Nat.le_of_ble_eq_true rfl) dX10_read_35) hS (fun hz35 H locs hH hS => ?_)
      refine lv_if_ne (tgt := 46) hx hb dX10_read_38 (by decide) (fun hc => ?_) (fun hc => ?_)
      rotate_left
      · have hf := fo_t hc hf
        refine lv_aload_n hx hb dX10_read_41 rfl (lv_at hl 2 rfl) ?_
        refine co_get X hH 192 (by decide) eO192 rfl inBX10 9 (by decide) rfl bw262 dX10_read_42 ?_
        subst hQ
        exact cEi X (cH2 (so_s hf) hH) hS (pf1 (so_s hf)) dX10_read_45
      have hf := fo_f hc hf
      refine lv_aload_n hx hb dX10_read_46 rfl (lv_at hl 2 rfl) ?_
      refine co_get X hH 192 (by decide) eO192 rfl inBX10 4 (by decide) rfl bw252 dX10_read_47 ?_
      refine lv_iload_n hx hb dX10_read_50 rfl (lv_at hl 1 rfl) ?_
      refine lv_iload_n hx hb dX10_read_51 rfl (lv_at hl 0 rfl) ?_
      refine lv_iconst (v := 1) hx hb dX10_read_52 (by decide) ?_
      refine lv_iadd hx hb dX10_read_53 ?_
      obtain ⟨q54, hq54, hf⟩ := nm_x hf
      have hq54 := hq54.symm
      refine cGv (cVrun (rest := []) X (cl_X5_put l G q35.2 5 (by decide) x4 (v21_2 + 1) q54 hq54) bw706 bw352 bw353 bw91 bw354 cn_X5_put ⟨rfl, rfl, Nat.le_of_ble_eq_true rfl, Nat.le_of_ble_eq_true rfl⟩ (c_recR X hH (by decide)) cA_g hH hS hl rfl (Nat.le_of_ble_eq_true rfl) dX10_read_54) hS (fun H locs hH hS => ?_)
      refine lv_aload_n hx hb dX10_read_57 rfl (lv_at hl 2 rfl) ?_
      refine co_get X hH 192 (by decide) eO192 rfl inBX10 9 (by decide) rfl bw262 dX10_read_58 ?_
      refine lv_aload_n hx hb dX10_read_61 rfl (lv_at hl 2 rfl) ?_
      refine co_get X hH 192 (by decide) eO192 rfl inBX10 0 (by decide) rfl bw245 dX10_read_62 ?_
      refine cGi (cVrun (rest := [.int (q54.2.2 0)]) X (c_X5_size l G q54 1 (by decide) _ rfl) bw705 bw624 bw625 bw91 bw626 cn_X5_size ⟨rfl, rfl, Nat.le_of_ble_eq_true rfl, Nat.le_of_ble_eq_true rfl⟩ (c_recR X hH (by decide)) cA_g hH hS hl rfl (Nat.le_of_ble_eq_true rfl) dX10_read_65) hS (fun H locs hH hS => ?_)
      refine lv_icmp_lt (tgt := 73) hx hb dX10_read_68 (by decide) (fun hc => ?_) (fun hc => ?_)
      rotate_left
      · have hf := fo_f hc hf
        refine lv_iconst (v := (-1)) hx hb dX10_read_71 (by decide) ?_
        subst hQ
        exact cEi X (cH2 (so_s hf) hH) hS (pf1 (so_s hf)) dX10_read_72
      have hf := fo_t hc hf
      refine lv_aload_n hx hb dX10_read_73 rfl (lv_at hl 2 rfl) ?_
      refine cGi (cVrun (rest := []) X (c_X10_next l G q54 _ rfl) bw784 bw786 bw8 bw96 bw787 cn_X10_next ⟨rfl, rfl, Nat.le_of_ble_eq_true rfl, Nat.le_of_ble_eq_true rfl⟩ (c_rec X hH 192 (by decide) eO192 rfl) cA_g hH hS hl rfl (Nat.le_of_ble_eq_true rfl) dX10_read_74) hS (fun H locs hH hS => ?_)
      refine lv_bipush (v := 59) hx hb dX10_read_77 (by decide) ?_
      refine lv_icmp_ne (tgt := 88) hx hb dX10_read_79 (by decide) (fun hc => ?_) (fun hc => ?_)
      · have hf := fo_f hc hf
        refine lv_aload_n hx hb dX10_read_88 rfl (lv_at hl 2 rfl) ?_
        refine co_get X hH 192 (by decide) eO192 rfl inBX10 9 (by decide) rfl bw262 dX10_read_89 ?_
        subst hQ
        exact cEi X (cH2 (so_s hf) hH) hS (pf1 (so_s hf)) dX10_read_92
      have hf := fo_t hc hf
      refine lv_iload_n hx hb dX10_read_82 rfl (lv_at hl 0 rfl) ?_
      refine lv_bipush (v := 7) hx hb dX10_read_83 (by decide) ?_
      refine lv_icmp_ne (tgt := 93) hx hb dX10_read_85 (by decide) (fun hc => ?_) (fun hc => ?_)
      rotate_left
      · have hf := fo_t hc hf
        refine lv_aload_n hx hb dX10_read_88 rfl (lv_at hl 2 rfl) ?_
        refine co_get X hH 192 (by decide) eO192 rfl inBX10 9 (by decide) rfl bw262 dX10_read_89 ?_
        subst hQ
        exact cEi X (cH2 (so_s hf) hH) hS (pf1 (so_s hf)) dX10_read_92
      have hf := fo_f hc hf
      refine lv_aload_n hx hb dX10_read_93 rfl (lv_at hl 2 rfl) ?_
      refine lv_dup hx hb dX10_read_94 rfl ?_
      refine co_get X hH 192 (by decide) eO192 rfl inBX10 9 (by decide) rfl bw262 dX10_read_95 ?_
      refine lv_iconst (v := 1) hx hb dX10_read_98 (by decide) ?_
      refine lv_iadd hx hb dX10_read_99 ?_
      refine co_put (C := RX10) (N := 10) X hH hS 192 (by decide) eO192 rfl inBX10 tyX10 tyX10_ok nmX10 9 (by decide) bw262 rfl rfl rfl (by simp) (sS q54 0 ((q54.2.2 0) + 1)) rfl cE_s0 dX10_read_100 (fun H locs hH hS => ?_)
      obtain ⟨w100, ew100⟩ : ∃ z : CW, z = (sS q54 0 ((q54.2.2 0) + 1)) := ⟨_, rfl⟩
      have hf := nm_s hf w100 ew100
      have hH : cH G w100 H := ew100 ▸ hH
      obtain ⟨x103, ex103⟩ : ∃ z : Int32, z = (v21_2 + 1) := ⟨_, rfl⟩
      have hf := nm_s hf x103 ex103
      refine lv_iinc (v := x103) (lv' := [(2, .int x103), (1, .int x4), (0, .ref (G.2.2.1 192))]) hx hb dX10_read_103 hl (k := 0) rfl (by rw [ex103]; rfl) (by decide) rfl (fun ls hl => ?_)
      refine lv_goto (tgt := 21) hx hb dX10_read_106 (by decide) ?_
      exact ih21 _ _ _ _ _ hf hH hS (lv_sub hl [0, 1, 2] rfl)
  exact hL21 _ _ _ _ _ _ hf hH hS (lv_sub hl [0, 1, 2] rfl)
