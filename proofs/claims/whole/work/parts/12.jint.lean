def f_J9_floorMod_7cf53 (a0 : Int32) (a1 : Int32) : Option (Int32) := (if a1 = 0 then none else (nmk (a0 - a0 / a1 * a1) fun (x3 : Int32) => (if 0 ≤ (a0 ^^^ a1) then (some x3) else (if x3 = 0 then (some x3) else (some (x3 + a1))))))
abbrev rm_J9_floorMod_7cf53 : Room := { frames := 1, cells := 0, slots := 0, locals := 0 }
theorem cn_J9_floorMod_7cf53 : CN yJ9_floorMod_7cf53 2 := ⟨by decide +kernel, by decide +kernel, by decide +kernel⟩
set_option maxHeartbeats 4000000 in
set_option maxRecDepth 100000 in
theorem c_J9_floorMod_7cf53 (l : Launch) (G : GX) (P : Heap → Prop) (A : Nat → Prop) (hAG : ∀ q, A q → gA G q) (a0 : Int32) (a1 : Int32) (q : Int32) (hf : f_J9_floorMod_7cf53 a0 a1 = some q) : MI l G yJ9_floorMod_7cf53 cJ9_floorMod_7cf53 3 (some .int) rm_J9_floorMod_7cf53 [.int a0, .int a1] A P P q := by
  refine cM_start (by decide +kernel) (Nat.le_of_ble_eq_true rfl) ?_
  intro p e s m below meth c ls X hH hl
  have hS : va_S A s.heap s.heap [] := va_S.rf
  have hx := X.1.1
  have hb := X.1.2.1
  generalize hargs : ([.int a0, .int a1] : List Value).toArray = args at X ⊢
  generalize hQ : MQ below (QI A P q) args s 0 0 A = Q
  have hl : lv_has ls 3 [(0, .int a0), (1, .int a1)] := hl
  unfold f_J9_floorMod_7cf53 at hf
  refine lv_iload_n hx hb dJ9_floorMod_7cf53_0 rfl (lv_at hl 0 rfl) ?_
  refine lv_iload_n hx hb dJ9_floorMod_7cf53_1 rfl (lv_at hl 1 rfl) ?_
  by_cases hc : a1 = 0
  · cases (fo_t hc hf)
  have hf := fo_f hc hf
  refine lv_irem hx hb dJ9_floorMod_7cf53_2 hc ?_
  refine lv_topi (fun x3 ex3 => ?_)
  have hf := nm_s hf x3 ex3
  refine lv_istore_n (lv' := [(2, .int x3), (0, .int a0), (1, .int a1)]) hx hb dJ9_floorMod_7cf53_3 rfl hl (by decide) rfl (fun ls hl => ?_)
  refine lv_iload_n hx hb dJ9_floorMod_7cf53_4 rfl (lv_at hl 1 rfl) ?_
  refine lv_iload_n hx hb dJ9_floorMod_7cf53_5 rfl (lv_at hl 2 rfl) ?_
  refine lv_ixor hx hb dJ9_floorMod_7cf53_6 ?_
  refine lv_if_ge (tgt := 18) hx hb dJ9_floorMod_7cf53_7 (by decide) (fun hc => ?_) (fun hc => ?_)
  · have hf := fo_t hc hf
    refine lv_iload_n hx hb dJ9_floorMod_7cf53_18 rfl (lv_at hl 0 rfl) ?_
    subst hQ
    exact cEi X hH hS (so_s hf) dJ9_floorMod_7cf53_19
  have hf := fo_f hc hf
  refine lv_iload_n hx hb dJ9_floorMod_7cf53_10 rfl (lv_at hl 0 rfl) ?_
  refine lv_if_eq (tgt := 18) hx hb dJ9_floorMod_7cf53_11 (by decide) (fun hc => ?_) (fun hc => ?_)
  · have hf := fo_t hc hf
    refine lv_iload_n hx hb dJ9_floorMod_7cf53_18 rfl (lv_at hl 0 rfl) ?_
    subst hQ
    exact cEi X hH hS (so_s hf) dJ9_floorMod_7cf53_19
  have hf := fo_f hc hf
  refine lv_iload_n hx hb dJ9_floorMod_7cf53_14 rfl (lv_at hl 0 rfl) ?_
  refine lv_iload_n hx hb dJ9_floorMod_7cf53_15 rfl (lv_at hl 2 rfl) ?_
  refine lv_iadd hx hb dJ9_floorMod_7cf53_16 ?_
  subst hQ
  exact cEi X hH hS (so_s hf) dJ9_floorMod_7cf53_17
def f_J6_compare_7cf53 (a0 : Int32) (a1 : Int32) : Int32 := ((if a1 ≤ a0 then (if a0 = a1 then 0 else 1) else (-1)))
abbrev rm_J6_compare_7cf53 : Room := { frames := 1, cells := 0, slots := 0, locals := 0 }
theorem cn_J6_compare_7cf53 : CN yJ6_compare_7cf53 2 := ⟨by decide +kernel, by decide +kernel, by decide +kernel⟩
set_option maxHeartbeats 4000000 in
set_option maxRecDepth 100000 in
theorem c_J6_compare_7cf53 (l : Launch) (G : GX) (P : Heap → Prop) (A : Nat → Prop) (hAG : ∀ q, A q → gA G q) (a0 : Int32) (a1 : Int32) (q : Int32) (hf : f_J6_compare_7cf53 a0 a1 = q) : MI l G yJ6_compare_7cf53 cJ6_compare_7cf53 2 (some .int) rm_J6_compare_7cf53 [.int a0, .int a1] A P P q := by
  refine cM_start (by decide +kernel) (Nat.le_of_ble_eq_true rfl) ?_
  intro p e s m below meth c ls X hH hl
  have hS : va_S A s.heap s.heap [] := va_S.rf
  have hx := X.1.1
  have hb := X.1.2.1
  generalize hargs : ([.int a0, .int a1] : List Value).toArray = args at X ⊢
  generalize hQ : MQ below (QI A P q) args s 0 0 A = Q
  have hl : lv_has ls 2 [(0, .int a0), (1, .int a1)] := hl
  unfold f_J6_compare_7cf53 at hf
  refine lv_iload_n hx hb dJ6_compare_7cf53_0 rfl (lv_at hl 0 rfl) ?_
  refine lv_iload_n hx hb dJ6_compare_7cf53_1 rfl (lv_at hl 1 rfl) ?_
  have hJ : ∀ (H : Heap) (locs : List Loc), P H → va_S A s.heap H locs → W p l e rm_J6_compare_7cf53 s m args below meth c H locs 0 0 Q (F0 m 19 ls [.int (if a1 ≤ a0 then (if a0 = a1 then 0 else 1) else (-1))]) := by
    intro H locs hH hS
    subst hQ
    exact cEi X hH hS (hf) dJ6_compare_7cf53_19
  refine lv_icmp_ge (tgt := 9) hx hb dJ6_compare_7cf53_2 (by decide) (fun hc2 => ?_) (fun hc2 => ?_)
  · refine lv_iload_n hx hb dJ6_compare_7cf53_9 rfl (lv_at hl 0 rfl) ?_
    refine lv_iload_n hx hb dJ6_compare_7cf53_10 rfl (lv_at hl 1 rfl) ?_
    refine lv_icmp_ne (tgt := 18) hx hb dJ6_compare_7cf53_11 (by decide) (fun hc11 => ?_) (fun hc11 => ?_)
    · refine lv_iconst (v := 1) hx hb dJ6_compare_7cf53_18 (by decide) ?_
      exact W.eq (by rw [if_pos hc2, if_neg hc11] <;> rfl) (hJ _ _ hH hS)
    · refine lv_iconst (v := 0) hx hb dJ6_compare_7cf53_14 (by decide) ?_
      refine lv_goto (tgt := 19) hx hb dJ6_compare_7cf53_15 (by decide) ?_
      exact W.eq (by rw [if_pos hc2, if_pos hc11] <;> rfl) (hJ _ _ hH hS)
  · refine lv_iconst (v := (-1)) hx hb dJ6_compare_7cf53_5 (by decide) ?_
    refine lv_goto (tgt := 19) hx hb dJ6_compare_7cf53_6 (by decide) ?_
    exact W.eq (by rw [if_neg hc2] <;> rfl) (hJ _ _ hH hS)
def f_J6_numberOfTrailingZeros_0f7a4 (a0 : Int32) : Int32 := (nmk ((a0 ^^^ (-1)) &&& (a0 - 1)) fun (x7 : Int32) => (if 0 < x7 then (nmk (fun (y34_0 : Int32) (y34_1 : Int32) => (nmk (fun (y49_0 : Int32) (y49_1 : Int32) => (nmk (fun (y62_0 : Int32) (y62_1 : Int32) => (if y62_0 ≤ 4 then ((y62_1 + (y62_0.toUInt32 >>> ((1 : Int32).toUInt32 &&& Int32.toUInt32 31)).toInt32)) else (nmk (y62_1 + 2) fun (x67 : Int32) => (nmk ((y62_0.toUInt32 >>> ((2 : Int32).toUInt32 &&& Int32.toUInt32 31)).toInt32) fun (x73 : Int32) => ((x67 + (x73.toUInt32 >>> ((1 : Int32).toUInt32 &&& Int32.toUInt32 31)).toInt32)))))) fun j62 => (if y49_0 ≤ 16 then (j62 y49_0 y49_1) else (nmk (y49_1 + 4) fun (x55 : Int32) => (nmk ((y49_0.toUInt32 >>> ((4 : Int32).toUInt32 &&& Int32.toUInt32 31)).toInt32) fun (x61 : Int32) => (j62 x61 x55)))))) fun j49 => (if y34_0 ≤ 256 then (j49 y34_0 y34_1) else (nmk (y34_1 + 8) fun (x41 : Int32) => (nmk ((y34_0.toUInt32 >>> ((8 : Int32).toUInt32 &&& Int32.toUInt32 31)).toInt32) fun (x48 : Int32) => (j49 x48 x41)))))) fun j34 => (if x7 ≤ 65536 then (j34 x7 1) else (nmk (1 + 16) fun (x26 : Int32) => (nmk ((x7.toUInt32 >>> ((16 : Int32).toUInt32 &&& Int32.toUInt32 31)).toInt32) fun (x33 : Int32) => (j34 x33 x26))))) else ((x7 &&& 32))))
abbrev rm_J6_numberOfTrailingZeros_0f7a4 : Room := { frames := 1, cells := 0, slots := 0, locals := 0 }
theorem cn_J6_numberOfTrailingZeros_0f7a4 : CN yJ6_numberOfTrailingZeros_0f7a4 1 := ⟨by decide +kernel, by decide +kernel, by decide +kernel⟩
set_option maxHeartbeats 4000000 in
set_option maxRecDepth 100000 in
theorem c_J6_numberOfTrailingZeros_0f7a4 (l : Launch) (G : GX) (P : Heap → Prop) (A : Nat → Prop) (hAG : ∀ q, A q → gA G q) (a0 : Int32) (q : Int32) (hf : f_J6_numberOfTrailingZeros_0f7a4 a0 = q) : MI l G yJ6_numberOfTrailingZeros_0f7a4 cJ6_numberOfTrailingZeros_0f7a4 2 (some .int) rm_J6_numberOfTrailingZeros_0f7a4 [.int a0] A P P q := by
  refine cM_start (by decide +kernel) (Nat.le_of_ble_eq_true rfl) ?_
  intro p e s m below meth c ls X hH hl
  have hS : va_S A s.heap s.heap [] := va_S.rf
  have hx := X.1.1
  have hb := X.1.2.1
  generalize hargs : ([.int a0] : List Value).toArray = args at X ⊢
  generalize hQ : MQ below (QI A P q) args s 0 0 A = Q
  have hl : lv_has ls 2 [(0, .int a0)] := hl
  unfold f_J6_numberOfTrailingZeros_0f7a4 at hf
  refine lv_iload_n hx hb dJ6_numberOfTrailingZeros_0f7a4_0 rfl (lv_at hl 0 rfl) ?_
  refine lv_iconst (v := (-1)) hx hb dJ6_numberOfTrailingZeros_0f7a4_1 (by decide) ?_
  refine lv_ixor hx hb dJ6_numberOfTrailingZeros_0f7a4_2 ?_
  refine lv_iload_n hx hb dJ6_numberOfTrailingZeros_0f7a4_3 rfl (lv_at hl 0 rfl) ?_
  refine lv_iconst (v := 1) hx hb dJ6_numberOfTrailingZeros_0f7a4_4 (by decide) ?_
  refine lv_isub hx hb dJ6_numberOfTrailingZeros_0f7a4_5 ?_
  refine lv_iand hx hb dJ6_numberOfTrailingZeros_0f7a4_6 ?_
  refine lv_topi (fun x7 ex7 => ?_)
  have hf := nm_s hf x7 ex7
  refine lv_istore_n (lv' := [(0, .int x7)]) hx hb dJ6_numberOfTrailingZeros_0f7a4_7 rfl hl (by decide) rfl (fun ls hl => ?_)
  refine lv_iload_n hx hb dJ6_numberOfTrailingZeros_0f7a4_8 rfl (lv_at hl 0 rfl) ?_
  refine lv_if_gt (tgt := 17) hx hb dJ6_numberOfTrailingZeros_0f7a4_9 (by decide) (fun hc => ?_) (fun hc => ?_)
  rotate_left
  · have hf := fo_f hc hf
    refine lv_iload_n hx hb dJ6_numberOfTrailingZeros_0f7a4_12 rfl (lv_at hl 0 rfl) ?_
    refine lv_bipush (v := 32) hx hb dJ6_numberOfTrailingZeros_0f7a4_13 (by decide) ?_
    refine lv_iand hx hb dJ6_numberOfTrailingZeros_0f7a4_15 ?_
    subst hQ
    exact cEi X hH hS (hf) dJ6_numberOfTrailingZeros_0f7a4_16
  have hf := fo_t hc hf
  refine lv_iconst (v := 1) hx hb dJ6_numberOfTrailingZeros_0f7a4_17 (by decide) ?_
  refine lv_istore_n (lv' := [(1, .int 1), (0, .int x7)]) hx hb dJ6_numberOfTrailingZeros_0f7a4_18 rfl hl (by decide) rfl (fun ls hl => ?_)
  refine lv_iload_n hx hb dJ6_numberOfTrailingZeros_0f7a4_19 rfl (lv_at hl 1 rfl) ?_
  refine lv_ldcw (v := 65536) hx hb X.1.2.2.2.1 (X.w bw1204) dJ6_numberOfTrailingZeros_0f7a4_20 ?_
  obtain ⟨j34, ej34, hf⟩ := nm_x hf
  have hj34 : ∀ (y34_0 : Int32) (y34_1 : Int32) (H : Heap) (locs : List Loc) (ls : Array Slot), j34 y34_0 y34_1 = q → P H → va_S A s.heap H locs → lv_has ls 2 [(1, .int y34_1), (0, .int y34_0)] → W p l e rm_J6_numberOfTrailingZeros_0f7a4 s m args below meth c H locs 0 0 Q (F0 m 34 ls []) := by
    intro y34_0 y34_1 H locs ls hf hH hS hl
    have hf := jb2 ej34 hf
    refine lv_iload_n hx hb dJ6_numberOfTrailingZeros_0f7a4_34 rfl (lv_at hl 1 rfl) ?_
    refine lv_sipush (v := 256) hx hb dJ6_numberOfTrailingZeros_0f7a4_35 (by decide) ?_
    obtain ⟨j49, ej49, hf⟩ := nm_x hf
    have hj49 : ∀ (y49_0 : Int32) (y49_1 : Int32) (H : Heap) (locs : List Loc) (ls : Array Slot), j49 y49_0 y49_1 = q → P H → va_S A s.heap H locs → lv_has ls 2 [(1, .int y49_1), (0, .int y49_0)] → W p l e rm_J6_numberOfTrailingZeros_0f7a4 s m args below meth c H locs 0 0 Q (F0 m 49 ls []) := by
      intro y49_0 y49_1 H locs ls hf hH hS hl
      have hf := jb2 ej49 hf
      refine lv_iload_n hx hb dJ6_numberOfTrailingZeros_0f7a4_49 rfl (lv_at hl 1 rfl) ?_
      refine lv_bipush (v := 16) hx hb dJ6_numberOfTrailingZeros_0f7a4_50 (by decide) ?_
      obtain ⟨j62, ej62, hf⟩ := nm_x hf
      have hj62 : ∀ (y62_0 : Int32) (y62_1 : Int32) (H : Heap) (locs : List Loc) (ls : Array Slot), j62 y62_0 y62_1 = q → P H → va_S A s.heap H locs → lv_has ls 2 [(1, .int y62_1), (0, .int y62_0)] → W p l e rm_J6_numberOfTrailingZeros_0f7a4 s m args below meth c H locs 0 0 Q (F0 m 62 ls []) := by
        intro y62_0 y62_1 H locs ls hf hH hS hl
        have hf := jb2 ej62 hf
        refine lv_iload_n hx hb dJ6_numberOfTrailingZeros_0f7a4_62 rfl (lv_at hl 1 rfl) ?_
        refine lv_iconst (v := 4) hx hb dJ6_numberOfTrailingZeros_0f7a4_63 (by decide) ?_
        refine lv_icmp_le (tgt := 74) hx hb dJ6_numberOfTrailingZeros_0f7a4_64 (by decide) (fun hc => ?_) (fun hc => ?_)
        · have hf := fo_t hc hf
          refine lv_iload_n hx hb dJ6_numberOfTrailingZeros_0f7a4_74 rfl (lv_at hl 0 rfl) ?_
          refine lv_iload_n hx hb dJ6_numberOfTrailingZeros_0f7a4_75 rfl (lv_at hl 1 rfl) ?_
          refine lv_iconst (v := 1) hx hb dJ6_numberOfTrailingZeros_0f7a4_76 (by decide) ?_
          refine lv_iushr hx hb dJ6_numberOfTrailingZeros_0f7a4_77 rfl ?_
          refine lv_iadd hx hb dJ6_numberOfTrailingZeros_0f7a4_78 ?_
          subst hQ
          exact cEi X hH hS (hf) dJ6_numberOfTrailingZeros_0f7a4_79
        have hf := fo_f hc hf
        obtain ⟨x67, ex67⟩ : ∃ z : Int32, z = (y62_1 + 2) := ⟨_, rfl⟩
        have hf := nm_s hf x67 ex67
        refine lv_iinc (v := x67) (lv' := [(1, .int x67), (0, .int y62_0)]) hx hb dJ6_numberOfTrailingZeros_0f7a4_67 hl (k := 0) rfl (by rw [ex67]; rfl) (by decide) rfl (fun ls hl => ?_)
        refine lv_iload_n hx hb dJ6_numberOfTrailingZeros_0f7a4_70 rfl (lv_at hl 1 rfl) ?_
        refine lv_iconst (v := 2) hx hb dJ6_numberOfTrailingZeros_0f7a4_71 (by decide) ?_
        refine lv_iushr hx hb dJ6_numberOfTrailingZeros_0f7a4_72 rfl ?_
        refine lv_topi (fun x73 ex73 => ?_)
        have hf := nm_s hf x73 ex73
        refine lv_istore_n (lv' := [(0, .int x73), (1, .int x67)]) hx hb dJ6_numberOfTrailingZeros_0f7a4_73 rfl hl (by decide) rfl (fun ls hl => ?_)
        refine lv_iload_n hx hb dJ6_numberOfTrailingZeros_0f7a4_74 rfl (lv_at hl 1 rfl) ?_
        refine lv_iload_n hx hb dJ6_numberOfTrailingZeros_0f7a4_75 rfl (lv_at hl 0 rfl) ?_
        refine lv_iconst (v := 1) hx hb dJ6_numberOfTrailingZeros_0f7a4_76 (by decide) ?_
        refine lv_iushr hx hb dJ6_numberOfTrailingZeros_0f7a4_77 rfl ?_
        refine lv_iadd hx hb dJ6_numberOfTrailingZeros_0f7a4_78 ?_
        subst hQ
        exact cEi X hH hS (hf) dJ6_numberOfTrailingZeros_0f7a4_79
      refine lv_icmp_le (tgt := 62) hx hb dJ6_numberOfTrailingZeros_0f7a4_52 (by decide) (fun hc => ?_) (fun hc => ?_)
      · have hf := fo_t hc hf
        exact hj62 _ _ _ _ _ hf hH hS (lv_sub hl [0, 1] rfl)
      have hf := fo_f hc hf
      obtain ⟨x55, ex55⟩ : ∃ z : Int32, z = (y49_1 + 4) := ⟨_, rfl⟩
      have hf := nm_s hf x55 ex55
      refine lv_iinc (v := x55) (lv' := [(1, .int x55), (0, .int y49_0)]) hx hb dJ6_numberOfTrailingZeros_0f7a4_55 hl (k := 0) rfl (by rw [ex55]; rfl) (by decide) rfl (fun ls hl => ?_)
      refine lv_iload_n hx hb dJ6_numberOfTrailingZeros_0f7a4_58 rfl (lv_at hl 1 rfl) ?_
      refine lv_iconst (v := 4) hx hb dJ6_numberOfTrailingZeros_0f7a4_59 (by decide) ?_
      refine lv_iushr hx hb dJ6_numberOfTrailingZeros_0f7a4_60 rfl ?_
      refine lv_topi (fun x61 ex61 => ?_)
      have hf := nm_s hf x61 ex61
      refine lv_istore_n (lv' := [(0, .int x61), (1, .int x55)]) hx hb dJ6_numberOfTrailingZeros_0f7a4_61 rfl hl (by decide) rfl (fun ls hl => ?_)
      exact hj62 _ _ _ _ _ hf hH hS (lv_sub hl [1, 0] rfl)
    refine lv_icmp_le (tgt := 49) hx hb dJ6_numberOfTrailingZeros_0f7a4_38 (by decide) (fun hc => ?_) (fun hc => ?_)
    · have hf := fo_t hc hf
      exact hj49 _ _ _ _ _ hf hH hS (lv_sub hl [0, 1] rfl)
    have hf := fo_f hc hf
    obtain ⟨x41, ex41⟩ : ∃ z : Int32, z = (y34_1 + 8) := ⟨_, rfl⟩
    have hf := nm_s hf x41 ex41
    refine lv_iinc (v := x41) (lv' := [(1, .int x41), (0, .int y34_0)]) hx hb dJ6_numberOfTrailingZeros_0f7a4_41 hl (k := 0) rfl (by rw [ex41]; rfl) (by decide) rfl (fun ls hl => ?_)
    refine lv_iload_n hx hb dJ6_numberOfTrailingZeros_0f7a4_44 rfl (lv_at hl 1 rfl) ?_
    refine lv_bipush (v := 8) hx hb dJ6_numberOfTrailingZeros_0f7a4_45 (by decide) ?_
    refine lv_iushr hx hb dJ6_numberOfTrailingZeros_0f7a4_47 rfl ?_
    refine lv_topi (fun x48 ex48 => ?_)
    have hf := nm_s hf x48 ex48
    refine lv_istore_n (lv' := [(0, .int x48), (1, .int x41)]) hx hb dJ6_numberOfTrailingZeros_0f7a4_48 rfl hl (by decide) rfl (fun ls hl => ?_)
    exact hj49 _ _ _ _ _ hf hH hS (lv_sub hl [1, 0] rfl)
  refine lv_icmp_le (tgt := 34) hx hb dJ6_numberOfTrailingZeros_0f7a4_23 (by decide) (fun hc => ?_) (fun hc => ?_)
  · have hf := fo_t hc hf
    exact hj34 _ _ _ _ _ hf hH hS (lv_sub hl [0, 1] rfl)
  have hf := fo_f hc hf
  obtain ⟨x26, ex26⟩ : ∃ z : Int32, z = (1 + 16) := ⟨_, rfl⟩
  have hf := nm_s hf x26 ex26
  refine lv_iinc (v := x26) (lv' := [(1, .int x26), (0, .int x7)]) hx hb dJ6_numberOfTrailingZeros_0f7a4_26 hl (k := 0) rfl (by rw [ex26]; rfl) (by decide) rfl (fun ls hl => ?_)
  refine lv_iload_n hx hb dJ6_numberOfTrailingZeros_0f7a4_29 rfl (lv_at hl 1 rfl) ?_
  refine lv_bipush (v := 16) hx hb dJ6_numberOfTrailingZeros_0f7a4_30 (by decide) ?_
  refine lv_iushr hx hb dJ6_numberOfTrailingZeros_0f7a4_32 rfl ?_
  refine lv_topi (fun x33 ex33 => ?_)
  have hf := nm_s hf x33 ex33
  refine lv_istore_n (lv' := [(0, .int x33), (1, .int x26)]) hx hb dJ6_numberOfTrailingZeros_0f7a4_33 rfl hl (by decide) rfl (fun ls hl => ?_)
  exact hj34 _ _ _ _ _ hf hH hS (lv_sub hl [1, 0] rfl)
def f_J6_bitCount_0f7a4 (a0 : Int32) : Int32 := (nmk (a0 - ((a0.toUInt32 >>> ((1 : Int32).toUInt32 &&& Int32.toUInt32 31)).toInt32 &&& 1431655765)) fun (x9 : Int32) => (nmk ((x9 &&& 858993459) + ((x9.toUInt32 >>> ((2 : Int32).toUInt32 &&& Int32.toUInt32 31)).toInt32 &&& 858993459)) fun (x23 : Int32) => (nmk ((x23 + (x23.toUInt32 >>> ((4 : Int32).toUInt32 &&& Int32.toUInt32 31)).toInt32) &&& 252645135) fun (x33 : Int32) => (nmk (x33 + (x33.toUInt32 >>> ((8 : Int32).toUInt32 &&& Int32.toUInt32 31)).toInt32) fun (x40 : Int32) => (nmk (x40 + (x40.toUInt32 >>> ((16 : Int32).toUInt32 &&& Int32.toUInt32 31)).toInt32) fun (x47 : Int32) => ((x47 &&& 63)))))))
abbrev rm_J6_bitCount_0f7a4 : Room := { frames := 1, cells := 0, slots := 0, locals := 0 }
theorem cn_J6_bitCount_0f7a4 : CN yJ6_bitCount_0f7a4 1 := ⟨by decide +kernel, by decide +kernel, by decide +kernel⟩
set_option maxHeartbeats 4000000 in
set_option maxRecDepth 100000 in
theorem c_J6_bitCount_0f7a4 (l : Launch) (G : GX) (P : Heap → Prop) (A : Nat → Prop) (hAG : ∀ q, A q → gA G q) (a0 : Int32) (q : Int32) (hf : f_J6_bitCount_0f7a4 a0 = q) : MI l G yJ6_bitCount_0f7a4 cJ6_bitCount_0f7a4 1 (some .int) rm_J6_bitCount_0f7a4 [.int a0] A P P q := by
  refine cM_start (by decide +kernel) (Nat.le_of_ble_eq_true rfl) ?_
  intro p e s m below meth c ls X hH hl
  have hS : va_S A s.heap s.heap [] := va_S.rf
  have hx := X.1.1
  have hb := X.1.2.1
  generalize hargs : ([.int a0] : List Value).toArray = args at X ⊢
  generalize hQ : MQ below (QI A P q) args s 0 0 A = Q
  have hl : lv_has ls 1 [(0, .int a0)] := hl
  unfold f_J6_bitCount_0f7a4 at hf
  refine lv_iload_n hx hb dJ6_bitCount_0f7a4_0 rfl (lv_at hl 0 rfl) ?_
  refine lv_iload_n hx hb dJ6_bitCount_0f7a4_1 rfl (lv_at hl 0 rfl) ?_
  refine lv_iconst (v := 1) hx hb dJ6_bitCount_0f7a4_2 (by decide) ?_
  refine lv_iushr hx hb dJ6_bitCount_0f7a4_3 rfl ?_
  refine lv_ldcw (v := 1431655765) hx hb X.1.2.2.2.1 (X.w bw1326) dJ6_bitCount_0f7a4_4 ?_
  refine lv_iand hx hb dJ6_bitCount_0f7a4_7 ?_
  refine lv_isub hx hb dJ6_bitCount_0f7a4_8 ?_
  refine lv_topi (fun x9 ex9 => ?_)
  have hf := nm_s hf x9 ex9
  refine lv_istore_n (lv' := [(0, .int x9)]) hx hb dJ6_bitCount_0f7a4_9 rfl hl (by decide) rfl (fun ls hl => ?_)
  refine lv_iload_n hx hb dJ6_bitCount_0f7a4_10 rfl (lv_at hl 0 rfl) ?_
  refine lv_ldcw (v := 858993459) hx hb X.1.2.2.2.1 (X.w bw1327) dJ6_bitCount_0f7a4_11 ?_
  refine lv_iand hx hb dJ6_bitCount_0f7a4_14 ?_
  refine lv_iload_n hx hb dJ6_bitCount_0f7a4_15 rfl (lv_at hl 0 rfl) ?_
  refine lv_iconst (v := 2) hx hb dJ6_bitCount_0f7a4_16 (by decide) ?_
  refine lv_iushr hx hb dJ6_bitCount_0f7a4_17 rfl ?_
  refine lv_ldcw (v := 858993459) hx hb X.1.2.2.2.1 (X.w bw1327) dJ6_bitCount_0f7a4_18 ?_
  refine lv_iand hx hb dJ6_bitCount_0f7a4_21 ?_
  refine lv_iadd hx hb dJ6_bitCount_0f7a4_22 ?_
  refine lv_topi (fun x23 ex23 => ?_)
  have hf := nm_s hf x23 ex23
  refine lv_istore_n (lv' := [(0, .int x23)]) hx hb dJ6_bitCount_0f7a4_23 rfl hl (by decide) rfl (fun ls hl => ?_)
  refine lv_iload_n hx hb dJ6_bitCount_0f7a4_24 rfl (lv_at hl 0 rfl) ?_
  refine lv_iload_n hx hb dJ6_bitCount_0f7a4_25 rfl (lv_at hl 0 rfl) ?_
  refine lv_iconst (v := 4) hx hb dJ6_bitCount_0f7a4_26 (by decide) ?_
  refine lv_iushr hx hb dJ6_bitCount_0f7a4_27 rfl ?_
  refine lv_iadd hx hb dJ6_bitCount_0f7a4_28 ?_
  refine lv_ldcw (v := 252645135) hx hb X.1.2.2.2.1 (X.w bw1328) dJ6_bitCount_0f7a4_29 ?_
  refine lv_iand hx hb dJ6_bitCount_0f7a4_32 ?_
  refine lv_topi (fun x33 ex33 => ?_)
  have hf := nm_s hf x33 ex33
  refine lv_istore_n (lv' := [(0, .int x33)]) hx hb dJ6_bitCount_0f7a4_33 rfl hl (by decide) rfl (fun ls hl => ?_)
  refine lv_iload_n hx hb dJ6_bitCount_0f7a4_34 rfl (lv_at hl 0 rfl) ?_
  refine lv_iload_n hx hb dJ6_bitCount_0f7a4_35 rfl (lv_at hl 0 rfl) ?_
  refine lv_bipush (v := 8) hx hb dJ6_bitCount_0f7a4_36 (by decide) ?_
  refine lv_iushr hx hb dJ6_bitCount_0f7a4_38 rfl ?_
  refine lv_iadd hx hb dJ6_bitCount_0f7a4_39 ?_
  refine lv_topi (fun x40 ex40 => ?_)
  have hf := nm_s hf x40 ex40
  refine lv_istore_n (lv' := [(0, .int x40)]) hx hb dJ6_bitCount_0f7a4_40 rfl hl (by decide) rfl (fun ls hl => ?_)
  refine lv_iload_n hx hb dJ6_bitCount_0f7a4_41 rfl (lv_at hl 0 rfl) ?_
  refine lv_iload_n hx hb dJ6_bitCount_0f7a4_42 rfl (lv_at hl 0 rfl) ?_
  refine lv_bipush (v := 16) hx hb dJ6_bitCount_0f7a4_43 (by decide) ?_
  refine lv_iushr hx hb dJ6_bitCount_0f7a4_45 rfl ?_
  refine lv_iadd hx hb dJ6_bitCount_0f7a4_46 ?_
  refine lv_topi (fun x47 ex47 => ?_)
  have hf := nm_s hf x47 ex47
  refine lv_istore_n (lv' := [(0, .int x47)]) hx hb dJ6_bitCount_0f7a4_47 rfl hl (by decide) rfl (fun ls hl => ?_)
  refine lv_iload_n hx hb dJ6_bitCount_0f7a4_48 rfl (lv_at hl 0 rfl) ?_
  refine lv_bipush (v := 63) hx hb dJ6_bitCount_0f7a4_49 (by decide) ?_
  refine lv_iand hx hb dJ6_bitCount_0f7a4_51 ?_
  subst hQ
  exact cEi X hH hS (hf) dJ6_bitCount_0f7a4_52
