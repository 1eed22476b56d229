/-! String constants: rules and the JDK's methods over them -/
section STRR
variable {p : Program} {l : Launch} {e : Env} {R : Room} {s : State} {m : MethodId} {args : Array Value} {below : List Frame} {meth : Method} {c : Code} {H : Heap} {locs : List Loc} {cells slots : Nat} {Q : State → Prop}
variable {G : GX} {y : MethodName} {cc : ByteArray} {nL idx pc : Nat} {ret : Option FieldType} {rest : List Value} {ls : Array Slot} {A : Nat → Prop}
theorem g_str (X : CX G p s m args meth c y cc nL ret) (hAG : ∀ q, A q → gA G q) : vk_S 16 gLen gByt G.2.2.2.1 G.2.2.2.2 A s s.heap := X.2.2.2.2.1.narrow hAG
theorem g_recS (X : CX G p s m args meth c y cc nL ret) (hS : va_S A s.heap H locs) (hAG : ∀ q, A q → gA G q) {t : Nat} (ht : t < 16) : REC s H RJ0 (G.2.2.2.1 t) := vk_recv (g_str X hAG) ht hS
theorem s_value (X : CX G p s m args meth c y cc nL ret) (hS : va_S A s.heap H locs) (hAG : ∀ q, A q → gA G q) {t : Nat} (ht : t < 16) (hlink : Cond.fieldLink y.cls idx "java/lang/String" "value" "[B" ∈ BG) (hdg : decode cc pc = .ok (.getfield idx, 3))
    (kk : W p l e R s m args below meth c H locs cells slots Q (F0 m (pc + 3) ls (.ref (G.2.2.2.2 t) :: rest))) : W p l e R s m args below meth c H locs cells slots Q (F0 m pc ls (.ref (G.2.2.2.1 t) :: rest)) :=
  vk_getf X.1.1 X.1.2.1 ((g_str X hAG).1 t ht).2.2.1 hS X.1.2.2.2.1 (X.w hlink) (fun _ h => h) hdg kk
theorem s_coder (X : CX G p s m args meth c y cc nL ret) (hS : va_S A s.heap H locs) (hAG : ∀ q, A q → gA G q) {t : Nat} (ht : t < 16) (hlink : Cond.fieldLink y.cls idx "java/lang/String" "coder" "B" ∈ BG) (hdg : decode cc pc = .ok (.getfield idx, 3))
    (kk : W p l e R s m args below meth c H locs cells slots Q (F0 m (pc + 3) ls (.int 0 :: rest))) : W p l e R s m args below meth c H locs cells slots Q (F0 m pc ls (.ref (G.2.2.2.1 t) :: rest)) :=
  vk_getf X.1.1 X.1.2.1 ((g_str X hAG).1 t ht).2.1 hS X.1.2.2.2.1 (X.w hlink) (fun _ h => h) hdg kk
theorem s_len (X : CX G p s m args meth c y cc nL ret) (hS : va_S A s.heap H locs) (hAG : ∀ q, A q → gA G q) {t : Nat} (ht : t < 16) (hdg : decode cc pc = .ok (.arraylength, 1))
    (kk : W p l e R s m args below meth c H locs cells slots Q (F0 m (pc + 1) ls (.int (nI (gLen.getD t 0)) :: rest))) : W p l e R s m args below meth c H locs cells slots Q (F0 m pc ls (.ref (G.2.2.2.2 t) :: rest)) :=
  va_tlen X.1.1 X.1.2.1 ((g_str X hAG).1 t ht).2.2.2 hS rfl hdg kk
theorem s_ld (X : CX G p s m args meth c y cc nL ret) (hS : va_S A s.heap H locs) (hAG : ∀ q, A q → gA G q) {t : Nat} (ht : t < 16) {i : Int32} (hi : vp_in i (gLen.getD t 0)) (hdg : decode cc pc = .ok (.baload, 1))
    (kk : W p l e R s m args below meth c H locs cells slots Q (F0 m (pc + 1) ls (.int ((gByt.getD t []).getD i.toNatClampNeg 0) :: rest))) : W p l e R s m args below meth c H locs cells slots Q (F0 m pc ls (.int i :: .ref (G.2.2.2.2 t) :: rest)) :=
  va_tb X.1.1 X.1.2.1 ((g_str X hAG).1 t ht).2.2.2 hS hi rfl hdg kk
theorem s_comp (X : CX G p s m args meth c y cc nL ret) (hS : va_S A s.heap H locs) (hAG : ∀ q, A q → gA G q) (hlink : Cond.fieldLink y.cls idx "java/lang/String" "COMPACT_STRINGS" "Z" ∈ BG) (hdg : decode cc pc = .ok (.getstatic idx, 3))
    (kk : W p l e R s m args below meth c H locs cells slots Q (F0 m (pc + 3) ls (.int 1 :: rest))) : W p l e R s m args below meth c H locs cells slots Q (F0 m pc ls rest) :=
  va_gets X.1.1 X.1.2.1 (X.2.2.2.2.2.2.1.narrow hAG) hS X.1.2.2.2.1 (X.w hlink) (fun _ h => h) hdg kk
end STRR
def f_J0_length (t : Nat) : Int32 := nI (gLen.getD t 0)
def scc (t : Nat) (k : Int32) : Int32 := (gByt.getD t []).getD k.toNatClampNeg 0 &&& 255
def f_J0_charAt (t : Nat) (k : Int32) : Option Int32 := if k < 0 ∨ gLen.getD t 0 ≤ k.toNatClampNeg then none else some (scc t k)
theorem gLen_lt : ∀ t, gLen.getD t 0 < 2 ^ 31 := by
  intro t
  by_cases h : t < 16
  · have : ∀ t, t < 16 → gLen.getD t 0 < 2 ^ 31 := by decide +kernel
    exact this t h
  · rw [List.getD_eq_getElem?_getD, List.getElem?_eq_none (by show 16 ≤ t; omega)]
    decide
theorem cn_J3_checkIndex_8e157 : CN yJ3_checkIndex_8e157 3 := ⟨by decide +kernel, by decide +kernel, by decide +kernel⟩
abbrev rm_J3_checkIndex_8e157 : Room := { frames := 1, cells := 0, slots := 0, locals := 0 }
set_option maxHeartbeats 4000000 in
set_option maxRecDepth 100000 in
theorem c_J3_checkIndex_8e157_n (l : Launch) (G : GX) (P : Heap → Prop) (A : Nat → Prop) (hAG : ∀ q, A q → gA G q) (i n : Int32) (h0 : ¬ i < 0) (h1 : i < n) : MI l G yJ3_checkIndex_8e157 cJ3_checkIndex_8e157 3 (some .int) rm_J3_checkIndex_8e157 [.int i, .int n, .null] A P P i := by
  refine cM_start (by decide +kernel) (Nat.le_of_ble_eq_true rfl) ?_
  intro p e s m below meth c ls X hH hl
  have hS : va_S A s.heap s.heap [] := va_S.rf
  have hx := X.1.1
  have hb := X.1.2.1
  have hl : lv_has ls 3 [(0, .int i), (1, .int n), (2, .null)] := hl
  refine lv_iload_n hx hb dJ3_checkIndex_8e157_0 rfl (lv_at hl 0 rfl) ?_
  refine lv_if_lt (tgt := 9) hx hb dJ3_checkIndex_8e157_1 (by decide) (fun hc => absurd hc h0) (fun hc => ?_)
  refine lv_iload_n hx hb dJ3_checkIndex_8e157_4 rfl (lv_at hl 0 rfl) ?_
  refine lv_iload_n hx hb dJ3_checkIndex_8e157_5 rfl (lv_at hl 1 rfl) ?_
  refine lv_icmp_lt (tgt := 16) hx hb dJ3_checkIndex_8e157_6 (by decide) (fun hc => ?_) (fun hc => absurd h1 hc)
  refine lv_iload_n hx hb dJ3_checkIndex_8e157_16 rfl (lv_at hl 0 rfl) ?_
  exact cEi X hH hS rfl dJ3_checkIndex_8e157_17
set_option maxHeartbeats 4000000 in
set_option maxRecDepth 100000 in
theorem c_J3_checkIndex_8e157_r (l : Launch) (G : GX) (P : Heap → Prop) (A : Nat → Prop) (hAG : ∀ q, A q → gA G q) (i n : Int32) (a : Nat) (h0 : ¬ i < 0) (h1 : i < n) : MI l G yJ3_checkIndex_8e157 cJ3_checkIndex_8e157 3 (some .int) rm_J3_checkIndex_8e157 [.int i, .int n, (.ref a)] A P P i := by
  refine cM_start (by decide +kernel) (Nat.le_of_ble_eq_true rfl) ?_
  intro p e s m below meth c ls X hH hl
  have hS : va_S A s.heap s.heap [] := va_S.rf
  have hx := X.1.1
  have hb := X.1.2.1
  have hl : lv_has ls 3 [(0, .int i), (1, .int n), (2, (.ref a))] := hl
  refine lv_iload_n hx hb dJ3_checkIndex_8e157_0 rfl (lv_at hl 0 rfl) ?_
  refine lv_if_lt (tgt := 9) hx hb dJ3_checkIndex_8e157_1 (by decide) (fun hc => absurd hc h0) (fun hc => ?_)
  refine lv_iload_n hx hb dJ3_checkIndex_8e157_4 rfl (lv_at hl 0 rfl) ?_
  refine lv_iload_n hx hb dJ3_checkIndex_8e157_5 rfl (lv_at hl 1 rfl) ?_
  refine lv_icmp_lt (tgt := 16) hx hb dJ3_checkIndex_8e157_6 (by decide) (fun hc => ?_) (fun hc => absurd h1 hc)
  refine lv_iload_n hx hb dJ3_checkIndex_8e157_16 rfl (lv_at hl 0 rfl) ?_
  exact cEi X hH hS rfl dJ3_checkIndex_8e157_17
theorem cn_J15_checkIndex_7cf53 : CN yJ15_checkIndex_7cf53 2 := ⟨by decide +kernel, by decide +kernel, by decide +kernel⟩
abbrev rm_J15_checkIndex_7cf53 : Room := { frames := 2, cells := 0, slots := 0, locals := 22 }
set_option maxHeartbeats 4000000 in
set_option maxRecDepth 100000 in
theorem c_J15_checkIndex_7cf53 (l : Launch) (G : GX) (P : Heap → Prop) (A : Nat → Prop) (hAG : ∀ q, A q → gA G q) (i n : Int32) (h0 : ¬ i < 0) (h1 : i < n) : MI l G yJ15_checkIndex_7cf53 cJ15_checkIndex_7cf53 2 (some .int) rm_J15_checkIndex_7cf53 [.int i, .int n] A P P i := by
  refine cM_start (by decide +kernel) (Nat.le_of_ble_eq_true rfl) ?_
  intro p e s m below meth c ls X hH hl
  have hS : va_S A s.heap s.heap [] := va_S.rf
  have hx := X.1.1
  have hb := X.1.2.1
  have hl : lv_has ls 2 [(0, .int i), (1, .int n)] := hl
  refine lv_iload_n hx hb dJ15_checkIndex_7cf53_0 rfl (lv_at hl 0 rfl) ?_
  refine lv_iload_n hx hb dJ15_checkIndex_7cf53_1 rfl (lv_at hl 1 rfl) ?_
  refine lv_null hx hb dJ15_checkIndex_7cf53_2 ?_
  refine cGi (cSrun (rest := []) X (c_J3_checkIndex_8e157_n l G P A hAG i n h0 h1) bw1352 bw758 bw108 bw759 cn_J3_checkIndex_8e157 ⟨rfl, rfl, Nat.le_of_ble_eq_true rfl, Nat.le_of_ble_eq_true rfl⟩ hAG hH hS hl rfl (Nat.le_of_ble_eq_true rfl) dJ15_checkIndex_7cf53_3) hS (fun H locs hH hS => ?_)
  exact cEi X hH hS rfl dJ15_checkIndex_7cf53_6
theorem cn_J0_checkIndex_df160 : CN yJ0_checkIndex_df160 2 := ⟨by decide +kernel, by decide +kernel, by decide +kernel⟩
abbrev rm_J0_checkIndex_df160 : Room := { frames := 2, cells := 0, slots := 0, locals := 22 }
set_option maxHeartbeats 4000000 in
set_option maxRecDepth 100000 in
theorem c_J0_checkIndex_df160 (l : Launch) (G : GX) (P : Heap → Prop) (A : Nat → Prop) (hAG : ∀ q, A q → gA G q) (i n : Int32) (h0 : ¬ i < 0) (h1 : i < n) : MV l G yJ0_checkIndex_df160 cJ0_checkIndex_df160 2 rm_J0_checkIndex_df160 [.int i, .int n] A P P := by
  refine cM_start (by decide +kernel) (Nat.le_of_ble_eq_true rfl) ?_
  intro p e s m below meth c ls X hH hl
  have hS : va_S A s.heap s.heap [] := va_S.rf
  have hx := X.1.1
  have hb := X.1.2.1
  have hl : lv_has ls 2 [(0, .int i), (1, .int n)] := hl
  refine lv_iload_n hx hb dJ0_checkIndex_df160_0 rfl (lv_at hl 0 rfl) ?_
  refine lv_iload_n hx hb dJ0_checkIndex_df160_1 rfl (lv_at hl 1 rfl) ?_
  rcases X.2.2.2.2.2.2.2.1.narrow hAG with hz | ⟨a, hz⟩
  · refine va_gets hx hb hz hS X.1.2.2.2.1 (X.w bw755) (fun _ h => h) dJ0_checkIndex_df160_2 ?_
    refine cGi (cSrun (rest := []) X (c_J3_checkIndex_8e157_n l G P A hAG i n h0 h1) bw757 bw758 bw108 bw759 cn_J3_checkIndex_8e157 ⟨rfl, rfl, Nat.le_of_ble_eq_true rfl, Nat.le_of_ble_eq_true rfl⟩ hAG hH hS hl rfl (Nat.le_of_ble_eq_true rfl) dJ0_checkIndex_df160_5) hS (fun H locs hH hS => ?_)
    refine lv_pop hx hb dJ0_checkIndex_df160_8 rfl ?_
    exact cEv X hH hS dJ0_checkIndex_df160_9
  · refine va_gets hx hb hz hS X.1.2.2.2.1 (X.w bw755) (fun _ h => h) dJ0_checkIndex_df160_2 ?_
    refine cGi (cSrun (rest := []) X (c_J3_checkIndex_8e157_r l G P A hAG i n a h0 h1) bw757 bw758 bw108 bw759 cn_J3_checkIndex_8e157 ⟨rfl, rfl, Nat.le_of_ble_eq_true rfl, Nat.le_of_ble_eq_true rfl⟩ hAG hH hS hl rfl (Nat.le_of_ble_eq_true rfl) dJ0_checkIndex_df160_5) hS (fun H locs hH hS => ?_)
    refine lv_pop hx hb dJ0_checkIndex_df160_8 rfl ?_
    exact cEv X hH hS dJ0_checkIndex_df160_9
theorem cn_J0_coder_7d493 : CN yJ0_coder_7d493 0 := ⟨by decide +kernel, by decide +kernel, by decide +kernel⟩
abbrev rm_J0_coder_7d493 : Room := { frames := 1, cells := 0, slots := 0, locals := 0 }
set_option maxHeartbeats 4000000 in
set_option maxRecDepth 100000 in
theorem c_J0_coder_7d493 (l : Launch) (G : GX) (P : Heap → Prop) (A : Nat → Prop) (hAG : ∀ q, A q → gA G q) (t : Nat) (ht : t < 16) : MI l G yJ0_coder_7d493 cJ0_coder_7d493 1 (some .byte) rm_J0_coder_7d493 [.ref (G.2.2.2.1 t)] A P P 0 := by
  refine cM_start (by decide +kernel) (Nat.le_of_ble_eq_true rfl) ?_
  intro p e s m below meth c ls X hH hl
  have hS : va_S A s.heap s.heap [] := va_S.rf
  have hx := X.1.1
  have hb := X.1.2.1
  have hl : lv_has ls 1 [(0, .ref (G.2.2.2.1 t))] := hl
  refine s_comp X hS hAG bw738 dJ0_coder_7d493_0 ?_
  refine lv_if_eq (tgt := 13) hx hb dJ0_coder_7d493_3 (by decide) (fun hc => absurd hc (by decide)) (fun hc => ?_)
  refine lv_aload_n hx hb dJ0_coder_7d493_6 rfl (lv_at hl 0 rfl) ?_
  refine s_coder X hS hAG ht bw1814 dJ0_coder_7d493_7 ?_
  refine lv_goto (tgt := 14) hx hb dJ0_coder_7d493_10 (by decide) ?_
  exact W.zret hx hb X.2.1 rfl (fun t1 ht1 _ => ⟨⟨0, (), rfl, rfl, by show P t1.heap; rw [ht1]; exact hH⟩, hS.F ht1⟩) hS.2.2 dJ0_coder_7d493_14 X.2.2.1
theorem cn_J0_isLatin1_aae02 : CN yJ0_isLatin1_aae02 0 := ⟨by decide +kernel, by decide +kernel, by decide +kernel⟩
abbrev rm_J0_isLatin1_aae02 : Room := { frames := 1, cells := 0, slots := 0, locals := 0 }
set_option maxHeartbeats 4000000 in
set_option maxRecDepth 100000 in
theorem c_J0_isLatin1_aae02 (l : Launch) (G : GX) (P : Heap → Prop) (A : Nat → Prop) (hAG : ∀ q, A q → gA G q) (t : Nat) (ht : t < 16) : MI l G yJ0_isLatin1_aae02 cJ0_isLatin1_aae02 1 (some .boolean) rm_J0_isLatin1_aae02 [.ref (G.2.2.2.1 t)] A P P 1 := by
  refine cM_start (by decide +kernel) (Nat.le_of_ble_eq_true rfl) ?_
  intro p e s m below meth c ls X hH hl
  have hS : va_S A s.heap s.heap [] := va_S.rf
  have hx := X.1.1
  have hb := X.1.2.1
  have hl : lv_has ls 1 [(0, .ref (G.2.2.2.1 t))] := hl
  refine s_comp X hS hAG bw738 dJ0_isLatin1_aae02_0 ?_
  refine lv_if_eq (tgt := 17) hx hb dJ0_isLatin1_aae02_3 (by decide) (fun hc => absurd hc (by decide)) (fun hc => ?_)
  refine lv_aload_n hx hb dJ0_isLatin1_aae02_6 rfl (lv_at hl 0 rfl) ?_
  refine s_coder X hS hAG ht bw1814 dJ0_isLatin1_aae02_7 ?_
  refine lv_if_ne (tgt := 17) hx hb dJ0_isLatin1_aae02_10 (by decide) (fun hc => absurd rfl hc) (fun hc => ?_)
  refine lv_iconst (v := 1) hx hb dJ0_isLatin1_aae02_13 (by decide) ?_
  refine lv_goto (tgt := 18) hx hb dJ0_isLatin1_aae02_14 (by decide) ?_
  exact cEz X hH hS rfl rfl dJ0_isLatin1_aae02_18
theorem cn_J0_length_8abf5 : CN yJ0_length_8abf5 0 := ⟨by decide +kernel, by decide +kernel, by decide +kernel⟩
abbrev rm_J0_length_8abf5 : Room := { frames := 2, cells := 0, slots := 0, locals := 20 }
set_option maxHeartbeats 4000000 in
set_option maxRecDepth 100000 in
theorem c_J0_length (l : Launch) (G : GX) (P : Heap → Prop) (A : Nat → Prop) (hAG : ∀ q, A q → gA G q) (t : Nat) (ht : t < 16) (q : Int32) (hf : f_J0_length t = q) : MI l G yJ0_length_8abf5 cJ0_length_8abf5 1 (some .int) rm_J0_length_8abf5 [.ref (G.2.2.2.1 t)] A P P q := by
  refine cM_start (by decide +kernel) (Nat.le_of_ble_eq_true rfl) ?_
  intro p e s m below meth c ls X hH hl
  have hS : va_S A s.heap s.heap [] := va_S.rf
  have hx := X.1.1
  have hb := X.1.2.1
  have hl : lv_has ls 1 [(0, .ref (G.2.2.2.1 t))] := hl
  refine lv_aload_n hx hb dJ0_length_8abf5_0 rfl (lv_at hl 0 rfl) ?_
  refine s_value X hS hAG ht bw1813 dJ0_length_8abf5_1 ?_
  refine s_len X hS hAG ht dJ0_length_8abf5_4 ?_
  refine lv_aload_n hx hb dJ0_length_8abf5_5 rfl (lv_at hl 0 rfl) ?_
  refine cGi (cVrun (rest := [.int (nI (gLen.getD t 0))]) X (c_J0_coder_7d493 l G P A hAG t ht) bw734 bw735 bw736 bw106 bw737 cn_J0_coder_7d493 ⟨rfl, rfl, Nat.le_of_ble_eq_true rfl, Nat.le_of_ble_eq_true rfl⟩ (g_recS X hS hAG ht) hAG hH hS hl rfl (Nat.le_of_ble_eq_true rfl) dJ0_length_8abf5_6) hS (fun H locs hH hS => ?_)
  refine lv_ishr hx hb dJ0_length_8abf5_9 ?_
  exact cEi X hH hS (by rw [sb_shr0]; exact hf) dJ0_length_8abf5_10
theorem cn_J1_charAt_3b067 : CN yJ1_charAt_3b067 2 := ⟨by decide +kernel, by decide +kernel, by decide +kernel⟩
abbrev rm_J1_charAt_3b067 : Room := { frames := 3, cells := 0, slots := 0, locals := 43 }
set_option maxHeartbeats 4000000 in
set_option maxRecDepth 100000 in
theorem c_J1_charAt_3b067 (l : Launch) (G : GX) (P : Heap → Prop) (A : Nat → Prop) (hAG : ∀ q, A q → gA G q) (t : Nat) (ht : t < 16) (k : Int32) (h0 : ¬ k < 0) (h1 : k.toNatClampNeg < gLen.getD t 0) : MI l G yJ1_charAt_3b067 cJ1_charAt_3b067 2 (some .char) rm_J1_charAt_3b067 [.ref (G.2.2.2.2 t), .int k] A P P (scc t k) := by
  refine cM_start (by decide +kernel) (Nat.le_of_ble_eq_true rfl) ?_
  intro p e s m below meth c ls X hH hl
  have hS : va_S A s.heap s.heap [] := va_S.rf
  have hx := X.1.1
  have hb := X.1.2.1
  have hl : lv_has ls 2 [(0, .ref (G.2.2.2.2 t)), (1, .int k)] := hl
  refine lv_iload_n hx hb dJ1_charAt_3b067_0 rfl (lv_at hl 1 rfl) ?_
  refine lv_aload_n hx hb dJ1_charAt_3b067_1 rfl (lv_at hl 0 rfl) ?_
  refine s_len X hS hAG ht dJ1_charAt_3b067_2 ?_
  refine cGv (cSrun (rest := []) X (c_J0_checkIndex_df160 l G P A hAG k (nI (gLen.getD t 0)) h0 ((iN_lt (gLen_lt t) h0).mpr h1)) bw752 bw753 bw106 bw754 cn_J0_checkIndex_df160 ⟨rfl, rfl, Nat.le_of_ble_eq_true rfl, Nat.le_of_ble_eq_true rfl⟩ hAG hH hS hl rfl (Nat.le_of_ble_eq_true rfl) dJ1_charAt_3b067_3) hS (fun H locs hH hS => ?_)
  refine lv_aload_n hx hb dJ1_charAt_3b067_6 rfl (lv_at hl 0 rfl) ?_
  refine lv_iload_n hx hb dJ1_charAt_3b067_7 rfl (lv_at hl 1 rfl) ?_
  refine s_ld X hS hAG ht (fun z => z.elim h0 (fun z => absurd h1 (Nat.not_lt.mpr z))) dJ1_charAt_3b067_8 ?_
  refine lv_sipush (v := 255) hx hb dJ1_charAt_3b067_9 (by decide) ?_
  refine lv_iand hx hb dJ1_charAt_3b067_12 ?_
  refine lv_i2c hx hb dJ1_charAt_3b067_13 (sc_c2 _) ?_
  exact W.zret hx hb X.2.1 (sc_nar _) (fun t1 ht1 _ => ⟨⟨_, (), rfl, rfl, by show P t1.heap; rw [ht1]; exact hH⟩, hS.F ht1⟩) hS.2.2 dJ1_charAt_3b067_14 X.2.2.1
theorem cn_J0_charAt_5068e : CN yJ0_charAt_5068e 1 := ⟨by decide +kernel, by decide +kernel, by decide +kernel⟩
abbrev rm_J0_charAt_5068e : Room := { frames := 4, cells := 0, slots := 0, locals := 64 }
set_option maxHeartbeats 4000000 in
set_option maxRecDepth 100000 in
theorem c_J0_charAt (l : Launch) (G : GX) (P : Heap → Prop) (A : Nat → Prop) (hAG : ∀ q, A q → gA G q) (t : Nat) (ht : t < 16) (k : Int32) (q : Int32) (hf : f_J0_charAt t k = some q) : MI l G yJ0_charAt_5068e cJ0_charAt_5068e 2 (some .char) rm_J0_charAt_5068e [.ref (G.2.2.2.1 t), .int k] A P P q := by
  unfold f_J0_charAt at hf
  by_cases hk : (k < 0 ∨ gLen.getD t 0 ≤ k.toNatClampNeg)
  · cases (fo_t hk hf)
  have hf := fo_f hk hf
  have h0 : ¬ k < 0 := fun z => hk (Or.inl z)
  have h1 : k.toNatClampNeg < gLen.getD t 0 := Nat.not_le.mp fun z => hk (Or.inr z)
  refine cM_start (by decide +kernel) (Nat.le_of_ble_eq_true rfl) ?_
  intro p e s m below meth c ls X hH hl
  have hS : va_S A s.heap s.heap [] := va_S.rf
  have hx := X.1.1
  have hb := X.1.2.1
  have hl : lv_has ls 2 [(0, .ref (G.2.2.2.1 t)), (1, .int k)] := hl
  refine lv_aload_n hx hb dJ0_charAt_5068e_0 rfl (lv_at hl 0 rfl) ?_
  refine cGi (cVrun (rest := []) X (c_J0_isLatin1_aae02 l G P A hAG t ht) bw745 bw746 bw747 bw106 bw748 cn_J0_isLatin1_aae02 ⟨rfl, rfl, Nat.le_of_ble_eq_true rfl, Nat.le_of_ble_eq_true rfl⟩ (g_recS X hS hAG ht) hAG hH hS hl rfl (Nat.le_of_ble_eq_true rfl) dJ0_charAt_5068e_1) hS (fun H locs hH hS => ?_)
  refine lv_if_eq (tgt := 16) hx hb dJ0_charAt_5068e_4 (by decide) (fun hc => absurd hc (by decide)) (fun hc => ?_)
  refine lv_aload_n hx hb dJ0_charAt_5068e_7 rfl (lv_at hl 0 rfl) ?_
  refine s_value X hS hAG ht bw1813 dJ0_charAt_5068e_8 ?_
  refine lv_iload_n hx hb dJ0_charAt_5068e_11 rfl (lv_at hl 1 rfl) ?_
  refine cGi (cSrun (rest := []) X (c_J1_charAt_3b067 l G P A hAG t ht k h0 h1) bw749 bw750 bw107 bw751 cn_J1_charAt_3b067 ⟨rfl, rfl, Nat.le_of_ble_eq_true rfl, Nat.le_of_ble_eq_true rfl⟩ hAG hH hS hl rfl (Nat.le_of_ble_eq_true rfl) dJ0_charAt_5068e_12) hS (fun H locs hH hS => ?_)
  exact W.zret hx hb X.2.1 (sc_nar _) (fun t1 ht1 _ => ⟨⟨_, (), rfl, so_s hf, by show P t1.heap; rw [ht1]; exact hH⟩, hS.F ht1⟩) hS.2.2 dJ0_charAt_5068e_15 X.2.2.1
