/-! the making of the reference -/
theorem kn_X12_init : CN yX12_init 0 := ⟨by decide +kernel, by decide +kernel, by decide +kernel⟩
abbrev eZ (B : BX) (N : Nat) (f : Nat → Int32) : va_E := .inl (B.2.1.2.1, N, .inl f)
def sIni (i : Nat) : Nat → Int32 := fun t => if 20 ≤ t ∧ t < 20 + i then (if t = 46 then 1 else 2) else 0
abbrev uX12_1 (B : BX) (e : Nat → va_E) : Nat → va_E := uE e 214 (eI B 3250 (fun _ => 0))
abbrev uX12_2 (B : BX) (e : Nat → va_E) : Nat → va_E := uE (uX12_1 B e) 213 (.inr (13, [.int 0, .ref (B.2.2.1 + 214), .null, .int 0, .int 0, .int 0, .int 0, .null, .null, .null, .null, .null, .null, .int 0, .null, .null, .null, .null, .int 0, .int 0, .int 0, .int 0, .null, .null, .int 0, .null, .null, .int 0, .int 0, .null]))
abbrev uX12_3 (B : BX) (e : Nat → va_E) : Nat → va_E := uE (uX12_2 B e) 215 (eI B 3250 (fun _ => 0))
abbrev uX12_4 (B : BX) (e : Nat → va_E) : Nat → va_E := uE (uX12_3 B e) 213 (.inr (13, [.int 0, .ref (B.2.2.1 + 214), .ref (B.2.2.1 + 215), .int 0, .int 0, .int 0, .int 0, .null, .null, .null, .null, .null, .null, .int 0, .null, .null, .null, .null, .int 0, .int 0, .int 0, .int 0, .null, .null, .int 0, .null, .null, .int 0, .int 0, .null]))
abbrev uX12_5 (B : BX) (e : Nat → va_E) : Nat → va_E := uE (uX12_4 B e) 216 (eI B 9 (fun _ => 0))
abbrev uX12_6 (B : BX) (e : Nat → va_E) : Nat → va_E := uE (uX12_5 B e) 213 (.inr (13, [.int 0, .ref (B.2.2.1 + 214), .ref (B.2.2.1 + 215), .int 0, .int 0, .int 0, .int 0, .ref (B.2.2.1 + 216), .null, .null, .null, .null, .null, .int 0, .null, .null, .null, .null, .int 0, .int 0, .int 0, .int 0, .null, .null, .int 0, .null, .null, .int 0, .int 0, .null]))
abbrev uX12_7 (B : BX) (e : Nat → va_E) : Nat → va_E := uE (uX12_6 B e) 217 (eI B 8 (fun _ => 0))
abbrev uX12_8 (B : BX) (e : Nat → va_E) : Nat → va_E := uE (uX12_7 B e) 213 (.inr (13, [.int 0, .ref (B.2.2.1 + 214), .ref (B.2.2.1 + 215), .int 0, .int 0, .int 0, .int 0, .ref (B.2.2.1 + 216), .ref (B.2.2.1 + 217), .null, .null, .null, .null, .int 0, .null, .null, .null, .null, .int 0, .int 0, .int 0, .int 0, .null, .null, .int 0, .null, .null, .int 0, .int 0, .null]))
abbrev uX12_9 (B : BX) (e : Nat → va_E) : Nat → va_E := uE (uX12_8 B e) 218 (eI B 80 (fun _ => 0))
abbrev uX12_10 (B : BX) (e : Nat → va_E) : Nat → va_E := uE (uX12_9 B e) 213 (.inr (13, [.int 0, .ref (B.2.2.1 + 214), .ref (B.2.2.1 + 215), .int 0, .int 0, .int 0, .int 0, .ref (B.2.2.1 + 216), .ref (B.2.2.1 + 217), .ref (B.2.2.1 + 218), .null, .null, .null, .int 0, .null, .null, .null, .null, .int 0, .int 0, .int 0, .int 0, .null, .null, .int 0, .null, .null, .int 0, .int 0, .null]))
abbrev uX12_11 (B : BX) (e : Nat → va_E) : Nat → va_E := uE (uX12_10 B e) 219 (eI B 80 (fun _ => 0))
abbrev uX12_12 (B : BX) (e : Nat → va_E) : Nat → va_E := uE (uX12_11 B e) 213 (.inr (13, [.int 0, .ref (B.2.2.1 + 214), .ref (B.2.2.1 + 215), .int 0, .int 0, .int 0, .int 0, .ref (B.2.2.1 + 216), .ref (B.2.2.1 + 217), .ref (B.2.2.1 + 218), .ref (B.2.2.1 + 219), .null, .null, .int 0, .null, .null, .null, .null, .int 0, .int 0, .int 0, .int 0, .null, .null, .int 0, .null, .null, .int 0, .int 0, .null]))
abbrev uX12_13 (B : BX) (e : Nat → va_E) : Nat → va_E := uE (uX12_12 B e) 220 (eI B 80 (fun _ => 0))
abbrev uX12_14 (B : BX) (e : Nat → va_E) : Nat → va_E := uE (uX12_13 B e) 213 (.inr (13, [.int 0, .ref (B.2.2.1 + 214), .ref (B.2.2.1 + 215), .int 0, .int 0, .int 0, .int 0, .ref (B.2.2.1 + 216), .ref (B.2.2.1 + 217), .ref (B.2.2.1 + 218), .ref (B.2.2.1 + 219), .ref (B.2.2.1 + 220), .null, .int 0, .null, .null, .null, .null, .int 0, .int 0, .int 0, .int 0, .null, .null, .int 0, .null, .null, .int 0, .int 0, .null]))
abbrev uX12_15 (B : BX) (e : Nat → va_E) : Nat → va_E := uE (uX12_14 B e) 221 (eZ B 30 (fun _ => 0))
abbrev uX12_16 (B : BX) (e : Nat → va_E) : Nat → va_E := uE (uX12_15 B e) 213 (.inr (13, [.int 0, .ref (B.2.2.1 + 214), .ref (B.2.2.1 + 215), .int 0, .int 0, .int 0, .int 0, .ref (B.2.2.1 + 216), .ref (B.2.2.1 + 217), .ref (B.2.2.1 + 218), .ref (B.2.2.1 + 219), .ref (B.2.2.1 + 220), .ref (B.2.2.1 + 221), .int 0, .null, .null, .null, .null, .int 0, .int 0, .int 0, .int 0, .null, .null, .int 0, .null, .null, .int 0, .int 0, .null]))
abbrev uX12_17 (B : BX) (e : Nat → va_E) : Nat → va_E := uE (uX12_16 B e) 222 (eI B 5002 (fun _ => 0))
abbrev uX12_18 (B : BX) (e : Nat → va_E) : Nat → va_E := uE (uX12_17 B e) 213 (.inr (13, [.int 0, .ref (B.2.2.1 + 214), .ref (B.2.2.1 + 215), .int 0, .int 0, .int 0, .int 0, .ref (B.2.2.1 + 216), .ref (B.2.2.1 + 217), .ref (B.2.2.1 + 218), .ref (B.2.2.1 + 219), .ref (B.2.2.1 + 220), .ref (B.2.2.1 + 221), .int 0, .ref (B.2.2.1 + 222), .null, .null, .null, .int 0, .int 0, .int 0, .int 0, .null, .null, .int 0, .null, .null, .int 0, .int 0, .null]))
abbrev uX12_19 (B : BX) (e : Nat → va_E) : Nat → va_E := uE (uX12_18 B e) 223 (eI B 61 (fun _ => 0))
abbrev uX12_20 (B : BX) (e : Nat → va_E) : Nat → va_E := uE (uX12_19 B e) 213 (.inr (13, [.int 0, .ref (B.2.2.1 + 214), .ref (B.2.2.1 + 215), .int 0, .int 0, .int 0, .int 0, .ref (B.2.2.1 + 216), .ref (B.2.2.1 + 217), .ref (B.2.2.1 + 218), .ref (B.2.2.1 + 219), .ref (B.2.2.1 + 220), .ref (B.2.2.1 + 221), .int 0, .ref (B.2.2.1 + 222), .ref (B.2.2.1 + 223), .null, .null, .int 0, .int 0, .int 0, .int 0, .null, .null, .int 0, .null, .null, .int 0, .int 0, .null]))
abbrev uX12_21 (B : BX) (e : Nat → va_E) : Nat → va_E := uE (uX12_20 B e) 224 (eI B 61 (fun _ => 0))
abbrev uX12_22 (B : BX) (e : Nat → va_E) : Nat → va_E := uE (uX12_21 B e) 213 (.inr (13, [.int 0, .ref (B.2.2.1 + 214), .ref (B.2.2.1 + 215), .int 0, .int 0, .int 0, .int 0, .ref (B.2.2.1 + 216), .ref (B.2.2.1 + 217), .ref (B.2.2.1 + 218), .ref (B.2.2.1 + 219), .ref (B.2.2.1 + 220), .ref (B.2.2.1 + 221), .int 0, .ref (B.2.2.1 + 222), .ref (B.2.2.1 + 223), .ref (B.2.2.1 + 224), .null, .int 0, .int 0, .int 0, .int 0, .null, .null, .int 0, .null, .null, .int 0, .int 0, .null]))
abbrev uX12_23 (B : BX) (e : Nat → va_E) : Nat → va_E := uE (uX12_22 B e) 225 (eI B 27 (fun _ => 0))
abbrev uX12_24 (B : BX) (e : Nat → va_E) : Nat → va_E := uE (uX12_23 B e) 213 (.inr (13, [.int 0, .ref (B.2.2.1 + 214), .ref (B.2.2.1 + 215), .int 0, .int 0, .int 0, .int 0, .ref (B.2.2.1 + 216), .ref (B.2.2.1 + 217), .ref (B.2.2.1 + 218), .ref (B.2.2.1 + 219), .ref (B.2.2.1 + 220), .ref (B.2.2.1 + 221), .int 0, .ref (B.2.2.1 + 222), .ref (B.2.2.1 + 223), .ref (B.2.2.1 + 224), .ref (B.2.2.1 + 225), .int 0, .int 0, .int 0, .int 0, .null, .null, .int 0, .null, .null, .int 0, .int 0, .null]))
abbrev uX12_25 (B : BX) (e : Nat → va_E) : Nat → va_E := uE (uX12_24 B e) 226 (eI B 10 (fun _ => 0))
abbrev uX12_26 (B : BX) (e : Nat → va_E) : Nat → va_E := uE (uX12_25 B e) 213 (.inr (13, [.int 0, .ref (B.2.2.1 + 214), .ref (B.2.2.1 + 215), .int 0, .int 0, .int 0, .int 0, .ref (B.2.2.1 + 216), .ref (B.2.2.1 + 217), .ref (B.2.2.1 + 218), .ref (B.2.2.1 + 219), .ref (B.2.2.1 + 220), .ref (B.2.2.1 + 221), .int 0, .ref (B.2.2.1 + 222), .ref (B.2.2.1 + 223), .ref (B.2.2.1 + 224), .ref (B.2.2.1 + 225), .int 0, .int 0, .int 0, .int 0, .ref (B.2.2.1 + 226), .null, .int 0, .null, .null, .int 0, .int 0, .null]))
abbrev uX12_27 (B : BX) (e : Nat → va_E) : Nat → va_E := uE (uX12_26 B e) 227 (eI B 10 (fun _ => 0))
abbrev uX12_28 (B : BX) (e : Nat → va_E) : Nat → va_E := uE (uX12_27 B e) 213 (.inr (13, [.int 0, .ref (B.2.2.1 + 214), .ref (B.2.2.1 + 215), .int 0, .int 0, .int 0, .int 0, .ref (B.2.2.1 + 216), .ref (B.2.2.1 + 217), .ref (B.2.2.1 + 218), .ref (B.2.2.1 + 219), .ref (B.2.2.1 + 220), .ref (B.2.2.1 + 221), .int 0, .ref (B.2.2.1 + 222), .ref (B.2.2.1 + 223), .ref (B.2.2.1 + 224), .ref (B.2.2.1 + 225), .int 0, .int 0, .int 0, .int 0, .ref (B.2.2.1 + 226), .ref (B.2.2.1 + 227), .int 0, .null, .null, .int 0, .int 0, .null]))
abbrev uX12_29 (B : BX) (e : Nat → va_E) : Nat → va_E := uE (uX12_28 B e) 228 (eI B 10 (fun _ => 0))
abbrev uX12_30 (B : BX) (e : Nat → va_E) : Nat → va_E := uE (uX12_29 B e) 213 (.inr (13, [.int 0, .ref (B.2.2.1 + 214), .ref (B.2.2.1 + 215), .int 0, .int 0, .int 0, .int 0, .ref (B.2.2.1 + 216), .ref (B.2.2.1 + 217), .ref (B.2.2.1 + 218), .ref (B.2.2.1 + 219), .ref (B.2.2.1 + 220), .ref (B.2.2.1 + 221), .int 0, .ref (B.2.2.1 + 222), .ref (B.2.2.1 + 223), .ref (B.2.2.1 + 224), .ref (B.2.2.1 + 225), .int 0, .int 0, .int 0, .int 0, .ref (B.2.2.1 + 226), .ref (B.2.2.1 + 227), .int 0, .ref (B.2.2.1 + 228), .null, .int 0, .int 0, .null]))
abbrev uX12_31 (B : BX) (e : Nat → va_E) : Nat → va_E := uE (uX12_30 B e) 229 (eI B 10 (fun _ => 0))
abbrev uX12_32 (B : BX) (e : Nat → va_E) : Nat → va_E := uE (uX12_31 B e) 213 (.inr (13, [.int 0, .ref (B.2.2.1 + 214), .ref (B.2.2.1 + 215), .int 0, .int 0, .int 0, .int 0, .ref (B.2.2.1 + 216), .ref (B.2.2.1 + 217), .ref (B.2.2.1 + 218), .ref (B.2.2.1 + 219), .ref (B.2.2.1 + 220), .ref (B.2.2.1 + 221), .int 0, .ref (B.2.2.1 + 222), .ref (B.2.2.1 + 223), .ref (B.2.2.1 + 224), .ref (B.2.2.1 + 225), .int 0, .int 0, .int 0, .int 0, .ref (B.2.2.1 + 226), .ref (B.2.2.1 + 227), .int 0, .ref (B.2.2.1 + 228), .ref (B.2.2.1 + 229), .int 0, .int 0, .null]))
abbrev uX12_33 (B : BX) (e : Nat → va_E) : Nat → va_E := uE (uX12_32 B e) 230 (eI B 1024 (fun _ => 0))
abbrev uX12_34 (B : BX) (e : Nat → va_E) : Nat → va_E := uE (uX12_33 B e) 213 (.inr (13, [.int 0, .ref (B.2.2.1 + 214), .ref (B.2.2.1 + 215), .int 0, .int 0, .int 0, .int 0, .ref (B.2.2.1 + 216), .ref (B.2.2.1 + 217), .ref (B.2.2.1 + 218), .ref (B.2.2.1 + 219), .ref (B.2.2.1 + 220), .ref (B.2.2.1 + 221), .int 0, .ref (B.2.2.1 + 222), .ref (B.2.2.1 + 223), .ref (B.2.2.1 + 224), .ref (B.2.2.1 + 225), .int 0, .int 0, .int 0, .int 0, .ref (B.2.2.1 + 226), .ref (B.2.2.1 + 227), .int 0, .ref (B.2.2.1 + 228), .ref (B.2.2.1 + 229), .int 0, .int 0, .ref (B.2.2.1 + 230)]))
set_option maxHeartbeats 4000000 in
set_option maxRecDepth 100000 in
theorem k_X12 (l : Launch) (B : BX) (e : Nat → va_E) (he0 : e 213 = .inr (13, [.int 0, .null, .null, .int 0, .int 0, .int 0, .int 0, .null, .null, .null, .null, .null, .null, .int 0, .null, .null, .null, .null, .int 0, .int 0, .int 0, .int 0, .null, .null, .int 0, .null, .null, .int 0, .int 0, .null])) : MBx l B yX12_init cX12_init 2 none (rmB 2 17 13002 60) [.ref (B.2.2.1 + 213)] 214 e (BV B 231 (uE (uX12_34 B e) 214 (eI B 3250 (sIni 27)))) 17 13002 := by
  refine bM_start (by decide +kernel) (Nat.le_of_ble_eq_true rfl) ?_
  intro p env s m below meth c ls X hH hl
  have hS : va_S (bA B) s.heap s.heap [] := va_S.rf
  have hx := X.1.1
  have hb := X.1.2.1
  have hl : lv_has ls 2 [(0, .ref (B.2.2.1 + 213))] := hl
  have hj213 := he0
  refine lv_aload_n hx hb dX12_init_0 rfl (lv_at hl 0 rfl) ?_
  refine b_obj X hl bw1378 bw118 bw119 ⟨Nat.le_of_ble_eq_true rfl, Nat.le_of_ble_eq_true rfl⟩ dX12_init_1 ?_
  refine lv_aload_n hx hb dX12_init_4 rfl (lv_at hl 0 rfl) ?_
  refine lv_sipush (v := 3250) hx hb dX12_init_5 (by decide) ?_
  refine b_newi X hH hS rfl bwAI (by decide) (N' := 3250) (by decide) (by decide) (Nat.le_of_ble_eq_true rfl) (Nat.le_of_ble_eq_true rfl) dX12_init_8 (fun H hH hS => ?_)
  have hH : bH B 215 (uX12_1 B e) H := hH
  have hj213 : (uX12_1 B e) 213 = .inr (13, [.int 0, .null, .null, .int 0, .int 0, .int 0, .int 0, .null, .null, .null, .null, .null, .null, .int 0, .null, .null, .null, .null, .int 0, .int 0, .int 0, .int 0, .null, .null, .int 0, .null, .null, .int 0, .int 0, .null]) := (uE_n _ _ (by decide)).trans hj213
  have hj214 : (uX12_1 B e) 214 = eI B 3250 (fun _ => 0) := rfl
  refine b_putF (C := RX12) (T := TX12) (N := 30) X rfl hH hS 213 (by decide) hj213 rfl inBX12 tyX12 tyX12_ok nmX12 1 (by decide) bw1379 rfl rfl rfl rfl (Nat.le_of_ble_eq_true rfl) dX12_init_10 (fun H locs hH hS => ?_)
  have hH : bH B 215 (uX12_2 B e) H := hH
  have hj213 : (uX12_2 B e) 213 = .inr (13, [.int 0, .ref (B.2.2.1 + 214), .null, .int 0, .int 0, .int 0, .int 0, .null, .null, .null, .null, .null, .null, .int 0, .null, .null, .null, .null, .int 0, .int 0, .int 0, .int 0, .null, .null, .int 0, .null, .null, .int 0, .int 0, .null]) := rfl
  have hj214 : (uX12_2 B e) 214 = eI B 3250 (fun _ => 0) := (uE_n _ _ (by decide)).trans hj214
  refine lv_aload_n hx hb dX12_init_13 rfl (lv_at hl 0 rfl) ?_
  refine lv_sipush (v := 3250) hx hb dX12_init_14 (by decide) ?_
  refine b_newi X hH hS rfl bwAI (by decide) (N' := 3250) (by decide) (by decide) (Nat.le_of_ble_eq_true rfl) (Nat.le_of_ble_eq_true rfl) dX12_init_17 (fun H hH hS => ?_)
  have hH : bH B 216 (uX12_3 B e) H := hH
  have hj213 : (uX12_3 B e) 213 = .inr (13, [.int 0, .ref (B.2.2.1 + 214), .null, .int 0, .int 0, .int 0, .int 0, .null, .null, .null, .null, .null, .null, .int 0, .null, .null, .null, .null, .int 0, .int 0, .int 0, .int 0, .null, .null, .int 0, .null, .null, .int 0, .int 0, .null]) := (uE_n _ _ (by decide)).trans hj213
  have hj214 : (uX12_3 B e) 214 = eI B 3250 (fun _ => 0) := (uE_n _ _ (by decide)).trans hj214
  refine b_putF (C := RX12) (T := TX12) (N := 30) X rfl hH hS 213 (by decide) hj213 rfl inBX12 tyX12 tyX12_ok nmX12 2 (by decide) bw1380 rfl rfl rfl rfl (Nat.le_of_ble_eq_true rfl) dX12_init_19 (fun H locs hH hS => ?_)
  have hH : bH B 216 (uX12_4 B e) H := hH
  have hj213 : (uX12_4 B e) 213 = .inr (13, [.int 0, .ref (B.2.2.1 + 214), .ref (B.2.2.1 + 215), .int 0, .int 0, .int 0, .int 0, .null, .null, .null, .null, .null, .null, .int 0, .null, .null, .null, .null, .int 0, .int 0, .int 0, .int 0, .null, .null, .int 0, .null, .null, .int 0, .int 0, .null]) := rfl
  have hj214 : (uX12_4 B e) 214 = eI B 3250 (fun _ => 0) := (uE_n _ _ (by decide)).trans hj214
  refine lv_aload_n hx hb dX12_init_22 rfl (lv_at hl 0 rfl) ?_
  refine lv_bipush (v := 9) hx hb dX12_init_23 (by decide) ?_
  refine b_newi X hH hS rfl bwAI (by decide) (N' := 9) (by decide) (by decide) (Nat.le_of_ble_eq_true rfl) (Nat.le_of_ble_eq_true rfl) dX12_init_25 (fun H hH hS => ?_)
  have hH : bH B 217 (uX12_5 B e) H := hH
  have hj213 : (uX12_5 B e) 213 = .inr (13, [.int 0, .ref (B.2.2.1 + 214), .ref (B.2.2.1 + 215), .int 0, .int 0, .int 0, .int 0, .null, .null, .null, .null, .null, .null, .int 0, .null, .null, .null, .null, .int 0, .int 0, .int 0, .int 0, .null, .null, .int 0, .null, .null, .int 0, .int 0, .null]) := (uE_n _ _ (by decide)).trans hj213
  have hj214 : (uX12_5 B e) 214 = eI B 3250 (fun _ => 0) := (uE_n _ _ (by decide)).trans hj214
  refine b_putF (C := RX12) (T := TX12) (N := 30) X rfl hH hS 213 (by decide) hj213 rfl inBX12 tyX12 tyX12_ok nmX12 7 (by decide) bw1385 rfl rfl rfl rfl (Nat.le_of_ble_eq_true rfl) dX12_init_27 (fun H locs hH hS => ?_)
  have hH : bH B 217 (uX12_6 B e) H := hH
  have hj213 : (uX12_6 B e) 213 = .inr (13, [.int 0, .ref (B.2.2.1 + 214), .ref (B.2.2.1 + 215), .int 0, .int 0, .int 0, .int 0, .ref (B.2.2.1 + 216), .null, .null, .null, .null, .null, .int 0, .null, .null, .null, .null, .int 0, .int 0, .int 0, .int 0, .null, .null, .int 0, .null, .null, .int 0, .int 0, .null]) := rfl
  have hj214 : (uX12_6 B e) 214 = eI B 3250 (fun _ => 0) := (uE_n _ _ (by decide)).trans hj214
  refine lv_aload_n hx hb dX12_init_30 rfl (lv_at hl 0 rfl) ?_
  refine lv_bipush (v := 8) hx hb dX12_init_31 (by decide) ?_
  refine b_newi X hH hS rfl bwAI (by decide) (N' := 8) (by decide) (by decide) (Nat.le_of_ble_eq_true rfl) (Nat.le_of_ble_eq_true rfl) dX12_init_33 (fun H hH hS => ?_)
  have hH : bH B 218 (uX12_7 B e) H := hH
  have hj213 : (uX12_7 B e) 213 = .inr (13, [.int 0, .ref (B.2.2.1 + 214), .ref (B.2.2.1 + 215), .int 0, .int 0, .int 0, .int 0, .ref (B.2.2.1 + 216), .null, .null, .null, .null, .null, .int 0, .null, .null, .null, .null, .int 0, .int 0, .int 0, .int 0, .null, .null, .int 0, .null, .null, .int 0, .int 0, .null]) := (uE_n _ _ (by decide)).trans hj213
  have hj214 : (uX12_7 B e) 214 = eI B 3250 (fun _ => 0) := (uE_n _ _ (by decide)).trans hj214
  refine b_putF (C := RX12) (T := TX12) (N := 30) X rfl hH hS 213 (by decide) hj213 rfl inBX12 tyX12 tyX12_ok nmX12 8 (by decide) bw1386 rfl rfl rfl rfl (Nat.le_of_ble_eq_true rfl) dX12_init_35 (fun H locs hH hS => ?_)
  have hH : bH B 218 (uX12_8 B e) H := hH
  have hj213 : (uX12_8 B e) 213 = .inr (13, [.int 0, .ref (B.2.2.1 + 214), .ref (B.2.2.1 + 215), .int 0, .int 0, .int 0, .int 0, .ref (B.2.2.1 + 216), .ref (B.2.2.1 + 217), .null, .null, .null, .null, .int 0, .null, .null, .null, .null, .int 0, .int 0, .int 0, .int 0, .null, .null, .int 0, .null, .null, .int 0, .int 0, .null]) := rfl
  have hj214 : (uX12_8 B e) 214 = eI B 3250 (fun _ => 0) := (uE_n _ _ (by decide)).trans hj214
  refine lv_aload_n hx hb dX12_init_38 rfl (lv_at hl 0 rfl) ?_
  refine lv_bipush (v := 80) hx hb dX12_init_39 (by decide) ?_
  refine b_newi X hH hS rfl bwAI (by decide) (N' := 80) (by decide) (by decide) (Nat.le_of_ble_eq_true rfl) (Nat.le_of_ble_eq_true rfl) dX12_init_41 (fun H hH hS => ?_)
  have hH : bH B 219 (uX12_9 B e) H := hH
  have hj213 : (uX12_9 B e) 213 = .inr (13, [.int 0, .ref (B.2.2.1 + 214), .ref (B.2.2.1 + 215), .int 0, .int 0, .int 0, .int 0, .ref (B.2.2.1 + 216), .ref (B.2.2.1 + 217), .null, .null, .null, .null, .int 0, .null, .null, .null, .null, .int 0, .int 0, .int 0, .int 0, .null, .null, .int 0, .null, .null, .int 0, .int 0, .null]) := (uE_n _ _ (by decide)).trans hj213
  have hj214 : (uX12_9 B e) 214 = eI B 3250 (fun _ => 0) := (uE_n _ _ (by decide)).trans hj214
  refine b_putF (C := RX12) (T := TX12) (N := 30) X rfl hH hS 213 (by decide) hj213 rfl inBX12 tyX12 tyX12_ok nmX12 9 (by decide) bw1387 rfl rfl rfl rfl (Nat.le_of_ble_eq_true rfl) dX12_init_43 (fun H locs hH hS => ?_)
  have hH : bH B 219 (uX12_10 B e) H := hH
  have hj213 : (uX12_10 B e) 213 = .inr (13, [.int 0, .ref (B.2.2.1 + 214), .ref (B.2.2.1 + 215), .int 0, .int 0, .int 0, .int 0, .ref (B.2.2.1 + 216), .ref (B.2.2.1 + 217), .ref (B.2.2.1 + 218), .null, .null, .null, .int 0, .null, .null, .null, .null, .int 0, .int 0, .int 0, .int 0, .null, .null, .int 0, .null, .null, .int 0, .int 0, .null]) := rfl
  have hj214 : (uX12_10 B e) 214 = eI B 3250 (fun _ => 0) := (uE_n _ _ (by decide)).trans hj214
  refine lv_aload_n hx hb dX12_init_46 rfl (lv_at hl 0 rfl) ?_
  refine lv_bipush (v := 80) hx hb dX12_init_47 (by decide) ?_
  refine b_newi X hH hS rfl bwAI (by decide) (N' := 80) (by decide) (by decide) (Nat.le_of_ble_eq_true rfl) (Nat.le_of_ble_eq_true rfl) dX12_init_49 (fun H hH hS => ?_)
  have hH : bH B 220 (uX12_11 B e) H := hH
  have hj213 : (uX12_11 B e) 213 = .inr (13, [.int 0, .ref (B.2.2.1 + 214), .ref (B.2.2.1 + 215), .int 0, .int 0, .int 0, .int 0, .ref (B.2.2.1 + 216), .ref (B.2.2.1 + 217), .ref (B.2.2.1 + 218), .null, .null, .null, .int 0, .null, .null, .null, .null, .int 0, .int 0, .int 0, .int 0, .null, .null, .int 0, .null, .null, .int 0, .int 0, .null]) := (uE_n _ _ (by decide)).trans hj213
  have hj214 : (uX12_11 B e) 214 = eI B 3250 (fun _ => 0) := (uE_n _ _ (by decide)).trans hj214
  refine b_putF (C := RX12) (T := TX12) (N := 30) X rfl hH hS 213 (by decide) hj213 rfl inBX12 tyX12 tyX12_ok nmX12 10 (by decide) bw1388 rfl rfl rfl rfl (Nat.le_of_ble_eq_true rfl) dX12_init_51 (fun H locs hH hS => ?_)
  have hH : bH B 220 (uX12_12 B e) H := hH
  have hj213 : (uX12_12 B e) 213 = .inr (13, [.int 0, .ref (B.2.2.1 + 214), .ref (B.2.2.1 + 215), .int 0, .int 0, .int 0, .int 0, .ref (B.2.2.1 + 216), .ref (B.2.2.1 + 217), .ref (B.2.2.1 + 218), .ref (B.2.2.1 + 219), .null, .null, .int 0, .null, .null, .null, .null, .int 0, .int 0, .int 0, .int 0, .null, .null, .int 0, .null, .null, .int 0, .int 0, .null]) := rfl
  have hj214 : (uX12_12 B e) 214 = eI B 3250 (fun _ => 0) := (uE_n _ _ (by decide)).trans hj214
  refine lv_aload_n hx hb dX12_init_54 rfl (lv_at hl 0 rfl) ?_
  refine lv_bipush (v := 80) hx hb dX12_init_55 (by decide) ?_
  refine b_newi X hH hS rfl bwAI (by decide) (N' := 80) (by decide) (by decide) (Nat.le_of_ble_eq_true rfl) (Nat.le_of_ble_eq_true rfl) dX12_init_57 (fun H hH hS => ?_)
  have hH : bH B 221 (uX12_13 B e) H := hH
  have hj213 : (uX12_13 B e) 213 = .inr (13, [.int 0, .ref (B.2.2.1 + 214), .ref (B.2.2.1 + 215), .int 0, .int 0, .int 0, .int 0, .ref (B.2.2.1 + 216), .ref (B.2.2.1 + 217), .ref (B.2.2.1 + 218), .ref (B.2.2.1 + 219), .null, .null, .int 0, .null, .null, .null, .null, .int 0, .int 0, .int 0, .int 0, .null, .null, .int 0, .null, .null, .int 0, .int 0, .null]) := (uE_n _ _ (by decide)).trans hj213
  have hj214 : (uX12_13 B e) 214 = eI B 3250 (fun _ => 0) := (uE_n _ _ (by decide)).trans hj214
  refine b_putF (C := RX12) (T := TX12) (N := 30) X rfl hH hS 213 (by decide) hj213 rfl inBX12 tyX12 tyX12_ok nmX12 11 (by decide) bw1389 rfl rfl rfl rfl (Nat.le_of_ble_eq_true rfl) dX12_init_59 (fun H locs hH hS => ?_)
  have hH : bH B 221 (uX12_14 B e) H := hH
  have hj213 : (uX12_14 B e) 213 = .inr (13, [.int 0, .ref (B.2.2.1 + 214), .ref (B.2.2.1 + 215), .int 0, .int 0, .int 0, .int 0, .ref (B.2.2.1 + 216), .ref (B.2.2.1 + 217), .ref (B.2.2.1 + 218), .ref (B.2.2.1 + 219), .ref (B.2.2.1 + 220), .null, .int 0, .null, .null, .null, .null, .int 0, .int 0, .int 0, .int 0, .null, .null, .int 0, .null, .null, .int 0, .int 0, .null]) := rfl
  have hj214 : (uX12_14 B e) 214 = eI B 3250 (fun _ => 0) := (uE_n _ _ (by decide)).trans hj214
  refine lv_aload_n hx hb dX12_init_62 rfl (lv_at hl 0 rfl) ?_
  refine lv_bipush (v := 30) hx hb dX12_init_63 (by decide) ?_
  refine b_newz X hH hS rfl bwAZ (by decide) (N' := 30) (by decide) (by decide) (Nat.le_of_ble_eq_true rfl) (Nat.le_of_ble_eq_true rfl) dX12_init_65 (fun H hH hS => ?_)
  have hH : bH B 222 (uX12_15 B e) H := hH
  have hj213 : (uX12_15 B e) 213 = .inr (13, [.int 0, .ref (B.2.2.1 + 214), .ref (B.2.2.1 + 215), .int 0, .int 0, .int 0, .int 0, .ref (B.2.2.1 + 216), .ref (B.2.2.1 + 217), .ref (B.2.2.1 + 218), .ref (B.2.2.1 + 219), .ref (B.2.2.1 + 220), .null, .int 0, .null, .null, .null, .null, .int 0, .int 0, .int 0, .int 0, .null, .null, .int 0, .null, .null, .int 0, .int 0, .null]) := (uE_n _ _ (by decide)).trans hj213
  have hj214 : (uX12_15 B e) 214 = eI B 3250 (fun _ => 0) := (uE_n _ _ (by decide)).trans hj214
  refine b_putF (C := RX12) (T := TX12) (N := 30) X rfl hH hS 213 (by decide) hj213 rfl inBX12 tyX12 tyX12_ok nmX12 12 (by decide) bw1390 rfl rfl rfl rfl (Nat.le_of_ble_eq_true rfl) dX12_init_67 (fun H locs hH hS => ?_)
  have hH : bH B 222 (uX12_16 B e) H := hH
  have hj213 : (uX12_16 B e) 213 = .inr (13, [.int 0, .ref (B.2.2.1 + 214), .ref (B.2.2.1 + 215), .int 0, .int 0, .int 0, .int 0, .ref (B.2.2.1 + 216), .ref (B.2.2.1 + 217), .ref (B.2.2.1 + 218), .ref (B.2.2.1 + 219), .ref (B.2.2.1 + 220), .ref (B.2.2.1 + 221), .int 0, .null, .null, .null, .null, .int 0, .int 0, .int 0, .int 0, .null, .null, .int 0, .null, .null, .int 0, .int 0, .null]) := rfl
  have hj214 : (uX12_16 B e) 214 = eI B 3250 (fun _ => 0) := (uE_n _ _ (by decide)).trans hj214
  refine lv_aload_n hx hb dX12_init_70 rfl (lv_at hl 0 rfl) ?_
  refine lv_sipush (v := 5002) hx hb dX12_init_71 (by decide) ?_
  refine b_newi X hH hS rfl bwAI (by decide) (N' := 5002) (by decide) (by decide) (Nat.le_of_ble_eq_true rfl) (Nat.le_of_ble_eq_true rfl) dX12_init_74 (fun H hH hS => ?_)
  have hH : bH B 223 (uX12_17 B e) H := hH
  have hj213 : (uX12_17 B e) 213 = .inr (13, [.int 0, .ref (B.2.2.1 + 214), .ref (B.2.2.1 + 215), .int 0, .int 0, .int 0, .int 0, .ref (B.2.2.1 + 216), .ref (B.2.2.1 + 217), .ref (B.2.2.1 + 218), .ref (B.2.2.1 + 219), .ref (B.2.2.1 + 220), .ref (B.2.2.1 + 221), .int 0, .null, .null, .null, .null, .int 0, .int 0, .int 0, .int 0, .null, .null, .int 0, .null, .null, .int 0, .int 0, .null]) := (uE_n _ _ (by decide)).trans hj213
  have hj214 : (uX12_17 B e) 214 = eI B 3250 (fun _ => 0) := (uE_n _ _ (by decide)).trans hj214
  refine b_putF (C := RX12) (T := TX12) (N := 30) X rfl hH hS 213 (by decide) hj213 rfl inBX12 tyX12 tyX12_ok nmX12 14 (by decide) bw1392 rfl rfl rfl rfl (Nat.le_of_ble_eq_true rfl) dX12_init_76 (fun H locs hH hS => ?_)
  have hH : bH B 223 (uX12_18 B e) H := hH
  have hj213 : (uX12_18 B e) 213 = .inr (13, [.int 0, .ref (B.2.2.1 + 214), .ref (B.2.2.1 + 215), .int 0, .int 0, .int 0, .int 0, .ref (B.2.2.1 + 216), .ref (B.2.2.1 + 217), .ref (B.2.2.1 + 218), .ref (B.2.2.1 + 219), .ref (B.2.2.1 + 220), .ref (B.2.2.1 + 221), .int 0, .ref (B.2.2.1 + 222), .null, .null, .null, .int 0, .int 0, .int 0, .int 0, .null, .null, .int 0, .null, .null, .int 0, .int 0, .null]) := rfl
  have hj214 : (uX12_18 B e) 214 = eI B 3250 (fun _ => 0) := (uE_n _ _ (by decide)).trans hj214
  refine lv_aload_n hx hb dX12_init_79 rfl (lv_at hl 0 rfl) ?_
  refine lv_bipush (v := 61) hx hb dX12_init_80 (by decide) ?_
  refine b_newi X hH hS rfl bwAI (by decide) (N' := 61) (by decide) (by decide) (Nat.le_of_ble_eq_true rfl) (Nat.le_of_ble_eq_true rfl) dX12_init_82 (fun H hH hS => ?_)
  have hH : bH B 224 (uX12_19 B e) H := hH
  have hj213 : (uX12_19 B e) 213 = .inr (13, [.int 0, .ref (B.2.2.1 + 214), .ref (B.2.2.1 + 215), .int 0, .int 0, .int 0, .int 0, .ref (B.2.2.1 + 216), .ref (B.2.2.1 + 217), .ref (B.2.2.1 + 218), .ref (B.2.2.1 + 219), .ref (B.2.2.1 + 220), .ref (B.2.2.1 + 221), .int 0, .ref (B.2.2.1 + 222), .null, .null, .null, .int 0, .int 0, .int 0, .int 0, .null, .null, .int 0, .null, .null, .int 0, .int 0, .null]) := (uE_n _ _ (by decide)).trans hj213
  have hj214 : (uX12_19 B e) 214 = eI B 3250 (fun _ => 0) := (uE_n _ _ (by decide)).trans hj214
  refine b_putF (C := RX12) (T := TX12) (N := 30) X rfl hH hS 213 (by decide) hj213 rfl inBX12 tyX12 tyX12_ok nmX12 15 (by decide) bw1393 rfl rfl rfl rfl (Nat.le_of_ble_eq_true rfl) dX12_init_84 (fun H locs hH hS => ?_)
  have hH : bH B 224 (uX12_20 B e) H := hH
  have hj213 : (uX12_20 B e) 213 = .inr (13, [.int 0, .ref (B.2.2.1 + 214), .ref (B.2.2.1 + 215), .int 0, .int 0, .int 0, .int 0, .ref (B.2.2.1 + 216), .ref (B.2.2.1 + 217), .ref (B.2.2.1 + 218), .ref (B.2.2.1 + 219), .ref (B.2.2.1 + 220), .ref (B.2.2.1 + 221), .int 0, .ref (B.2.2.1 + 222), .ref (B.2.2.1 + 223), .null, .null, .int 0, .int 0, .int 0, .int 0, .null, .null, .int 0, .null, .null, .int 0, .int 0, .null]) := rfl
  have hj214 : (uX12_20 B e) 214 = eI B 3250 (fun _ => 0) := (uE_n _ _ (by decide)).trans hj214
  refine lv_aload_n hx hb dX12_init_87 rfl (lv_at hl 0 rfl) ?_
  refine lv_bipush (v := 61) hx hb dX12_init_88 (by decide) ?_
  refine b_newi X hH hS rfl bwAI (by decide) (N' := 61) (by decide) (by decide) (Nat.le_of_ble_eq_true rfl) (Nat.le_of_ble_eq_true rfl) dX12_init_90 (fun H hH hS => ?_)
  have hH : bH B 225 (uX12_21 B e) H := hH
  have hj213 : (uX12_21 B e) 213 = .inr (13, [.int 0, .ref (B.2.2.1 + 214), .ref (B.2.2.1 + 215), .int 0, .int 0, .int 0, .int 0, .ref (B.2.2.1 + 216), .ref (B.2.2.1 + 217), .ref (B.2.2.1 + 218), .ref (B.2.2.1 + 219), .ref (B.2.2.1 + 220), .ref (B.2.2.1 + 221), .int 0, .ref (B.2.2.1 + 222), .ref (B.2.2.1 + 223), .null, .null, .int 0, .int 0, .int 0, .int 0, .null, .null, .int 0, .null, .null, .int 0, .int 0, .null]) := (uE_n _ _ (by decide)).trans hj213
  have hj214 : (uX12_21 B e) 214 = eI B 3250 (fun _ => 0) := (uE_n _ _ (by decide)).trans hj214
  refine b_putF (C := RX12) (T := TX12) (N := 30) X rfl hH hS 213 (by decide) hj213 rfl inBX12 tyX12 tyX12_ok nmX12 16 (by decide) bw1394 rfl rfl rfl rfl (Nat.le_of_ble_eq_true rfl) dX12_init_92 (fun H locs hH hS => ?_)
  have hH : bH B 225 (uX12_22 B e) H := hH
  have hj213 : (uX12_22 B e) 213 = .inr (13, [.int 0, .ref (B.2.2.1 + 214), .ref (B.2.2.1 + 215), .int 0, .int 0, .int 0, .int 0, .ref (B.2.2.1 + 216), .ref (B.2.2.1 + 217), .ref (B.2.2.1 + 218), .ref (B.2.2.1 + 219), .ref (B.2.2.1 + 220), .ref (B.2.2.1 + 221), .int 0, .ref (B.2.2.1 + 222), .ref (B.2.2.1 + 223), .ref (B.2.2.1 + 224), .null, .int 0, .int 0, .int 0, .int 0, .null, .null, .int 0, .null, .null, .int 0, .int 0, .null]) := rfl
  have hj214 : (uX12_22 B e) 214 = eI B 3250 (fun _ => 0) := (uE_n _ _ (by decide)).trans hj214
  refine lv_aload_n hx hb dX12_init_95 rfl (lv_at hl 0 rfl) ?_
  refine lv_bipush (v := 27) hx hb dX12_init_96 (by decide) ?_
  refine b_newi X hH hS rfl bwAI (by decide) (N' := 27) (by decide) (by decide) (Nat.le_of_ble_eq_true rfl) (Nat.le_of_ble_eq_true rfl) dX12_init_98 (fun H hH hS => ?_)
  have hH : bH B 226 (uX12_23 B e) H := hH
  have hj213 : (uX12_23 B e) 213 = .inr (13, [.int 0, .ref (B.2.2.1 + 214), .ref (B.2.2.1 + 215), .int 0, .int 0, .int 0, .int 0, .ref (B.2.2.1 + 216), .ref (B.2.2.1 + 217), .ref (B.2.2.1 + 218), .ref (B.2.2.1 + 219), .ref (B.2.2.1 + 220), .ref (B.2.2.1 + 221), .int 0, .ref (B.2.2.1 + 222), .ref (B.2.2.1 + 223), .ref (B.2.2.1 + 224), .null, .int 0, .int 0, .int 0, .int 0, .null, .null, .int 0, .null, .null, .int 0, .int 0, .null]) := (uE_n _ _ (by decide)).trans hj213
  have hj214 : (uX12_23 B e) 214 = eI B 3250 (fun _ => 0) := (uE_n _ _ (by decide)).trans hj214
  refine b_putF (C := RX12) (T := TX12) (N := 30) X rfl hH hS 213 (by decide) hj213 rfl inBX12 tyX12 tyX12_ok nmX12 17 (by decide) bw1395 rfl rfl rfl rfl (Nat.le_of_ble_eq_true rfl) dX12_init_100 (fun H locs hH hS => ?_)
  have hH : bH B 226 (uX12_24 B e) H := hH
  have hj213 : (uX12_24 B e) 213 = .inr (13, [.int 0, .ref (B.2.2.1 + 214), .ref (B.2.2.1 + 215), .int 0, .int 0, .int 0, .int 0, .ref (B.2.2.1 + 216), .ref (B.2.2.1 + 217), .ref (B.2.2.1 + 218), .ref (B.2.2.1 + 219), .ref (B.2.2.1 + 220), .ref (B.2.2.1 + 221), .int 0, .ref (B.2.2.1 + 222), .ref (B.2.2.1 + 223), .ref (B.2.2.1 + 224), .ref (B.2.2.1 + 225), .int 0, .int 0, .int 0, .int 0, .null, .null, .int 0, .null, .null, .int 0, .int 0, .null]) := rfl
  have hj214 : (uX12_24 B e) 214 = eI B 3250 (fun _ => 0) := (uE_n _ _ (by decide)).trans hj214
  refine lv_aload_n hx hb dX12_init_103 rfl (lv_at hl 0 rfl) ?_
  refine lv_bipush (v := 10) hx hb dX12_init_104 (by decide) ?_
  refine b_newi X hH hS rfl bwAI (by decide) (N' := 10) (by decide) (by decide) (Nat.le_of_ble_eq_true rfl) (Nat.le_of_ble_eq_true rfl) dX12_init_106 (fun H hH hS => ?_)
  have hH : bH B 227 (uX12_25 B e) H := hH
  have hj213 : (uX12_25 B e) 213 = .inr (13, [.int 0, .ref (B.2.2.1 + 214), .ref (B.2.2.1 + 215), .int 0, .int 0, .int 0, .int 0, .ref (B.2.2.1 + 216), .ref (B.2.2.1 + 217), .ref (B.2.2.1 + 218), .ref (B.2.2.1 + 219), .ref (B.2.2.1 + 220), .ref (B.2.2.1 + 221), .int 0, .ref (B.2.2.1 + 222), .ref (B.2.2.1 + 223), .ref (B.2.2.1 + 224), .ref (B.2.2.1 + 225), .int 0, .int 0, .int 0, .int 0, .null, .null, .int 0, .null, .null, .int 0, .int 0, .null]) := (uE_n _ _ (by decide)).trans hj213
  have hj214 : (uX12_25 B e) 214 = eI B 3250 (fun _ => 0) := (uE_n _ _ (by decide)).trans hj214
  refine b_putF (C := RX12) (T := TX12) (N := 30) X rfl hH hS 213 (by decide) hj213 rfl inBX12 tyX12 tyX12_ok nmX12 22 (by decide) bw1400 rfl rfl rfl rfl (Nat.le_of_ble_eq_true rfl) dX12_init_108 (fun H locs hH hS => ?_)
  have hH : bH B 227 (uX12_26 B e) H := hH
  have hj213 : (uX12_26 B e) 213 = .inr (13, [.int 0, .ref (B.2.2.1 + 214), .ref (B.2.2.1 + 215), .int 0, .int 0, .int 0, .int 0, .ref (B.2.2.1 + 216), .ref (B.2.2.1 + 217), .ref (B.2.2.1 + 218), .ref (B.2.2.1 + 219), .ref (B.2.2.1 + 220), .ref (B.2.2.1 + 221), .int 0, .ref (B.2.2.1 + 222), .ref (B.2.2.1 + 223), .ref (B.2.2.1 + 224), .ref (B.2.2.1 + 225), .int 0, .int 0, .int 0, .int 0, .ref (B.2.2.1 + 226), .null, .int 0, .null, .null, .int 0, .int 0, .null]) := rfl
  have hj214 : (uX12_26 B e) 214 = eI B 3250 (fun _ => 0) := (uE_n _ _ (by decide)).trans hj214
  refine lv_aload_n hx hb dX12_init_111 rfl (lv_at hl 0 rfl) ?_
  refine lv_bipush (v := 10) hx hb dX12_init_112 (by decide) ?_
  refine b_newi X hH hS rfl bwAI (by decide) (N' := 10) (by decide) (by decide) (Nat.le_of_ble_eq_true rfl) (Nat.le_of_ble_eq_true rfl) dX12_init_114 (fun H hH hS => ?_)
  have hH : bH B 228 (uX12_27 B e) H := hH
  have hj213 : (uX12_27 B e) 213 = .inr (13, [.int 0, .ref (B.2.2.1 + 214), .ref (B.2.2.1 + 215), .int 0, .int 0, .int 0, .int 0, .ref (B.2.2.1 + 216), .ref (B.2.2.1 + 217), .ref (B.2.2.1 + 218), .ref (B.2.2.1 + 219), .ref (B.2.2.1 + 220), .ref (B.2.2.1 + 221), .int 0, .ref (B.2.2.1 + 222), .ref (B.2.2.1 + 223), .ref (B.2.2.1 + 224), .ref (B.2.2.1 + 225), .int 0, .int 0, .int 0, .int 0, .ref (B.2.2.1 + 226), .null, .int 0, .null, .null, .int 0, .int 0, .null]) := (uE_n _ _ (by decide)).trans hj213
  have hj214 : (uX12_27 B e) 214 = eI B 3250 (fun _ => 0) := (uE_n _ _ (by decide)).trans hj214
  refine b_putF (C := RX12) (T := TX12) (N := 30) X rfl hH hS 213 (by decide) hj213 rfl inBX12 tyX12 tyX12_ok nmX12 23 (by decide) bw1401 rfl rfl rfl rfl (Nat.le_of_ble_eq_true rfl) dX12_init_116 (fun H locs hH hS => ?_)
  have hH : bH B 228 (uX12_28 B e) H := hH
  have hj213 : (uX12_28 B e) 213 = .inr (13, [.int 0, .ref (B.2.2.1 + 214), .ref (B.2.2.1 + 215), .int 0, .int 0, .int 0, .int 0, .ref (B.2.2.1 + 216), .ref (B.2.2.1 + 217), .ref (B.2.2.1 + 218), .ref (B.2.2.1 + 219), .ref (B.2.2.1 + 220), .ref (B.2.2.1 + 221), .int 0, .ref (B.2.2.1 + 222), .ref (B.2.2.1 + 223), .ref (B.2.2.1 + 224), .ref (B.2.2.1 + 225), .int 0, .int 0, .int 0, .int 0, .ref (B.2.2.1 + 226), .ref (B.2.2.1 + 227), .int 0, .null, .null, .int 0, .int 0, .null]) := rfl
  have hj214 : (uX12_28 B e) 214 = eI B 3250 (fun _ => 0) := (uE_n _ _ (by decide)).trans hj214
  refine lv_aload_n hx hb dX12_init_119 rfl (lv_at hl 0 rfl) ?_
  refine lv_bipush (v := 10) hx hb dX12_init_120 (by decide) ?_
  refine b_newi X hH hS rfl bwAI (by decide) (N' := 10) (by decide) (by decide) (Nat.le_of_ble_eq_true rfl) (Nat.le_of_ble_eq_true rfl) dX12_init_122 (fun H hH hS => ?_)
  have hH : bH B 229 (uX12_29 B e) H := hH
  have hj213 : (uX12_29 B e) 213 = .inr (13, [.int 0, .ref (B.2.2.1 + 214), .ref (B.2.2.1 + 215), .int 0, .int 0, .int 0, .int 0, .ref (B.2.2.1 + 216), .ref (B.2.2.1 + 217), .ref (B.2.2.1 + 218), .ref (B.2.2.1 + 219), .ref (B.2.2.1 + 220), .ref (B.2.2.1 + 221), .int 0, .ref (B.2.2.1 + 222), .ref (B.2.2.1 + 223), .ref (B.2.2.1 + 224), .ref (B.2.2.1 + 225), .int 0, .int 0, .int 0, .int 0, .ref (B.2.2.1 + 226), .ref (B.2.2.1 + 227), .int 0, .null, .null, .int 0, .int 0, .null]) := (uE_n _ _ (by decide)).trans hj213
  have hj214 : (uX12_29 B e) 214 = eI B 3250 (fun _ => 0) := (uE_n _ _ (by decide)).trans hj214
  refine b_putF (C := RX12) (T := TX12) (N := 30) X rfl hH hS 213 (by decide) hj213 rfl inBX12 tyX12 tyX12_ok nmX12 25 (by decide) bw1403 rfl rfl rfl rfl (Nat.le_of_ble_eq_true rfl) dX12_init_124 (fun H locs hH hS => ?_)
  have hH : bH B 229 (uX12_30 B e) H := hH
  have hj213 : (uX12_30 B e) 213 = .inr (13, [.int 0, .ref (B.2.2.1 + 214), .ref (B.2.2.1 + 215), .int 0, .int 0, .int 0, .int 0, .ref (B.2.2.1 + 216), .ref (B.2.2.1 + 217), .ref (B.2.2.1 + 218), .ref (B.2.2.1 + 219), .ref (B.2.2.1 + 220), .ref (B.2.2.1 + 221), .int 0, .ref (B.2.2.1 + 222), .ref (B.2.2.1 + 223), .ref (B.2.2.1 + 224), .ref (B.2.2.1 + 225), .int 0, .int 0, .int 0, .int 0, .ref (B.2.2.1 + 226), .ref (B.2.2.1 + 227), .int 0, .ref (B.2.2.1 + 228), .null, .int 0, .int 0, .null]) := rfl
  have hj214 : (uX12_30 B e) 214 = eI B 3250 (fun _ => 0) := (uE_n _ _ (by decide)).trans hj214
  refine lv_aload_n hx hb dX12_init_127 rfl (lv_at hl 0 rfl) ?_
  refine lv_bipush (v := 10) hx hb dX12_init_128 (by decide) ?_
  refine b_newi X hH hS rfl bwAI (by decide) (N' := 10) (by decide) (by decide) (Nat.le_of_ble_eq_true rfl) (Nat.le_of_ble_eq_true rfl) dX12_init_130 (fun H hH hS => ?_)
  have hH : bH B 230 (uX12_31 B e) H := hH
  have hj213 : (uX12_31 B e) 213 = .inr (13, [.int 0, .ref (B.2.2.1 + 214), .ref (B.2.2.1 + 215), .int 0, .int 0, .int 0, .int 0, .ref (B.2.2.1 + 216), .ref (B.2.2.1 + 217), .ref (B.2.2.1 + 218), .ref (B.2.2.1 + 219), .ref (B.2.2.1 + 220), .ref (B.2.2.1 + 221), .int 0, .ref (B.2.2.1 + 222), .ref (B.2.2.1 + 223), .ref (B.2.2.1 + 224), .ref (B.2.2.1 + 225), .int 0, .int 0, .int 0, .int 0, .ref (B.2.2.1 + 226), .ref (B.2.2.1 + 227), .int 0, .ref (B.2.2.1 + 228), .null, .int 0, .int 0, .null]) := (uE_n _ _ (by decide)).trans hj213
  have hj214 : (uX12_31 B e) 214 = eI B 3250 (fun _ => 0) := (uE_n _ _ (by decide)).trans hj214
  refine b_putF (C := RX12) (T := TX12) (N := 30) X rfl hH hS 213 (by decide) hj213 rfl inBX12 tyX12 tyX12_ok nmX12 26 (by decide) bw1404 rfl rfl rfl rfl (Nat.le_of_ble_eq_true rfl) dX12_init_132 (fun H locs hH hS => ?_)
  have hH : bH B 230 (uX12_32 B e) H := hH
  have hj213 : (uX12_32 B e) 213 = .inr (13, [.int 0, .ref (B.2.2.1 + 214), .ref (B.2.2.1 + 215), .int 0, .int 0, .int 0, .int 0, .ref (B.2.2.1 + 216), .ref (B.2.2.1 + 217), .ref (B.2.2.1 + 218), .ref (B.2.2.1 + 219), .ref (B.2.2.1 + 220), .ref (B.2.2.1 + 221), .int 0, .ref (B.2.2.1 + 222), .ref (B.2.2.1 + 223), .ref (B.2.2.1 + 224), .ref (B.2.2.1 + 225), .int 0, .int 0, .int 0, .int 0, .ref (B.2.2.1 + 226), .ref (B.2.2.1 + 227), .int 0, .ref (B.2.2.1 + 228), .ref (B.2.2.1 + 229), .int 0, .int 0, .null]) := rfl
  have hj214 : (uX12_32 B e) 214 = eI B 3250 (fun _ => 0) := (uE_n _ _ (by decide)).trans hj214
  refine lv_aload_n hx hb dX12_init_135 rfl (lv_at hl 0 rfl) ?_
  refine lv_sipush (v := 1024) hx hb dX12_init_136 (by decide) ?_
  refine b_newi X hH hS rfl bwAI (by decide) (N' := 1024) (by decide) (by decide) (Nat.le_of_ble_eq_true rfl) (Nat.le_of_ble_eq_true rfl) dX12_init_139 (fun H hH hS => ?_)
  have hH : bH B 231 (uX12_33 B e) H := hH
  have hj213 : (uX12_33 B e) 213 = .inr (13, [.int 0, .ref (B.2.2.1 + 214), .ref (B.2.2.1 + 215), .int 0, .int 0, .int 0, .int 0, .ref (B.2.2.1 + 216), .ref (B.2.2.1 + 217), .ref (B.2.2.1 + 218), .ref (B.2.2.1 + 219), .ref (B.2.2.1 + 220), .ref (B.2.2.1 + 221), .int 0, .ref (B.2.2.1 + 222), .ref (B.2.2.1 + 223), .ref (B.2.2.1 + 224), .ref (B.2.2.1 + 225), .int 0, .int 0, .int 0, .int 0, .ref (B.2.2.1 + 226), .ref (B.2.2.1 + 227), .int 0, .ref (B.2.2.1 + 228), .ref (B.2.2.1 + 229), .int 0, .int 0, .null]) := (uE_n _ _ (by decide)).trans hj213
  have hj214 : (uX12_33 B e) 214 = eI B 3250 (fun _ => 0) := (uE_n _ _ (by decide)).trans hj214
  refine b_putF (C := RX12) (T := TX12) (N := 30) X rfl hH hS 213 (by decide) hj213 rfl inBX12 tyX12 tyX12_ok nmX12 29 (by decide) bw1407 rfl rfl rfl rfl (Nat.le_of_ble_eq_true rfl) dX12_init_141 (fun H locs hH hS => ?_)
  have hH : bH B 231 (uX12_34 B e) H := hH
  have hj213 : (uX12_34 B e) 213 = .inr (13, [.int 0, .ref (B.2.2.1 + 214), .ref (B.2.2.1 + 215), .int 0, .int 0, .int 0, .int 0, .ref (B.2.2.1 + 216), .ref (B.2.2.1 + 217), .ref (B.2.2.1 + 218), .ref (B.2.2.1 + 219), .ref (B.2.2.1 + 220), .ref (B.2.2.1 + 221), .int 0, .ref (B.2.2.1 + 222), .ref (B.2.2.1 + 223), .ref (B.2.2.1 + 224), .ref (B.2.2.1 + 225), .int 0, .int 0, .int 0, .int 0, .ref (B.2.2.1 + 226), .ref (B.2.2.1 + 227), .int 0, .ref (B.2.2.1 + 228), .ref (B.2.2.1 + 229), .int 0, .int 0, .ref (B.2.2.1 + 230)]) := rfl
  have hj214 : (uX12_34 B e) 214 = eI B 3250 (fun _ => 0) := (uE_n _ _ (by decide)).trans hj214
  generalize hargs : ([.ref (B.2.2.1 + 213)] : List Value).toArray = args at X ⊢
  generalize hQ : MQ below (BV B 231 (uE (uX12_34 B e) 214 (eI B 3250 (sIni 27)))) args s 17 13002 (bA B) = Q
  have hL : ∀ (m0 i : Nat) (H : Heap) (locs : List Loc) (ls : Array Slot) (cells slots : Nat), cells ≤ 17 → slots ≤ 13002 → i ≤ 27 → 27 - i < m0 → bH B 231 (uE (uX12_34 B e) 214 (eI B 3250 (sIni i))) H → va_S (bA B) s.heap H locs → lv_has ls 2 [(1, .int (nI i)), (0, .ref (B.2.2.1 + 213))] → W p l env (rmB 2 17 13002 60) s m args below meth c H locs cells slots Q (F0 m 146 ls []) := by
    intro m0
    induction m0 with
    | zero => intro i H locs ls cells slots _ _ h1 h2; omega
    | succ m0 ih =>
      intro i H locs ls cells slots hc1 hc2 h1 h2 hH hS hl
      have hjT : (uE (uX12_34 B e) 214 (eI B 3250 (sIni i))) 213 = .inr (13, [.int 0, .ref (B.2.2.1 + 214), .ref (B.2.2.1 + 215), .int 0, .int 0, .int 0, .int 0, .ref (B.2.2.1 + 216), .ref (B.2.2.1 + 217), .ref (B.2.2.1 + 218), .ref (B.2.2.1 + 219), .ref (B.2.2.1 + 220), .ref (B.2.2.1 + 221), .int 0, .ref (B.2.2.1 + 222), .ref (B.2.2.1 + 223), .ref (B.2.2.1 + 224), .ref (B.2.2.1 + 225), .int 0, .int 0, .int 0, .int 0, .ref (B.2.2.1 + 226), .ref (B.2.2.1 + 227), .int 0, .ref (B.2.2.1 + 228), .ref (B.2.2.1 + 229), .int 0, .int 0, .ref (B.2.2.1 + 230)]) := (uE_n _ _ (by decide)).trans hj213
      refine lv_iload_n hx hb dX12_init_146 rfl (lv_at hl 0 rfl) ?_
      refine lv_bipush (v := 27) hx hb dX12_init_147 (by decide) ?_
      refine lv_icmp_ge (tgt := 178) hx hb dX12_init_149 (by decide) (fun hc => ?_) (fun hc => ?_)
      · have e' : i = 27 := by
          rcases Nat.lt_or_ge i 27 with q | q
          · exact absurd hc (nI_ge (b := 27) q (by decide))
          · omega
        subst e'
        subst hQ
        exact bEv X hH hS hc1 hc2 dX12_init_178
      have hi : i < 27 := by
        rcases Nat.lt_or_ge i 27 with q | q
        · exact q
        · exact absurd (nI_le (a := 27) q (by omega)) hc
      refine lv_aload_n hx hb dX12_init_152 rfl (lv_at hl 1 rfl) ?_
      refine b_get (C := RX12) (T := TX12) (N := 30) X hH 213 (by decide) hjT rfl inBX12 1 (by decide) rfl bw1379 dX12_init_153 ?_
      refine lv_bipush (v := 20) hx hb dX12_init_156 (by decide) ?_
      refine lv_iload_n hx hb dX12_init_158 rfl (lv_at hl 0 rfl) ?_
      refine lv_iadd hx hb dX12_init_159 ?_
      rw [show (20 : Int32) + nI i = nI (20 + i) from nI_add 20 i]
      refine lv_iload_n hx hb dX12_init_160 rfl (lv_at hl 0 rfl) ?_
      refine lv_bipush (v := 26) hx hb dX12_init_161 (by decide) ?_
      have hend : ∀ (x : Int32), x = (if i = 26 then 1 else 2) → W p l env (rmB 2 17 13002 60) s m args below meth c H locs cells slots Q (F0 m 171 ls [.int x, .int (nI (20 + i)), .ref (B.2.2.1 + 214)]) := by
        intro x hx2
        refine b_ist X hH hS 214 (by decide) (uE_s _ _ _) (vp_in_nI (by omega) (by decide)) dX12_init_171 (fun H locs hH hS => ?_)
        rw [nI_clamp (by omega), uE_uE] at hH
        have ef : upd (sIni i) (20 + i) x = sIni (i + 1) := by
          funext t
          unfold upd sIni
          by_cases h : t = 20 + i
          · subst h
            rw [hx2]
            simp
            by_cases h6 : i = 26
            · subst h6; rfl
            · simp [h6, show ¬ 20 + i = 46 by omega]
          · by_cases h3 : 20 ≤ t ∧ t < 20 + i
            · simp [h, h3, show t < 20 + (i + 1) by omega]
            · simp [h, h3, show ¬ (20 ≤ t ∧ t < 20 + (i + 1)) by omega]
        rw [ef] at hH
        refine lv_iinc (v := nI (i + 1)) (lv' := [(1, .int (nI (i + 1))), (0, .ref (B.2.2.1 + 213))]) hx hb dX12_init_172 hl (k := 0) rfl (nI_1 i) (by decide) rfl (fun ls hl => ?_)
        refine lv_goto (tgt := 146) hx hb dX12_init_175 (by decide) ?_
        exact ih (i + 1) _ _ _ _ _ hc1 hc2 (by omega) (by omega) hH hS hl
      refine lv_icmp_ne (tgt := 170) hx hb dX12_init_163 (by decide) (fun hn => ?_) (fun hn => ?_)
      · refine lv_iconst (v := 2) hx hb dX12_init_170 (by decide) ?_
        exact hend 2 (by rw [if_neg (fun q => hn (by rw [q]; rfl))])
      · refine lv_iconst (v := 1) hx hb dX12_init_166 (by decide) ?_
        refine lv_goto (tgt := 171) hx hb dX12_init_167 (by decide) ?_
        exact hend 1 (by rw [if_pos (nI_inj (b := 26) (by omega) (by decide) hn)])
  refine lv_iconst (v := 0) hx hb dX12_init_144 (by decide) ?_
  refine lv_istore_n (lv' := [(1, .int 0), (0, .ref (B.2.2.1 + 213))]) hx hb dX12_init_145 rfl hl (by decide) rfl (fun ls hl => ?_)
  refine hL 28 0 _ _ _ _ _ (Nat.le_of_ble_eq_true rfl) (Nat.le_of_ble_eq_true rfl) (by omega) (by omega) (bH_congr hH (fun k _ => ?_)) hS hl
  by_cases h : k = 214
  · subst h; rw [uE_s, hj214, show sIni 0 = fun _ => 0 from by funext t; unfold sIni; rw [if_neg (by omega)]]
  · exact uE_n _ _ h
