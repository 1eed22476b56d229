set_option maxHeartbeats 4000000 in
set_option maxRecDepth 100000 in
theorem k_X11 (l : Launch) (B : BX) (e : Nat → va_E) (he0 : e 0 = .inr (12, [.null, .null, .null, .null, .null, .null, .null, .null, .null, .null, .null, .null, .int 0])) : MBx l B yX11_init cX11_init 1 none (rmB 9 212 15847 360) [.ref (B.2.2.1 + 0)] 1 e (BV B 213 (uX11_35 B e)) 212 15847 := by
  refine bM_start (by decide +kernel) (Nat.le_of_ble_eq_true rfl) ?_
  intro p env s m below meth c ls X hH hl
  have hS : va_S (bA B) s.heap s.heap [] := va_S.rf
  have hx := X.1.1
  have hb := X.1.2.1
  have hl : lv_has ls 1 [(0, .ref (B.2.2.1 + 0))] := hl
  refine lv_aload_n hx hb dX11_init_0 rfl (lv_at hl 0 rfl) ?_
  refine b_obj X hl bw117 bw118 bw119 ⟨Nat.le_of_ble_eq_true rfl, Nat.le_of_ble_eq_true rfl⟩ dX11_init_1 ?_
  refine lv_aload_n hx hb dX11_init_4 rfl (lv_at hl 0 rfl) ?_
  refine b_new (ci := 8) (fs := [.null, .null]) X hH hS rfl rfl inBX7 tyX7 tyX7_ok bw120 bw121 bw87 (by decide) (Nat.le_of_ble_eq_true rfl) (Nat.le_of_ble_eq_true rfl) dX11_init_5 (fun H hH hS => ?_)
  have hH : bH B 2 (uX11_1 B e) H := hH
  refine lv_dup hx hb dX11_init_8 rfl ?_
  refine b_size X hH (by decide) rfl (fun hz => ?_)
  refine bGv (b_irun (rest := [.ref (B.2.2.1 + 1), .ref (B.2.2.1 + 0)]) X (k_shf l B 2 (uX11_1 B e) 1 (by decide) .null .null (show (uX11_1 B e) 1 = .inr (8, [.null, .null]) from rfl)) rfl bw122 bw123 bw87 bw124 kn_X7_init ⟨rfl, rfl, Nat.le_of_ble_eq_true rfl, Nat.le_of_ble_eq_true rfl⟩ hH hS hz hl rfl (Nat.le_of_ble_eq_true rfl) dX11_init_9 ⟨Nat.le_of_ble_eq_true rfl, Nat.le_of_ble_eq_true rfl⟩) hS (fun H locs hH hS => ?_)
  have hH : bH B 4 (uX11_2 B e) H := hH
  have hrw1 : RWS B 4 (uX11_2 B e) (fun _ => none) ∧ RWS B 4 (uX11_2 B e) (fun _ => none) := ⟨RWS.none, RWS.none⟩
  have hj0 : (uX11_2 B e) 0 = .inr (12, [.null, .null, .null, .null, .null, .null, .null, .null, .null, .null, .null, .null, .int 0]) := he0
  have hj1 : (uX11_2 B e) 1 = eShf B 2 3 := rfl
  have hj2 : (uX11_2 B e) 2 = eLst0 B := rfl
  have hj3 : (uX11_2 B e) 3 = eLst0 B := rfl
  refine b_putF (C := RX11) (T := TX11) (N := 13) X rfl hH hS 0 (by decide) hj0 rfl inBX11 tyX11 tyX11_ok nmX11 0 (by decide) bw572 rfl rfl rfl rfl (Nat.le_of_ble_eq_true rfl) dX11_init_12 (fun H locs hH hS => ?_)
  have hH : bH B 4 (uX11_3 B e) H := hH
  have hrw2 : RWS B 4 (uX11_3 B e) (fun _ => none) ∧ RWS B 4 (uX11_3 B e) (fun _ => none) := ⟨RWS.updN (NRo hj0 (by decide)) hrw1.1, RWS.updN (NRo hj0 (by decide)) hrw1.2⟩
  have hj0 : (uX11_3 B e) 0 = .inr (12, [.ref (B.2.2.1 + 1), .null, .null, .null, .null, .null, .null, .null, .null, .null, .null, .null, .int 0]) := rfl
  have hj1 : (uX11_3 B e) 1 = eShf B 2 3 := rfl
  have hj2 : (uX11_3 B e) 2 = eLst0 B := rfl
  have hj3 : (uX11_3 B e) 3 = eLst0 B := rfl
  refine lv_aload_n hx hb dX11_init_15 rfl (lv_at hl 0 rfl) ?_
  refine lv_aload_n hx hb dX11_init_16 rfl (lv_at hl 0 rfl) ?_
  refine b_get (C := RX11) (T := TX11) (N := 13) X hH 0 (by decide) hj0 rfl inBX11 0 (by decide) rfl bw572 dX11_init_17 ?_
  refine lv_iconst (v := 1) hx hb dX11_init_20 (by decide) ?_
  refine b_size X hH (by decide) rfl (fun hz => ?_)
  refine bGr (b_vrun (rest := [.ref (B.2.2.1 + 0)]) X (k_plF l B 4 (uX11_3 B e) 1 2 3 (by decide) (by decide) (by decide) (by decide) hj1 hj2 hj3 1 1 (by decide) (by decide) (by decide) (by decide)) bw159 bw160 bw161 bw87 bw162 kn_X7_place ⟨rfl, rfl, Nat.le_of_ble_eq_true rfl, Nat.le_of_ble_eq_true rfl⟩ (b_rec X hH 1 (by decide) hj1 rfl) hH hS hz hl rfl (Nat.le_of_ble_eq_true rfl) dX11_init_21 ⟨Nat.le_of_ble_eq_true rfl, Nat.le_of_ble_eq_true rfl⟩) hS (fun H locs hH hS => ?_)
  have hH : bH B 10 (uX11_4 B e) H := hH
  have hrw3 : RWS B 10 (uX11_4 B e) (faX11_1 B) ∧ RWS B 10 (uX11_4 B e) (fbX11_1 B) := ⟨RWS.add (r := 4) (by decide) rfl (RWS.none), RWS.add (r := 7) (by decide) rfl (RWS.none)⟩
  have hj0 : (uX11_4 B e) 0 = .inr (12, [.ref (B.2.2.1 + 1), .null, .null, .null, .null, .null, .null, .null, .null, .null, .null, .null, .int 0]) := rfl
  have hj1 : (uX11_4 B e) 1 = eShf B 2 3 := rfl
  have hj2 : (uX11_4 B e) 2 = eLst B 6 1 := rfl
  have hj3 : (uX11_4 B e) 3 = eLst B 9 1 := rfl
  have hj6 : (uX11_4 B e) 6 = eQ B 10 (faX11_1 B) := rfl
  have hj9 : (uX11_4 B e) 9 = eQ B 10 (fbX11_1 B) := rfl
  refine b_putF (C := RX11) (T := TX11) (N := 13) X rfl hH hS 0 (by decide) hj0 rfl inBX11 tyX11 tyX11_ok nmX11 1 (by decide) bw573 rfl rfl rfl rfl (Nat.le_of_ble_eq_true rfl) dX11_init_24 (fun H locs hH hS => ?_)
  have hH : bH B 10 (uX11_5 B e) H := hH
  have hrw4 : RWS B 10 (uX11_5 B e) (faX11_1 B) ∧ RWS B 10 (uX11_5 B e) (fbX11_1 B) := ⟨RWS.updN (NRo hj0 (by decide)) hrw3.1, RWS.updN (NRo hj0 (by decide)) hrw3.2⟩
  have hj0 : (uX11_5 B e) 0 = .inr (12, [.ref (B.2.2.1 + 1), .ref (B.2.2.1 + 4), .null, .null, .null, .null, .null, .null, .null, .null, .null, .null, .int 0]) := rfl
  have hj1 : (uX11_5 B e) 1 = eShf B 2 3 := (uE_n _ _ (by decide)).trans hj1
  have hj2 : (uX11_5 B e) 2 = eLst B 6 1 := (uE_n _ _ (by decide)).trans hj2
  have hj3 : (uX11_5 B e) 3 = eLst B 9 1 := (uE_n _ _ (by decide)).trans hj3
  have hj6 : (uX11_5 B e) 6 = eQ B 10 (faX11_1 B) := (uE_n _ _ (by decide)).trans hj6
  have hj9 : (uX11_5 B e) 9 = eQ B 10 (fbX11_1 B) := (uE_n _ _ (by decide)).trans hj9
  refine lv_aload_n hx hb dX11_init_27 rfl (lv_at hl 0 rfl) ?_
  refine lv_aload_n hx hb dX11_init_28 rfl (lv_at hl 0 rfl) ?_
  refine b_get (C := RX11) (T := TX11) (N := 13) X hH 0 (by decide) hj0 rfl inBX11 0 (by decide) rfl bw572 dX11_init_29 ?_
  refine lv_bipush (v := 120) hx hb dX11_init_32 (by decide) ?_
  refine b_size X hH (by decide) rfl (fun hz => ?_)
  refine bGr (b_vrun (rest := [.ref (B.2.2.1 + 0)]) X (k_plN l B 10 (uX11_5 B e) 1 2 3 6 9 (by decide) (by decide) (by decide) (by decide) (by decide) (by decide) hj1 1 hj2 hj3 10 (by decide) (by decide) (faX11_1 B) (fbX11_1 B) hj6 hj9 120 120 (by decide) (by decide) (by decide) (by decide)) bw159 bw160 bw161 bw87 bw162 kn_X7_place ⟨rfl, rfl, Nat.le_of_ble_eq_true rfl, Nat.le_of_ble_eq_true rfl⟩ (b_rec X hH 1 (by decide) hj1 rfl) hH hS hz hl rfl (Nat.le_of_ble_eq_true rfl) dX11_init_34 ⟨Nat.le_of_ble_eq_true rfl, Nat.le_of_ble_eq_true rfl⟩) hS (fun H locs hH hS => ?_)
  have hH : bH B 14 (uX11_6 B e) H := hH
  have hrw5 : RWS B 14 (uX11_6 B e) (faX11_2 B) ∧ RWS B 14 (uX11_6 B e) (fbX11_2 B) := ⟨RWS.add (r := 10) (by decide) rfl (RWS_pl4 hrw4.1 (by decide) (by decide) (by decide) (by decide) (NRo hj2 (by decide)) (NRq hj6) (NRo hj3 (by decide)) (NRq hj9)), RWS.add (r := 12) (by decide) rfl (RWS_pl4 hrw4.2 (by decide) (by decide) (by decide) (by decide) (NRo hj2 (by decide)) (NRq hj6) (NRo hj3 (by decide)) (NRq hj9))⟩
  have hj0 : (uX11_6 B e) 0 = .inr (12, [.ref (B.2.2.1 + 1), .ref (B.2.2.1 + 4), .null, .null, .null, .null, .null, .null, .null, .null, .null, .null, .int 0]) := rfl
  have hj1 : (uX11_6 B e) 1 = eShf B 2 3 := rfl
  have hj2 : (uX11_6 B e) 2 = eLst B 6 2 := rfl
  have hj3 : (uX11_6 B e) 3 = eLst B 9 2 := rfl
  have hj6 : (uX11_6 B e) 6 = eQ B 10 (faX11_2 B) := rfl
  have hj9 : (uX11_6 B e) 9 = eQ B 10 (fbX11_2 B) := rfl
  refine b_putF (C := RX11) (T := TX11) (N := 13) X rfl hH hS 0 (by decide) hj0 rfl inBX11 tyX11 tyX11_ok nmX11 2 (by decide) bw574 rfl rfl rfl rfl (Nat.le_of_ble_eq_true rfl) dX11_init_37 (fun H locs hH hS => ?_)
  have hH : bH B 14 (uX11_7 B e) H := hH
  have hrw6 : RWS B 14 (uX11_7 B e) (faX11_2 B) ∧ RWS B 14 (uX11_7 B e) (fbX11_2 B) := ⟨RWS.updN (NRo hj0 (by decide)) hrw5.1, RWS.updN (NRo hj0 (by decide)) hrw5.2⟩
  have hj0 : (uX11_7 B e) 0 = .inr (12, [.ref (B.2.2.1 + 1), .ref (B.2.2.1 + 4), .ref (B.2.2.1 + 10), .null, .null, .null, .null, .null, .null, .null, .null, .null, .int 0]) := rfl
  have hj1 : (uX11_7 B e) 1 = eShf B 2 3 := (uE_n _ _ (by decide)).trans hj1
  have hj2 : (uX11_7 B e) 2 = eLst B 6 2 := (uE_n _ _ (by decide)).trans hj2
  have hj3 : (uX11_7 B e) 3 = eLst B 9 2 := (uE_n _ _ (by decide)).trans hj3
  have hj6 : (uX11_7 B e) 6 = eQ B 10 (faX11_2 B) := (uE_n _ _ (by decide)).trans hj6
  have hj9 : (uX11_7 B e) 9 = eQ B 10 (fbX11_2 B) := (uE_n _ _ (by decide)).trans hj9
  refine lv_aload_n hx hb dX11_init_40 rfl (lv_at hl 0 rfl) ?_
  refine b_new (ci := 11) (fs := [.null, .null, .null, .null, .null, .null, .null, .null, .null, .int 0]) X hH hS rfl rfl inBX10 tyX10 tyX10_ok bw238 bw239 bw96 (by decide) (Nat.le_of_ble_eq_true rfl) (Nat.le_of_ble_eq_true rfl) dX11_init_41 (fun H hH hS => ?_)
  have hH : bH B 15 (uX11_8 B e) H := hH
  have hrw7 : RWS B 15 (uX11_8 B e) (faX11_2 B) ∧ RWS B 15 (uX11_8 B e) (fbX11_2 B) := ⟨hrw6.1.push, hrw6.2.push⟩
  have hj0 : (uX11_8 B e) 0 = .inr (12, [.ref (B.2.2.1 + 1), .ref (B.2.2.1 + 4), .ref (B.2.2.1 + 10), .null, .null, .null, .null, .null, .null, .null, .null, .null, .int 0]) := (uE_n _ _ (by decide)).trans hj0
  have hj1 : (uX11_8 B e) 1 = eShf B 2 3 := (uE_n _ _ (by decide)).trans hj1
  have hj2 : (uX11_8 B e) 2 = eLst B 6 2 := (uE_n _ _ (by decide)).trans hj2
  have hj3 : (uX11_8 B e) 3 = eLst B 9 2 := (uE_n _ _ (by decide)).trans hj3
  have hj6 : (uX11_8 B e) 6 = eQ B 10 (faX11_2 B) := (uE_n _ _ (by decide)).trans hj6
  have hj9 : (uX11_8 B e) 9 = eQ B 10 (fbX11_2 B) := (uE_n _ _ (by decide)).trans hj9
  refine lv_dup hx hb dX11_init_44 rfl ?_
  refine lv_aload_n hx hb dX11_init_45 rfl (lv_at hl 0 rfl) ?_
  refine b_get (C := RX11) (T := TX11) (N := 13) X hH 0 (by decide) hj0 rfl inBX11 0 (by decide) rfl bw572 dX11_init_46 ?_
  refine lv_aload_n hx hb dX11_init_49 rfl (lv_at hl 0 rfl) ?_
  refine b_get (C := RX11) (T := TX11) (N := 13) X hH 0 (by decide) hj0 rfl inBX11 2 (by decide) rfl bw574 dX11_init_50 ?_
  refine b_size X hH (by decide) rfl (fun hz => ?_)
  refine bGv (b_irun (rest := [.ref (B.2.2.1 + 14), .ref (B.2.2.1 + 0)]) X (k_X10 l B (uX11_8 B e) (faX11_2 B) (fbX11_2 B) (show (uX11_8 B e) 14 = .inr (11, [.null, .null, .null, .null, .null, .null, .null, .null, .null, .int 0]) from rfl) (show (uX11_8 B e) 1 = eShf B 2 3 from hj1) (show (uX11_8 B e) 2 = eLst B 6 2 from hj2) (show (uX11_8 B e) 3 = eLst B 9 2 from hj3) (show (uX11_8 B e) 6 = eQ B 10 (faX11_2 B) from hj6) (show (uX11_8 B e) 9 = eQ B 10 (fbX11_2 B) from hj9)) rfl bw240 bw241 bw96 bw242 kn_X10_init ⟨rfl, rfl, Nat.le_of_ble_eq_true rfl, Nat.le_of_ble_eq_true rfl⟩ hH hS hz hl rfl (Nat.le_of_ble_eq_true rfl) dX11_init_53 ⟨Nat.le_of_ble_eq_true rfl, Nat.le_of_ble_eq_true rfl⟩) hS (fun H locs hH hS => ?_)
  have hH : bH B 47 (uX11_9 B e) H := hH
  have hrw8 : RWS B 47 (uX11_9 B e) (faX11_3 B) ∧ RWS B 47 (uX11_9 B e) (fbX11_3 B) := rw_X10 B (uX11_8 B e) (faX11_2 B) (fbX11_2 B) (show (uX11_8 B e) 14 = .inr (11, [.null, .null, .null, .null, .null, .null, .null, .null, .null, .int 0]) from rfl) (show (uX11_8 B e) 1 = eShf B 2 3 from hj1) (show (uX11_8 B e) 2 = eLst B 6 2 from hj2) (show (uX11_8 B e) 3 = eLst B 9 2 from hj3) (show (uX11_8 B e) 6 = eQ B 10 (faX11_2 B) from hj6) (show (uX11_8 B e) 9 = eQ B 10 (fbX11_2 B) from hj9) hrw7.1 hrw7.2
  have hj0 : (uX11_9 B e) 0 = .inr (12, [.ref (B.2.2.1 + 1), .ref (B.2.2.1 + 4), .ref (B.2.2.1 + 10), .null, .null, .null, .null, .null, .null, .null, .null, .null, .int 0]) := (w_X10 B (uX11_8 B e) (faX11_2 B) (fbX11_2 B) 0 (by decide) (by decide) (by decide) (by decide) (by decide) (by decide) ).trans hj0
  have hj1 : (uX11_9 B e) 1 = eShf B 2 3 := (w_X10 B (uX11_8 B e) (faX11_2 B) (fbX11_2 B) 1 (by decide) (by decide) (by decide) (by decide) (by decide) (by decide) ).trans hj1
  have hj2 : (uX11_9 B e) 2 = eLst B 6 10 := rfl
  have hj3 : (uX11_9 B e) 3 = eLst B 9 10 := rfl
  have hj6 : (uX11_9 B e) 6 = eQ B 10 (faX11_3 B) := rfl
  have hj9 : (uX11_9 B e) 9 = eQ B 10 (fbX11_3 B) := rfl
  refine b_putF (C := RX11) (T := TX11) (N := 13) X rfl hH hS 0 (by decide) hj0 rfl inBX11 tyX11 tyX11_ok nmX11 3 (by decide) bw575 rfl rfl rfl rfl (Nat.le_of_ble_eq_true rfl) dX11_init_56 (fun H locs hH hS => ?_)
  have hH : bH B 47 (uX11_10 B e) H := hH
  have hrw9 : RWS B 47 (uX11_10 B e) (faX11_3 B) ∧ RWS B 47 (uX11_10 B e) (fbX11_3 B) := ⟨RWS.updN (NRo hj0 (by decide)) hrw8.1, RWS.updN (NRo hj0 (by decide)) hrw8.2⟩
  have hj0 : (uX11_10 B e) 0 = .inr (12, [.ref (B.2.2.1 + 1), .ref (B.2.2.1 + 4), .ref (B.2.2.1 + 10), .ref (B.2.2.1 + 14), .null, .null, .null, .null, .null, .null, .null, .null, .int 0]) := rfl
  have hj1 : (uX11_10 B e) 1 = eShf B 2 3 := (uE_n _ _ (by decide)).trans hj1
  have hj2 : (uX11_10 B e) 2 = eLst B 6 10 := (uE_n _ _ (by decide)).trans hj2
  have hj3 : (uX11_10 B e) 3 = eLst B 9 10 := (uE_n _ _ (by decide)).trans hj3
  have hj6 : (uX11_10 B e) 6 = eQ B 10 (faX11_3 B) := (uE_n _ _ (by decide)).trans hj6
  have hj9 : (uX11_10 B e) 9 = eQ B 10 (fbX11_3 B) := (uE_n _ _ (by decide)).trans hj9
  refine lv_aload_n hx hb dX11_init_59 rfl (lv_at hl 0 rfl) ?_
  refine b_new (ci := 1) (fs := [.int 0, .int 0, .int 0, .int 0, .int 0, .null, .null, .null]) X hH hS rfl rfl inBX0 tyX0 tyX0_ok bw284 bw285 bw97 (by decide) (Nat.le_of_ble_eq_true rfl) (Nat.le_of_ble_eq_true rfl) dX11_init_60 (fun H hH hS => ?_)
  have hH : bH B 48 (uX11_11 B e) H := hH
  have hrw10 : RWS B 48 (uX11_11 B e) (faX11_3 B) ∧ RWS B 48 (uX11_11 B e) (fbX11_3 B) := ⟨hrw9.1.push, hrw9.2.push⟩
  have hj0 : (uX11_11 B e) 0 = .inr (12, [.ref (B.2.2.1 + 1), .ref (B.2.2.1 + 4), .ref (B.2.2.1 + 10), .ref (B.2.2.1 + 14), .null, .null, .null, .null, .null, .null, .null, .null, .int 0]) := (uE_n _ _ (by decide)).trans hj0
  have hj1 : (uX11_11 B e) 1 = eShf B 2 3 := (uE_n _ _ (by decide)).trans hj1
  have hj2 : (uX11_11 B e) 2 = eLst B 6 10 := (uE_n _ _ (by decide)).trans hj2
  have hj3 : (uX11_11 B e) 3 = eLst B 9 10 := (uE_n _ _ (by decide)).trans hj3
  have hj6 : (uX11_11 B e) 6 = eQ B 10 (faX11_3 B) := (uE_n _ _ (by decide)).trans hj6
  have hj9 : (uX11_11 B e) 9 = eQ B 10 (fbX11_3 B) := (uE_n _ _ (by decide)).trans hj9
  refine lv_dup hx hb dX11_init_63 rfl ?_
  refine b_size X hH (by decide) rfl (fun hz => ?_)
  refine bGv (b_irun (rest := [.ref (B.2.2.1 + 47), .ref (B.2.2.1 + 0)]) X (k_X0 l B (uX11_11 B e) (show (uX11_11 B e) 47 = .inr (1, [.int 0, .int 0, .int 0, .int 0, .int 0, .null, .null, .null]) from rfl)) rfl bw286 bw287 bw97 bw288 kn_X0_init ⟨rfl, rfl, Nat.le_of_ble_eq_true rfl, Nat.le_of_ble_eq_true rfl⟩ hH hS hz hl rfl (Nat.le_of_ble_eq_true rfl) dX11_init_64 ⟨Nat.le_of_ble_eq_true rfl, Nat.le_of_ble_eq_true rfl⟩) hS (fun H locs hH hS => ?_)
  have hH : bH B 54 (uX11_12 B e) H := hH
  have hrw11 : RWS B 54 (uX11_12 B e) (faX11_3 B) ∧ RWS B 54 (uX11_12 B e) (fbX11_3 B) := rw_X0 B (uX11_11 B e) (faX11_3 B) (fbX11_3 B) (show (uX11_11 B e) 47 = .inr (1, [.int 0, .int 0, .int 0, .int 0, .int 0, .null, .null, .null]) from rfl) hrw10.1 hrw10.2
  have hj0 : (uX11_12 B e) 0 = .inr (12, [.ref (B.2.2.1 + 1), .ref (B.2.2.1 + 4), .ref (B.2.2.1 + 10), .ref (B.2.2.1 + 14), .null, .null, .null, .null, .null, .null, .null, .null, .int 0]) := (w_X0 B (uX11_11 B e) 0 (by decide) (by decide) ).trans hj0
  have hj1 : (uX11_12 B e) 1 = eShf B 2 3 := (w_X0 B (uX11_11 B e) 1 (by decide) (by decide) ).trans hj1
  have hj2 : (uX11_12 B e) 2 = eLst B 6 10 := (w_X0 B (uX11_11 B e) 2 (by decide) (by decide) ).trans hj2
  have hj3 : (uX11_12 B e) 3 = eLst B 9 10 := (w_X0 B (uX11_11 B e) 3 (by decide) (by decide) ).trans hj3
  have hj6 : (uX11_12 B e) 6 = eQ B 10 (faX11_3 B) := (w_X0 B (uX11_11 B e) 6 (by decide) (by decide) ).trans hj6
  have hj9 : (uX11_12 B e) 9 = eQ B 10 (fbX11_3 B) := (w_X0 B (uX11_11 B e) 9 (by decide) (by decide) ).trans hj9
  refine b_putF (C := RX11) (T := TX11) (N := 13) X rfl hH hS 0 (by decide) hj0 rfl inBX11 tyX11 tyX11_ok nmX11 4 (by decide) bw576 rfl rfl rfl rfl (Nat.le_of_ble_eq_true rfl) dX11_init_67 (fun H locs hH hS => ?_)
  have hH : bH B 54 (uX11_13 B e) H := hH
  have hrw12 : RWS B 54 (uX11_13 B e) (faX11_3 B) ∧ RWS B 54 (uX11_13 B e) (fbX11_3 B) := ⟨RWS.updN (NRo hj0 (by decide)) hrw11.1, RWS.updN (NRo hj0 (by decide)) hrw11.2⟩
  have hj0 : (uX11_13 B e) 0 = .inr (12, [.ref (B.2.2.1 + 1), .ref (B.2.2.1 + 4), .ref (B.2.2.1 + 10), .ref (B.2.2.1 + 14), .ref (B.2.2.1 + 47), .null, .null, .null, .null, .null, .null, .null, .int 0]) := rfl
  have hj1 : (uX11_13 B e) 1 = eShf B 2 3 := (uE_n _ _ (by decide)).trans hj1
  have hj2 : (uX11_13 B e) 2 = eLst B 6 10 := (uE_n _ _ (by decide)).trans hj2
  have hj3 : (uX11_13 B e) 3 = eLst B 9 10 := (uE_n _ _ (by decide)).trans hj3
  have hj6 : (uX11_13 B e) 6 = eQ B 10 (faX11_3 B) := (uE_n _ _ (by decide)).trans hj6
  have hj9 : (uX11_13 B e) 9 = eQ B 10 (fbX11_3 B) := (uE_n _ _ (by decide)).trans hj9
  refine lv_aload_n hx hb dX11_init_70 rfl (lv_at hl 0 rfl) ?_
  refine b_new (ci := 10) (fs := [.null, .null]) X hH hS rfl rfl inBX9 tyX9 tyX9_ok bw325 bw326 bw98 (by decide) (Nat.le_of_ble_eq_true rfl) (Nat.le_of_ble_eq_true rfl) dX11_init_71 (fun H hH hS => ?_)
  have hH : bH B 55 (uX11_14 B e) H := hH
  have hrw13 : RWS B 55 (uX11_14 B e) (faX11_3 B) ∧ RWS B 55 (uX11_14 B e) (fbX11_3 B) := ⟨hrw12.1.push, hrw12.2.push⟩
  have hj0 : (uX11_14 B e) 0 = .inr (12, [.ref (B.2.2.1 + 1), .ref (B.2.2.1 + 4), .ref (B.2.2.1 + 10), .ref (B.2.2.1 + 14), .ref (B.2.2.1 + 47), .null, .null, .null, .null, .null, .null, .null, .int 0]) := (uE_n _ _ (by decide)).trans hj0
  have hj1 : (uX11_14 B e) 1 = eShf B 2 3 := (uE_n _ _ (by decide)).trans hj1
  have hj2 : (uX11_14 B e) 2 = eLst B 6 10 := (uE_n _ _ (by decide)).trans hj2
  have hj3 : (uX11_14 B e) 3 = eLst B 9 10 := (uE_n _ _ (by decide)).trans hj3
  have hj6 : (uX11_14 B e) 6 = eQ B 10 (faX11_3 B) := (uE_n _ _ (by decide)).trans hj6
  have hj9 : (uX11_14 B e) 9 = eQ B 10 (fbX11_3 B) := (uE_n _ _ (by decide)).trans hj9
  refine lv_dup hx hb dX11_init_74 rfl ?_
  refine lv_aload_n hx hb dX11_init_75 rfl (lv_at hl 0 rfl) ?_
  refine b_get (C := RX11) (T := TX11) (N := 13) X hH 0 (by decide) hj0 rfl inBX11 0 (by decide) rfl bw572 dX11_init_76 ?_
  refine b_size X hH (by decide) rfl (fun hz => ?_)
  refine bGv (b_irun (rest := [.ref (B.2.2.1 + 54), .ref (B.2.2.1 + 0)]) X (k_X9 l B (uX11_14 B e) (faX11_3 B) (fbX11_3 B) (show (uX11_14 B e) 1 = eShf B 2 3 from hj1) (show (uX11_14 B e) 2 = eLst B 6 10 from hj2) (show (uX11_14 B e) 3 = eLst B 9 10 from hj3) (show (uX11_14 B e) 6 = eQ B 10 (faX11_3 B) from hj6) (show (uX11_14 B e) 9 = eQ B 10 (fbX11_3 B) from hj9) (show (uX11_14 B e) 54 = .inr (10, [.null, .null]) from rfl) hrw13.1 hrw13.2) rfl bw327 bw328 bw98 bw329 kn_X9_init ⟨rfl, rfl, Nat.le_of_ble_eq_true rfl, Nat.le_of_ble_eq_true rfl⟩ hH hS hz hl rfl (Nat.le_of_ble_eq_true rfl) dX11_init_79 ⟨Nat.le_of_ble_eq_true rfl, Nat.le_of_ble_eq_true rfl⟩) hS (fun H locs hH hS => ?_)
  have hH : bH B 65 (uX11_15 B e) H := hH
  have hrw14 : RWS B 65 (uX11_15 B e) (faX11_4 B) ∧ RWS B 65 (uX11_15 B e) (fbX11_4 B) := rw_X9 B (uX11_14 B e) (faX11_3 B) (fbX11_3 B) (show (uX11_14 B e) 1 = eShf B 2 3 from hj1) (show (uX11_14 B e) 2 = eLst B 6 10 from hj2) (show (uX11_14 B e) 3 = eLst B 9 10 from hj3) (show (uX11_14 B e) 6 = eQ B 10 (faX11_3 B) from hj6) (show (uX11_14 B e) 9 = eQ B 10 (fbX11_3 B) from hj9) (show (uX11_14 B e) 54 = .inr (10, [.null, .null]) from rfl) hrw13.1 hrw13.2
  have hj0 : (uX11_15 B e) 0 = .inr (12, [.ref (B.2.2.1 + 1), .ref (B.2.2.1 + 4), .ref (B.2.2.1 + 10), .ref (B.2.2.1 + 14), .ref (B.2.2.1 + 47), .null, .null, .null, .null, .null, .null, .null, .int 0]) := (w_X9 B (uX11_14 B e) (faX11_3 B) (fbX11_3 B) 0 (by decide) (by decide) (by decide) (by decide) ).trans hj0
  have hj1 : (uX11_15 B e) 1 = eShf B 2 3 := (w_X9 B (uX11_14 B e) (faX11_3 B) (fbX11_3 B) 1 (by decide) (by decide) (by decide) (by decide) ).trans hj1
  have hj2 : (uX11_15 B e) 2 = eLst B 57 12 := rfl
  have hj3 : (uX11_15 B e) 3 = eLst B 60 12 := rfl
  have hj57 : (uX11_15 B e) 57 = eQ B 15 (faX11_4 B) := rfl
  have hj60 : (uX11_15 B e) 60 = eQ B 15 (fbX11_4 B) := rfl
  refine b_putF (C := RX11) (T := TX11) (N := 13) X rfl hH hS 0 (by decide) hj0 rfl inBX11 tyX11 tyX11_ok nmX11 5 (by decide) bw577 rfl rfl rfl rfl (Nat.le_of_ble_eq_true rfl) dX11_init_82 (fun H locs hH hS => ?_)
  have hH : bH B 65 (uX11_16 B e) H := hH
  have hrw15 : RWS B 65 (uX11_16 B e) (faX11_4 B) ∧ RWS B 65 (uX11_16 B e) (fbX11_4 B) := ⟨RWS.updN (NRo hj0 (by decide)) hrw14.1, RWS.updN (NRo hj0 (by decide)) hrw14.2⟩
  have hj0 : (uX11_16 B e) 0 = .inr (12, [.ref (B.2.2.1 + 1), .ref (B.2.2.1 + 4), .ref (B.2.2.1 + 10), .ref (B.2.2.1 + 14), .ref (B.2.2.1 + 47), .ref (B.2.2.1 + 54), .null, .null, .null, .null, .null, .null, .int 0]) := rfl
  have hj1 : (uX11_16 B e) 1 = eShf B 2 3 := (uE_n _ _ (by decide)).trans hj1
  have hj2 : (uX11_16 B e) 2 = eLst B 57 12 := (uE_n _ _ (by decide)).trans hj2
  have hj3 : (uX11_16 B e) 3 = eLst B 60 12 := (uE_n _ _ (by decide)).trans hj3
  have hj57 : (uX11_16 B e) 57 = eQ B 15 (faX11_4 B) := (uE_n _ _ (by decide)).trans hj57
  have hj60 : (uX11_16 B e) 60 = eQ B 15 (fbX11_4 B) := (uE_n _ _ (by decide)).trans hj60
  refine lv_aload_n hx hb dX11_init_85 rfl (lv_at hl 0 rfl) ?_
  refine b_new (ci := 9) (fs := [.null, .null, .null, .null, .null, .null]) X hH hS rfl rfl inBX8 tyX8 tyX8_ok bw340 bw341 bw99 (by decide) (Nat.le_of_ble_eq_true rfl) (Nat.le_of_ble_eq_true rfl) dX11_init_86 (fun H hH hS => ?_)
  have hH : bH B 66 (uX11_17 B e) H := hH
  have hrw16 : RWS B 66 (uX11_17 B e) (faX11_4 B) ∧ RWS B 66 (uX11_17 B e) (fbX11_4 B) := ⟨hrw15.1.push, hrw15.2.push⟩
  have hj0 : (uX11_17 B e) 0 = .inr (12, [.ref (B.2.2.1 + 1), .ref (B.2.2.1 + 4), .ref (B.2.2.1 + 10), .ref (B.2.2.1 + 14), .ref (B.2.2.1 + 47), .ref (B.2.2.1 + 54), .null, .null, .null, .null, .null, .null, .int 0]) := (uE_n _ _ (by decide)).trans hj0
  have hj1 : (uX11_17 B e) 1 = eShf B 2 3 := (uE_n _ _ (by decide)).trans hj1
  have hj2 : (uX11_17 B e) 2 = eLst B 57 12 := (uE_n _ _ (by decide)).trans hj2
  have hj3 : (uX11_17 B e) 3 = eLst B 60 12 := (uE_n _ _ (by decide)).trans hj3
  have hj57 : (uX11_17 B e) 57 = eQ B 15 (faX11_4 B) := (uE_n _ _ (by decide)).trans hj57
  have hj60 : (uX11_17 B e) 60 = eQ B 15 (fbX11_4 B) := (uE_n _ _ (by decide)).trans hj60
  refine lv_dup hx hb dX11_init_89 rfl ?_
  refine lv_aload_n hx hb dX11_init_90 rfl (lv_at hl 0 rfl) ?_
  refine b_get (C := RX11) (T := TX11) (N := 13) X hH 0 (by decide) hj0 rfl inBX11 0 (by decide) rfl bw572 dX11_init_91 ?_
  refine b_size X hH (by decide) rfl (fun hz => ?_)
  refine bGv (b_irun (rest := [.ref (B.2.2.1 + 65), .ref (B.2.2.1 + 0)]) X (k_X8 l B (uX11_17 B e) (faX11_4 B) (fbX11_4 B) (show (uX11_17 B e) 1 = eShf B 2 3 from hj1) (show (uX11_17 B e) 2 = eLst B 57 12 from hj2) (show (uX11_17 B e) 3 = eLst B 60 12 from hj3) (show (uX11_17 B e) 57 = eQ B 15 (faX11_4 B) from hj57) (show (uX11_17 B e) 60 = eQ B 15 (fbX11_4 B) from hj60) (show (uX11_17 B e) 65 = .inr (9, [.null, .null, .null, .null, .null, .null]) from rfl) hrw16.1 hrw16.2) rfl bw342 bw343 bw99 bw344 kn_X8_init ⟨rfl, rfl, Nat.le_of_ble_eq_true rfl, Nat.le_of_ble_eq_true rfl⟩ hH hS hz hl rfl (Nat.le_of_ble_eq_true rfl) dX11_init_94 ⟨Nat.le_of_ble_eq_true rfl, Nat.le_of_ble_eq_true rfl⟩) hS (fun H locs hH hS => ?_)
  have hH : bH B 92 (uX11_18 B e) H := hH
  have hrw17 : RWS B 92 (uX11_18 B e) (faX11_5 B) ∧ RWS B 92 (uX11_18 B e) (fbX11_5 B) := rw_X8 B (uX11_17 B e) (faX11_4 B) (fbX11_4 B) (show (uX11_17 B e) 1 = eShf B 2 3 from hj1) (show (uX11_17 B e) 2 = eLst B 57 12 from hj2) (show (uX11_17 B e) 3 = eLst B 60 12 from hj3) (show (uX11_17 B e) 57 = eQ B 15 (faX11_4 B) from hj57) (show (uX11_17 B e) 60 = eQ B 15 (fbX11_4 B) from hj60) (show (uX11_17 B e) 65 = .inr (9, [.null, .null, .null, .null, .null, .null]) from rfl) hrw16.1 hrw16.2
  have hj0 : (uX11_18 B e) 0 = .inr (12, [.ref (B.2.2.1 + 1), .ref (B.2.2.1 + 4), .ref (B.2.2.1 + 10), .ref (B.2.2.1 + 14), .ref (B.2.2.1 + 47), .ref (B.2.2.1 + 54), .null, .null, .null, .null, .null, .null, .int 0]) := (w_X8 B (uX11_17 B e) (faX11_4 B) (fbX11_4 B) 0 (by decide) (by decide) (by decide) (by decide) (by decide) (by decide) ).trans hj0
  have hj1 : (uX11_18 B e) 1 = eShf B 2 3 := (w_X8 B (uX11_17 B e) (faX11_4 B) (fbX11_4 B) 1 (by decide) (by decide) (by decide) (by decide) (by decide) (by decide) ).trans hj1
  have hj2 : (uX11_18 B e) 2 = eLst B 80 18 := rfl
  have hj3 : (uX11_18 B e) 3 = eLst B 83 18 := rfl
  have hj80 : (uX11_18 B e) 80 = eQ B 22 (faX11_5 B) := rfl
  have hj83 : (uX11_18 B e) 83 = eQ B 22 (fbX11_5 B) := rfl
  refine b_putF (C := RX11) (T := TX11) (N := 13) X rfl hH hS 0 (by decide) hj0 rfl inBX11 tyX11 tyX11_ok nmX11 6 (by decide) bw578 rfl rfl rfl rfl (Nat.le_of_ble_eq_true rfl) dX11_init_97 (fun H locs hH hS => ?_)
  have hH : bH B 92 (uX11_19 B e) H := hH
  have hrw18 : RWS B 92 (uX11_19 B e) (faX11_5 B) ∧ RWS B 92 (uX11_19 B e) (fbX11_5 B) := ⟨RWS.updN (NRo hj0 (by decide)) hrw17.1, RWS.updN (NRo hj0 (by decide)) hrw17.2⟩
  have hj0 : (uX11_19 B e) 0 = .inr (12, [.ref (B.2.2.1 + 1), .ref (B.2.2.1 + 4), .ref (B.2.2.1 + 10), .ref (B.2.2.1 + 14), .ref (B.2.2.1 + 47), .ref (B.2.2.1 + 54), .ref (B.2.2.1 + 65), .null, .null, .null, .null, .null, .int 0]) := rfl
  have hj1 : (uX11_19 B e) 1 = eShf B 2 3 := (uE_n _ _ (by decide)).trans hj1
  have hj2 : (uX11_19 B e) 2 = eLst B 80 18 := (uE_n _ _ (by decide)).trans hj2
  have hj3 : (uX11_19 B e) 3 = eLst B 83 18 := (uE_n _ _ (by decide)).trans hj3
  have hj80 : (uX11_19 B e) 80 = eQ B 22 (faX11_5 B) := (uE_n _ _ (by decide)).trans hj80
  have hj83 : (uX11_19 B e) 83 = eQ B 22 (fbX11_5 B) := (uE_n _ _ (by decide)).trans hj83
  refine lv_aload_n hx hb dX11_init_100 rfl (lv_at hl 0 rfl) ?_
  refine b_new (ci := 7) (fs := [.null, .null, .null, .null, .null, .null, .null, .null, .null, .null, .null, .null, .int 0, .int 0, .int 0, .int 0]) X hH hS rfl rfl inBX6 tyX6 tyX6_ok bw378 bw379 bw100 (by decide) (Nat.le_of_ble_eq_true rfl) (Nat.le_of_ble_eq_true rfl) dX11_init_101 (fun H hH hS => ?_)
  have hH : bH B 93 (uX11_20 B e) H := hH
  have hrw19 : RWS B 93 (uX11_20 B e) (faX11_5 B) ∧ RWS B 93 (uX11_20 B e) (fbX11_5 B) := ⟨hrw18.1.push, hrw18.2.push⟩
  have hj0 : (uX11_20 B e) 0 = .inr (12, [.ref (B.2.2.1 + 1), .ref (B.2.2.1 + 4), .ref (B.2.2.1 + 10), .ref (B.2.2.1 + 14), .ref (B.2.2.1 + 47), .ref (B.2.2.1 + 54), .ref (B.2.2.1 + 65), .null, .null, .null, .null, .null, .int 0]) := (uE_n _ _ (by decide)).trans hj0
  have hj1 : (uX11_20 B e) 1 = eShf B 2 3 := (uE_n _ _ (by decide)).trans hj1
  have hj2 : (uX11_20 B e) 2 = eLst B 80 18 := (uE_n _ _ (by decide)).trans hj2
  have hj3 : (uX11_20 B e) 3 = eLst B 83 18 := (uE_n _ _ (by decide)).trans hj3
  have hj80 : (uX11_20 B e) 80 = eQ B 22 (faX11_5 B) := (uE_n _ _ (by decide)).trans hj80
  have hj83 : (uX11_20 B e) 83 = eQ B 22 (fbX11_5 B) := (uE_n _ _ (by decide)).trans hj83
  refine lv_dup hx hb dX11_init_104 rfl ?_
  refine lv_aload_n hx hb dX11_init_105 rfl (lv_at hl 0 rfl) ?_
  refine b_get (C := RX11) (T := TX11) (N := 13) X hH 0 (by decide) hj0 rfl inBX11 4 (by decide) rfl bw576 dX11_init_106 ?_
  refine lv_aload_n hx hb dX11_init_109 rfl (lv_at hl 0 rfl) ?_
  refine b_get (C := RX11) (T := TX11) (N := 13) X hH 0 (by decide) hj0 rfl inBX11 6 (by decide) rfl bw578 dX11_init_110 ?_
  refine b_getN (C := RX8) (T := TX8) (N := 6) X hH 65 (by decide) (show (uX11_20 B e) 65 = .inr (9, [.ref (B.2.2.1 + 66), .ref (B.2.2.1 + 70), .ref (B.2.2.1 + 74), .ref (B.2.2.1 + 78), .ref (B.2.2.1 + 84), .ref (B.2.2.1 + 88)]) from rfl) rfl inBX8 0 (by decide) rfl bw356 dX11_init_113 ?_
  refine b_size X hH (by decide) rfl (fun hz => ?_)
  refine bGv (b_irun (rest := [.ref (B.2.2.1 + 92), .ref (B.2.2.1 + 0)]) X (k_X6 l B (uX11_20 B e) (show (uX11_20 B e) 92 = .inr (7, [.null, .null, .null, .null, .null, .null, .null, .null, .null, .null, .null, .null, .int 0, .int 0, .int 0, .int 0]) from rfl)) rfl bw380 bw381 bw100 bw382 kn_X6_init ⟨rfl, rfl, Nat.le_of_ble_eq_true rfl, Nat.le_of_ble_eq_true rfl⟩ hH hS hz hl rfl (Nat.le_of_ble_eq_true rfl) dX11_init_116 ⟨Nat.le_of_ble_eq_true rfl, Nat.le_of_ble_eq_true rfl⟩) hS (fun H locs hH hS => ?_)
  have hH : bH B 113 (uX11_21 B e) H := hH
  have hrw20 : RWS B 113 (uX11_21 B e) (faX11_5 B) ∧ RWS B 113 (uX11_21 B e) (fbX11_5 B) := rw_X6 B (uX11_20 B e) (faX11_5 B) (fbX11_5 B) (show (uX11_20 B e) 92 = .inr (7, [.null, .null, .null, .null, .null, .null, .null, .null, .null, .null, .null, .null, .int 0, .int 0, .int 0, .int 0]) from rfl) hrw19.1 hrw19.2
  have hj0 : (uX11_21 B e) 0 = .inr (12, [.ref (B.2.2.1 + 1), .ref (B.2.2.1 + 4), .ref (B.2.2.1 + 10), .ref (B.2.2.1 + 14), .ref (B.2.2.1 + 47), .ref (B.2.2.1 + 54), .ref (B.2.2.1 + 65), .null, .null, .null, .null, .null, .int 0]) := (w_X6 B (uX11_20 B e) 0 (by decide) (by decide) ).trans hj0
  have hj1 : (uX11_21 B e) 1 = eShf B 2 3 := (w_X6 B (uX11_20 B e) 1 (by decide) (by decide) ).trans hj1
  have hj2 : (uX11_21 B e) 2 = eLst B 80 18 := (w_X6 B (uX11_20 B e) 2 (by decide) (by decide) ).trans hj2
  have hj3 : (uX11_21 B e) 3 = eLst B 83 18 := (w_X6 B (uX11_20 B e) 3 (by decide) (by decide) ).trans hj3
  have hj80 : (uX11_21 B e) 80 = eQ B 22 (faX11_5 B) := (w_X6 B (uX11_20 B e) 80 (by decide) (by decide) ).trans hj80
  have hj83 : (uX11_21 B e) 83 = eQ B 22 (fbX11_5 B) := (w_X6 B (uX11_20 B e) 83 (by decide) (by decide) ).trans hj83
  refine b_putF (C := RX11) (T := TX11) (N := 13) X rfl hH hS 0 (by decide) hj0 rfl inBX11 tyX11 tyX11_ok nmX11 7 (by decide) bw579 rfl rfl rfl rfl (Nat.le_of_ble_eq_true rfl) dX11_init_119 (fun H locs hH hS => ?_)
  have hH : bH B 113 (uX11_22 B e) H := hH
  have hrw21 : RWS B 113 (uX11_22 B e) (faX11_5 B) ∧ RWS B 113 (uX11_22 B e) (fbX11_5 B) := ⟨RWS.updN (NRo hj0 (by decide)) hrw20.1, RWS.updN (NRo hj0 (by decide)) hrw20.2⟩
  have hj0 : (uX11_22 B e) 0 = .inr (12, [.ref (B.2.2.1 + 1), .ref (B.2.2.1 + 4), .ref (B.2.2.1 + 10), .ref (B.2.2.1 + 14), .ref (B.2.2.1 + 47), .ref (B.2.2.1 + 54), .ref (B.2.2.1 + 65), .ref (B.2.2.1 + 92), .null, .null, .null, .null, .int 0]) := rfl
  have hj1 : (uX11_22 B e) 1 = eShf B 2 3 := (uE_n _ _ (by decide)).trans hj1
  have hj2 : (uX11_22 B e) 2 = eLst B 80 18 := (uE_n _ _ (by decide)).trans hj2
  have hj3 : (uX11_22 B e) 3 = eLst B 83 18 := (uE_n _ _ (by decide)).trans hj3
  have hj80 : (uX11_22 B e) 80 = eQ B 22 (faX11_5 B) := (uE_n _ _ (by decide)).trans hj80
  have hj83 : (uX11_22 B e) 83 = eQ B 22 (fbX11_5 B) := (uE_n _ _ (by decide)).trans hj83
  refine lv_aload_n hx hb dX11_init_122 rfl (lv_at hl 0 rfl) ?_
  refine b_new (ci := 5) (fs := [.null, .null, .null, .null, .null]) X hH hS rfl rfl inBX4 tyX4 tyX4_ok bw441 bw442 bw101 (by decide) (Nat.le_of_ble_eq_true rfl) (Nat.le_of_ble_eq_true rfl) dX11_init_123 (fun H hH hS => ?_)
  have hH : bH B 114 (uX11_23 B e) H := hH
  have hrw22 : RWS B 114 (uX11_23 B e) (faX11_5 B) ∧ RWS B 114 (uX11_23 B e) (fbX11_5 B) := ⟨hrw21.1.push, hrw21.2.push⟩
  have hj0 : (uX11_23 B e) 0 = .inr (12, [.ref (B.2.2.1 + 1), .ref (B.2.2.1 + 4), .ref (B.2.2.1 + 10), .ref (B.2.2.1 + 14), .ref (B.2.2.1 + 47), .ref (B.2.2.1 + 54), .ref (B.2.2.1 + 65), .ref (B.2.2.1 + 92), .null, .null, .null, .null, .int 0]) := (uE_n _ _ (by decide)).trans hj0
  have hj1 : (uX11_23 B e) 1 = eShf B 2 3 := (uE_n _ _ (by decide)).trans hj1
  have hj2 : (uX11_23 B e) 2 = eLst B 80 18 := (uE_n _ _ (by decide)).trans hj2
  have hj3 : (uX11_23 B e) 3 = eLst B 83 18 := (uE_n _ _ (by decide)).trans hj3
  have hj80 : (uX11_23 B e) 80 = eQ B 22 (faX11_5 B) := (uE_n _ _ (by decide)).trans hj80
  have hj83 : (uX11_23 B e) 83 = eQ B 22 (fbX11_5 B) := (uE_n _ _ (by decide)).trans hj83
  refine lv_dup hx hb dX11_init_126 rfl ?_
  refine lv_aload_n hx hb dX11_init_127 rfl (lv_at hl 0 rfl) ?_
  refine b_get (C := RX11) (T := TX11) (N := 13) X hH 0 (by decide) hj0 rfl inBX11 0 (by decide) rfl bw572 dX11_init_128 ?_
  refine b_size X hH (by decide) rfl (fun hz => ?_)
  refine bGv (b_irun (rest := [.ref (B.2.2.1 + 113), .ref (B.2.2.1 + 0)]) X (k_X4 l B (uX11_23 B e) (faX11_5 B) (fbX11_5 B) (show (uX11_23 B e) 1 = eShf B 2 3 from hj1) (show (uX11_23 B e) 2 = eLst B 80 18 from hj2) (show (uX11_23 B e) 3 = eLst B 83 18 from hj3) (show (uX11_23 B e) 80 = eQ B 22 (faX11_5 B) from hj80) (show (uX11_23 B e) 83 = eQ B 22 (fbX11_5 B) from hj83) (show (uX11_23 B e) 113 = .inr (5, [.null, .null, .null, .null, .null]) from rfl) hrw22.1 hrw22.2) rfl bw443 bw444 bw101 bw445 kn_X4_init ⟨rfl, rfl, Nat.le_of_ble_eq_true rfl, Nat.le_of_ble_eq_true rfl⟩ hH hS hz hl rfl (Nat.le_of_ble_eq_true rfl) dX11_init_131 ⟨Nat.le_of_ble_eq_true rfl, Nat.le_of_ble_eq_true rfl⟩) hS (fun H locs hH hS => ?_)
  have hH : bH B 136 (uX11_24 B e) H := hH
  have hrw23 : RWS B 136 (uX11_24 B e) (faX11_6 B) ∧ RWS B 136 (uX11_24 B e) (fbX11_6 B) := rw_X4 B (uX11_23 B e) (faX11_5 B) (fbX11_5 B) (show (uX11_23 B e) 1 = eShf B 2 3 from hj1) (show (uX11_23 B e) 2 = eLst B 80 18 from hj2) (show (uX11_23 B e) 3 = eLst B 83 18 from hj3) (show (uX11_23 B e) 80 = eQ B 22 (faX11_5 B) from hj80) (show (uX11_23 B e) 83 = eQ B 22 (fbX11_5 B) from hj83) (show (uX11_23 B e) 113 = .inr (5, [.null, .null, .null, .null, .null]) from rfl) hrw22.1 hrw22.2
  have hj0 : (uX11_24 B e) 0 = .inr (12, [.ref (B.2.2.1 + 1), .ref (B.2.2.1 + 4), .ref (B.2.2.1 + 10), .ref (B.2.2.1 + 14), .ref (B.2.2.1 + 47), .ref (B.2.2.1 + 54), .ref (B.2.2.1 + 65), .ref (B.2.2.1 + 92), .null, .null, .null, .null, .int 0]) := (w_X4 B (uX11_23 B e) (faX11_5 B) (fbX11_5 B) 0 (by decide) (by decide) (by decide) (by decide) (by decide) (by decide) ).trans hj0
  have hj1 : (uX11_24 B e) 1 = eShf B 2 3 := (w_X4 B (uX11_23 B e) (faX11_5 B) (fbX11_5 B) 1 (by decide) (by decide) (by decide) (by decide) (by decide) (by decide) ).trans hj1
  have hj2 : (uX11_24 B e) 2 = eLst B 132 23 := rfl
  have hj3 : (uX11_24 B e) 3 = eLst B 135 23 := rfl
  have hj132 : (uX11_24 B e) 132 = eQ B 33 (faX11_6 B) := rfl
  have hj135 : (uX11_24 B e) 135 = eQ B 33 (fbX11_6 B) := rfl
  refine b_putF (C := RX11) (T := TX11) (N := 13) X rfl hH hS 0 (by decide) hj0 rfl inBX11 tyX11 tyX11_ok nmX11 8 (by decide) bw580 rfl rfl rfl rfl (Nat.le_of_ble_eq_true rfl) dX11_init_134 (fun H locs hH hS => ?_)
  have hH : bH B 136 (uX11_25 B e) H := hH
  have hrw24 : RWS B 136 (uX11_25 B e) (faX11_6 B) ∧ RWS B 136 (uX11_25 B e) (fbX11_6 B) := ⟨RWS.updN (NRo hj0 (by decide)) hrw23.1, RWS.updN (NRo hj0 (by decide)) hrw23.2⟩
  have hj0 : (uX11_25 B e) 0 = .inr (12, [.ref (B.2.2.1 + 1), .ref (B.2.2.1 + 4), .ref (B.2.2.1 + 10), .ref (B.2.2.1 + 14), .ref (B.2.2.1 + 47), .ref (B.2.2.1 + 54), .ref (B.2.2.1 + 65), .ref (B.2.2.1 + 92), .ref (B.2.2.1 + 113), .null, .null, .null, .int 0]) := rfl
  have hj1 : (uX11_25 B e) 1 = eShf B 2 3 := (uE_n _ _ (by decide)).trans hj1
  have hj2 : (uX11_25 B e) 2 = eLst B 132 23 := (uE_n _ _ (by decide)).trans hj2
  have hj3 : (uX11_25 B e) 3 = eLst B 135 23 := (uE_n _ _ (by decide)).trans hj3
  have hj132 : (uX11_25 B e) 132 = eQ B 33 (faX11_6 B) := (uE_n _ _ (by decide)).trans hj132
  have hj135 : (uX11_25 B e) 135 = eQ B 33 (fbX11_6 B) := (uE_n _ _ (by decide)).trans hj135
  refine lv_aload_n hx hb dX11_init_137 rfl (lv_at hl 0 rfl) ?_
  refine b_new (ci := 3) (fs := [.null, .null, .null, .null, .null]) X hH hS rfl rfl inBX2 tyX2 tyX2_ok bw468 bw469 bw102 (by decide) (Nat.le_of_ble_eq_true rfl) (Nat.le_of_ble_eq_true rfl) dX11_init_138 (fun H hH hS => ?_)
  have hH : bH B 137 (uX11_26 B e) H := hH
  have hrw25 : RWS B 137 (uX11_26 B e) (faX11_6 B) ∧ RWS B 137 (uX11_26 B e) (fbX11_6 B) := ⟨hrw24.1.push, hrw24.2.push⟩
  have hj0 : (uX11_26 B e) 0 = .inr (12, [.ref (B.2.2.1 + 1), .ref (B.2.2.1 + 4), .ref (B.2.2.1 + 10), .ref (B.2.2.1 + 14), .ref (B.2.2.1 + 47), .ref (B.2.2.1 + 54), .ref (B.2.2.1 + 65), .ref (B.2.2.1 + 92), .ref (B.2.2.1 + 113), .null, .null, .null, .int 0]) := (uE_n _ _ (by decide)).trans hj0
  have hj1 : (uX11_26 B e) 1 = eShf B 2 3 := (uE_n _ _ (by decide)).trans hj1
  have hj2 : (uX11_26 B e) 2 = eLst B 132 23 := (uE_n _ _ (by decide)).trans hj2
  have hj3 : (uX11_26 B e) 3 = eLst B 135 23 := (uE_n _ _ (by decide)).trans hj3
  have hj132 : (uX11_26 B e) 132 = eQ B 33 (faX11_6 B) := (uE_n _ _ (by decide)).trans hj132
  have hj135 : (uX11_26 B e) 135 = eQ B 33 (fbX11_6 B) := (uE_n _ _ (by decide)).trans hj135
  refine lv_dup hx hb dX11_init_141 rfl ?_
  refine lv_aload_n hx hb dX11_init_142 rfl (lv_at hl 0 rfl) ?_
  refine b_get (C := RX11) (T := TX11) (N := 13) X hH 0 (by decide) hj0 rfl inBX11 0 (by decide) rfl bw572 dX11_init_143 ?_
  refine b_size X hH (by decide) rfl (fun hz => ?_)
  refine bGv (b_irun (rest := [.ref (B.2.2.1 + 136), .ref (B.2.2.1 + 0)]) X (k_X2 l B (uX11_26 B e) (faX11_6 B) (fbX11_6 B) (show (uX11_26 B e) 1 = eShf B 2 3 from hj1) (show (uX11_26 B e) 2 = eLst B 132 23 from hj2) (show (uX11_26 B e) 3 = eLst B 135 23 from hj3) (show (uX11_26 B e) 132 = eQ B 33 (faX11_6 B) from hj132) (show (uX11_26 B e) 135 = eQ B 33 (fbX11_6 B) from hj135) (show (uX11_26 B e) 136 = .inr (3, [.null, .null, .null, .null, .null]) from rfl)) rfl bw470 bw471 bw102 bw472 kn_X2_init ⟨rfl, rfl, Nat.le_of_ble_eq_true rfl, Nat.le_of_ble_eq_true rfl⟩ hH hS hz hl rfl (Nat.le_of_ble_eq_true rfl) dX11_init_146 ⟨Nat.le_of_ble_eq_true rfl, Nat.le_of_ble_eq_true rfl⟩) hS (fun H locs hH hS => ?_)
  have hH : bH B 155 (uX11_27 B e) H := hH
  have hrw26 : RWS B 155 (uX11_27 B e) (faX11_7 B) ∧ RWS B 155 (uX11_27 B e) (fbX11_7 B) := rw_X2 B (uX11_26 B e) (faX11_6 B) (fbX11_6 B) (show (uX11_26 B e) 1 = eShf B 2 3 from hj1) (show (uX11_26 B e) 2 = eLst B 132 23 from hj2) (show (uX11_26 B e) 3 = eLst B 135 23 from hj3) (show (uX11_26 B e) 132 = eQ B 33 (faX11_6 B) from hj132) (show (uX11_26 B e) 135 = eQ B 33 (fbX11_6 B) from hj135) (show (uX11_26 B e) 136 = .inr (3, [.null, .null, .null, .null, .null]) from rfl) hrw25.1 hrw25.2
  have hj0 : (uX11_27 B e) 0 = .inr (12, [.ref (B.2.2.1 + 1), .ref (B.2.2.1 + 4), .ref (B.2.2.1 + 10), .ref (B.2.2.1 + 14), .ref (B.2.2.1 + 47), .ref (B.2.2.1 + 54), .ref (B.2.2.1 + 65), .ref (B.2.2.1 + 92), .ref (B.2.2.1 + 113), .null, .null, .null, .int 0]) := (w_X2 B (uX11_26 B e) (faX11_6 B) (fbX11_6 B) 0 (by decide) (by decide) (by decide) (by decide) (by decide) (by decide) ).trans hj0
  have hj1 : (uX11_27 B e) 1 = eShf B 2 3 := (w_X2 B (uX11_26 B e) (faX11_6 B) (fbX11_6 B) 1 (by decide) (by decide) (by decide) (by decide) (by decide) (by decide) ).trans hj1
  have hj2 : (uX11_27 B e) 2 = eLst B 132 27 := rfl
  have hj3 : (uX11_27 B e) 3 = eLst B 135 27 := rfl
  have hj132 : (uX11_27 B e) 132 = eQ B 33 (faX11_7 B) := rfl
  have hj135 : (uX11_27 B e) 135 = eQ B 33 (fbX11_7 B) := rfl
  refine b_putF (C := RX11) (T := TX11) (N := 13) X rfl hH hS 0 (by decide) hj0 rfl inBX11 tyX11 tyX11_ok nmX11 9 (by decide) bw581 rfl rfl rfl rfl (Nat.le_of_ble_eq_true rfl) dX11_init_149 (fun H locs hH hS => ?_)
  have hH : bH B 155 (uX11_28 B e) H := hH
  have hrw27 : RWS B 155 (uX11_28 B e) (faX11_7 B) ∧ RWS B 155 (uX11_28 B e) (fbX11_7 B) := ⟨RWS.updN (NRo hj0 (by decide)) hrw26.1, RWS.updN (NRo hj0 (by decide)) hrw26.2⟩
  have hj0 : (uX11_28 B e) 0 = .inr (12, [.ref (B.2.2.1 + 1), .ref (B.2.2.1 + 4), .ref (B.2.2.1 + 10), .ref (B.2.2.1 + 14), .ref (B.2.2.1 + 47), .ref (B.2.2.1 + 54), .ref (B.2.2.1 + 65), .ref (B.2.2.1 + 92), .ref (B.2.2.1 + 113), .ref (B.2.2.1 + 136), .null, .null, .int 0]) := rfl
  have hj1 : (uX11_28 B e) 1 = eShf B 2 3 := (uE_n _ _ (by decide)).trans hj1
  have hj2 : (uX11_28 B e) 2 = eLst B 132 27 := (uE_n _ _ (by decide)).trans hj2
  have hj3 : (uX11_28 B e) 3 = eLst B 135 27 := (uE_n _ _ (by decide)).trans hj3
  have hj132 : (uX11_28 B e) 132 = eQ B 33 (faX11_7 B) := (uE_n _ _ (by decide)).trans hj132
  have hj135 : (uX11_28 B e) 135 = eQ B 33 (fbX11_7 B) := (uE_n _ _ (by decide)).trans hj135
  refine lv_aload_n hx hb dX11_init_152 rfl (lv_at hl 0 rfl) ?_
  refine b_new (ci := 2) (fs := [.null, .null, .null, .null, .null, .null, .null, .null, .null, .null]) X hH hS rfl rfl inBX1 tyX1 tyX1_ok bw495 bw496 bw103 (by decide) (Nat.le_of_ble_eq_true rfl) (Nat.le_of_ble_eq_true rfl) dX11_init_153 (fun H hH hS => ?_)
  have hH : bH B 156 (uX11_29 B e) H := hH
  have hrw28 : RWS B 156 (uX11_29 B e) (faX11_7 B) ∧ RWS B 156 (uX11_29 B e) (fbX11_7 B) := ⟨hrw27.1.push, hrw27.2.push⟩
  have hj0 : (uX11_29 B e) 0 = .inr (12, [.ref (B.2.2.1 + 1), .ref (B.2.2.1 + 4), .ref (B.2.2.1 + 10), .ref (B.2.2.1 + 14), .ref (B.2.2.1 + 47), .ref (B.2.2.1 + 54), .ref (B.2.2.1 + 65), .ref (B.2.2.1 + 92), .ref (B.2.2.1 + 113), .ref (B.2.2.1 + 136), .null, .null, .int 0]) := (uE_n _ _ (by decide)).trans hj0
  have hj1 : (uX11_29 B e) 1 = eShf B 2 3 := (uE_n _ _ (by decide)).trans hj1
  have hj2 : (uX11_29 B e) 2 = eLst B 132 27 := (uE_n _ _ (by decide)).trans hj2
  have hj3 : (uX11_29 B e) 3 = eLst B 135 27 := (uE_n _ _ (by decide)).trans hj3
  have hj132 : (uX11_29 B e) 132 = eQ B 33 (faX11_7 B) := (uE_n _ _ (by decide)).trans hj132
  have hj135 : (uX11_29 B e) 135 = eQ B 33 (fbX11_7 B) := (uE_n _ _ (by decide)).trans hj135
  refine lv_dup hx hb dX11_init_156 rfl ?_
  refine lv_aload_n hx hb dX11_init_157 rfl (lv_at hl 0 rfl) ?_
  refine b_get (C := RX11) (T := TX11) (N := 13) X hH 0 (by decide) hj0 rfl inBX11 0 (by decide) rfl bw572 dX11_init_158 ?_
  refine b_size X hH (by decide) rfl (fun hz => ?_)
  refine bGv (b_irun (rest := [.ref (B.2.2.1 + 155), .ref (B.2.2.1 + 0)]) X (k_X1 l B (uX11_29 B e) (faX11_7 B) (fbX11_7 B) (show (uX11_29 B e) 1 = eShf B 2 3 from hj1) (show (uX11_29 B e) 2 = eLst B 132 27 from hj2) (show (uX11_29 B e) 3 = eLst B 135 27 from hj3) (show (uX11_29 B e) 132 = eQ B 33 (faX11_7 B) from hj132) (show (uX11_29 B e) 135 = eQ B 33 (fbX11_7 B) from hj135) (show (uX11_29 B e) 155 = .inr (2, [.null, .null, .null, .null, .null, .null, .null, .null, .null, .null]) from rfl)) rfl bw497 bw498 bw103 bw499 kn_X1_init ⟨rfl, rfl, Nat.le_of_ble_eq_true rfl, Nat.le_of_ble_eq_true rfl⟩ hH hS hz hl rfl (Nat.le_of_ble_eq_true rfl) dX11_init_161 ⟨Nat.le_of_ble_eq_true rfl, Nat.le_of_ble_eq_true rfl⟩) hS (fun H locs hH hS => ?_)
  have hH : bH B 182 (uX11_30 B e) H := hH
  have hrw29 : RWS B 182 (uX11_30 B e) (faX11_8 B) ∧ RWS B 182 (uX11_30 B e) (fbX11_8 B) := rw_X1 B (uX11_29 B e) (faX11_7 B) (fbX11_7 B) (show (uX11_29 B e) 1 = eShf B 2 3 from hj1) (show (uX11_29 B e) 2 = eLst B 132 27 from hj2) (show (uX11_29 B e) 3 = eLst B 135 27 from hj3) (show (uX11_29 B e) 132 = eQ B 33 (faX11_7 B) from hj132) (show (uX11_29 B e) 135 = eQ B 33 (fbX11_7 B) from hj135) (show (uX11_29 B e) 155 = .inr (2, [.null, .null, .null, .null, .null, .null, .null, .null, .null, .null]) from rfl) hrw28.1 hrw28.2
  have hj0 : (uX11_30 B e) 0 = .inr (12, [.ref (B.2.2.1 + 1), .ref (B.2.2.1 + 4), .ref (B.2.2.1 + 10), .ref (B.2.2.1 + 14), .ref (B.2.2.1 + 47), .ref (B.2.2.1 + 54), .ref (B.2.2.1 + 65), .ref (B.2.2.1 + 92), .ref (B.2.2.1 + 113), .ref (B.2.2.1 + 136), .null, .null, .int 0]) := (w_X1 B (uX11_29 B e) (faX11_7 B) (fbX11_7 B) 0 (by decide) (by decide) (by decide) (by decide) (by decide) (by decide) ).trans hj0
  have hj1 : (uX11_30 B e) 1 = eShf B 2 3 := (w_X1 B (uX11_29 B e) (faX11_7 B) (fbX11_7 B) 1 (by decide) (by decide) (by decide) (by decide) (by decide) (by decide) ).trans hj1
  have hj2 : (uX11_30 B e) 2 = eLst B 132 30 := rfl
  have hj3 : (uX11_30 B e) 3 = eLst B 135 30 := rfl
  have hj132 : (uX11_30 B e) 132 = eQ B 33 (faX11_8 B) := rfl
  have hj135 : (uX11_30 B e) 135 = eQ B 33 (fbX11_8 B) := rfl
  refine b_putF (C := RX11) (T := TX11) (N := 13) X rfl hH hS 0 (by decide) hj0 rfl inBX11 tyX11 tyX11_ok nmX11 10 (by decide) bw582 rfl rfl rfl rfl (Nat.le_of_ble_eq_true rfl) dX11_init_164 (fun H locs hH hS => ?_)
  have hH : bH B 182 (uX11_31 B e) H := hH
  have hrw30 : RWS B 182 (uX11_31 B e) (faX11_8 B) ∧ RWS B 182 (uX11_31 B e) (fbX11_8 B) := ⟨RWS.updN (NRo hj0 (by decide)) hrw29.1, RWS.updN (NRo hj0 (by decide)) hrw29.2⟩
  have hj0 : (uX11_31 B e) 0 = .inr (12, [.ref (B.2.2.1 + 1), .ref (B.2.2.1 + 4), .ref (B.2.2.1 + 10), .ref (B.2.2.1 + 14), .ref (B.2.2.1 + 47), .ref (B.2.2.1 + 54), .ref (B.2.2.1 + 65), .ref (B.2.2.1 + 92), .ref (B.2.2.1 + 113), .ref (B.2.2.1 + 136), .ref (B.2.2.1 + 155), .null, .int 0]) := rfl
  have hj1 : (uX11_31 B e) 1 = eShf B 2 3 := (uE_n _ _ (by decide)).trans hj1
  have hj2 : (uX11_31 B e) 2 = eLst B 132 30 := (uE_n _ _ (by decide)).trans hj2
  have hj3 : (uX11_31 B e) 3 = eLst B 135 30 := (uE_n _ _ (by decide)).trans hj3
  have hj132 : (uX11_31 B e) 132 = eQ B 33 (faX11_8 B) := (uE_n _ _ (by decide)).trans hj132
  have hj135 : (uX11_31 B e) 135 = eQ B 33 (fbX11_8 B) := (uE_n _ _ (by decide)).trans hj135
  refine lv_aload_n hx hb dX11_init_167 rfl (lv_at hl 0 rfl) ?_
  refine b_new (ci := 4) (fs := [.null, .null, .null, .null, .null, .null, .null]) X hH hS rfl rfl inBX3 tyX3 tyX3_ok bw539 bw540 bw104 (by decide) (Nat.le_of_ble_eq_true rfl) (Nat.le_of_ble_eq_true rfl) dX11_init_168 (fun H hH hS => ?_)
  have hH : bH B 183 (uX11_32 B e) H := hH
  have hrw31 : RWS B 183 (uX11_32 B e) (faX11_8 B) ∧ RWS B 183 (uX11_32 B e) (fbX11_8 B) := ⟨hrw30.1.push, hrw30.2.push⟩
  have hj0 : (uX11_32 B e) 0 = .inr (12, [.ref (B.2.2.1 + 1), .ref (B.2.2.1 + 4), .ref (B.2.2.1 + 10), .ref (B.2.2.1 + 14), .ref (B.2.2.1 + 47), .ref (B.2.2.1 + 54), .ref (B.2.2.1 + 65), .ref (B.2.2.1 + 92), .ref (B.2.2.1 + 113), .ref (B.2.2.1 + 136), .ref (B.2.2.1 + 155), .null, .int 0]) := (uE_n _ _ (by decide)).trans hj0
  have hj1 : (uX11_32 B e) 1 = eShf B 2 3 := (uE_n _ _ (by decide)).trans hj1
  have hj2 : (uX11_32 B e) 2 = eLst B 132 30 := (uE_n _ _ (by decide)).trans hj2
  have hj3 : (uX11_32 B e) 3 = eLst B 135 30 := (uE_n _ _ (by decide)).trans hj3
  have hj132 : (uX11_32 B e) 132 = eQ B 33 (faX11_8 B) := (uE_n _ _ (by decide)).trans hj132
  have hj135 : (uX11_32 B e) 135 = eQ B 33 (fbX11_8 B) := (uE_n _ _ (by decide)).trans hj135
  refine lv_dup hx hb dX11_init_171 rfl ?_
  refine lv_aload_n hx hb dX11_init_172 rfl (lv_at hl 0 rfl) ?_
  refine b_get (C := RX11) (T := TX11) (N := 13) X hH 0 (by decide) hj0 rfl inBX11 0 (by decide) rfl bw572 dX11_init_173 ?_
  refine b_size X hH (by decide) rfl (fun hz => ?_)
  refine bGv (b_irun (rest := [.ref (B.2.2.1 + 182), .ref (B.2.2.1 + 0)]) X (k_X3 l B (uX11_32 B e) (faX11_8 B) (fbX11_8 B) (show (uX11_32 B e) 1 = eShf B 2 3 from hj1) (show (uX11_32 B e) 2 = eLst B 132 30 from hj2) (show (uX11_32 B e) 3 = eLst B 135 30 from hj3) (show (uX11_32 B e) 132 = eQ B 33 (faX11_8 B) from hj132) (show (uX11_32 B e) 135 = eQ B 33 (fbX11_8 B) from hj135) (show (uX11_32 B e) 182 = .inr (4, [.null, .null, .null, .null, .null, .null, .null]) from rfl) hrw31.1 hrw31.2) rfl bw541 bw542 bw104 bw543 kn_X3_init ⟨rfl, rfl, Nat.le_of_ble_eq_true rfl, Nat.le_of_ble_eq_true rfl⟩ hH hS hz hl rfl (Nat.le_of_ble_eq_true rfl) dX11_init_176 ⟨Nat.le_of_ble_eq_true rfl, Nat.le_of_ble_eq_true rfl⟩) hS (fun H locs hH hS => ?_)
  have hH : bH B 213 (uX11_33 B e) H := hH
  have hrw32 : RWS B 213 (uX11_33 B e) (faX11_9 B) ∧ RWS B 213 (uX11_33 B e) (fbX11_9 B) := rw_X3 B (uX11_32 B e) (faX11_8 B) (fbX11_8 B) (show (uX11_32 B e) 1 = eShf B 2 3 from hj1) (show (uX11_32 B e) 2 = eLst B 132 30 from hj2) (show (uX11_32 B e) 3 = eLst B 135 30 from hj3) (show (uX11_32 B e) 132 = eQ B 33 (faX11_8 B) from hj132) (show (uX11_32 B e) 135 = eQ B 33 (fbX11_8 B) from hj135) (show (uX11_32 B e) 182 = .inr (4, [.null, .null, .null, .null, .null, .null, .null]) from rfl) hrw31.1 hrw31.2
  have hj0 : (uX11_33 B e) 0 = .inr (12, [.ref (B.2.2.1 + 1), .ref (B.2.2.1 + 4), .ref (B.2.2.1 + 10), .ref (B.2.2.1 + 14), .ref (B.2.2.1 + 47), .ref (B.2.2.1 + 54), .ref (B.2.2.1 + 65), .ref (B.2.2.1 + 92), .ref (B.2.2.1 + 113), .ref (B.2.2.1 + 136), .ref (B.2.2.1 + 155), .null, .int 0]) := (w_X3 B (uX11_32 B e) (faX11_8 B) (fbX11_8 B) 0 (by decide) (by decide) (by decide) (by decide) (by decide) (by decide) ).trans hj0
  have hj1 : (uX11_33 B e) 1 = eShf B 2 3 := (w_X3 B (uX11_32 B e) (faX11_8 B) (fbX11_8 B) 1 (by decide) (by decide) (by decide) (by decide) (by decide) (by decide) ).trans hj1
  have hj2 : (uX11_33 B e) 2 = eLst B 197 37 := rfl
  have hj3 : (uX11_33 B e) 3 = eLst B 200 37 := rfl
  have hj197 : (uX11_33 B e) 197 = eQ B 49 (faX11_9 B) := rfl
  have hj200 : (uX11_33 B e) 200 = eQ B 49 (fbX11_9 B) := rfl
  refine b_putF (C := RX11) (T := TX11) (N := 13) X rfl hH hS 0 (by decide) hj0 rfl inBX11 tyX11 tyX11_ok nmX11 11 (by decide) bw583 rfl rfl rfl rfl (Nat.le_of_ble_eq_true rfl) dX11_init_179 (fun H locs hH hS => ?_)
  have hH : bH B 213 (uX11_34 B e) H := hH
  have hrw33 : RWS B 213 (uX11_34 B e) (faX11_9 B) ∧ RWS B 213 (uX11_34 B e) (fbX11_9 B) := ⟨RWS.updN (NRo hj0 (by decide)) hrw32.1, RWS.updN (NRo hj0 (by decide)) hrw32.2⟩
  have hj0 : (uX11_34 B e) 0 = .inr (12, [.ref (B.2.2.1 + 1), .ref (B.2.2.1 + 4), .ref (B.2.2.1 + 10), .ref (B.2.2.1 + 14), .ref (B.2.2.1 + 47), .ref (B.2.2.1 + 54), .ref (B.2.2.1 + 65), .ref (B.2.2.1 + 92), .ref (B.2.2.1 + 113), .ref (B.2.2.1 + 136), .ref (B.2.2.1 + 155), .ref (B.2.2.1 + 182), .int 0]) := rfl
  have hj1 : (uX11_34 B e) 1 = eShf B 2 3 := (uE_n _ _ (by decide)).trans hj1
  have hj2 : (uX11_34 B e) 2 = eLst B 197 37 := (uE_n _ _ (by decide)).trans hj2
  have hj3 : (uX11_34 B e) 3 = eLst B 200 37 := (uE_n _ _ (by decide)).trans hj3
  have hj197 : (uX11_34 B e) 197 = eQ B 49 (faX11_9 B) := (uE_n _ _ (by decide)).trans hj197
  have hj200 : (uX11_34 B e) 200 = eQ B 49 (fbX11_9 B) := (uE_n _ _ (by decide)).trans hj200
  refine lv_aload_n hx hb dX11_init_182 rfl (lv_at hl 0 rfl) ?_
  refine lv_iconst (v := 0) hx hb dX11_init_183 (by decide) ?_
  refine b_put (C := RX11) (T := TX11) (N := 13) X hH hS 0 (by decide) hj0 rfl inBX11 tyX11 tyX11_ok nmX11 12 (by decide) bw584 rfl rfl rfl (Nat.le_of_ble_eq_true rfl) dX11_init_184 (fun H locs hH hS => ?_)
  have hH : bH B 213 (uX11_35 B e) H := hH
  have hrw34 : RWS B 213 (uX11_35 B e) (faX11_9 B) ∧ RWS B 213 (uX11_35 B e) (fbX11_9 B) := ⟨RWS.updN (NRo hj0 (by decide)) hrw33.1, RWS.updN (NRo hj0 (by decide)) hrw33.2⟩
  have hj0 : (uX11_35 B e) 0 = .inr (12, [.ref (B.2.2.1 + 1), .ref (B.2.2.1 + 4), .ref (B.2.2.1 + 10), .ref (B.2.2.1 + 14), .ref (B.2.2.1 + 47), .ref (B.2.2.1 + 54), .ref (B.2.2.1 + 65), .ref (B.2.2.1 + 92), .ref (B.2.2.1 + 113), .ref (B.2.2.1 + 136), .ref (B.2.2.1 + 155), .ref (B.2.2.1 + 182), .int 0]) := rfl
  have hj1 : (uX11_35 B e) 1 = eShf B 2 3 := (uE_n _ _ (by decide)).trans hj1
  have hj2 : (uX11_35 B e) 2 = eLst B 197 37 := (uE_n _ _ (by decide)).trans hj2
  have hj3 : (uX11_35 B e) 3 = eLst B 200 37 := (uE_n _ _ (by decide)).trans hj3
  have hj197 : (uX11_35 B e) 197 = eQ B 49 (faX11_9 B) := (uE_n _ _ (by decide)).trans hj197
  have hj200 : (uX11_35 B e) 200 = eQ B 49 (fbX11_9 B) := (uE_n _ _ (by decide)).trans hj200
  exact bEv X hH hS (Nat.le_of_ble_eq_true rfl) (Nat.le_of_ble_eq_true rfl) dX11_init_187
