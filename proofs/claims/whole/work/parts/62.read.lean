def f_X4_read (tz : Nat) (tk : Int32) (tm : Int32) (tf : Int32) (tb : Nat → Int32) : Int32 × Int32 × Int32 × Int32 × Int32 := (if (0 : Int32) ≤ (f_X4_letterAt tz tb 0) then (if (nI tz) ≤ 1 then (1, f_X4_letterAt tz tb 0, (-1), tm, tf) else (if (0 : Int32) ≤ (f_J0_indexOf_0f7a4 (((tb 1).toUInt32 % 65536).toInt32)) then ((f_X4_readWords tz (f_X4_letterAt tz tb 0) (f_J0_indexOf_0f7a4 (((tb 1).toUInt32 % 65536).toInt32)) tb).1, f_X4_letterAt tz tb 0, f_J0_indexOf_0f7a4 (((tb 1).toUInt32 % 65536).toInt32), (f_X4_readWords tz (f_X4_letterAt tz tb 0) (f_J0_indexOf_0f7a4 (((tb 1).toUInt32 % 65536).toInt32)) tb).2.1, (f_X4_readWords tz (f_X4_letterAt tz tb 0) (f_J0_indexOf_0f7a4 (((tb 1).toUInt32 % 65536).toInt32)) tb).2.2) else (1, f_X4_letterAt tz tb 0, f_J0_indexOf_0f7a4 (((tb 1).toUInt32 % 65536).toInt32), tm, tf))) else (0, f_X4_letterAt tz tb 0, tk, tm, tf))
set_option maxHeartbeats 4000000 in
set_option maxRecDepth 100000 in
theorem k_X4_read (l : Launch) (G : wG) (sq : Nat) (sv : Nat) (tO : Nat) (tA : Nat) (tz : Nat) (tw : Int32) (tk : Int32) (tm : Int32) (tf : Int32) (tb : Nat → Int32) (htz : tz ≤ 10) : CTX sq sv l G yX4_read cX4_read 1 (some .int) ({ frames := 4, cells := 0, slots := 0, locals := 91 }) [.ref tO] [(tO, .inr (4, [.ref tA, .int (nI tz), .int tw, .int tk, .int tm, .int tf])), (tA, .inl (G.2.1, 10, .inl tb))] (fun u => [(tO, .inr (4, [.ref tA, .int (nI tz), .int u.2.1, .int u.2.2.1, .int u.2.2.2.1, .int u.2.2.2.2])), (tA, .inl (G.2.1, 10, .inl tb))]) (fun u => some (.int u.1)) (f_X4_read tz tk tm tf tb) := by
  obtain ⟨R, hf⟩ : ∃ R, f_X4_read tz tk tm tf tb = R := ⟨_, rfl⟩
  rw [hf]
  refine CTX.mkI RX4 (by decide +kernel) rfl (Nat.le_of_ble_eq_true rfl) ?_
  intro p e s m args below meth c A Q ls hx hb hml hown hK hP hD hS hA hX hret hl
  have hl : lv_has ls 1 [(0, .ref tO)] := hl
  rw [f_X4_read] at hf
  refine lv_aload_n hx hb dX4_read_0 rfl (lv_at hl 0 rfl) ?_
  refine lv_aload_n hx hb dX4_read_1 rfl (lv_at hl 0 rfl) ?_
  refine lv_iconst (v := 0) hx hb dX4_read_2 (by decide) ?_
  refine cl_V (q := (RX4, TX4, 6)) (ws' := [(tO, .inr (4, [.ref tA, .int (nI tz), .int tw, .int tk, .int tm, .int tf])), (tA, .inl (G.2.1, 10, .inl tb))]) (v := (some (.int (f_X4_letterAt tz tb 0)))) (st1 := [.int (f_X4_letterAt tz tb 0), .ref tO]) (rest := [.ref tO]) (As := [.int 0]) [0, 1] 0 4 hx hb hml hown hK (k_X4_letterAt l G tO tA tz tw tk tm tf tb 0 htz (by omega)) (mf_X4_letterAt hK.2) (kw_284 hK.2) (kw_1 hK.2) (kw_282 hK.2) ⟨rfl, rfl, Nat.le_of_ble_eq_true rfl, Nat.le_of_ble_eq_true rfl⟩ rfl hP hD hS hA rfl rfl hl (Nat.le_of_ble_eq_true rfl) rfl ⟨Nat.le_of_ble_eq_true rfl, Nat.le_of_ble_eq_true rfl⟩ rfl dX4_read_3 rfl rfl (rpl_fast (by decide) rfl rfl) rfl rfl rfl (fun H locs hP hD hS => ?_)
  refine va_put (D := G.1) (ci := 4) (v := .int (f_X4_letterAt tz tb 0)) (ty := .int) (C := RX4) (T := TX4) (N := 6) hx hb (ku_X4 hK.2) (fun _ h9 => h9) tyX4 tyX4_ok nmX4 hown hK.1 hP hD hS 0 rfl rfl 2 (by decide) (kw_162 hK.2) (fun _ h9 => h9) rfl (by decide +kernel) rfl rfl (Nat.le_of_ble_eq_true rfl) dX4_read_6 (fun H locs hP hD hS => ?_)
  have hP : va_P G.1 wcl [(tO, .inr (4, [.ref tA, .int (nI tz), .int (f_X4_letterAt tz tb 0), .int tk, .int tm, .int tf])), (tA, .inl (G.2.1, 10, .inl tb))] H := hP
  have hD : va_D A [(tO, .inr (4, [.ref tA, .int (nI tz), .int (f_X4_letterAt tz tb 0), .int tk, .int tm, .int tf])), (tA, .inl (G.2.1, 10, .inl tb))] := hD
  refine lv_aload_n hx hb dX4_read_9 rfl (lv_at hl 0 rfl) ?_
  refine va_get (D := G.1) (ci := 4) (v := .int (f_X4_letterAt tz tb 0)) (C := RX4) (T := TX4) (N := 6) hx hb (ku_X4 hK.2) (fun _ h9 => h9) hown hK.1 hP 0 rfl rfl 2 (by decide) (kw_162 hK.2) (fun _ h9 => h9) rfl dX4_read_10 ?_
  refine lv_if_ge (tgt := 18) hx hb dX4_read_13 (by decide) (fun c1 => ?_) (fun c1 => ?_)
  · have hf := (if_pos c1).symm.trans hf
    refine lv_aload_n hx hb dX4_read_18 rfl (lv_at hl 0 rfl) ?_
    refine lv_aload_n hx hb dX4_read_19 rfl (lv_at hl 0 rfl) ?_
    refine va_get (D := G.1) (ci := 4) (v := .int (nI tz)) (C := RX4) (T := TX4) (N := 6) hx hb (ku_X4 hK.2) (fun _ h9 => h9) hown hK.1 hP 0 rfl rfl 1 (by decide) (kw_160 hK.2) (fun _ h9 => h9) rfl dX4_read_20 ?_
    refine lv_iconst (v := 1) hx hb dX4_read_23 (by decide) ?_
    refine lv_icmp_le (tgt := 42) hx hb dX4_read_24 (by decide) (fun c2 => ?_) (fun c2 => ?_)
    · have hf := (if_pos c2).symm.trans hf
      refine lv_iconst (v := -1) hx hb dX4_read_42 (by decide) ?_
      refine va_put (D := G.1) (ci := 4) (v := .int (-1)) (ty := .int) (C := RX4) (T := TX4) (N := 6) hx hb (ku_X4 hK.2) (fun _ h9 => h9) tyX4 tyX4_ok nmX4 hown hK.1 hP hD hS 0 rfl rfl 3 (by decide) (kw_165 hK.2) (fun _ h9 => h9) rfl (by decide +kernel) rfl rfl (Nat.le_of_ble_eq_true rfl) dX4_read_43 (fun H locs hP hD hS => ?_)
      have hP : va_P G.1 wcl [(tO, .inr (4, [.ref tA, .int (nI tz), .int (f_X4_letterAt tz tb 0), .int (-1), .int tm, .int tf])), (tA, .inl (G.2.1, 10, .inl tb))] H := hP
      have hD : va_D A [(tO, .inr (4, [.ref tA, .int (nI tz), .int (f_X4_letterAt tz tb 0), .int (-1), .int tm, .int tf])), (tA, .inl (G.2.1, 10, .inl tb))] := hD
      refine lv_aload_n hx hb dX4_read_46 rfl (lv_at hl 0 rfl) ?_
      refine va_get (D := G.1) (ci := 4) (v := .int (-1)) (C := RX4) (T := TX4) (N := 6) hx hb (ku_X4 hK.2) (fun _ h9 => h9) hown hK.1 hP 0 rfl rfl 3 (by decide) (kw_165 hK.2) (fun _ h9 => h9) rfl dX4_read_47 ?_
      refine lv_if_ge (tgt := 55) hx hb dX4_read_50 (by decide) (fun c => absurd c (by decide)) (fun _ => ?_)
      refine lv_iconst (v := 1) hx hb dX4_read_53 (by decide) ?_
      exact hret (1, f_X4_letterAt tz tb 0, (-1), tm, tf) dX4_read_54 rfl hf rfl hP hS
    · have hf := (if_neg c2).symm.trans hf
      refine va_ldcS hx hb hown hX.1 dX4_read_27 ?_
      refine lv_aload_n hx hb dX4_read_29 rfl (lv_at hl 0 rfl) ?_
      refine va_get (D := G.1) (ci := 4) (v := .ref tA) (C := RX4) (T := TX4) (N := 6) hx hb (ku_X4 hK.2) (fun _ h9 => h9) hown hK.1 hP 0 rfl rfl 0 (by decide) (kw_159 hK.2) (fun _ h9 => h9) rfl dX4_read_30 ?_
      refine lv_iconst (v := 1) hx hb dX4_read_33 (by decide) ?_
      refine ww_e (rfl : (1 : Int32) = nI 1) ?_
      refine ww_ild (j := 1) hx hb hK.1 hP 1 0 rfl rfl (by omega) (by omega) dX4_read_34 ?_
      refine lv_i2c (v := ((tb 1).toUInt32 % 65536).toInt32) hx hb dX4_read_35 rfl ?_
      refine cl_VX (ws' := [(tO, .inr (4, [.ref tA, .int (nI tz), .int (f_X4_letterAt tz tb 0), .int tk, .int tm, .int tf])), (tA, .inl (G.2.1, 10, .inl tb))]) (v := (some (.int (f_J0_indexOf_0f7a4 (((tb 1).toUInt32 % 65536).toInt32))))) (st1 := [.int (f_J0_indexOf_0f7a4 (((tb 1).toUInt32 % 65536).toInt32)), .ref tO]) (rest := [.ref tO]) (As := [.int (((tb 1).toUInt32 % 65536).toInt32)]) [] hx hb hml hown hK hX (k_J0_indexOf_0f7a4 l G sq sv (((tb 1).toUInt32 % 65536).toInt32) ) (mf_J0_indexOf_0f7a4 hK.2) (kw_291 hK.2) (kw_292 hK.2) (kw_290 hK.2) ⟨rfl, rfl, Nat.le_of_ble_eq_true rfl, Nat.le_of_ble_eq_true rfl⟩ rfl hP hD hS hA (vk_recv hX.2.1 (i := 0) (by decide) hS) hl (Nat.le_of_ble_eq_true rfl) rfl ⟨Nat.le_of_ble_eq_true rfl, Nat.le_of_ble_eq_true rfl⟩ rfl dX4_read_36 rfl rfl rfl rfl rfl rfl (fun H locs hP hD hS => ?_)
      refine lv_goto (tgt := 43) hx hb dX4_read_39 (by decide) ?_
      refine va_put (D := G.1) (ci := 4) (v := .int (f_J0_indexOf_0f7a4 (((tb 1).toUInt32 % 65536).toInt32))) (ty := .int) (C := RX4) (T := TX4) (N := 6) hx hb (ku_X4 hK.2) (fun _ h9 => h9) tyX4 tyX4_ok nmX4 hown hK.1 hP hD hS 0 rfl rfl 3 (by decide) (kw_165 hK.2) (fun _ h9 => h9) rfl (by decide +kernel) rfl rfl (Nat.le_of_ble_eq_true rfl) dX4_read_43 (fun H locs hP hD hS => ?_)
      have hP : va_P G.1 wcl [(tO, .inr (4, [.ref tA, .int (nI tz), .int (f_X4_letterAt tz tb 0), .int (f_J0_indexOf_0f7a4 (((tb 1).toUInt32 % 65536).toInt32)), .int tm, .int tf])), (tA, .inl (G.2.1, 10, .inl tb))] H := hP
      have hD : va_D A [(tO, .inr (4, [.ref tA, .int (nI tz), .int (f_X4_letterAt tz tb 0), .int (f_J0_indexOf_0f7a4 (((tb 1).toUInt32 % 65536).toInt32)), .int tm, .int tf])), (tA, .inl (G.2.1, 10, .inl tb))] := hD
      refine lv_aload_n hx hb dX4_read_46 rfl (lv_at hl 0 rfl) ?_
      refine va_get (D := G.1) (ci := 4) (v := .int (f_J0_indexOf_0f7a4 (((tb 1).toUInt32 % 65536).toInt32))) (C := RX4) (T := TX4) (N := 6) hx hb (ku_X4 hK.2) (fun _ h9 => h9) hown hK.1 hP 0 rfl rfl 3 (by decide) (kw_165 hK.2) (fun _ h9 => h9) rfl dX4_read_47 ?_
      refine lv_if_ge (tgt := 55) hx hb dX4_read_50 (by decide) (fun c3 => ?_) (fun c3 => ?_)
      · have hf := (if_pos c3).symm.trans hf
        refine lv_aload_n hx hb dX4_read_55 rfl (lv_at hl 0 rfl) ?_
        refine cl_V (q := (RX4, TX4, 6)) (ws' := [(tO, .inr (4, [.ref tA, .int (nI tz), .int (f_X4_letterAt tz tb 0), .int (f_J0_indexOf_0f7a4 (((tb 1).toUInt32 % 65536).toInt32)), .int ((f_X4_readWords tz (f_X4_letterAt tz tb 0) (f_J0_indexOf_0f7a4 (((tb 1).toUInt32 % 65536).toInt32)) tb).2.1), .int ((f_X4_readWords tz (f_X4_letterAt tz tb 0) (f_J0_indexOf_0f7a4 (((tb 1).toUInt32 % 65536).toInt32)) tb).2.2)])), (tA, .inl (G.2.1, 10, .inl tb))]) (v := (some (.int ((f_X4_readWords tz (f_X4_letterAt tz tb 0) (f_J0_indexOf_0f7a4 (((tb 1).toUInt32 % 65536).toInt32)) tb).1)))) (st1 := [.int ((f_X4_readWords tz (f_X4_letterAt tz tb 0) (f_J0_indexOf_0f7a4 (((tb 1).toUInt32 % 65536).toInt32)) tb).1)]) (rest := []) (As := []) [0, 1] 0 4 hx hb hml hown hK (k_X4_readWords l G tO tA tz (f_X4_letterAt tz tb 0) (f_J0_indexOf_0f7a4 (((tb 1).toUInt32 % 65536).toInt32)) tm tf tb htz (by have := lt_of_nle (a := tz) (b := 1) (by omega) (by decide) (show ¬ nI tz ≤ (1 : Int32) from by assumption); omega)) (mf_X4_readWords hK.2) (kw_376 hK.2) (kw_2 hK.2) (kw_374 hK.2) ⟨rfl, rfl, Nat.le_of_ble_eq_true rfl, Nat.le_of_ble_eq_true rfl⟩ rfl hP hD hS hA rfl rfl hl (Nat.le_of_ble_eq_true rfl) rfl ⟨Nat.le_of_ble_eq_true rfl, Nat.le_of_ble_eq_true rfl⟩ rfl dX4_read_56 rfl rfl (rpl_fast (by decide) rfl rfl) rfl rfl rfl (fun H locs hP hD hS => ?_)
        exact hret ((f_X4_readWords tz (f_X4_letterAt tz tb 0) (f_J0_indexOf_0f7a4 (((tb 1).toUInt32 % 65536).toInt32)) tb).1, f_X4_letterAt tz tb 0, f_J0_indexOf_0f7a4 (((tb 1).toUInt32 % 65536).toInt32), (f_X4_readWords tz (f_X4_letterAt tz tb 0) (f_J0_indexOf_0f7a4 (((tb 1).toUInt32 % 65536).toInt32)) tb).2.1, (f_X4_readWords tz (f_X4_letterAt tz tb 0) (f_J0_indexOf_0f7a4 (((tb 1).toUInt32 % 65536).toInt32)) tb).2.2) dX4_read_59 rfl hf rfl hP hS
      · have hf := (if_neg c3).symm.trans hf
        refine lv_iconst (v := 1) hx hb dX4_read_53 (by decide) ?_
        exact hret (1, f_X4_letterAt tz tb 0, f_J0_indexOf_0f7a4 (((tb 1).toUInt32 % 65536).toInt32), tm, tf) dX4_read_54 rfl hf rfl hP hS
  · have hf := (if_neg c1).symm.trans hf
    refine lv_iconst (v := 0) hx hb dX4_read_16 (by decide) ?_
    exact hret (0, f_X4_letterAt tz tb 0, tk, tm, tf) dX4_read_17 rfl hf rfl hP hS
