def f_X7_sign (mz : Nat) (ma : Nat) (zt : Nat → Int32) : Int32 := (if (nI ma) < (nI mz) then zt ma else (-1))
set_option maxHeartbeats 4000000 in
set_option maxRecDepth 100000 in
theorem k_X7_sign (l : Launch) (G : wG) (mO : Nat) (mA : Nat) (mS : Nat) (mI : Nat) (mV : Nat) (mT : Nat) (mR : Nat) (mW : Nat) (mN : Nat) (me : Int32) (mz : Nat) (ma : Nat) (mr : Nat) (zt : Nat → Int32) (hmz : mz ≤ 10) (hma : ma ≤ 11) : CT l G yX7_sign cX7_sign 1 (some .int) ({ frames := 0, cells := 0, slots := 0, locals := 0 }) [.ref mO] [(mO, .inr (7, [.ref mA, .ref mS, .ref mI, .ref mV, .int me, .ref mT, .ref mR, .int (nI mz), .int (nI ma), .ref mW, .int (nI mr), .ref mN])), (mT, .inl (G.2.1, 10, .inl zt))] (fun _ => [(mO, .inr (7, [.ref mA, .ref mS, .ref mI, .ref mV, .int me, .ref mT, .ref mR, .int (nI mz), .int (nI ma), .ref mW, .int (nI mr), .ref mN])), (mT, .inl (G.2.1, 10, .inl zt))]) (fun u => some (.int u)) (f_X7_sign mz ma zt) := by
  obtain ⟨R, hf⟩ : ∃ R, f_X7_sign mz ma zt = R := ⟨_, rfl⟩
  rw [hf]
  refine CT.mkI RX7 (by decide +kernel) rfl (Nat.le_of_ble_eq_true rfl) ?_
  intro p e s m args below meth c A Q ls hx hb hml hown hK hP hD hS hA hret hl
  have hl : lv_has ls 1 [(0, .ref mO)] := hl
  rw [f_X7_sign] at hf
  refine lv_aload_n hx hb dX7_sign_0 rfl (lv_at hl 0 rfl) ?_
  refine va_get (D := G.1) (ci := 7) (v := .int (nI ma)) (C := RX7) (T := TX7) (N := 12) hx hb (ku_X7 hK.2) (fun _ h9 => h9) hown hK.1 hP 0 rfl rfl 8 (by decide) (kw_685 hK.2) (fun _ h9 => h9) rfl dX7_sign_1 ?_
  refine lv_aload_n hx hb dX7_sign_4 rfl (lv_at hl 0 rfl) ?_
  refine va_get (D := G.1) (ci := 7) (v := .int (nI mz)) (C := RX7) (T := TX7) (N := 12) hx hb (ku_X7 hK.2) (fun _ h9 => h9) hown hK.1 hP 0 rfl rfl 7 (by decide) (kw_684 hK.2) (fun _ h9 => h9) rfl dX7_sign_5 ?_
  refine lv_icmp_lt (tgt := 15) hx hb dX7_sign_8 (by decide) (fun c1 => ?_) (fun c1 => ?_)
  · have hf := (if_pos c1).symm.trans hf
    have q1 : ma < mz := (nI_ltI (a := ma) (b := mz) (by omega) (by omega)).mp (by assumption)
    refine lv_aload_n hx hb dX7_sign_15 rfl (lv_at hl 0 rfl) ?_
    refine va_get (D := G.1) (ci := 7) (v := .ref mT) (C := RX7) (T := TX7) (N := 12) hx hb (ku_X7 hK.2) (fun _ h9 => h9) hown hK.1 hP 0 rfl rfl 5 (by decide) (kw_682 hK.2) (fun _ h9 => h9) rfl dX7_sign_16 ?_
    refine lv_aload_n hx hb dX7_sign_19 rfl (lv_at hl 0 rfl) ?_
    refine va_get (D := G.1) (ci := 7) (v := .int (nI ma)) (C := RX7) (T := TX7) (N := 12) hx hb (ku_X7 hK.2) (fun _ h9 => h9) hown hK.1 hP 0 rfl rfl 8 (by decide) (kw_685 hK.2) (fun _ h9 => h9) rfl dX7_sign_20 ?_
    refine ww_ild (j := ma) hx hb hK.1 hP 1 0 rfl rfl (by omega) (by omega) dX7_sign_23 ?_
    exact hret (zt ma) dX7_sign_24 rfl hf rfl hP hS
  · have hf := (if_neg c1).symm.trans hf
    refine lv_iconst (v := -1) hx hb dX7_sign_11 (by decide) ?_
    refine lv_goto (tgt := 24) hx hb dX7_sign_12 (by decide) ?_
    exact hret (-1) dX7_sign_24 rfl hf rfl hP hS
def f_X7_isWord (mz : Nat) (ma : Nat) (zt : Nat → Int32) : Int32 := (if (f_X7_sign mz ma zt) < 97 then 0 else (if (108 : Int32) < (f_X7_sign mz ma zt) then 0 else 1))
set_option maxHeartbeats 4000000 in
set_option maxRecDepth 100000 in
theorem k_X7_isWord (l : Launch) (G : wG) (mO : Nat) (mA : Nat) (mS : Nat) (mI : Nat) (mV : Nat) (mT : Nat) (mR : Nat) (mW : Nat) (mN : Nat) (me : Int32) (mz : Nat) (ma : Nat) (mr : Nat) (zt : Nat → Int32) (hmz : mz ≤ 10) (hma : ma ≤ 11) : CT l G yX7_isWord cX7_isWord 1 (some .boolean) ({ frames := 1, cells := 0, slots := 0, locals := 20 }) [.ref mO] [(mO, .inr (7, [.ref mA, .ref mS, .ref mI, .ref mV, .int me, .ref mT, .ref mR, .int (nI mz), .int (nI ma), .ref mW, .int (nI mr), .ref mN])), (mT, .inl (G.2.1, 10, .inl zt))] (fun _ => [(mO, .inr (7, [.ref mA, .ref mS, .ref mI, .ref mV, .int me, .ref mT, .ref mR, .int (nI mz), .int (nI ma), .ref mW, .int (nI mr), .ref mN])), (mT, .inl (G.2.1, 10, .inl zt))]) (fun u => some (.int u)) (f_X7_isWord mz ma zt) := by
  obtain ⟨R, hf⟩ : ∃ R, f_X7_isWord mz ma zt = R := ⟨_, rfl⟩
  rw [hf]
  refine CT.mkI RX7 (by decide +kernel) rfl (Nat.le_of_ble_eq_true rfl) ?_
  intro p e s m args below meth c A Q ls hx hb hml hown hK hP hD hS hA hret hl
  have hl : lv_has ls 1 [(0, .ref mO)] := hl
  rw [f_X7_isWord] at hf
  refine lv_aload_n hx hb dX7_isWord_0 rfl (lv_at hl 0 rfl) ?_
  refine cl_V (q := (RX7, TX7, 12)) (ws' := [(mO, .inr (7, [.ref mA, .ref mS, .ref mI, .ref mV, .int me, .ref mT, .ref mR, .int (nI mz), .int (nI ma), .ref mW, .int (nI mr), .ref mN])), (mT, .inl (G.2.1, 10, .inl zt))]) (v := (some (.int (f_X7_sign mz ma zt)))) (st1 := [.int (f_X7_sign mz ma zt)]) (rest := []) (As := []) [0, 1] 0 7 hx hb hml hown hK (k_X7_sign l G mO mA mS mI mV mT mR mW mN me mz ma mr zt hmz hma) (mf_X7_sign hK.2) (kw_747 hK.2) (kw_15 hK.2) (kw_745 hK.2) ⟨rfl, rfl, Nat.le_of_ble_eq_true rfl, Nat.le_of_ble_eq_true rfl⟩ rfl hP hD hS hA rfl rfl hl (Nat.le_of_ble_eq_true rfl) rfl ⟨Nat.le_of_ble_eq_true rfl, Nat.le_of_ble_eq_true rfl⟩ rfl dX7_isWord_1 rfl rfl (rpl_fast (by decide) rfl rfl) rfl rfl rfl (fun H locs hP hD hS => ?_)
  refine lv_bipush (v := 97) hx hb dX7_isWord_4 (by decide) ?_
  refine lv_icmp_lt (tgt := 22) hx hb dX7_isWord_6 (by decide) (fun c1 => ?_) (fun c1 => ?_)
  · have hf := (if_pos c1).symm.trans hf
    refine lv_iconst (v := 0) hx hb dX7_isWord_22 (by decide) ?_
    exact hret 0 dX7_isWord_23 rfl hf rfl hP hS
  · have hf := (if_neg c1).symm.trans hf
    refine lv_aload_n hx hb dX7_isWord_9 rfl (lv_at hl 0 rfl) ?_
    refine cl_V (q := (RX7, TX7, 12)) (ws' := [(mO, .inr (7, [.ref mA, .ref mS, .ref mI, .ref mV, .int me, .ref mT, .ref mR, .int (nI mz), .int (nI ma), .ref mW, .int (nI mr), .ref mN])), (mT, .inl (G.2.1, 10, .inl zt))]) (v := (some (.int (f_X7_sign mz ma zt)))) (st1 := [.int (f_X7_sign mz ma zt)]) (rest := []) (As := []) [0, 1] 0 7 hx hb hml hown hK (k_X7_sign l G mO mA mS mI mV mT mR mW mN me mz ma mr zt hmz hma) (mf_X7_sign hK.2) (kw_747 hK.2) (kw_15 hK.2) (kw_745 hK.2) ⟨rfl, rfl, Nat.le_of_ble_eq_true rfl, Nat.le_of_ble_eq_true rfl⟩ rfl hP hD hS hA rfl rfl hl (Nat.le_of_ble_eq_true rfl) rfl ⟨Nat.le_of_ble_eq_true rfl, Nat.le_of_ble_eq_true rfl⟩ rfl dX7_isWord_10 rfl rfl (rpl_fast (by decide) rfl rfl) rfl rfl rfl (fun H locs hP hD hS => ?_)
    refine lv_bipush (v := 108) hx hb dX7_isWord_13 (by decide) ?_
    refine lv_icmp_gt (tgt := 22) hx hb dX7_isWord_15 (by decide) (fun c2 => ?_) (fun c2 => ?_)
    · have hf := (if_pos c2).symm.trans hf
      refine lv_iconst (v := 0) hx hb dX7_isWord_22 (by decide) ?_
      exact hret 0 dX7_isWord_23 rfl hf rfl hP hS
    · have hf := (if_neg c2).symm.trans hf
      refine lv_iconst (v := 1) hx hb dX7_isWord_18 (by decide) ?_
      refine lv_goto (tgt := 23) hx hb dX7_isWord_19 (by decide) ?_
      exact hret 1 dX7_isWord_23 rfl hf rfl hP hS
def f_X7_reads_83 (mz : Nat) (zt : Nat → Int32) : Nat → Int32 → (Nat → Int32) → Nat → (Int32 × (Nat → Int32) × Nat)
  | 0, _, _, _ => default
  | k83 + 1, v1_83, r83, a83 => (if (nI mz) ≤ (nI a83) then (if (r83 1) = 4 then (1, r83, a83) else (if v1_83 ≤ 0 then (0, r83, a83) else (1, r83, a83))) else (if (f_X7_isWord mz a83 zt) = 0 then (0, r83, a83) else (if (r83 1) = 4 then (0, r83, a83) else (if v1_83 = 8 then (0, r83, a83) else (if ((f_X7_sign mz a83 zt) - (97 : Int32)) = (r83 0) then (0, r83, a83) else (if (((r83 2) >>> (((f_X7_sign mz a83 zt) - (97 : Int32)) &&& 31)) &&& (1 : Int32)) = 1 then (0, r83, a83) else (if v1_83 = 0 then f_X7_reads_83 mz zt k83 (v1_83 + 1) (upd (upd r83 2 ((r83 2) ||| ((1 : Int32) <<< (((f_X7_sign mz a83 zt) - (97 : Int32)) &&& 31)))) 3 ((f_X7_sign mz a83 zt) - (97 : Int32))) (a83 + 1) else f_X7_reads_83 mz zt k83 (v1_83 + 1) (upd (upd r83 2 ((r83 2) ||| ((1 : Int32) <<< (((f_X7_sign mz a83 zt) - (97 : Int32)) &&& 31)))) 3 ((upd r83 2 ((r83 2) ||| ((1 : Int32) <<< (((f_X7_sign mz a83 zt) - (97 : Int32)) &&& 31)))) 3)) (a83 + 1))))))))
theorem f_X7_reads_83_z (mz : Nat) (zt : Nat → Int32) (v1_83 : Int32) (r83 : Nat → Int32) (a83 : Nat) : f_X7_reads_83 mz zt 0 v1_83 r83 a83 = default := rfl
theorem f_X7_reads_83_s (mz : Nat) (zt : Nat → Int32) (k83 : Nat) (v1_83 : Int32) (r83 : Nat → Int32) (a83 : Nat) : f_X7_reads_83 mz zt (k83 + 1) v1_83 r83 a83 = (if (nI mz) ≤ (nI a83) then (if (r83 1) = 4 then (1, r83, a83) else (if v1_83 ≤ 0 then (0, r83, a83) else (1, r83, a83))) else (if (f_X7_isWord mz a83 zt) = 0 then (0, r83, a83) else (if (r83 1) = 4 then (0, r83, a83) else (if v1_83 = 8 then (0, r83, a83) else (if ((f_X7_sign mz a83 zt) - (97 : Int32)) = (r83 0) then (0, r83, a83) else (if (((r83 2) >>> (((f_X7_sign mz a83 zt) - (97 : Int32)) &&& 31)) &&& (1 : Int32)) = 1 then (0, r83, a83) else (if v1_83 = 0 then f_X7_reads_83 mz zt k83 (v1_83 + 1) (upd (upd r83 2 ((r83 2) ||| ((1 : Int32) <<< (((f_X7_sign mz a83 zt) - (97 : Int32)) &&& 31)))) 3 ((f_X7_sign mz a83 zt) - (97 : Int32))) (a83 + 1) else f_X7_reads_83 mz zt k83 (v1_83 + 1) (upd (upd r83 2 ((r83 2) ||| ((1 : Int32) <<< (((f_X7_sign mz a83 zt) - (97 : Int32)) &&& 31)))) 3 ((upd r83 2 ((r83 2) ||| ((1 : Int32) <<< (((f_X7_sign mz a83 zt) - (97 : Int32)) &&& 31)))) 3)) (a83 + 1)))))))) := rfl
def f_X7_reads (mz : Nat) (zt : Nat → Int32) (zr : Nat → Int32) : Int32 × (Nat → Int32) × Nat := (if (f_X7_isWord mz 0 zt) = 0 then (0, zr, 0) else (if (0 : Int32) ≤ ((upd (upd zr 0 ((f_X7_sign mz 0 zt) - (97 : Int32))) 1 (f_X7_kindOf (f_X7_sign mz 1 zt))) 1) then (f_X7_reads_83 mz zt 9 0 (upd (upd (upd (upd zr 0 ((f_X7_sign mz 0 zt) - (97 : Int32))) 1 (f_X7_kindOf (f_X7_sign mz 1 zt))) 2 0) 3 (-9)) 2) else (0, upd (upd zr 0 ((f_X7_sign mz 0 zt) - (97 : Int32))) 1 (f_X7_kindOf (f_X7_sign mz 1 zt)), 1)))
set_option maxHeartbeats 4000000 in
set_option maxRecDepth 100000 in
theorem k_X7_reads (l : Launch) (G : wG) (mO : Nat) (mA : Nat) (mS : Nat) (mI : Nat) (mV : Nat) (mT : Nat) (mR : Nat) (mW : Nat) (mN : Nat) (me : Int32) (mz : Nat) (mr : Nat) (zt : Nat → Int32) (zr : Nat → Int32) (hmz : mz ≤ 10) : CT l G yX7_reads cX7_reads 3 (some .boolean) ({ frames := 2, cells := 0, slots := 0, locals := 40 }) [.ref mO] [(mO, .inr (7, [.ref mA, .ref mS, .ref mI, .ref mV, .int me, .ref mT, .ref mR, .int (nI mz), .int 0, .ref mW, .int (nI mr), .ref mN])), (mT, .inl (G.2.1, 10, .inl zt)), (mR, .inl (G.2.1, 4, .inl zr))] (fun u => [(mO, .inr (7, [.ref mA, .ref mS, .ref mI, .ref mV, .int me, .ref mT, .ref mR, .int (nI mz), .int (nI u.2.2), .ref mW, .int (nI mr), .ref mN])), (mT, .inl (G.2.1, 10, .inl zt)), (mR, .inl (G.2.1, 4, .inl u.2.1))]) (fun u => some (.int u.1)) (f_X7_reads mz zt zr) := by
  obtain ⟨R, hf⟩ : ∃ R, f_X7_reads mz zt zr = R := ⟨_, rfl⟩
  rw [hf]
  refine CT.mkI RX7 (by decide +kernel) rfl (Nat.le_of_ble_eq_true rfl) ?_
  intro p e s m args below meth c A Q ls hx hb hml hown hK hP hD hS hA hret hl
  have hl : lv_has ls 3 [(0, .ref mO)] := hl
  rw [f_X7_reads] at hf
  refine lv_aload_n hx hb dX7_reads_0 rfl (lv_at hl 0 rfl) ?_
  refine cl_V (q := (RX7, TX7, 12)) (ws' := [(mO, .inr (7, [.ref mA, .ref mS, .ref mI, .ref mV, .int me, .ref mT, .ref mR, .int (nI mz), .int 0, .ref mW, .int (nI mr), .ref mN])), (mT, .inl (G.2.1, 10, .inl zt)), (mR, .inl (G.2.1, 4, .inl zr))]) (v := (some (.int (f_X7_isWord mz 0 zt)))) (st1 := [.int (f_X7_isWord mz 0 zt)]) (rest := []) (As := []) [0, 1] 0 7 hx hb hml hown hK (k_X7_isWord l G mO mA mS mI mV mT mR mW mN me mz 0 mr zt hmz (by omega)) (mf_X7_isWord hK.2) (kw_743 hK.2) (kw_14 hK.2) (kw_741 hK.2) ⟨rfl, rfl, Nat.le_of_ble_eq_true rfl, Nat.le_of_ble_eq_true rfl⟩ rfl hP hD hS hA rfl rfl hl (Nat.le_of_ble_eq_true rfl) rfl ⟨Nat.le_of_ble_eq_true rfl, Nat.le_of_ble_eq_true rfl⟩ rfl dX7_reads_1 rfl rfl (rpl_fast (by decide) rfl rfl) rfl rfl rfl (fun H locs hP hD hS => ?_)
  refine lv_if_ne (tgt := 9) hx hb dX7_reads_4 (by decide) (fun c1 => ?_) (fun c1 => ?_)
  · have hf := (if_neg c1).symm.trans hf
    refine lv_aload_n hx hb dX7_reads_9 rfl (lv_at hl 0 rfl) ?_
    refine va_get (D := G.1) (ci := 7) (v := .ref mR) (C := RX7) (T := TX7) (N := 12) hx hb (ku_X7 hK.2) (fun _ h9 => h9) hown hK.1 hP 0 rfl rfl 6 (by decide) (kw_683 hK.2) (fun _ h9 => h9) rfl dX7_reads_10 ?_
    refine lv_iconst (v := 0) hx hb dX7_reads_13 (by decide) ?_
    refine lv_aload_n hx hb dX7_reads_14 rfl (lv_at hl 0 rfl) ?_
    refine cl_V (q := (RX7, TX7, 12)) (ws' := [(mO, .inr (7, [.ref mA, .ref mS, .ref mI, .ref mV, .int me, .ref mT, .ref mR, .int (nI mz), .int 0, .ref mW, .int (nI mr), .ref mN])), (mT, .inl (G.2.1, 10, .inl zt)), (mR, .inl (G.2.1, 4, .inl zr))]) (v := (some (.int (f_X7_sign mz 0 zt)))) (st1 := [.int (f_X7_sign mz 0 zt), .int 0, .ref mR]) (rest := [.int 0, .ref mR]) (As := []) [0, 1] 0 7 hx hb hml hown hK (k_X7_sign l G mO mA mS mI mV mT mR mW mN me mz 0 mr zt hmz (by omega)) (mf_X7_sign hK.2) (kw_747 hK.2) (kw_15 hK.2) (kw_745 hK.2) ⟨rfl, rfl, Nat.le_of_ble_eq_true rfl, Nat.le_of_ble_eq_true rfl⟩ rfl hP hD hS hA rfl rfl hl (Nat.le_of_ble_eq_true rfl) rfl ⟨Nat.le_of_ble_eq_true rfl, Nat.le_of_ble_eq_true rfl⟩ rfl dX7_reads_15 rfl rfl (rpl_fast (by decide) rfl rfl) rfl rfl rfl (fun H locs hP hD hS => ?_)
    refine lv_bipush (v := 97) hx hb dX7_reads_18 (by decide) ?_
    refine lv_isub hx hb dX7_reads_20 ?_
    refine ww_ist (j := 0) hx hb hK.1 hP hD hS 2 0 rfl rfl (by omega) (by omega) dX7_reads_21 (fun H locs hP hD hS => ?_)
    have hP : va_P G.1 wcl [(mO, .inr (7, [.ref mA, .ref mS, .ref mI, .ref mV, .int me, .ref mT, .ref mR, .int (nI mz), .int 0, .ref mW, .int (nI mr), .ref mN])), (mT, .inl (G.2.1, 10, .inl zt)), (mR, .inl (G.2.1, 4, .inl (upd zr 0 ((f_X7_sign mz 0 zt) - (97 : Int32)))))] H := hP
    have hD : va_D A [(mO, .inr (7, [.ref mA, .ref mS, .ref mI, .ref mV, .int me, .ref mT, .ref mR, .int (nI mz), .int 0, .ref mW, .int (nI mr), .ref mN])), (mT, .inl (G.2.1, 10, .inl zt)), (mR, .inl (G.2.1, 4, .inl (upd zr 0 ((f_X7_sign mz 0 zt) - (97 : Int32)))))] := hD
    refine lv_aload_n hx hb dX7_reads_22 rfl (lv_at hl 0 rfl) ?_
    refine lv_dup hx hb dX7_reads_23 rfl ?_
    refine va_get (D := G.1) (ci := 7) (v := .int 0) (C := RX7) (T := TX7) (N := 12) hx hb (ku_X7 hK.2) (fun _ h9 => h9) hown hK.1 hP 0 rfl rfl 8 (by decide) (kw_685 hK.2) (fun _ h9 => h9) rfl dX7_reads_24 ?_
    refine lv_iconst (v := 1) hx hb dX7_reads_27 (by decide) ?_
    refine lv_iadd hx hb dX7_reads_28 ?_
    refine ww_e (y := 1) (by decide) ?_
    refine va_put (D := G.1) (ci := 7) (v := .int 1) (ty := .int) (C := RX7) (T := TX7) (N := 12) hx hb (ku_X7 hK.2) (fun _ h9 => h9) tyX7 tyX7_ok nmX7 hown hK.1 hP hD hS 0 rfl rfl 8 (by decide) (kw_685 hK.2) (fun _ h9 => h9) rfl (by decide +kernel) rfl rfl (Nat.le_of_ble_eq_true rfl) dX7_reads_29 (fun H locs hP hD hS => ?_)
    have hP : va_P G.1 wcl [(mO, .inr (7, [.ref mA, .ref mS, .ref mI, .ref mV, .int me, .ref mT, .ref mR, .int (nI mz), .int 1, .ref mW, .int (nI mr), .ref mN])), (mT, .inl (G.2.1, 10, .inl zt)), (mR, .inl (G.2.1, 4, .inl (upd zr 0 ((f_X7_sign mz 0 zt) - (97 : Int32)))))] H := hP
    have hD : va_D A [(mO, .inr (7, [.ref mA, .ref mS, .ref mI, .ref mV, .int me, .ref mT, .ref mR, .int (nI mz), .int 1, .ref mW, .int (nI mr), .ref mN])), (mT, .inl (G.2.1, 10, .inl zt)), (mR, .inl (G.2.1, 4, .inl (upd zr 0 ((f_X7_sign mz 0 zt) - (97 : Int32)))))] := hD
    refine lv_aload_n hx hb dX7_reads_32 rfl (lv_at hl 0 rfl) ?_
    refine va_get (D := G.1) (ci := 7) (v := .ref mR) (C := RX7) (T := TX7) (N := 12) hx hb (ku_X7 hK.2) (fun _ h9 => h9) hown hK.1 hP 0 rfl rfl 6 (by decide) (kw_683 hK.2) (fun _ h9 => h9) rfl dX7_reads_33 ?_
    refine lv_iconst (v := 1) hx hb dX7_reads_36 (by decide) ?_
    refine lv_aload_n hx hb dX7_reads_37 rfl (lv_at hl 0 rfl) ?_
    refine cl_V (q := (RX7, TX7, 12)) (ws' := [(mO, .inr (7, [.ref mA, .ref mS, .ref mI, .ref mV, .int me, .ref mT, .ref mR, .int (nI mz), .int 1, .ref mW, .int (nI mr), .ref mN])), (mT, .inl (G.2.1, 10, .inl zt)), (mR, .inl (G.2.1, 4, .inl (upd zr 0 ((f_X7_sign mz 0 zt) - (97 : Int32)))))]) (v := (some (.int (f_X7_sign mz 1 zt)))) (st1 := [.int (f_X7_sign mz 1 zt), .int 1, .ref mR]) (rest := [.int 1, .ref mR]) (As := []) [0, 1] 0 7 hx hb hml hown hK (k_X7_sign l G mO mA mS mI mV mT mR mW mN me mz 1 mr zt hmz (by omega)) (mf_X7_sign hK.2) (kw_747 hK.2) (kw_15 hK.2) (kw_745 hK.2) ⟨rfl, rfl, Nat.le_of_ble_eq_true rfl, Nat.le_of_ble_eq_true rfl⟩ rfl hP hD hS hA rfl rfl hl (Nat.le_of_ble_eq_true rfl) rfl ⟨Nat.le_of_ble_eq_true rfl, Nat.le_of_ble_eq_true rfl⟩ rfl dX7_reads_38 rfl rfl (rpl_fast (by decide) rfl rfl) rfl rfl rfl (fun H locs hP hD hS => ?_)
    refine cl_S (ws' := [(mO, .inr (7, [.ref mA, .ref mS, .ref mI, .ref mV, .int me, .ref mT, .ref mR, .int (nI mz), .int 1, .ref mW, .int (nI mr), .ref mN])), (mT, .inl (G.2.1, 10, .inl zt)), (mR, .inl (G.2.1, 4, .inl (upd zr 0 ((f_X7_sign mz 0 zt) - (97 : Int32)))))]) (v := (some (.int (f_X7_kindOf (f_X7_sign mz 1 zt))))) (st1 := [.int (f_X7_kindOf (f_X7_sign mz 1 zt)), .int 1, .ref mR]) (rest := [.int 1, .ref mR]) (As := [.int (f_X7_sign mz 1 zt)]) [] hx hb hml hown hK (k_X7_kindOf l G (f_X7_sign mz 1 zt) ) (mf_X7_kindOf hK.2) (kw_750 hK.2) (kw_749 hK.2) ⟨rfl, rfl, Nat.le_of_ble_eq_true rfl, Nat.le_of_ble_eq_true rfl⟩ rfl hP hD hS hA hl (Nat.le_of_ble_eq_true rfl) rfl ⟨Nat.le_of_ble_eq_true rfl, Nat.le_of_ble_eq_true rfl⟩ rfl dX7_reads_41 rfl rfl rfl rfl rfl rfl (fun H locs hP hD hS => ?_)
    refine ww_ist (j := 1) hx hb hK.1 hP hD hS 2 0 rfl rfl (by omega) (by omega) dX7_reads_44 (fun H locs hP hD hS => ?_)
    have hP : va_P G.1 wcl [(mO, .inr (7, [.ref mA, .ref mS, .ref mI, .ref mV, .int me, .ref mT, .ref mR, .int (nI mz), .int 1, .ref mW, .int (nI mr), .ref mN])), (mT, .inl (G.2.1, 10, .inl zt)), (mR, .inl (G.2.1, 4, .inl (upd (upd zr 0 ((f_X7_sign mz 0 zt) - (97 : Int32))) 1 (f_X7_kindOf (f_X7_sign mz 1 zt)))))] H := hP
    have hD : va_D A [(mO, .inr (7, [.ref mA, .ref mS, .ref mI, .ref mV, .int me, .ref mT, .ref mR, .int (nI mz), .int 1, .ref mW, .int (nI mr), .ref mN])), (mT, .inl (G.2.1, 10, .inl zt)), (mR, .inl (G.2.1, 4, .inl (upd (upd zr 0 ((f_X7_sign mz 0 zt) - (97 : Int32))) 1 (f_X7_kindOf (f_X7_sign mz 1 zt)))))] := hD
    refine lv_aload_n hx hb dX7_reads_45 rfl (lv_at hl 0 rfl) ?_
    refine va_get (D := G.1) (ci := 7) (v := .ref mR) (C := RX7) (T := TX7) (N := 12) hx hb (ku_X7 hK.2) (fun _ h9 => h9) hown hK.1 hP 0 rfl rfl 6 (by decide) (kw_683 hK.2) (fun _ h9 => h9) rfl dX7_reads_46 ?_
    refine lv_iconst (v := 1) hx hb dX7_reads_49 (by decide) ?_
    refine ww_e (rfl : (1 : Int32) = nI 1) ?_
    refine ww_ild (j := 1) hx hb hK.1 hP 2 0 rfl rfl (by omega) (by omega) dX7_reads_50 ?_
    refine lv_if_ge (tgt := 56) hx hb dX7_reads_51 (by decide) (fun c2 => ?_) (fun c2 => ?_)
    · have hf := (if_pos c2).symm.trans hf
      refine lv_aload_n hx hb dX7_reads_56 rfl (lv_at hl 0 rfl) ?_
      refine lv_dup hx hb dX7_reads_57 rfl ?_
      refine va_get (D := G.1) (ci := 7) (v := .int 1) (C := RX7) (T := TX7) (N := 12) hx hb (ku_X7 hK.2) (fun _ h9 => h9) hown hK.1 hP 0 rfl rfl 8 (by decide) (kw_685 hK.2) (fun _ h9 => h9) rfl dX7_reads_58 ?_
      refine lv_iconst (v := 1) hx hb dX7_reads_61 (by decide) ?_
      refine lv_iadd hx hb dX7_reads_62 ?_
      refine ww_e (y := 2) (by decide) ?_
      refine va_put (D := G.1) (ci := 7) (v := .int 2) (ty := .int) (C := RX7) (T := TX7) (N := 12) hx hb (ku_X7 hK.2) (fun _ h9 => h9) tyX7 tyX7_ok nmX7 hown hK.1 hP hD hS 0 rfl rfl 8 (by decide) (kw_685 hK.2) (fun _ h9 => h9) rfl (by decide +kernel) rfl rfl (Nat.le_of_ble_eq_true rfl) dX7_reads_63 (fun H locs hP hD hS => ?_)
      have hP : va_P G.1 wcl [(mO, .inr (7, [.ref mA, .ref mS, .ref mI, .ref mV, .int me, .ref mT, .ref mR, .int (nI mz), .int 2, .ref mW, .int (nI mr), .ref mN])), (mT, .inl (G.2.1, 10, .inl zt)), (mR, .inl (G.2.1, 4, .inl (upd (upd zr 0 ((f_X7_sign mz 0 zt) - (97 : Int32))) 1 (f_X7_kindOf (f_X7_sign mz 1 zt)))))] H := hP
      have hD : va_D A [(mO, .inr (7, [.ref mA, .ref mS, .ref mI, .ref mV, .int me, .ref mT, .ref mR, .int (nI mz), .int 2, .ref mW, .int (nI mr), .ref mN])), (mT, .inl (G.2.1, 10, .inl zt)), (mR, .inl (G.2.1, 4, .inl (upd (upd zr 0 ((f_X7_sign mz 0 zt) - (97 : Int32))) 1 (f_X7_kindOf (f_X7_sign mz 1 zt)))))] := hD
      refine lv_aload_n hx hb dX7_reads_66 rfl (lv_at hl 0 rfl) ?_
      refine va_get (D := G.1) (ci := 7) (v := .ref mR) (C := RX7) (T := TX7) (N := 12) hx hb (ku_X7 hK.2) (fun _ h9 => h9) hown hK.1 hP 0 rfl rfl 6 (by decide) (kw_683 hK.2) (fun _ h9 => h9) rfl dX7_reads_67 ?_
      refine lv_iconst (v := 2) hx hb dX7_reads_70 (by decide) ?_
      refine lv_iconst (v := 0) hx hb dX7_reads_71 (by decide) ?_
      refine ww_ist (j := 2) hx hb hK.1 hP hD hS 2 0 rfl rfl (by omega) (by omega) dX7_reads_72 (fun H locs hP hD hS => ?_)
      have hP : va_P G.1 wcl [(mO, .inr (7, [.ref mA, .ref mS, .ref mI, .ref mV, .int me, .ref mT, .ref mR, .int (nI mz), .int 2, .ref mW, .int (nI mr), .ref mN])), (mT, .inl (G.2.1, 10, .inl zt)), (mR, .inl (G.2.1, 4, .inl (upd (upd (upd zr 0 ((f_X7_sign mz 0 zt) - (97 : Int32))) 1 (f_X7_kindOf (f_X7_sign mz 1 zt))) 2 0)))] H := hP
      have hD : va_D A [(mO, .inr (7, [.ref mA, .ref mS, .ref mI, .ref mV, .int me, .ref mT, .ref mR, .int (nI mz), .int 2, .ref mW, .int (nI mr), .ref mN])), (mT, .inl (G.2.1, 10, .inl zt)), (mR, .inl (G.2.1, 4, .inl (upd (upd (upd zr 0 ((f_X7_sign mz 0 zt) - (97 : Int32))) 1 (f_X7_kindOf (f_X7_sign mz 1 zt))) 2 0)))] := hD
      refine lv_aload_n hx hb dX7_reads_73 rfl (lv_at hl 0 rfl) ?_
      refine va_get (D := G.1) (ci := 7) (v := .ref mR) (C := RX7) (T := TX7) (N := 12) hx hb (ku_X7 hK.2) (fun _ h9 => h9) hown hK.1 hP 0 rfl rfl 6 (by decide) (kw_683 hK.2) (fun _ h9 => h9) rfl dX7_reads_74 ?_
      refine lv_iconst (v := 3) hx hb dX7_reads_77 (by decide) ?_
      refine lv_bipush (v := -9) hx hb dX7_reads_78 (by decide) ?_
      refine ww_ist (j := 3) hx hb hK.1 hP hD hS 2 0 rfl rfl (by omega) (by omega) dX7_reads_80 (fun H locs hP hD hS => ?_)
      have hP : va_P G.1 wcl [(mO, .inr (7, [.ref mA, .ref mS, .ref mI, .ref mV, .int me, .ref mT, .ref mR, .int (nI mz), .int 2, .ref mW, .int (nI mr), .ref mN])), (mT, .inl (G.2.1, 10, .inl zt)), (mR, .inl (G.2.1, 4, .inl (upd (upd (upd (upd zr 0 ((f_X7_sign mz 0 zt) - (97 : Int32))) 1 (f_X7_kindOf (f_X7_sign mz 1 zt))) 2 0) 3 (-9))))] H := hP
      have hD : va_D A [(mO, .inr (7, [.ref mA, .ref mS, .ref mI, .ref mV, .int me, .ref mT, .ref mR, .int (nI mz), .int 2, .ref mW, .int (nI mr), .ref mN])), (mT, .inl (G.2.1, 10, .inl zt)), (mR, .inl (G.2.1, 4, .inl (upd (upd (upd (upd zr 0 ((f_X7_sign mz 0 zt) - (97 : Int32))) 1 (f_X7_kindOf (f_X7_sign mz 1 zt))) 2 0) 3 (-9))))] := hD
      refine lv_iconst (v := 0) hx hb dX7_reads_81 (by decide) ?_
      refine lv_istore_n (lv' := [(1, .int 0), (0, .ref mO)]) hx hb dX7_reads_82 rfl hl (by decide) rfl (fun ls hl => ?_)
      have L83 : ∀ (k83 : Nat) (v1_83 : Int32) (r83 : Nat → Int32) (a83 : Nat), (a83 + k83 = 11) → (a83 ≤ 10) → f_X7_reads_83 mz zt k83 v1_83 r83 a83 = R → ∀ (H : Heap) (locs : List Loc) (ls : Array Slot), va_P G.1 wcl [(mO, .inr (7, [.ref mA, .ref mS, .ref mI, .ref mV, .int me, .ref mT, .ref mR, .int (nI mz), .int (nI a83), .ref mW, .int (nI mr), .ref mN])), (mT, .inl (G.2.1, 10, .inl zt)), (mR, .inl (G.2.1, 4, .inl r83))] H → va_D A [(mO, .inr (7, [.ref mA, .ref mS, .ref mI, .ref mV, .int me, .ref mT, .ref mR, .int (nI mz), .int (nI a83), .ref mW, .int (nI mr), .ref mN])), (mT, .inl (G.2.1, 10, .inl zt)), (mR, .inl (G.2.1, 4, .inl r83))] → va_S A s.heap H locs → lv_has ls 3 [(0, .ref mO), (1, .int v1_83)] → W p l e ({ frames := 2, cells := 0, slots := 0, locals := 40 }) s m args below meth c H locs 0 0 Q (F0 m 83 ls []) := by
        intro k83
        induction k83 with
        | zero =>
          intro v1_83 r83 a83  h1 h2 hf _ _ ls hP hD hS hl
          exact absurd h2 (by omega)
        | succ k83 ih83 =>
          intro v1_83 r83 a83  h1 h2 hf _ _ ls hP hD hS hl
          rw [f_X7_reads_83_s] at hf
          refine lv_aload_n hx hb dX7_reads_83 rfl (lv_at hl 0 rfl) ?_
          refine va_get (D := G.1) (ci := 7) (v := .int (nI a83)) (C := RX7) (T := TX7) (N := 12) hx hb (ku_X7 hK.2) (fun _ h9 => h9) hown hK.1 hP 0 rfl rfl 8 (by decide) (kw_685 hK.2) (fun _ h9 => h9) rfl dX7_reads_84 ?_
          refine lv_aload_n hx hb dX7_reads_87 rfl (lv_at hl 0 rfl) ?_
          refine va_get (D := G.1) (ci := 7) (v := .int (nI mz)) (C := RX7) (T := TX7) (N := 12) hx hb (ku_X7 hK.2) (fun _ h9 => h9) hown hK.1 hP 0 rfl rfl 7 (by decide) (kw_684 hK.2) (fun _ h9 => h9) rfl dX7_reads_88 ?_
          refine lv_icmp_ge (tgt := 199) hx hb dX7_reads_91 (by decide) (fun c3 => ?_) (fun c3 => ?_)
          · have hf := (if_pos c3).symm.trans hf
            refine lv_aload_n hx hb dX7_reads_199 rfl (lv_at hl 0 rfl) ?_
            refine va_get (D := G.1) (ci := 7) (v := .ref mR) (C := RX7) (T := TX7) (N := 12) hx hb (ku_X7 hK.2) (fun _ h9 => h9) hown hK.1 hP 0 rfl rfl 6 (by decide) (kw_683 hK.2) (fun _ h9 => h9) rfl dX7_reads_200 ?_
            refine lv_iconst (v := 1) hx hb dX7_reads_203 (by decide) ?_
            refine ww_e (rfl : (1 : Int32) = nI 1) ?_
            refine ww_ild (j := 1) hx hb hK.1 hP 2 0 rfl rfl (by omega) (by omega) dX7_reads_204 ?_
            refine lv_iconst (v := 4) hx hb dX7_reads_205 (by decide) ?_
            refine lv_icmp_eq (tgt := 213) hx hb dX7_reads_206 (by decide) (fun c4 => ?_) (fun c4 => ?_)
            · have hf := (if_pos c4).symm.trans hf
              refine lv_iconst (v := 1) hx hb dX7_reads_213 (by decide) ?_
              refine lv_goto (tgt := 218) hx hb dX7_reads_214 (by decide) ?_
              exact hret (1, r83, a83) dX7_reads_218 rfl hf rfl hP hS
            · have hf := (if_neg c4).symm.trans hf
              refine lv_iload_n hx hb dX7_reads_209 rfl (lv_at hl 1 rfl) ?_
              refine lv_if_le (tgt := 217) hx hb dX7_reads_210 (by decide) (fun c5 => ?_) (fun c5 => ?_)
              · have hf := (if_pos c5).symm.trans hf
                refine lv_iconst (v := 0) hx hb dX7_reads_217 (by decide) ?_
                exact hret (0, r83, a83) dX7_reads_218 rfl hf rfl hP hS
              · have hf := (if_neg c5).symm.trans hf
                refine lv_iconst (v := 1) hx hb dX7_reads_213 (by decide) ?_
                refine lv_goto (tgt := 218) hx hb dX7_reads_214 (by decide) ?_
                exact hret (1, r83, a83) dX7_reads_218 rfl hf rfl hP hS
          · have hf := (if_neg c3).symm.trans hf
            refine lv_aload_n hx hb dX7_reads_94 rfl (lv_at hl 0 rfl) ?_
            refine cl_V (q := (RX7, TX7, 12)) (ws' := [(mO, .inr (7, [.ref mA, .ref mS, .ref mI, .ref mV, .int me, .ref mT, .ref mR, .int (nI mz), .int (nI a83), .ref mW, .int (nI mr), .ref mN])), (mT, .inl (G.2.1, 10, .inl zt)), (mR, .inl (G.2.1, 4, .inl r83))]) (v := (some (.int (f_X7_sign mz a83 zt)))) (st1 := [.int (f_X7_sign mz a83 zt)]) (rest := []) (As := []) [0, 1] 0 7 hx hb hml hown hK (k_X7_sign l G mO mA mS mI mV mT mR mW mN me mz a83 mr zt hmz (by omega)) (mf_X7_sign hK.2) (kw_747 hK.2) (kw_15 hK.2) (kw_745 hK.2) ⟨rfl, rfl, Nat.le_of_ble_eq_true rfl, Nat.le_of_ble_eq_true rfl⟩ rfl hP hD hS hA rfl rfl hl (Nat.le_of_ble_eq_true rfl) rfl ⟨Nat.le_of_ble_eq_true rfl, Nat.le_of_ble_eq_true rfl⟩ rfl dX7_reads_95 rfl rfl (rpl_fast (by decide) rfl rfl) rfl rfl rfl (fun H locs hP hD hS => ?_)
            refine lv_bipush (v := 97) hx hb dX7_reads_98 (by decide) ?_
            refine lv_isub hx hb dX7_reads_100 ?_
            refine lv_istore_n (lv' := [(2, .int ((f_X7_sign mz a83 zt) - (97 : Int32))), (0, .ref mO), (1, .int v1_83)]) hx hb dX7_reads_101 rfl hl (by decide) rfl (fun ls hl => ?_)
            refine lv_aload_n hx hb dX7_reads_102 rfl (lv_at hl 1 rfl) ?_
            refine cl_V (q := (RX7, TX7, 12)) (ws' := [(mO, .inr (7, [.ref mA, .ref mS, .ref mI, .ref mV, .int me, .ref mT, .ref mR, .int (nI mz), .int (nI a83), .ref mW, .int (nI mr), .ref mN])), (mT, .inl (G.2.1, 10, .inl zt)), (mR, .inl (G.2.1, 4, .inl r83))]) (v := (some (.int (f_X7_isWord mz a83 zt)))) (st1 := [.int (f_X7_isWord mz a83 zt)]) (rest := []) (As := []) [0, 1] 0 7 hx hb hml hown hK (k_X7_isWord l G mO mA mS mI mV mT mR mW mN me mz a83 mr zt hmz (by omega)) (mf_X7_isWord hK.2) (kw_743 hK.2) (kw_14 hK.2) (kw_741 hK.2) ⟨rfl, rfl, Nat.le_of_ble_eq_true rfl, Nat.le_of_ble_eq_true rfl⟩ rfl hP hD hS hA rfl rfl hl (Nat.le_of_ble_eq_true rfl) rfl ⟨Nat.le_of_ble_eq_true rfl, Nat.le_of_ble_eq_true rfl⟩ rfl dX7_reads_103 rfl rfl (rpl_fast (by decide) rfl rfl) rfl rfl rfl (fun H locs hP hD hS => ?_)
            refine lv_if_eq (tgt := 149) hx hb dX7_reads_106 (by decide) (fun c6 => ?_) (fun c6 => ?_)
            · have hf := (if_pos c6).symm.trans hf
              refine lv_iconst (v := 0) hx hb dX7_reads_149 (by decide) ?_
              exact hret (0, r83, a83) dX7_reads_150 rfl hf rfl hP hS
            · have hf := (if_neg c6).symm.trans hf
              refine lv_aload_n hx hb dX7_reads_109 rfl (lv_at hl 1 rfl) ?_
              refine va_get (D := G.1) (ci := 7) (v := .ref mR) (C := RX7) (T := TX7) (N := 12) hx hb (ku_X7 hK.2) (fun _ h9 => h9) hown hK.1 hP 0 rfl rfl 6 (by decide) (kw_683 hK.2) (fun _ h9 => h9) rfl dX7_reads_110 ?_
              refine lv_iconst (v := 1) hx hb dX7_reads_113 (by decide) ?_
              refine ww_e (rfl : (1 : Int32) = nI 1) ?_
              refine ww_ild (j := 1) hx hb hK.1 hP 2 0 rfl rfl (by omega) (by omega) dX7_reads_114 ?_
              refine lv_iconst (v := 4) hx hb dX7_reads_115 (by decide) ?_
              refine lv_icmp_eq (tgt := 149) hx hb dX7_reads_116 (by decide) (fun c7 => ?_) (fun c7 => ?_)
              · have hf := (if_pos c7).symm.trans hf
                refine lv_iconst (v := 0) hx hb dX7_reads_149 (by decide) ?_
                exact hret (0, r83, a83) dX7_reads_150 rfl hf rfl hP hS
              · have hf := (if_neg c7).symm.trans hf
                refine lv_iload_n hx hb dX7_reads_119 rfl (lv_at hl 2 rfl) ?_
                refine lv_bipush (v := 8) hx hb dX7_reads_120 (by decide) ?_
                refine lv_icmp_eq (tgt := 149) hx hb dX7_reads_122 (by decide) (fun c8 => ?_) (fun c8 => ?_)
                · have hf := (if_pos c8).symm.trans hf
                  refine lv_iconst (v := 0) hx hb dX7_reads_149 (by decide) ?_
                  exact hret (0, r83, a83) dX7_reads_150 rfl hf rfl hP hS
                · have hf := (if_neg c8).symm.trans hf
                  refine lv_iload_n hx hb dX7_reads_125 rfl (lv_at hl 0 rfl) ?_
                  refine lv_aload_n hx hb dX7_reads_126 rfl (lv_at hl 1 rfl) ?_
                  refine va_get (D := G.1) (ci := 7) (v := .ref mR) (C := RX7) (T := TX7) (N := 12) hx hb (ku_X7 hK.2) (fun _ h9 => h9) hown hK.1 hP 0 rfl rfl 6 (by decide) (kw_683 hK.2) (fun _ h9 => h9) rfl dX7_reads_127 ?_
                  refine lv_iconst (v := 0) hx hb dX7_reads_130 (by decide) ?_
                  refine ww_e (rfl : (0 : Int32) = nI 0) ?_
                  refine ww_ild (j := 0) hx hb hK.1 hP 2 0 rfl rfl (by omega) (by omega) dX7_reads_131 ?_
                  refine lv_icmp_eq (tgt := 149) hx hb dX7_reads_132 (by decide) (fun c9 => ?_) (fun c9 => ?_)
                  · have hf := (if_pos c9).symm.trans hf
                    refine lv_iconst (v := 0) hx hb dX7_reads_149 (by decide) ?_
                    exact hret (0, r83, a83) dX7_reads_150 rfl hf rfl hP hS
                  · have hf := (if_neg c9).symm.trans hf
                    refine lv_aload_n hx hb dX7_reads_135 rfl (lv_at hl 1 rfl) ?_
                    refine va_get (D := G.1) (ci := 7) (v := .ref mR) (C := RX7) (T := TX7) (N := 12) hx hb (ku_X7 hK.2) (fun _ h9 => h9) hown hK.1 hP 0 rfl rfl 6 (by decide) (kw_683 hK.2) (fun _ h9 => h9) rfl dX7_reads_136 ?_
                    refine lv_iconst (v := 2) hx hb dX7_reads_139 (by decide) ?_
                    refine ww_e (rfl : (2 : Int32) = nI 2) ?_
                    refine ww_ild (j := 2) hx hb hK.1 hP 2 0 rfl rfl (by omega) (by omega) dX7_reads_140 ?_
                    refine lv_iload_n hx hb dX7_reads_141 rfl (lv_at hl 0 rfl) ?_
                    refine lv_ishr hx hb dX7_reads_142 ?_
                    refine lv_iconst (v := 1) hx hb dX7_reads_143 (by decide) ?_
                    refine lv_iand hx hb dX7_reads_144 ?_
                    refine lv_iconst (v := 1) hx hb dX7_reads_145 (by decide) ?_
                    refine lv_icmp_ne (tgt := 151) hx hb dX7_reads_146 (by decide) (fun c10 => ?_) (fun c10 => ?_)
                    · have hf := (if_neg c10).symm.trans hf
                      refine lv_aload_n hx hb dX7_reads_151 rfl (lv_at hl 1 rfl) ?_
                      refine va_get (D := G.1) (ci := 7) (v := .ref mR) (C := RX7) (T := TX7) (N := 12) hx hb (ku_X7 hK.2) (fun _ h9 => h9) hown hK.1 hP 0 rfl rfl 6 (by decide) (kw_683 hK.2) (fun _ h9 => h9) rfl dX7_reads_152 ?_
                      refine lv_iconst (v := 2) hx hb dX7_reads_155 (by decide) ?_
                      refine lv_dup2_11 hx hb dX7_reads_156 rfl rfl ?_
                      refine ww_e (rfl : (2 : Int32) = nI 2) ?_
                      refine ww_ild (j := 2) hx hb hK.1 hP 2 0 rfl rfl (by omega) (by omega) dX7_reads_157 ?_
                      refine lv_iconst (v := 1) hx hb dX7_reads_158 (by decide) ?_
                      refine lv_iload_n hx hb dX7_reads_159 rfl (lv_at hl 0 rfl) ?_
                      refine lv_ishl hx hb dX7_reads_160 ?_
                      refine lv_ior hx hb dX7_reads_161 ?_
                      refine ww_ist (j := 2) hx hb hK.1 hP hD hS 2 0 rfl rfl (by omega) (by omega) dX7_reads_162 (fun H locs hP hD hS => ?_)
                      have hP : va_P G.1 wcl [(mO, .inr (7, [.ref mA, .ref mS, .ref mI, .ref mV, .int me, .ref mT, .ref mR, .int (nI mz), .int (nI a83), .ref mW, .int (nI mr), .ref mN])), (mT, .inl (G.2.1, 10, .inl zt)), (mR, .inl (G.2.1, 4, .inl (upd r83 2 ((r83 2) ||| ((1 : Int32) <<< (((f_X7_sign mz a83 zt) - (97 : Int32)) &&& 31))))))] H := hP
                      have hD : va_D A [(mO, .inr (7, [.ref mA, .ref mS, .ref mI, .ref mV, .int me, .ref mT, .ref mR, .int (nI mz), .int (nI a83), .ref mW, .int (nI mr), .ref mN])), (mT, .inl (G.2.1, 10, .inl zt)), (mR, .inl (G.2.1, 4, .inl (upd r83 2 ((r83 2) ||| ((1 : Int32) <<< (((f_X7_sign mz a83 zt) - (97 : Int32)) &&& 31))))))] := hD
                      refine lv_aload_n hx hb dX7_reads_163 rfl (lv_at hl 1 rfl) ?_
                      refine va_get (D := G.1) (ci := 7) (v := .ref mR) (C := RX7) (T := TX7) (N := 12) hx hb (ku_X7 hK.2) (fun _ h9 => h9) hown hK.1 hP 0 rfl rfl 6 (by decide) (kw_683 hK.2) (fun _ h9 => h9) rfl dX7_reads_164 ?_
                      refine lv_iconst (v := 3) hx hb dX7_reads_167 (by decide) ?_
                      refine lv_iload_n hx hb dX7_reads_168 rfl (lv_at hl 2 rfl) ?_
                      refine lv_if_ne (tgt := 176) hx hb dX7_reads_169 (by decide) (fun c11 => ?_) (fun c11 => ?_)
                      · have hf := (if_neg c11).symm.trans hf
                        refine lv_aload_n hx hb dX7_reads_176 rfl (lv_at hl 1 rfl) ?_
                        refine va_get (D := G.1) (ci := 7) (v := .ref mR) (C := RX7) (T := TX7) (N := 12) hx hb (ku_X7 hK.2) (fun _ h9 => h9) hown hK.1 hP 0 rfl rfl 6 (by decide) (kw_683 hK.2) (fun _ h9 => h9) rfl dX7_reads_177 ?_
                        refine lv_iconst (v := 3) hx hb dX7_reads_180 (by decide) ?_
                        refine ww_e (rfl : (3 : Int32) = nI 3) ?_
                        refine ww_ild (j := 3) hx hb hK.1 hP 2 0 rfl rfl (by omega) (by omega) dX7_reads_181 ?_
                        refine ww_ist (j := 3) hx hb hK.1 hP hD hS 2 0 rfl rfl (by omega) (by omega) dX7_reads_182 (fun H locs hP hD hS => ?_)
                        have hP : va_P G.1 wcl [(mO, .inr (7, [.ref mA, .ref mS, .ref mI, .ref mV, .int me, .ref mT, .ref mR, .int (nI mz), .int (nI a83), .ref mW, .int (nI mr), .ref mN])), (mT, .inl (G.2.1, 10, .inl zt)), (mR, .inl (G.2.1, 4, .inl (upd (upd r83 2 ((r83 2) ||| ((1 : Int32) <<< (((f_X7_sign mz a83 zt) - (97 : Int32)) &&& 31)))) 3 ((upd r83 2 ((r83 2) ||| ((1 : Int32) <<< (((f_X7_sign mz a83 zt) - (97 : Int32)) &&& 31)))) 3))))] H := hP
                        have hD : va_D A [(mO, .inr (7, [.ref mA, .ref mS, .ref mI, .ref mV, .int me, .ref mT, .ref mR, .int (nI mz), .int (nI a83), .ref mW, .int (nI mr), .ref mN])), (mT, .inl (G.2.1, 10, .inl zt)), (mR, .inl (G.2.1, 4, .inl (upd (upd r83 2 ((r83 2) ||| ((1 : Int32) <<< (((f_X7_sign mz a83 zt) - (97 : Int32)) &&& 31)))) 3 ((upd r83 2 ((r83 2) ||| ((1 : Int32) <<< (((f_X7_sign mz a83 zt) - (97 : Int32)) &&& 31)))) 3))))] := hD
                        refine lv_iinc (v := v1_83 + 1) (lv' := [(1, .int (v1_83 + 1)), (2, .int ((f_X7_sign mz a83 zt) - (97 : Int32))), (0, .ref mO)]) hx hb dX7_reads_183 hl (k := 2) rfl rfl (by decide) rfl (fun ls hl => ?_)
                        refine lv_aload_n hx hb dX7_reads_186 rfl (lv_at hl 2 rfl) ?_
                        refine lv_dup hx hb dX7_reads_187 rfl ?_
                        refine va_get (D := G.1) (ci := 7) (v := .int (nI a83)) (C := RX7) (T := TX7) (N := 12) hx hb (ku_X7 hK.2) (fun _ h9 => h9) hown hK.1 hP 0 rfl rfl 8 (by decide) (kw_685 hK.2) (fun _ h9 => h9) rfl dX7_reads_188 ?_
                        refine lv_iconst (v := 1) hx hb dX7_reads_191 (by decide) ?_
                        refine lv_iadd hx hb dX7_reads_192 ?_
                        refine ww_e (nI_addE (a := a83) (b := 1) rfl rfl) ?_
                        refine va_put (D := G.1) (ci := 7) (v := .int (nI (a83 + 1))) (ty := .int) (C := RX7) (T := TX7) (N := 12) hx hb (ku_X7 hK.2) (fun _ h9 => h9) tyX7 tyX7_ok nmX7 hown hK.1 hP hD hS 0 rfl rfl 8 (by decide) (kw_685 hK.2) (fun _ h9 => h9) rfl (by decide +kernel) rfl rfl (Nat.le_of_ble_eq_true rfl) dX7_reads_193 (fun H locs hP hD hS => ?_)
                        have hP : va_P G.1 wcl [(mO, .inr (7, [.ref mA, .ref mS, .ref mI, .ref mV, .int me, .ref mT, .ref mR, .int (nI mz), .int (nI (a83 + 1)), .ref mW, .int (nI mr), .ref mN])), (mT, .inl (G.2.1, 10, .inl zt)), (mR, .inl (G.2.1, 4, .inl (upd (upd r83 2 ((r83 2) ||| ((1 : Int32) <<< (((f_X7_sign mz a83 zt) - (97 : Int32)) &&& 31)))) 3 ((upd r83 2 ((r83 2) ||| ((1 : Int32) <<< (((f_X7_sign mz a83 zt) - (97 : Int32)) &&& 31)))) 3))))] H := hP
                        have hD : va_D A [(mO, .inr (7, [.ref mA, .ref mS, .ref mI, .ref mV, .int me, .ref mT, .ref mR, .int (nI mz), .int (nI (a83 + 1)), .ref mW, .int (nI mr), .ref mN])), (mT, .inl (G.2.1, 10, .inl zt)), (mR, .inl (G.2.1, 4, .inl (upd (upd r83 2 ((r83 2) ||| ((1 : Int32) <<< (((f_X7_sign mz a83 zt) - (97 : Int32)) &&& 31)))) 3 ((upd r83 2 ((r83 2) ||| ((1 : Int32) <<< (((f_X7_sign mz a83 zt) - (97 : Int32)) &&& 31)))) 3))))] := hD
                        refine lv_goto (tgt := 83) hx hb dX7_reads_196 (by decide) ?_
                        exact ih83 (v1_83 + 1) (upd (upd r83 2 ((r83 2) ||| ((1 : Int32) <<< (((f_X7_sign mz a83 zt) - (97 : Int32)) &&& 31)))) 3 ((upd r83 2 ((r83 2) ||| ((1 : Int32) <<< (((f_X7_sign mz a83 zt) - (97 : Int32)) &&& 31)))) 3)) (a83 + 1)  (by omega) (by have := lt_of_nle (a := mz) (b := a83) (by omega) (by omega) (by assumption); omega) hf _ _ ls hP hD hS (lv_sub hl [2, 0] rfl)
                      · have hf := (if_pos c11).symm.trans hf
                        refine lv_iload_n hx hb dX7_reads_172 rfl (lv_at hl 0 rfl) ?_
                        refine lv_goto (tgt := 182) hx hb dX7_reads_173 (by decide) ?_
                        refine ww_ist (j := 3) hx hb hK.1 hP hD hS 2 0 rfl rfl (by omega) (by omega) dX7_reads_182 (fun H locs hP hD hS => ?_)
                        have hP : va_P G.1 wcl [(mO, .inr (7, [.ref mA, .ref mS, .ref mI, .ref mV, .int me, .ref mT, .ref mR, .int (nI mz), .int (nI a83), .ref mW, .int (nI mr), .ref mN])), (mT, .inl (G.2.1, 10, .inl zt)), (mR, .inl (G.2.1, 4, .inl (upd (upd r83 2 ((r83 2) ||| ((1 : Int32) <<< (((f_X7_sign mz a83 zt) - (97 : Int32)) &&& 31)))) 3 ((f_X7_sign mz a83 zt) - (97 : Int32)))))] H := hP
                        have hD : va_D A [(mO, .inr (7, [.ref mA, .ref mS, .ref mI, .ref mV, .int me, .ref mT, .ref mR, .int (nI mz), .int (nI a83), .ref mW, .int (nI mr), .ref mN])), (mT, .inl (G.2.1, 10, .inl zt)), (mR, .inl (G.2.1, 4, .inl (upd (upd r83 2 ((r83 2) ||| ((1 : Int32) <<< (((f_X7_sign mz a83 zt) - (97 : Int32)) &&& 31)))) 3 ((f_X7_sign mz a83 zt) - (97 : Int32)))))] := hD
                        refine lv_iinc (v := v1_83 + 1) (lv' := [(1, .int (v1_83 + 1)), (2, .int ((f_X7_sign mz a83 zt) - (97 : Int32))), (0, .ref mO)]) hx hb dX7_reads_183 hl (k := 2) rfl rfl (by decide) rfl (fun ls hl => ?_)
                        refine lv_aload_n hx hb dX7_reads_186 rfl (lv_at hl 2 rfl) ?_
                        refine lv_dup hx hb dX7_reads_187 rfl ?_
                        refine va_get (D := G.1) (ci := 7) (v := .int (nI a83)) (C := RX7) (T := TX7) (N := 12) hx hb (ku_X7 hK.2) (fun _ h9 => h9) hown hK.1 hP 0 rfl rfl 8 (by decide) (kw_685 hK.2) (fun _ h9 => h9) rfl dX7_reads_188 ?_
                        refine lv_iconst (v := 1) hx hb dX7_reads_191 (by decide) ?_
                        refine lv_iadd hx hb dX7_reads_192 ?_
                        refine ww_e (nI_addE (a := a83) (b := 1) rfl rfl) ?_
                        refine va_put (D := G.1) (ci := 7) (v := .int (nI (a83 + 1))) (ty := .int) (C := RX7) (T := TX7) (N := 12) hx hb (ku_X7 hK.2) (fun _ h9 => h9) tyX7 tyX7_ok nmX7 hown hK.1 hP hD hS 0 rfl rfl 8 (by decide) (kw_685 hK.2) (fun _ h9 => h9) rfl (by decide +kernel) rfl rfl (Nat.le_of_ble_eq_true rfl) dX7_reads_193 (fun H locs hP hD hS => ?_)
                        have hP : va_P G.1 wcl [(mO, .inr (7, [.ref mA, .ref mS, .ref mI, .ref mV, .int me, .ref mT, .ref mR, .int (nI mz), .int (nI (a83 + 1)), .ref mW, .int (nI mr), .ref mN])), (mT, .inl (G.2.1, 10, .inl zt)), (mR, .inl (G.2.1, 4, .inl (upd (upd r83 2 ((r83 2) ||| ((1 : Int32) <<< (((f_X7_sign mz a83 zt) - (97 : Int32)) &&& 31)))) 3 ((f_X7_sign mz a83 zt) - (97 : Int32)))))] H := hP
                        have hD : va_D A [(mO, .inr (7, [.ref mA, .ref mS, .ref mI, .ref mV, .int me, .ref mT, .ref mR, .int (nI mz), .int (nI (a83 + 1)), .ref mW, .int (nI mr), .ref mN])), (mT, .inl (G.2.1, 10, .inl zt)), (mR, .inl (G.2.1, 4, .inl (upd (upd r83 2 ((r83 2) ||| ((1 : Int32) <<< (((f_X7_sign mz a83 zt) - (97 : Int32)) &&& 31)))) 3 ((f_X7_sign mz a83 zt) - (97 : Int32)))))] := hD
                        refine lv_goto (tgt := 83) hx hb dX7_reads_196 (by decide) ?_
                        exact ih83 (v1_83 + 1) (upd (upd r83 2 ((r83 2) ||| ((1 : Int32) <<< (((f_X7_sign mz a83 zt) - (97 : Int32)) &&& 31)))) 3 ((f_X7_sign mz a83 zt) - (97 : Int32))) (a83 + 1)  (by omega) (by have := lt_of_nle (a := mz) (b := a83) (by omega) (by omega) (by assumption); omega) hf _ _ ls hP hD hS (lv_sub hl [2, 0] rfl)
                    · have hf := (if_pos c10).symm.trans hf
                      refine lv_iconst (v := 0) hx hb dX7_reads_149 (by decide) ?_
                      exact hret (0, r83, a83) dX7_reads_150 rfl hf rfl hP hS
      exact L83 9 0 (upd (upd (upd (upd zr 0 ((f_X7_sign mz 0 zt) - (97 : Int32))) 1 (f_X7_kindOf (f_X7_sign mz 1 zt))) 2 0) 3 (-9)) 2  (by omega) (by omega) hf _ _ ls hP hD hS (lv_sub hl [1, 0] rfl)
    · have hf := (if_neg c2).symm.trans hf
      refine lv_iconst (v := 0) hx hb dX7_reads_54 (by decide) ?_
      exact hret (0, upd (upd zr 0 ((f_X7_sign mz 0 zt) - (97 : Int32))) 1 (f_X7_kindOf (f_X7_sign mz 1 zt)), 1) dX7_reads_55 rfl hf rfl hP hS
  · have hf := (if_pos c1).symm.trans hf
    refine lv_iconst (v := 0) hx hb dX7_reads_7 (by decide) ?_
    exact hret (0, zr, 0) dX7_reads_8 rfl hf rfl hP hS
def f_X7_fault (mz : Nat) (zt : Nat → Int32) (zr : Nat → Int32) : Int32 × (Nat → Int32) × Nat × Nat := (if ((f_X7_reads mz zt zr).1) = 0 then (nI ((f_X7_reads mz zt zr).2.2), (f_X7_reads mz zt zr).2.1, (f_X7_reads mz zt zr).2.2, 0) else ((-9), (f_X7_reads mz zt zr).2.1, (f_X7_reads mz zt zr).2.2, 0))
set_option maxHeartbeats 4000000 in
set_option maxRecDepth 100000 in
theorem k_X7_fault (l : Launch) (G : wG) (mO : Nat) (mA : Nat) (mS : Nat) (mI : Nat) (mV : Nat) (mT : Nat) (mR : Nat) (mW : Nat) (mN : Nat) (me : Int32) (mz : Nat) (ma : Nat) (mr : Nat) (zt : Nat → Int32) (zr : Nat → Int32) (hmz : mz ≤ 10) : CT l G yX7_fault cX7_fault 2 (some .int) ({ frames := 3, cells := 0, slots := 0, locals := 62 }) [.ref mO] [(mO, .inr (7, [.ref mA, .ref mS, .ref mI, .ref mV, .int me, .ref mT, .ref mR, .int (nI mz), .int (nI ma), .ref mW, .int (nI mr), .ref mN])), (mT, .inl (G.2.1, 10, .inl zt)), (mR, .inl (G.2.1, 4, .inl zr))] (fun u => [(mO, .inr (7, [.ref mA, .ref mS, .ref mI, .ref mV, .int me, .ref mT, .ref mR, .int (nI u.2.2.2), .int (nI u.2.2.1), .ref mW, .int (nI mr), .ref mN])), (mT, .inl (G.2.1, 10, .inl zt)), (mR, .inl (G.2.1, 4, .inl u.2.1))]) (fun u => some (.int u.1)) (f_X7_fault mz zt zr) := by
  obtain ⟨R, hf⟩ : ∃ R, f_X7_fault mz zt zr = R := ⟨_, rfl⟩
  rw [hf]
  refine CT.mkI RX7 (by decide +kernel) rfl (Nat.le_of_ble_eq_true rfl) ?_
  intro p e s m args below meth c A Q ls hx hb hml hown hK hP hD hS hA hret hl
  have hl : lv_has ls 2 [(0, .ref mO)] := hl
  rw [f_X7_fault] at hf
  refine lv_aload_n hx hb dX7_fault_0 rfl (lv_at hl 0 rfl) ?_
  refine lv_iconst (v := 0) hx hb dX7_fault_1 (by decide) ?_
  refine va_put (D := G.1) (ci := 7) (v := .int 0) (ty := .int) (C := RX7) (T := TX7) (N := 12) hx hb (ku_X7 hK.2) (fun _ h9 => h9) tyX7 tyX7_ok nmX7 hown hK.1 hP hD hS 0 rfl rfl 8 (by decide) (kw_685 hK.2) (fun _ h9 => h9) rfl (by decide +kernel) rfl rfl (Nat.le_of_ble_eq_true rfl) dX7_fault_2 (fun H locs hP hD hS => ?_)
  have hP : va_P G.1 wcl [(mO, .inr (7, [.ref mA, .ref mS, .ref mI, .ref mV, .int me, .ref mT, .ref mR, .int (nI mz), .int 0, .ref mW, .int (nI mr), .ref mN])), (mT, .inl (G.2.1, 10, .inl zt)), (mR, .inl (G.2.1, 4, .inl zr))] H := hP
  have hD : va_D A [(mO, .inr (7, [.ref mA, .ref mS, .ref mI, .ref mV, .int me, .ref mT, .ref mR, .int (nI mz), .int 0, .ref mW, .int (nI mr), .ref mN])), (mT, .inl (G.2.1, 10, .inl zt)), (mR, .inl (G.2.1, 4, .inl zr))] := hD
  refine lv_aload_n hx hb dX7_fault_5 rfl (lv_at hl 0 rfl) ?_
  refine cl_V (q := (RX7, TX7, 12)) (ws' := [(mO, .inr (7, [.ref mA, .ref mS, .ref mI, .ref mV, .int me, .ref mT, .ref mR, .int (nI mz), .int (nI ((f_X7_reads mz zt zr).2.2)), .ref mW, .int (nI mr), .ref mN])), (mT, .inl (G.2.1, 10, .inl zt)), (mR, .inl (G.2.1, 4, .inl ((f_X7_reads mz zt zr).2.1)))]) (v := (some (.int ((f_X7_reads mz zt zr).1)))) (st1 := [.int ((f_X7_reads mz zt zr).1)]) (rest := []) (As := []) [0, 1, 2] 0 7 hx hb hml hown hK (k_X7_reads l G mO mA mS mI mV mT mR mW mN me mz mr zt zr hmz) (mf_X7_reads hK.2) (kw_739 hK.2) (kw_13 hK.2) (kw_737 hK.2) ⟨rfl, rfl, Nat.le_of_ble_eq_true rfl, Nat.le_of_ble_eq_true rfl⟩ rfl hP hD hS hA rfl rfl hl (Nat.le_of_ble_eq_true rfl) rfl ⟨Nat.le_of_ble_eq_true rfl, Nat.le_of_ble_eq_true rfl⟩ rfl dX7_fault_6 rfl rfl (rpl_fast (by decide) rfl rfl) rfl rfl rfl (fun H locs hP hD hS => ?_)
  refine lv_istore_n (lv' := [(1, .int ((f_X7_reads mz zt zr).1)), (0, .ref mO)]) hx hb dX7_fault_9 rfl hl (by decide) rfl (fun ls hl => ?_)
  refine lv_aload_n hx hb dX7_fault_10 rfl (lv_at hl 1 rfl) ?_
  refine lv_iconst (v := 0) hx hb dX7_fault_11 (by decide) ?_
  refine va_put (D := G.1) (ci := 7) (v := .int 0) (ty := .int) (C := RX7) (T := TX7) (N := 12) hx hb (ku_X7 hK.2) (fun _ h9 => h9) tyX7 tyX7_ok nmX7 hown hK.1 hP hD hS 0 rfl rfl 7 (by decide) (kw_684 hK.2) (fun _ h9 => h9) rfl (by decide +kernel) rfl rfl (Nat.le_of_ble_eq_true rfl) dX7_fault_12 (fun H locs hP hD hS => ?_)
  have hP : va_P G.1 wcl [(mO, .inr (7, [.ref mA, .ref mS, .ref mI, .ref mV, .int me, .ref mT, .ref mR, .int 0, .int (nI ((f_X7_reads mz zt zr).2.2)), .ref mW, .int (nI mr), .ref mN])), (mT, .inl (G.2.1, 10, .inl zt)), (mR, .inl (G.2.1, 4, .inl ((f_X7_reads mz zt zr).2.1)))] H := hP
  have hD : va_D A [(mO, .inr (7, [.ref mA, .ref mS, .ref mI, .ref mV, .int me, .ref mT, .ref mR, .int 0, .int (nI ((f_X7_reads mz zt zr).2.2)), .ref mW, .int (nI mr), .ref mN])), (mT, .inl (G.2.1, 10, .inl zt)), (mR, .inl (G.2.1, 4, .inl ((f_X7_reads mz zt zr).2.1)))] := hD
  refine lv_iload_n hx hb dX7_fault_15 rfl (lv_at hl 0 rfl) ?_
  refine lv_if_eq (tgt := 24) hx hb dX7_fault_16 (by decide) (fun c1 => ?_) (fun c1 => ?_)
  · have hf := (if_pos c1).symm.trans hf
    refine lv_aload_n hx hb dX7_fault_24 rfl (lv_at hl 1 rfl) ?_
    refine va_get (D := G.1) (ci := 7) (v := .int (nI ((f_X7_reads mz zt zr).2.2))) (C := RX7) (T := TX7) (N := 12) hx hb (ku_X7 hK.2) (fun _ h9 => h9) hown hK.1 hP 0 rfl rfl 8 (by decide) (kw_685 hK.2) (fun _ h9 => h9) rfl dX7_fault_25 ?_
    exact hret (nI ((f_X7_reads mz zt zr).2.2), (f_X7_reads mz zt zr).2.1, (f_X7_reads mz zt zr).2.2, 0) dX7_fault_28 rfl hf rfl hP hS
  · have hf := (if_neg c1).symm.trans hf
    refine lv_bipush (v := -9) hx hb dX7_fault_19 (by decide) ?_
    refine lv_goto (tgt := 28) hx hb dX7_fault_21 (by decide) ?_
    exact hret ((-9), (f_X7_reads mz zt zr).2.1, (f_X7_reads mz zt zr).2.2, 0) dX7_fault_28 rfl hf rfl hP hS
