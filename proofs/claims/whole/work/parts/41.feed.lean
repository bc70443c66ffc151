def f_X7_feed_39 (cm : Int64) : Nat → Nat → (Nat → Int32) → Nat → (Int32 × (Nat → Int32) × Nat)
  | 0, i39, b39, z39 => (nI z39, b39, z39)
  | k39 + 1, i39, b39, z39 => f_X7_feed_39 cm k39 (i39 + 1) (upd b39 z39 (((cm >>> ((nI (8 * i39) : Int32).toInt64 &&& 63)) &&& 255).toInt32)) (z39 + 1)
theorem f_X7_feed_39_z (cm : Int64) (i39 : Nat) (b39 : Nat → Int32) (z39 : Nat) : f_X7_feed_39 cm 0 i39 b39 z39 = (nI z39, b39, z39) := rfl
theorem f_X7_feed_39_s (cm : Int64) (k39 : Nat) (i39 : Nat) (b39 : Nat → Int32) (z39 : Nat) : f_X7_feed_39 cm (k39 + 1) i39 b39 z39 = f_X7_feed_39 cm k39 (i39 + 1) (upd b39 z39 (((cm >>> ((nI (8 * i39) : Int32).toInt64 &&& 63)) &&& 255).toInt32)) (z39 + 1) := rfl
def f_X7_feed (mz : Nat) (zt : Nat → Int32) (an : Nat) (cm : Int64) : Int32 × (Nat → Int32) × Nat := (f_X7_feed_39 cm an 0 zt mz)
set_option maxHeartbeats 4000000 in
set_option maxRecDepth 100000 in
theorem k_X7_feed (l : Launch) (G : wG) (mO : Nat) (mA : Nat) (mS : Nat) (mI : Nat) (mV : Nat) (mT : Nat) (mR : Nat) (mW : Nat) (mN : Nat) (me : Int32) (mz : Nat) (ma : Nat) (mr : Nat) (zf : Nat → Int32) (zt : Nat → Int32) (an : Nat) (cm : Int64) (hmz : mz ≤ 10) (ha1 : 1 ≤ an) (ha8 : an ≤ 8) (hza : mz + an ≤ 10) : CT l G yX7_feed cX7_feed 5 (some .int) ({ frames := 0, cells := 0, slots := 0, locals := 0 }) [.ref mO, .int (nI an), .long cm] [(mO, .inr (7, [.ref mA, .ref mS, .ref mI, .ref mV, .int me, .ref mT, .ref mR, .int (nI mz), .int (nI ma), .ref mW, .int (nI mr), .ref mN])), (mA, .inl (G.2.1, 7, .inl zf)), (mT, .inl (G.2.1, 10, .inl zt))] (fun u => [(mO, .inr (7, [.ref mA, .ref mS, .ref mI, .ref mV, .int me, .ref mT, .ref mR, .int (nI u.2.2), .int (nI ma), .ref mW, .int (nI mr), .ref mN])), (mA, .inl (G.2.1, 7, .inl zf)), (mT, .inl (G.2.1, 10, .inl u.2.1))]) (fun u => some (.int u.1)) (f_X7_feed mz zt an cm) := by
  obtain ⟨R, hf⟩ : ∃ R, f_X7_feed mz zt an cm = R := ⟨_, rfl⟩
  rw [hf]
  refine CT.mkI RX7 (by decide +kernel) rfl (Nat.le_of_ble_eq_true rfl) ?_
  intro p e s m args below meth c A Q ls hx hb hml hown hK hP hD hS hA hret hl
  have hl : lv_has ls 5 [(0, .ref mO), (1, .int (nI an)), (2, .long cm)] := hl
  rw [f_X7_feed] at hf
  refine lv_iload_n hx hb dX7_feed_0 rfl (lv_at hl 1 rfl) ?_
  refine lv_iconst (v := 1) hx hb dX7_feed_1 (by decide) ?_
  refine lv_icmp_ge (tgt := 12) hx hb dX7_feed_2 (by decide) (fun _ => ?_) (fun c => absurd (ile (a := 1) (b := an) rfl rfl (by omega) (by omega) (by omega)) c)
  refine lv_iload_n hx hb dX7_feed_12 rfl (lv_at hl 1 rfl) ?_
  refine lv_bipush (v := 8) hx hb dX7_feed_13 (by decide) ?_
  refine lv_icmp_gt (tgt := 29) hx hb dX7_feed_15 (by decide) (fun c => absurd c (inlt (a := 8) (b := an) rfl rfl (by omega) (by omega) (by omega))) (fun _ => ?_)
  refine lv_aload_n hx hb dX7_feed_18 rfl (lv_at hl 0 rfl) ?_
  refine va_get (D := G.1) (ci := 7) (v := .int (nI mz)) (C := RX7) (T := TX7) (N := 12) hx hb (ku_X7 hK.2) (fun _ h9 => h9) hown hK.1 hP 0 rfl rfl 7 (by decide) (kw_684 hK.2) (fun _ h9 => h9) rfl dX7_feed_19 ?_
  refine lv_iload_n hx hb dX7_feed_22 rfl (lv_at hl 1 rfl) ?_
  refine lv_iadd hx hb dX7_feed_23 ?_
  refine ww_e (nI_addE (a := mz) (b := an) rfl rfl) ?_
  refine lv_bipush (v := 10) hx hb dX7_feed_24 (by decide) ?_
  refine lv_icmp_le (tgt := 36) hx hb dX7_feed_26 (by decide) (fun _ => ?_) (fun c => absurd (ile (a := mz + an) (b := 10) rfl rfl (by omega) (by omega) (by omega)) c)
  refine lv_iconst (v := 0) hx hb dX7_feed_36 (by decide) ?_
  refine lv_istore (lv' := [(4, .int 0), (0, .ref mO), (1, .int (nI an)), (2, .long cm)]) hx hb dX7_feed_37 hl (by decide) rfl (fun ls hl => ?_)
  have L39 : ∀ (k39 : Nat) (i39 : Nat) (b39 : Nat → Int32) (z39 : Nat), k39 + i39 = an → (z39 + k39 ≤ 10) → f_X7_feed_39 cm k39 i39 b39 z39 = R → ∀ (H : Heap) (locs : List Loc) (ls : Array Slot), va_P G.1 wcl [(mO, .inr (7, [.ref mA, .ref mS, .ref mI, .ref mV, .int me, .ref mT, .ref mR, .int (nI z39), .int (nI ma), .ref mW, .int (nI mr), .ref mN])), (mA, .inl (G.2.1, 7, .inl zf)), (mT, .inl (G.2.1, 10, .inl b39))] H → va_D A [(mO, .inr (7, [.ref mA, .ref mS, .ref mI, .ref mV, .int me, .ref mT, .ref mR, .int (nI z39), .int (nI ma), .ref mW, .int (nI mr), .ref mN])), (mA, .inl (G.2.1, 7, .inl zf)), (mT, .inl (G.2.1, 10, .inl b39))] → va_S A s.heap H locs → lv_has ls 5 [(0, .ref mO), (1, .int (nI an)), (2, .long cm), (4, .int (nI i39))] → W p l e ({ frames := 0, cells := 0, slots := 0, locals := 0 }) s m args below meth c H locs 0 0 Q (F0 m 39 ls []) := by
    intro k39
    induction k39 with
    | zero =>
      intro i39 b39 z39 hi39 hz3 hf _ _ ls hP hD hS hl
      rw [f_X7_feed_39_z] at hf
      refine lv_iload hx hb dX7_feed_39 (lv_at hl 3 rfl) ?_
      refine lv_iload_n hx hb dX7_feed_41 rfl (lv_at hl 1 rfl) ?_
      refine lv_icmp_ge (tgt := 82) hx hb dX7_feed_42 (by decide) (fun _ => ?_) (fun c => absurd (ile (a := an) (b := i39) rfl rfl (by omega) (by omega) (by omega)) c)
      refine lv_aload_n hx hb dX7_feed_82 rfl (lv_at hl 0 rfl) ?_
      refine va_get (D := G.1) (ci := 7) (v := .int (nI z39)) (C := RX7) (T := TX7) (N := 12) hx hb (ku_X7 hK.2) (fun _ h9 => h9) hown hK.1 hP 0 rfl rfl 7 (by decide) (kw_684 hK.2) (fun _ h9 => h9) rfl dX7_feed_83 ?_
      exact hret (nI z39, b39, z39) dX7_feed_86 rfl hf rfl hP hS
    | succ k39 ih39 =>
      intro i39 b39 z39 hi39 hz3 hf _ _ ls hP hD hS hl
      rw [f_X7_feed_39_s] at hf
      refine lv_iload hx hb dX7_feed_39 (lv_at hl 3 rfl) ?_
      refine lv_iload_n hx hb dX7_feed_41 rfl (lv_at hl 1 rfl) ?_
      refine lv_icmp_ge (tgt := 82) hx hb dX7_feed_42 (by decide) (fun c => absurd c (inle (a := an) (b := i39) rfl rfl (by omega) (by omega) (by omega))) (fun _ => ?_)
      refine lv_aload_n hx hb dX7_feed_45 rfl (lv_at hl 0 rfl) ?_
      refine va_get (D := G.1) (ci := 7) (v := .ref mT) (C := RX7) (T := TX7) (N := 12) hx hb (ku_X7 hK.2) (fun _ h9 => h9) hown hK.1 hP 0 rfl rfl 5 (by decide) (kw_682 hK.2) (fun _ h9 => h9) rfl dX7_feed_46 ?_
      refine lv_aload_n hx hb dX7_feed_49 rfl (lv_at hl 0 rfl) ?_
      refine va_get (D := G.1) (ci := 7) (v := .int (nI z39)) (C := RX7) (T := TX7) (N := 12) hx hb (ku_X7 hK.2) (fun _ h9 => h9) hown hK.1 hP 0 rfl rfl 7 (by decide) (kw_684 hK.2) (fun _ h9 => h9) rfl dX7_feed_50 ?_
      refine lv_lload_n hx hb dX7_feed_53 rfl (lv_at hl 2 rfl) ?_
      refine lv_bipush (v := 8) hx hb dX7_feed_54 (by decide) ?_
      refine lv_iload hx hb dX7_feed_56 (lv_at hl 3 rfl) ?_
      refine lv_imul hx hb dX7_feed_58 ?_
      refine ww_e (nI_mulE (a := 8) (b := i39) rfl rfl) ?_
      refine lv_lshr (v := cm >>> ((nI (8 * i39) : Int32).toInt64 &&& 63)) hx hb dX7_feed_59 rfl ?_
      refine lv_ldc2 (v := 255) hx hb hown (kw_722 hK.2) dX7_feed_60 ?_
      refine lv_land hx hb dX7_feed_63 ?_
      refine lv_l2i (v := ((cm >>> ((nI (8 * i39) : Int32).toInt64 &&& 63)) &&& 255).toInt32) hx hb dX7_feed_64 rfl ?_
      refine ww_ist (j := z39) hx hb hK.1 hP hD hS 2 0 rfl rfl (by omega) (by omega) dX7_feed_65 (fun H locs hP hD hS => ?_)
      have hP : va_P G.1 wcl [(mO, .inr (7, [.ref mA, .ref mS, .ref mI, .ref mV, .int me, .ref mT, .ref mR, .int (nI z39), .int (nI ma), .ref mW, .int (nI mr), .ref mN])), (mA, .inl (G.2.1, 7, .inl zf)), (mT, .inl (G.2.1, 10, .inl (upd b39 z39 (((cm >>> ((nI (8 * i39) : Int32).toInt64 &&& 63)) &&& 255).toInt32))))] H := hP
      have hD : va_D A [(mO, .inr (7, [.ref mA, .ref mS, .ref mI, .ref mV, .int me, .ref mT, .ref mR, .int (nI z39), .int (nI ma), .ref mW, .int (nI mr), .ref mN])), (mA, .inl (G.2.1, 7, .inl zf)), (mT, .inl (G.2.1, 10, .inl (upd b39 z39 (((cm >>> ((nI (8 * i39) : Int32).toInt64 &&& 63)) &&& 255).toInt32))))] := hD
      refine lv_aload_n hx hb dX7_feed_66 rfl (lv_at hl 0 rfl) ?_
      refine lv_dup hx hb dX7_feed_67 rfl ?_
      refine va_get (D := G.1) (ci := 7) (v := .int (nI z39)) (C := RX7) (T := TX7) (N := 12) hx hb (ku_X7 hK.2) (fun _ h9 => h9) hown hK.1 hP 0 rfl rfl 7 (by decide) (kw_684 hK.2) (fun _ h9 => h9) rfl dX7_feed_68 ?_
      refine lv_iconst (v := 1) hx hb dX7_feed_71 (by decide) ?_
      refine lv_iadd hx hb dX7_feed_72 ?_
      refine ww_e (nI_addE (a := z39) (b := 1) rfl rfl) ?_
      refine va_put (D := G.1) (ci := 7) (v := .int (nI (z39 + 1))) (ty := .int) (C := RX7) (T := TX7) (N := 12) hx hb (ku_X7 hK.2) (fun _ h9 => h9) tyX7 tyX7_ok nmX7 hown hK.1 hP hD hS 0 rfl rfl 7 (by decide) (kw_684 hK.2) (fun _ h9 => h9) rfl (by decide +kernel) rfl rfl (Nat.le_of_ble_eq_true rfl) dX7_feed_73 (fun H locs hP hD hS => ?_)
      have hP : va_P G.1 wcl [(mO, .inr (7, [.ref mA, .ref mS, .ref mI, .ref mV, .int me, .ref mT, .ref mR, .int (nI (z39 + 1)), .int (nI ma), .ref mW, .int (nI mr), .ref mN])), (mA, .inl (G.2.1, 7, .inl zf)), (mT, .inl (G.2.1, 10, .inl (upd b39 z39 (((cm >>> ((nI (8 * i39) : Int32).toInt64 &&& 63)) &&& 255).toInt32))))] H := hP
      have hD : va_D A [(mO, .inr (7, [.ref mA, .ref mS, .ref mI, .ref mV, .int me, .ref mT, .ref mR, .int (nI (z39 + 1)), .int (nI ma), .ref mW, .int (nI mr), .ref mN])), (mA, .inl (G.2.1, 7, .inl zf)), (mT, .inl (G.2.1, 10, .inl (upd b39 z39 (((cm >>> ((nI (8 * i39) : Int32).toInt64 &&& 63)) &&& 255).toInt32))))] := hD
      refine lv_iinc (v := nI (i39 + 1)) (lv' := [(4, .int (nI (i39 + 1))), (0, .ref mO), (1, .int (nI an)), (2, .long cm)]) hx hb dX7_feed_76 hl (k := 3) rfl (nI_1 i39) (by decide) rfl (fun ls hl => ?_)
      refine lv_goto (tgt := 39) hx hb dX7_feed_79 (by decide) ?_
      exact ih39 (i39 + 1) (upd b39 z39 (((cm >>> ((nI (8 * i39) : Int32).toInt64 &&& 63)) &&& 255).toInt32)) (z39 + 1) (by omega) (by omega) hf _ _ ls hP hD hS (lv_sub hl [1, 2, 3, 0] rfl)
  exact L39 an 0 zt mz (by omega) (by omega) hf _ _ ls hP hD hS (lv_sub hl [1, 2, 3, 0] rfl)
def f_X7_feed_A (mz : Nat) (zf : Nat → Int32) (nx : Int32) : Int32 × (Nat → Int32) := (if (1 : Int32) ≤ nx then (if (8 : Int32) < nx then ((f_X7_refuse zf (-6)).1, (f_X7_refuse zf (-6)).2) else (if ((nI mz) + nx) ≤ 10 then default else ((f_X7_refuse zf (-6)).1, (f_X7_refuse zf (-6)).2))) else ((f_X7_refuse zf (-4)).1, (f_X7_refuse zf (-4)).2))
set_option maxHeartbeats 4000000 in
set_option maxRecDepth 100000 in
theorem k_X7_feed_A (l : Launch) (G : wG) (mO : Nat) (mA : Nat) (mS : Nat) (mI : Nat) (mV : Nat) (mT : Nat) (mR : Nat) (mW : Nat) (mN : Nat) (me : Int32) (mz : Nat) (ma : Nat) (mr : Nat) (zf : Nat → Int32) (zt : Nat → Int32) (nx : Int32) (cm : Int64) (hmz : mz ≤ 10) (hbad : nx < 1 ∨ 8 < nx ∨ 10 < nI mz + nx) : CT l G yX7_feed cX7_feed 5 (some .int) ({ frames := 1, cells := 0, slots := 0, locals := 21 }) [.ref mO, .int nx, .long cm] [(mO, .inr (7, [.ref mA, .ref mS, .ref mI, .ref mV, .int me, .ref mT, .ref mR, .int (nI mz), .int (nI ma), .ref mW, .int (nI mr), .ref mN])), (mA, .inl (G.2.1, 7, .inl zf)), (mT, .inl (G.2.1, 10, .inl zt))] (fun u => [(mO, .inr (7, [.ref mA, .ref mS, .ref mI, .ref mV, .int me, .ref mT, .ref mR, .int (nI mz), .int (nI ma), .ref mW, .int (nI mr), .ref mN])), (mA, .inl (G.2.1, 7, .inl u.2)), (mT, .inl (G.2.1, 10, .inl zt))]) (fun u => some (.int u.1)) (f_X7_feed_A mz zf nx) := by
  obtain ⟨R, hf⟩ : ∃ R, f_X7_feed_A mz zf nx = R := ⟨_, rfl⟩
  rw [hf]
  refine CT.mkI RX7 (by decide +kernel) rfl (Nat.le_of_ble_eq_true rfl) ?_
  intro p e s m args below meth c A Q ls hx hb hml hown hK hP hD hS hA hret hl
  have hl : lv_has ls 5 [(0, .ref mO), (1, .int nx), (2, .long cm)] := hl
  rw [f_X7_feed_A] at hf
  refine lv_iload_n hx hb dX7_feed_0 rfl (lv_at hl 1 rfl) ?_
  refine lv_iconst (v := 1) hx hb dX7_feed_1 (by decide) ?_
  refine lv_icmp_ge (tgt := 12) hx hb dX7_feed_2 (by decide) (fun c1 => ?_) (fun c1 => ?_)
  · have hf := (if_pos c1).symm.trans hf
    refine lv_iload_n hx hb dX7_feed_12 rfl (lv_at hl 1 rfl) ?_
    refine lv_bipush (v := 8) hx hb dX7_feed_13 (by decide) ?_
    refine lv_icmp_gt (tgt := 29) hx hb dX7_feed_15 (by decide) (fun c2 => ?_) (fun c2 => ?_)
    · have hf := (if_pos c2).symm.trans hf
      refine lv_aload_n hx hb dX7_feed_29 rfl (lv_at hl 0 rfl) ?_
      refine lv_bipush (v := -6) hx hb dX7_feed_30 (by decide) ?_
      refine cl_V (q := (RX7, TX7, 12)) (ws' := [(mO, .inr (7, [.ref mA, .ref mS, .ref mI, .ref mV, .int me, .ref mT, .ref mR, .int (nI mz), .int (nI ma), .ref mW, .int (nI mr), .ref mN])), (mA, .inl (G.2.1, 7, .inl ((f_X7_refuse zf (-6)).2))), (mT, .inl (G.2.1, 10, .inl zt))]) (v := (some (.int ((f_X7_refuse zf (-6)).1)))) (st1 := [.int ((f_X7_refuse zf (-6)).1)]) (rest := []) (As := [.int (-6)]) [0, 1] 0 7 hx hb hml hown hK (k_X7_refuse l G mO mA mS mI mV mT mR mW mN me mz ma mr zf (-6) vp7_6) (mf_X7_refuse hK.2) (kw_720 hK.2) (kw_11 hK.2) (kw_718 hK.2) ⟨rfl, rfl, Nat.le_of_ble_eq_true rfl, Nat.le_of_ble_eq_true rfl⟩ rfl hP hD hS hA rfl rfl hl (Nat.le_of_ble_eq_true rfl) rfl ⟨Nat.le_of_ble_eq_true rfl, Nat.le_of_ble_eq_true rfl⟩ rfl dX7_feed_32 rfl rfl (rpl_fast (by decide) rfl rfl) rfl rfl rfl (fun H locs hP hD hS => ?_)
      exact hret ((f_X7_refuse zf (-6)).1, (f_X7_refuse zf (-6)).2) dX7_feed_35 rfl hf rfl hP hS
    · have hf := (if_neg c2).symm.trans hf
      refine lv_aload_n hx hb dX7_feed_18 rfl (lv_at hl 0 rfl) ?_
      refine va_get (D := G.1) (ci := 7) (v := .int (nI mz)) (C := RX7) (T := TX7) (N := 12) hx hb (ku_X7 hK.2) (fun _ h9 => h9) hown hK.1 hP 0 rfl rfl 7 (by decide) (kw_684 hK.2) (fun _ h9 => h9) rfl dX7_feed_19 ?_
      refine lv_iload_n hx hb dX7_feed_22 rfl (lv_at hl 1 rfl) ?_
      refine lv_iadd hx hb dX7_feed_23 ?_
      refine lv_bipush (v := 10) hx hb dX7_feed_24 (by decide) ?_
      refine lv_icmp_le (tgt := 36) hx hb dX7_feed_26 (by decide) (fun c3 => ?_) (fun c3 => ?_)
      · have hf := (if_pos c3).symm.trans hf
        rcases hbad with h | h | h <;> first | contradiction | exact absurd h (Int32.not_lt.mpr (by assumption)) | exact absurd (by assumption : (1 : Int32) ≤ nx) (Int32.not_le.mpr h)
      · have hf := (if_neg c3).symm.trans hf
        refine lv_aload_n hx hb dX7_feed_29 rfl (lv_at hl 0 rfl) ?_
        refine lv_bipush (v := -6) hx hb dX7_feed_30 (by decide) ?_
        refine cl_V (q := (RX7, TX7, 12)) (ws' := [(mO, .inr (7, [.ref mA, .ref mS, .ref mI, .ref mV, .int me, .ref mT, .ref mR, .int (nI mz), .int (nI ma), .ref mW, .int (nI mr), .ref mN])), (mA, .inl (G.2.1, 7, .inl ((f_X7_refuse zf (-6)).2))), (mT, .inl (G.2.1, 10, .inl zt))]) (v := (some (.int ((f_X7_refuse zf (-6)).1)))) (st1 := [.int ((f_X7_refuse zf (-6)).1)]) (rest := []) (As := [.int (-6)]) [0, 1] 0 7 hx hb hml hown hK (k_X7_refuse l G mO mA mS mI mV mT mR mW mN me mz ma mr zf (-6) vp7_6) (mf_X7_refuse hK.2) (kw_720 hK.2) (kw_11 hK.2) (kw_718 hK.2) ⟨rfl, rfl, Nat.le_of_ble_eq_true rfl, Nat.le_of_ble_eq_true rfl⟩ rfl hP hD hS hA rfl rfl hl (Nat.le_of_ble_eq_true rfl) rfl ⟨Nat.le_of_ble_eq_true rfl, Nat.le_of_ble_eq_true rfl⟩ rfl dX7_feed_32 rfl rfl (rpl_fast (by decide) rfl rfl) rfl rfl rfl (fun H locs hP hD hS => ?_)
        exact hret ((f_X7_refuse zf (-6)).1, (f_X7_refuse zf (-6)).2) dX7_feed_35 rfl hf rfl hP hS
  · have hf := (if_neg c1).symm.trans hf
    refine lv_aload_n hx hb dX7_feed_5 rfl (lv_at hl 0 rfl) ?_
    refine lv_bipush (v := -4) hx hb dX7_feed_6 (by decide) ?_
    refine cl_V (q := (RX7, TX7, 12)) (ws' := [(mO, .inr (7, [.ref mA, .ref mS, .ref mI, .ref mV, .int me, .ref mT, .ref mR, .int (nI mz), .int (nI ma), .ref mW, .int (nI mr), .ref mN])), (mA, .inl (G.2.1, 7, .inl ((f_X7_refuse zf (-4)).2))), (mT, .inl (G.2.1, 10, .inl zt))]) (v := (some (.int ((f_X7_refuse zf (-4)).1)))) (st1 := [.int ((f_X7_refuse zf (-4)).1)]) (rest := []) (As := [.int (-4)]) [0, 1] 0 7 hx hb hml hown hK (k_X7_refuse l G mO mA mS mI mV mT mR mW mN me mz ma mr zf (-4) vp7_4) (mf_X7_refuse hK.2) (kw_720 hK.2) (kw_11 hK.2) (kw_718 hK.2) ⟨rfl, rfl, Nat.le_of_ble_eq_true rfl, Nat.le_of_ble_eq_true rfl⟩ rfl hP hD hS hA rfl rfl hl (Nat.le_of_ble_eq_true rfl) rfl ⟨Nat.le_of_ble_eq_true rfl, Nat.le_of_ble_eq_true rfl⟩ rfl dX7_feed_8 rfl rfl (rpl_fast (by decide) rfl rfl) rfl rfl rfl (fun H locs hP hD hS => ?_)
    exact hret ((f_X7_refuse zf (-4)).1, (f_X7_refuse zf (-4)).2) dX7_feed_11 rfl hf rfl hP hS
def f_X6_feed (tz : Nat) (tb : Nat → Int32) (an : Nat) (cm : Int64) : Int32 × (Nat → Int32) × Nat := (nI ((f_X4_append tz tb an cm).2), (f_X4_append tz tb an cm).1, (f_X4_append tz tb an cm).2)
set_option maxHeartbeats 4000000 in
set_option maxRecDepth 100000 in
theorem k_X6_feed (l : Launch) (G : wG) (WO : Nat) (SN : Nat) (ST : Nat) (tO : Nat) (rA : Nat) (fA : Nat) (YO : Nat) (FO : Nat) (we : Int32) (rz : Nat) (ff : Nat → Int32) (tA : Nat) (tz : Nat) (tw : Int32) (tk : Int32) (tm : Int32) (tf : Int32) (tb : Nat → Int32) (an : Nat) (cm : Int64) (htz : tz ≤ 10) (ha1 : 1 ≤ an) (ha8 : an ≤ 8) (hza : tz + an ≤ 10) : CT l G yX6_feed cX6_feed 4 (some .int) ({ frames := 1, cells := 0, slots := 0, locals := 24 }) [.ref WO, .int (nI an), .long cm] [(WO, .inr (6, [.ref SN, .ref ST, .int we, .ref tO, .ref rA, .int (nI rz), .ref fA, .ref YO, .ref FO])), (fA, .inl (G.2.1, 7, .inl ff)), (tO, .inr (4, [.ref tA, .int (nI tz), .int tw, .int tk, .int tm, .int tf])), (tA, .inl (G.2.1, 10, .inl tb))] (fun u => [(WO, .inr (6, [.ref SN, .ref ST, .int we, .ref tO, .ref rA, .int (nI rz), .ref fA, .ref YO, .ref FO])), (fA, .inl (G.2.1, 7, .inl ff)), (tO, .inr (4, [.ref tA, .int (nI u.2.2), .int tw, .int tk, .int tm, .int tf])), (tA, .inl (G.2.1, 10, .inl u.2.1))]) (fun u => some (.int u.1)) (f_X6_feed tz tb an cm) := by
  obtain ⟨R, hf⟩ : ∃ R, f_X6_feed tz tb an cm = R := ⟨_, rfl⟩
  rw [hf]
  refine CT.mkI RX6 (by decide +kernel) rfl (Nat.le_of_ble_eq_true rfl) ?_
  intro p e s m args below meth c A Q ls hx hb hml hown hK hP hD hS hA hret hl
  have hl : lv_has ls 4 [(0, .ref WO), (1, .int (nI an)), (2, .long cm)] := hl
  rw [f_X6_feed] at hf
  refine lv_iload_n hx hb dX6_feed_0 rfl (lv_at hl 1 rfl) ?_
  refine lv_iconst (v := 1) hx hb dX6_feed_1 (by decide) ?_
  refine lv_icmp_ge (tgt := 12) hx hb dX6_feed_2 (by decide) (fun _ => ?_) (fun c => absurd (ile (a := 1) (b := an) rfl rfl (by omega) (by omega) (by omega)) c)
  refine lv_iload_n hx hb dX6_feed_12 rfl (lv_at hl 1 rfl) ?_
  refine lv_bipush (v := 8) hx hb dX6_feed_13 (by decide) ?_
  refine lv_icmp_gt (tgt := 32) hx hb dX6_feed_15 (by decide) (fun c => absurd c (inlt (a := 8) (b := an) rfl rfl (by omega) (by omega) (by omega))) (fun _ => ?_)
  refine lv_aload_n hx hb dX6_feed_18 rfl (lv_at hl 0 rfl) ?_
  refine va_get (D := G.1) (ci := 6) (v := .ref tO) (C := RX6) (T := TX6) (N := 9) hx hb (ku_X6 hK.2) (fun _ h9 => h9) hown hK.1 hP 0 rfl rfl 3 (by decide) (kw_226 hK.2) (fun _ h9 => h9) rfl dX6_feed_19 ?_
  refine va_getN (D := G.1) (ci := 4) (v := .int (nI tz)) (C := RX4) (T := TX4) (N := 6) hx hb (ku_X4 hK.2) (fun _ h9 => h9) hown hK.1 hP 2 rfl rfl 1 (by decide) (kw_161 hK.2) (fun _ h9 => h9) rfl dX6_feed_22 ?_
  refine lv_iload_n hx hb dX6_feed_25 rfl (lv_at hl 1 rfl) ?_
  refine lv_iadd hx hb dX6_feed_26 ?_
  refine ww_e (nI_addE (a := tz) (b := an) rfl rfl) ?_
  refine lv_bipush (v := 10) hx hb dX6_feed_27 (by decide) ?_
  refine lv_icmp_le (tgt := 39) hx hb dX6_feed_29 (by decide) (fun _ => ?_) (fun c => absurd (ile (a := tz + an) (b := 10) rfl rfl (by omega) (by omega) (by omega)) c)
  refine lv_aload_n hx hb dX6_feed_39 rfl (lv_at hl 0 rfl) ?_
  refine va_get (D := G.1) (ci := 6) (v := .ref tO) (C := RX6) (T := TX6) (N := 9) hx hb (ku_X6 hK.2) (fun _ h9 => h9) hown hK.1 hP 0 rfl rfl 3 (by decide) (kw_226 hK.2) (fun _ h9 => h9) rfl dX6_feed_40 ?_
  refine lv_iload_n hx hb dX6_feed_43 rfl (lv_at hl 1 rfl) ?_
  refine lv_lload_n hx hb dX6_feed_44 rfl (lv_at hl 2 rfl) ?_
  refine cl_V (q := (RX4, TX4, 6)) (ws' := [(WO, .inr (6, [.ref SN, .ref ST, .int we, .ref tO, .ref rA, .int (nI rz), .ref fA, .ref YO, .ref FO])), (fA, .inl (G.2.1, 7, .inl ff)), (tO, .inr (4, [.ref tA, .int (nI ((f_X4_append tz tb an cm).2)), .int tw, .int tk, .int tm, .int tf])), (tA, .inl (G.2.1, 10, .inl ((f_X4_append tz tb an cm).1)))]) (v := none) (st1 := []) (rest := []) (As := [.int (nI an), .long cm]) [2, 3] 2 4 hx hb hml hown hK (k_X4_append l G tO tA tz tw tk tm tf tb an cm htz hza) (mf_X4_append hK.2) (kw_260 hK.2) (kw_261 hK.2) (kw_259 hK.2) ⟨rfl, rfl, Nat.le_of_ble_eq_true rfl, Nat.le_of_ble_eq_true rfl⟩ rfl hP hD hS hA rfl rfl hl (Nat.le_of_ble_eq_true rfl) rfl ⟨Nat.le_of_ble_eq_true rfl, Nat.le_of_ble_eq_true rfl⟩ rfl dX6_feed_45 rfl rfl (rpl_fast (by decide) rfl rfl) rfl rfl rfl (fun H locs hP hD hS => ?_)
  refine lv_aload_n hx hb dX6_feed_48 rfl (lv_at hl 0 rfl) ?_
  refine va_get (D := G.1) (ci := 6) (v := .ref tO) (C := RX6) (T := TX6) (N := 9) hx hb (ku_X6 hK.2) (fun _ h9 => h9) hown hK.1 hP 0 rfl rfl 3 (by decide) (kw_226 hK.2) (fun _ h9 => h9) rfl dX6_feed_49 ?_
  refine va_getN (D := G.1) (ci := 4) (v := .int (nI ((f_X4_append tz tb an cm).2))) (C := RX4) (T := TX4) (N := 6) hx hb (ku_X4 hK.2) (fun _ h9 => h9) hown hK.1 hP 2 rfl rfl 1 (by decide) (kw_161 hK.2) (fun _ h9 => h9) rfl dX6_feed_52 ?_
  exact hret (nI ((f_X4_append tz tb an cm).2), (f_X4_append tz tb an cm).1, (f_X4_append tz tb an cm).2) dX6_feed_55 rfl hf rfl hP hS
def f_X6_feed_A (ff : Nat → Int32) (tz : Nat) (nx : Int32) : Int32 × (Nat → Int32) := (if (1 : Int32) ≤ nx then (if (8 : Int32) < nx then ((f_X6_refuse ff (-6)).1, (f_X6_refuse ff (-6)).2) else (if ((nI tz) + nx) ≤ 10 then default else ((f_X6_refuse ff (-6)).1, (f_X6_refuse ff (-6)).2))) else ((f_X6_refuse ff (-4)).1, (f_X6_refuse ff (-4)).2))
set_option maxHeartbeats 4000000 in
set_option maxRecDepth 100000 in
theorem k_X6_feed_A (l : Launch) (G : wG) (WO : Nat) (SN : Nat) (ST : Nat) (tO : Nat) (rA : Nat) (fA : Nat) (YO : Nat) (FO : Nat) (we : Int32) (rz : Nat) (ff : Nat → Int32) (tA : Nat) (tz : Nat) (tw : Int32) (tk : Int32) (tm : Int32) (tf : Int32) (tb : Nat → Int32) (nx : Int32) (cm : Int64) (htz : tz ≤ 10) (hbad : nx < 1 ∨ 8 < nx ∨ 10 < nI tz + nx) : CT l G yX6_feed cX6_feed 4 (some .int) ({ frames := 1, cells := 0, slots := 0, locals := 22 }) [.ref WO, .int nx, .long cm] [(WO, .inr (6, [.ref SN, .ref ST, .int we, .ref tO, .ref rA, .int (nI rz), .ref fA, .ref YO, .ref FO])), (fA, .inl (G.2.1, 7, .inl ff)), (tO, .inr (4, [.ref tA, .int (nI tz), .int tw, .int tk, .int tm, .int tf])), (tA, .inl (G.2.1, 10, .inl tb))] (fun u => [(WO, .inr (6, [.ref SN, .ref ST, .int we, .ref tO, .ref rA, .int (nI rz), .ref fA, .ref YO, .ref FO])), (fA, .inl (G.2.1, 7, .inl u.2)), (tO, .inr (4, [.ref tA, .int (nI tz), .int tw, .int tk, .int tm, .int tf])), (tA, .inl (G.2.1, 10, .inl tb))]) (fun u => some (.int u.1)) (f_X6_feed_A ff tz nx) := by
  obtain ⟨R, hf⟩ : ∃ R, f_X6_feed_A ff tz nx = R := ⟨_, rfl⟩
  rw [hf]
  refine CT.mkI RX6 (by decide +kernel) rfl (Nat.le_of_ble_eq_true rfl) ?_
  intro p e s m args below meth c A Q ls hx hb hml hown hK hP hD hS hA hret hl
  have hl : lv_has ls 4 [(0, .ref WO), (1, .int nx), (2, .long cm)] := hl
  rw [f_X6_feed_A] at hf
  refine lv_iload_n hx hb dX6_feed_0 rfl (lv_at hl 1 rfl) ?_
  refine lv_iconst (v := 1) hx hb dX6_feed_1 (by decide) ?_
  refine lv_icmp_ge (tgt := 12) hx hb dX6_feed_2 (by decide) (fun c1 => ?_) (fun c1 => ?_)
  · have hf := (if_pos c1).symm.trans hf
    refine lv_iload_n hx hb dX6_feed_12 rfl (lv_at hl 1 rfl) ?_
    refine lv_bipush (v := 8) hx hb dX6_feed_13 (by decide) ?_
    refine lv_icmp_gt (tgt := 32) hx hb dX6_feed_15 (by decide) (fun c2 => ?_) (fun c2 => ?_)
    · have hf := (if_pos c2).symm.trans hf
      refine lv_aload_n hx hb dX6_feed_32 rfl (lv_at hl 0 rfl) ?_
      refine lv_bipush (v := -6) hx hb dX6_feed_33 (by decide) ?_
      refine cl_V (q := (RX6, TX6, 9)) (ws' := [(WO, .inr (6, [.ref SN, .ref ST, .int we, .ref tO, .ref rA, .int (nI rz), .ref fA, .ref YO, .ref FO])), (fA, .inl (G.2.1, 7, .inl ((f_X6_refuse ff (-6)).2))), (tO, .inr (4, [.ref tA, .int (nI tz), .int tw, .int tk, .int tm, .int tf])), (tA, .inl (G.2.1, 10, .inl tb))]) (v := (some (.int ((f_X6_refuse ff (-6)).1)))) (st1 := [.int ((f_X6_refuse ff (-6)).1)]) (rest := []) (As := [.int (-6)]) [0, 1] 0 6 hx hb hml hown hK (k_X6_refuse l G WO SN ST tO rA fA YO FO we rz ff (-6) ) (mf_X6_refuse hK.2) (kw_257 hK.2) (kw_0 hK.2) (kw_255 hK.2) ⟨rfl, rfl, Nat.le_of_ble_eq_true rfl, Nat.le_of_ble_eq_true rfl⟩ rfl hP hD hS hA rfl rfl hl (Nat.le_of_ble_eq_true rfl) rfl ⟨Nat.le_of_ble_eq_true rfl, Nat.le_of_ble_eq_true rfl⟩ rfl dX6_feed_35 rfl rfl (rpl_fast (by decide) rfl rfl) rfl rfl rfl (fun H locs hP hD hS => ?_)
      exact hret ((f_X6_refuse ff (-6)).1, (f_X6_refuse ff (-6)).2) dX6_feed_38 rfl hf rfl hP hS
    · have hf := (if_neg c2).symm.trans hf
      refine lv_aload_n hx hb dX6_feed_18 rfl (lv_at hl 0 rfl) ?_
      refine va_get (D := G.1) (ci := 6) (v := .ref tO) (C := RX6) (T := TX6) (N := 9) hx hb (ku_X6 hK.2) (fun _ h9 => h9) hown hK.1 hP 0 rfl rfl 3 (by decide) (kw_226 hK.2) (fun _ h9 => h9) rfl dX6_feed_19 ?_
      refine va_getN (D := G.1) (ci := 4) (v := .int (nI tz)) (C := RX4) (T := TX4) (N := 6) hx hb (ku_X4 hK.2) (fun _ h9 => h9) hown hK.1 hP 2 rfl rfl 1 (by decide) (kw_161 hK.2) (fun _ h9 => h9) rfl dX6_feed_22 ?_
      refine lv_iload_n hx hb dX6_feed_25 rfl (lv_at hl 1 rfl) ?_
      refine lv_iadd hx hb dX6_feed_26 ?_
      refine lv_bipush (v := 10) hx hb dX6_feed_27 (by decide) ?_
      refine lv_icmp_le (tgt := 39) hx hb dX6_feed_29 (by decide) (fun c3 => ?_) (fun c3 => ?_)
      · have hf := (if_pos c3).symm.trans hf
        rcases hbad with h | h | h <;> first | contradiction | exact absurd h (Int32.not_lt.mpr (by assumption)) | exact absurd (by assumption : (1 : Int32) ≤ nx) (Int32.not_le.mpr h)
      · have hf := (if_neg c3).symm.trans hf
        refine lv_aload_n hx hb dX6_feed_32 rfl (lv_at hl 0 rfl) ?_
        refine lv_bipush (v := -6) hx hb dX6_feed_33 (by decide) ?_
        refine cl_V (q := (RX6, TX6, 9)) (ws' := [(WO, .inr (6, [.ref SN, .ref ST, .int we, .ref tO, .ref rA, .int (nI rz), .ref fA, .ref YO, .ref FO])), (fA, .inl (G.2.1, 7, .inl ((f_X6_refuse ff (-6)).2))), (tO, .inr (4, [.ref tA, .int (nI tz), .int tw, .int tk, .int tm, .int tf])), (tA, .inl (G.2.1, 10, .inl tb))]) (v := (some (.int ((f_X6_refuse ff (-6)).1)))) (st1 := [.int ((f_X6_refuse ff (-6)).1)]) (rest := []) (As := [.int (-6)]) [0, 1] 0 6 hx hb hml hown hK (k_X6_refuse l G WO SN ST tO rA fA YO FO we rz ff (-6) ) (mf_X6_refuse hK.2) (kw_257 hK.2) (kw_0 hK.2) (kw_255 hK.2) ⟨rfl, rfl, Nat.le_of_ble_eq_true rfl, Nat.le_of_ble_eq_true rfl⟩ rfl hP hD hS hA rfl rfl hl (Nat.le_of_ble_eq_true rfl) rfl ⟨Nat.le_of_ble_eq_true rfl, Nat.le_of_ble_eq_true rfl⟩ rfl dX6_feed_35 rfl rfl (rpl_fast (by decide) rfl rfl) rfl rfl rfl (fun H locs hP hD hS => ?_)
        exact hret ((f_X6_refuse ff (-6)).1, (f_X6_refuse ff (-6)).2) dX6_feed_38 rfl hf rfl hP hS
  · have hf := (if_neg c1).symm.trans hf
    refine lv_aload_n hx hb dX6_feed_5 rfl (lv_at hl 0 rfl) ?_
    refine lv_bipush (v := -4) hx hb dX6_feed_6 (by decide) ?_
    refine cl_V (q := (RX6, TX6, 9)) (ws' := [(WO, .inr (6, [.ref SN, .ref ST, .int we, .ref tO, .ref rA, .int (nI rz), .ref fA, .ref YO, .ref FO])), (fA, .inl (G.2.1, 7, .inl ((f_X6_refuse ff (-4)).2))), (tO, .inr (4, [.ref tA, .int (nI tz), .int tw, .int tk, .int tm, .int tf])), (tA, .inl (G.2.1, 10, .inl tb))]) (v := (some (.int ((f_X6_refuse ff (-4)).1)))) (st1 := [.int ((f_X6_refuse ff (-4)).1)]) (rest := []) (As := [.int (-4)]) [0, 1] 0 6 hx hb hml hown hK (k_X6_refuse l G WO SN ST tO rA fA YO FO we rz ff (-4) ) (mf_X6_refuse hK.2) (kw_257 hK.2) (kw_0 hK.2) (kw_255 hK.2) ⟨rfl, rfl, Nat.le_of_ble_eq_true rfl, Nat.le_of_ble_eq_true rfl⟩ rfl hP hD hS hA rfl rfl hl (Nat.le_of_ble_eq_true rfl) rfl ⟨Nat.le_of_ble_eq_true rfl, Nat.le_of_ble_eq_true rfl⟩ rfl dX6_feed_8 rfl rfl (rpl_fast (by decide) rfl rfl) rfl rfl rfl (fun H locs hP hD hS => ?_)
    exact hret ((f_X6_refuse ff (-4)).1, (f_X6_refuse ff (-4)).2) dX6_feed_11 rfl hf rfl hP hS
