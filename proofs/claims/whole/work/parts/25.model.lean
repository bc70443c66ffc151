def f_X7_image_2 (zs : Nat → Int32) : Nat → Nat → (Nat → Int32) → (Int32 × (Nat → Int32) × Int32)
  | 0, i2, i2r => ((zs 160) + (zs 161), i2r, 1)
  | k2 + 1, i2, i2r => f_X7_image_2 zs k2 (i2 + 1) (upd i2r i2 (zs i2))
theorem f_X7_image_2_z (zs : Nat → Int32) (i2 : Nat) (i2r : Nat → Int32) : f_X7_image_2 zs 0 i2 i2r = ((zs 160) + (zs 161), i2r, 1) := rfl
theorem f_X7_image_2_s (zs : Nat → Int32) (k2 : Nat) (i2 : Nat) (i2r : Nat → Int32) : f_X7_image_2 zs (k2 + 1) i2 i2r = f_X7_image_2 zs k2 (i2 + 1) (upd i2r i2 (zs i2)) := rfl
def f_X7_image (zs : Nat → Int32) (zi : Nat → Int32) : Int32 × (Nat → Int32) × Int32 := (f_X7_image_2 zs 259 0 zi)
set_option maxHeartbeats 4000000 in
set_option maxRecDepth 100000 in
theorem k_X7_image (l : Launch) (G : wG) (mO : Nat) (mA : Nat) (mS : Nat) (mI : Nat) (mV : Nat) (mT : Nat) (mR : Nat) (mW : Nat) (mN : Nat) (me : Int32) (mz : Nat) (ma : Nat) (mr : Nat) (zs : Nat → Int32) (zi : Nat → Int32)  : CT l G yX7_image cX7_image 2 (some .int) ({ frames := 0, cells := 0, slots := 0, locals := 0 }) [.ref mO] [(mO, .inr (7, [.ref mA, .ref mS, .ref mI, .ref mV, .int me, .ref mT, .ref mR, .int (nI mz), .int (nI ma), .ref mW, .int (nI mr), .ref mN])), (mS, .inl (G.2.1, 259, .inl zs)), (mI, .inl (G.2.1, 259, .inl zi))] (fun u => [(mO, .inr (7, [.ref mA, .ref mS, .ref mI, .ref mV, .int u.2.2, .ref mT, .ref mR, .int (nI mz), .int (nI ma), .ref mW, .int (nI mr), .ref mN])), (mS, .inl (G.2.1, 259, .inl zs)), (mI, .inl (G.2.1, 259, .inl u.2.1))]) (fun u => some (.int u.1)) (f_X7_image zs zi) := by
  obtain ⟨R, hf⟩ : ∃ R, f_X7_image zs zi = R := ⟨_, rfl⟩
  rw [hf]
  refine CT.mkI RX7 (by decide +kernel) rfl (Nat.le_of_ble_eq_true rfl) ?_
  intro p e s m args below meth c A Q ls hx hb hml hown hK hP hD hS hA hret hl
  have hl : lv_has ls 2 [(0, .ref mO)] := hl
  rw [f_X7_image] at hf
  refine lv_iconst (v := 0) hx hb dX7_image_0 (by decide) ?_
  refine lv_istore_n (lv' := [(1, .int 0), (0, .ref mO)]) hx hb dX7_image_1 rfl hl (by decide) rfl (fun ls hl => ?_)
  have L2 : ∀ (k2 : Nat) (i2 : Nat) (i2r : Nat → Int32), k2 + i2 = 259 → f_X7_image_2 zs k2 i2 i2r = R → ∀ (H : Heap) (locs : List Loc) (ls : Array Slot), va_P G.1 wcl [(mO, .inr (7, [.ref mA, .ref mS, .ref mI, .ref mV, .int me, .ref mT, .ref mR, .int (nI mz), .int (nI ma), .ref mW, .int (nI mr), .ref mN])), (mS, .inl (G.2.1, 259, .inl zs)), (mI, .inl (G.2.1, 259, .inl i2r))] H → va_D A [(mO, .inr (7, [.ref mA, .ref mS, .ref mI, .ref mV, .int me, .ref mT, .ref mR, .int (nI mz), .int (nI ma), .ref mW, .int (nI mr), .ref mN])), (mS, .inl (G.2.1, 259, .inl zs)), (mI, .inl (G.2.1, 259, .inl i2r))] → va_S A s.heap H locs → lv_has ls 2 [(0, .ref mO), (1, .int (nI i2))] → W p l e ({ frames := 0, cells := 0, slots := 0, locals := 0 }) s m args below meth c H locs 0 0 Q (F0 m 2 ls []) := by
    intro k2
    induction k2 with
    | zero =>
      intro i2 i2r hi2  hf _ _ ls hP hD hS hl
      rw [f_X7_image_2_z] at hf
      refine lv_iload_n hx hb dX7_image_2 rfl (lv_at hl 1 rfl) ?_
      refine lv_sipush (v := 259) hx hb dX7_image_3 (by decide) ?_
      refine lv_icmp_ge (tgt := 27) hx hb dX7_image_6 (by decide) (fun _ => ?_) (fun c => absurd (ile (a := 259) (b := i2) rfl rfl (by omega) (by omega) (by omega)) c)
      refine lv_aload_n hx hb dX7_image_27 rfl (lv_at hl 0 rfl) ?_
      refine lv_iconst (v := 1) hx hb dX7_image_28 (by decide) ?_
      refine va_put (D := G.1) (ci := 7) (v := .int 1) (ty := .boolean) (C := RX7) (T := TX7) (N := 12) hx hb (ku_X7 hK.2) (fun _ h9 => h9) tyX7 tyX7_ok nmX7 hown hK.1 hP hD hS 0 rfl rfl 4 (by decide) (kw_681 hK.2) (fun _ h9 => h9) rfl (by decide +kernel) rfl rfl (Nat.le_of_ble_eq_true rfl) dX7_image_29 (fun H locs hP hD hS => ?_)
      have hP : va_P G.1 wcl [(mO, .inr (7, [.ref mA, .ref mS, .ref mI, .ref mV, .int 1, .ref mT, .ref mR, .int (nI mz), .int (nI ma), .ref mW, .int (nI mr), .ref mN])), (mS, .inl (G.2.1, 259, .inl zs)), (mI, .inl (G.2.1, 259, .inl i2r))] H := hP
      have hD : va_D A [(mO, .inr (7, [.ref mA, .ref mS, .ref mI, .ref mV, .int 1, .ref mT, .ref mR, .int (nI mz), .int (nI ma), .ref mW, .int (nI mr), .ref mN])), (mS, .inl (G.2.1, 259, .inl zs)), (mI, .inl (G.2.1, 259, .inl i2r))] := hD
      refine lv_aload_n hx hb dX7_image_32 rfl (lv_at hl 0 rfl) ?_
      refine va_get (D := G.1) (ci := 7) (v := .ref mS) (C := RX7) (T := TX7) (N := 12) hx hb (ku_X7 hK.2) (fun _ h9 => h9) hown hK.1 hP 0 rfl rfl 1 (by decide) (kw_678 hK.2) (fun _ h9 => h9) rfl dX7_image_33 ?_
      refine lv_sipush (v := 160) hx hb dX7_image_36 (by decide) ?_
      refine ww_e (rfl : (160 : Int32) = nI 160) ?_
      refine ww_ild (j := 160) hx hb hK.1 hP 1 0 rfl rfl (by omega) (by omega) dX7_image_39 ?_
      refine lv_aload_n hx hb dX7_image_40 rfl (lv_at hl 0 rfl) ?_
      refine va_get (D := G.1) (ci := 7) (v := .ref mS) (C := RX7) (T := TX7) (N := 12) hx hb (ku_X7 hK.2) (fun _ h9 => h9) hown hK.1 hP 0 rfl rfl 1 (by decide) (kw_678 hK.2) (fun _ h9 => h9) rfl dX7_image_41 ?_
      refine lv_sipush (v := 161) hx hb dX7_image_44 (by decide) ?_
      refine ww_e (rfl : (161 : Int32) = nI 161) ?_
      refine ww_ild (j := 161) hx hb hK.1 hP 1 0 rfl rfl (by omega) (by omega) dX7_image_47 ?_
      refine lv_iadd hx hb dX7_image_48 ?_
      exact hret ((zs 160) + (zs 161), i2r, 1) dX7_image_49 rfl hf rfl hP hS
    | succ k2 ih2 =>
      intro i2 i2r hi2  hf _ _ ls hP hD hS hl
      rw [f_X7_image_2_s] at hf
      refine lv_iload_n hx hb dX7_image_2 rfl (lv_at hl 1 rfl) ?_
      refine lv_sipush (v := 259) hx hb dX7_image_3 (by decide) ?_
      refine lv_icmp_ge (tgt := 27) hx hb dX7_image_6 (by decide) (fun c => absurd c (inle (a := 259) (b := i2) rfl rfl (by omega) (by omega) (by omega))) (fun _ => ?_)
      refine lv_aload_n hx hb dX7_image_9 rfl (lv_at hl 0 rfl) ?_
      refine va_get (D := G.1) (ci := 7) (v := .ref mI) (C := RX7) (T := TX7) (N := 12) hx hb (ku_X7 hK.2) (fun _ h9 => h9) hown hK.1 hP 0 rfl rfl 2 (by decide) (kw_679 hK.2) (fun _ h9 => h9) rfl dX7_image_10 ?_
      refine lv_iload_n hx hb dX7_image_13 rfl (lv_at hl 1 rfl) ?_
      refine lv_aload_n hx hb dX7_image_14 rfl (lv_at hl 0 rfl) ?_
      refine va_get (D := G.1) (ci := 7) (v := .ref mS) (C := RX7) (T := TX7) (N := 12) hx hb (ku_X7 hK.2) (fun _ h9 => h9) hown hK.1 hP 0 rfl rfl 1 (by decide) (kw_678 hK.2) (fun _ h9 => h9) rfl dX7_image_15 ?_
      refine lv_iload_n hx hb dX7_image_18 rfl (lv_at hl 1 rfl) ?_
      refine ww_ild (j := i2) hx hb hK.1 hP 1 0 rfl rfl (by omega) (by omega) dX7_image_19 ?_
      refine ww_ist (j := i2) hx hb hK.1 hP hD hS 2 0 rfl rfl (by omega) (by omega) dX7_image_20 (fun H locs hP hD hS => ?_)
      have hP : va_P G.1 wcl [(mO, .inr (7, [.ref mA, .ref mS, .ref mI, .ref mV, .int me, .ref mT, .ref mR, .int (nI mz), .int (nI ma), .ref mW, .int (nI mr), .ref mN])), (mS, .inl (G.2.1, 259, .inl zs)), (mI, .inl (G.2.1, 259, .inl (upd i2r i2 (zs i2))))] H := hP
      have hD : va_D A [(mO, .inr (7, [.ref mA, .ref mS, .ref mI, .ref mV, .int me, .ref mT, .ref mR, .int (nI mz), .int (nI ma), .ref mW, .int (nI mr), .ref mN])), (mS, .inl (G.2.1, 259, .inl zs)), (mI, .inl (G.2.1, 259, .inl (upd i2r i2 (zs i2))))] := hD
      refine lv_iinc (v := nI (i2 + 1)) (lv' := [(1, .int (nI (i2 + 1))), (0, .ref mO)]) hx hb dX7_image_21 hl (k := 1) rfl (nI_1 i2) (by decide) rfl (fun ls hl => ?_)
      refine lv_goto (tgt := 2) hx hb dX7_image_24 (by decide) ?_
      exact ih2 (i2 + 1) (upd i2r i2 (zs i2)) (by omega)  hf _ _ ls hP hD hS (lv_sub hl [1, 0] rfl)
  exact L2 259 0 zi (by omega)  hf _ _ ls hP hD hS (lv_sub hl [1, 0] rfl)
def f_X7_on_16 (zf : Nat → Int32) (zi : Nat → Int32) : Nat → Nat → (Nat → Int32) → (Int32 × (Nat → Int32) × (Nat → Int32))
  | 0, i16, s16 => ((s16 160) + (s16 161), zf, s16)
  | k16 + 1, i16, s16 => f_X7_on_16 zf zi k16 (i16 + 1) (upd s16 i16 (zi i16))
theorem f_X7_on_16_z (zf : Nat → Int32) (zi : Nat → Int32) (i16 : Nat) (s16 : Nat → Int32) : f_X7_on_16 zf zi 0 i16 s16 = ((s16 160) + (s16 161), zf, s16) := rfl
theorem f_X7_on_16_s (zf : Nat → Int32) (zi : Nat → Int32) (k16 : Nat) (i16 : Nat) (s16 : Nat → Int32) : f_X7_on_16 zf zi (k16 + 1) i16 s16 = f_X7_on_16 zf zi k16 (i16 + 1) (upd s16 i16 (zi i16)) := rfl
def f_X7_on (me : Int32) (zf : Nat → Int32) (zs : Nat → Int32) (zi : Nat → Int32) : Int32 × (Nat → Int32) × (Nat → Int32) := (if me = 0 then ((f_X7_refuse zf (-3)).1, (f_X7_refuse zf (-3)).2, zs) else (f_X7_on_16 zf zi 259 0 zs))
set_option maxHeartbeats 4000000 in
set_option maxRecDepth 100000 in
theorem k_X7_on (l : Launch) (G : wG) (mO : Nat) (mA : Nat) (mS : Nat) (mI : Nat) (mV : Nat) (mT : Nat) (mR : Nat) (mW : Nat) (mN : Nat) (me : Int32) (mz : Nat) (ma : Nat) (mr : Nat) (zf : Nat → Int32) (zs : Nat → Int32) (zi : Nat → Int32)  : CT l G yX7_on cX7_on 2 (some .int) ({ frames := 1, cells := 0, slots := 0, locals := 21 }) [.ref mO] [(mO, .inr (7, [.ref mA, .ref mS, .ref mI, .ref mV, .int me, .ref mT, .ref mR, .int (nI mz), .int (nI ma), .ref mW, .int (nI mr), .ref mN])), (mA, .inl (G.2.1, 7, .inl zf)), (mS, .inl (G.2.1, 259, .inl zs)), (mI, .inl (G.2.1, 259, .inl zi))] (fun u => [(mO, .inr (7, [.ref mA, .ref mS, .ref mI, .ref mV, .int me, .ref mT, .ref mR, .int (nI mz), .int (nI ma), .ref mW, .int (nI mr), .ref mN])), (mA, .inl (G.2.1, 7, .inl u.2.1)), (mS, .inl (G.2.1, 259, .inl u.2.2)), (mI, .inl (G.2.1, 259, .inl zi))]) (fun u => some (.int u.1)) (f_X7_on me zf zs zi) := by
  obtain ⟨R, hf⟩ : ∃ R, f_X7_on me zf zs zi = R := ⟨_, rfl⟩
  rw [hf]
  refine CT.mkI RX7 (by decide +kernel) rfl (Nat.le_of_ble_eq_true rfl) ?_
  intro p e s m args below meth c A Q ls hx hb hml hown hK hP hD hS hA hret hl
  have hl : lv_has ls 2 [(0, .ref mO)] := hl
  rw [f_X7_on] at hf
  refine lv_aload_n hx hb dX7_on_0 rfl (lv_at hl 0 rfl) ?_
  refine va_get (D := G.1) (ci := 7) (v := .int me) (C := RX7) (T := TX7) (N := 12) hx hb (ku_X7 hK.2) (fun _ h9 => h9) hown hK.1 hP 0 rfl rfl 4 (by decide) (kw_681 hK.2) (fun _ h9 => h9) rfl dX7_on_1 ?_
  refine lv_if_ne (tgt := 14) hx hb dX7_on_4 (by decide) (fun c1 => ?_) (fun c1 => ?_)
  · have hf := (if_neg c1).symm.trans hf
    refine lv_iconst (v := 0) hx hb dX7_on_14 (by decide) ?_
    refine lv_istore_n (lv' := [(1, .int 0), (0, .ref mO)]) hx hb dX7_on_15 rfl hl (by decide) rfl (fun ls hl => ?_)
    have L16 : ∀ (k16 : Nat) (i16 : Nat) (s16 : Nat → Int32), k16 + i16 = 259 → f_X7_on_16 zf zi k16 i16 s16 = R → ∀ (H : Heap) (locs : List Loc) (ls : Array Slot), va_P G.1 wcl [(mO, .inr (7, [.ref mA, .ref mS, .ref mI, .ref mV, .int me, .ref mT, .ref mR, .int (nI mz), .int (nI ma), .ref mW, .int (nI mr), .ref mN])), (mA, .inl (G.2.1, 7, .inl zf)), (mS, .inl (G.2.1, 259, .inl s16)), (mI, .inl (G.2.1, 259, .inl zi))] H → va_D A [(mO, .inr (7, [.ref mA, .ref mS, .ref mI, .ref mV, .int me, .ref mT, .ref mR, .int (nI mz), .int (nI ma), .ref mW, .int (nI mr), .ref mN])), (mA, .inl (G.2.1, 7, .inl zf)), (mS, .inl (G.2.1, 259, .inl s16)), (mI, .inl (G.2.1, 259, .inl zi))] → va_S A s.heap H locs → lv_has ls 2 [(0, .ref mO), (1, .int (nI i16))] → W p l e ({ frames := 1, cells := 0, slots := 0, locals := 21 }) s m args below meth c H locs 0 0 Q (F0 m 16 ls []) := by
      intro k16
      induction k16 with
      | zero =>
        intro i16 s16 hi16  hf _ _ ls hP hD hS hl
        rw [f_X7_on_16_z] at hf
        refine lv_iload_n hx hb dX7_on_16 rfl (lv_at hl 1 rfl) ?_
        refine lv_sipush (v := 259) hx hb dX7_on_17 (by decide) ?_
        refine lv_icmp_ge (tgt := 41) hx hb dX7_on_20 (by decide) (fun _ => ?_) (fun c => absurd (ile (a := 259) (b := i16) rfl rfl (by omega) (by omega) (by omega)) c)
        refine lv_aload_n hx hb dX7_on_41 rfl (lv_at hl 0 rfl) ?_
        refine va_get (D := G.1) (ci := 7) (v := .ref mS) (C := RX7) (T := TX7) (N := 12) hx hb (ku_X7 hK.2) (fun _ h9 => h9) hown hK.1 hP 0 rfl rfl 1 (by decide) (kw_678 hK.2) (fun _ h9 => h9) rfl dX7_on_42 ?_
        refine lv_sipush (v := 160) hx hb dX7_on_45 (by decide) ?_
        refine ww_e (rfl : (160 : Int32) = nI 160) ?_
        refine ww_ild (j := 160) hx hb hK.1 hP 2 0 rfl rfl (by omega) (by omega) dX7_on_48 ?_
        refine lv_aload_n hx hb dX7_on_49 rfl (lv_at hl 0 rfl) ?_
        refine va_get (D := G.1) (ci := 7) (v := .ref mS) (C := RX7) (T := TX7) (N := 12) hx hb (ku_X7 hK.2) (fun _ h9 => h9) hown hK.1 hP 0 rfl rfl 1 (by decide) (kw_678 hK.2) (fun _ h9 => h9) rfl dX7_on_50 ?_
        refine lv_sipush (v := 161) hx hb dX7_on_53 (by decide) ?_
        refine ww_e (rfl : (161 : Int32) = nI 161) ?_
        refine ww_ild (j := 161) hx hb hK.1 hP 2 0 rfl rfl (by omega) (by omega) dX7_on_56 ?_
        refine lv_iadd hx hb dX7_on_57 ?_
        exact hret ((s16 160) + (s16 161), zf, s16) dX7_on_58 rfl hf rfl hP hS
      | succ k16 ih16 =>
        intro i16 s16 hi16  hf _ _ ls hP hD hS hl
        rw [f_X7_on_16_s] at hf
        refine lv_iload_n hx hb dX7_on_16 rfl (lv_at hl 1 rfl) ?_
        refine lv_sipush (v := 259) hx hb dX7_on_17 (by decide) ?_
        refine lv_icmp_ge (tgt := 41) hx hb dX7_on_20 (by decide) (fun c => absurd c (inle (a := 259) (b := i16) rfl rfl (by omega) (by omega) (by omega))) (fun _ => ?_)
        refine lv_aload_n hx hb dX7_on_23 rfl (lv_at hl 0 rfl) ?_
        refine va_get (D := G.1) (ci := 7) (v := .ref mS) (C := RX7) (T := TX7) (N := 12) hx hb (ku_X7 hK.2) (fun _ h9 => h9) hown hK.1 hP 0 rfl rfl 1 (by decide) (kw_678 hK.2) (fun _ h9 => h9) rfl dX7_on_24 ?_
        refine lv_iload_n hx hb dX7_on_27 rfl (lv_at hl 1 rfl) ?_
        refine lv_aload_n hx hb dX7_on_28 rfl (lv_at hl 0 rfl) ?_
        refine va_get (D := G.1) (ci := 7) (v := .ref mI) (C := RX7) (T := TX7) (N := 12) hx hb (ku_X7 hK.2) (fun _ h9 => h9) hown hK.1 hP 0 rfl rfl 2 (by decide) (kw_679 hK.2) (fun _ h9 => h9) rfl dX7_on_29 ?_
        refine lv_iload_n hx hb dX7_on_32 rfl (lv_at hl 1 rfl) ?_
        refine ww_ild (j := i16) hx hb hK.1 hP 3 0 rfl rfl (by omega) (by omega) dX7_on_33 ?_
        refine ww_ist (j := i16) hx hb hK.1 hP hD hS 2 0 rfl rfl (by omega) (by omega) dX7_on_34 (fun H locs hP hD hS => ?_)
        have hP : va_P G.1 wcl [(mO, .inr (7, [.ref mA, .ref mS, .ref mI, .ref mV, .int me, .ref mT, .ref mR, .int (nI mz), .int (nI ma), .ref mW, .int (nI mr), .ref mN])), (mA, .inl (G.2.1, 7, .inl zf)), (mS, .inl (G.2.1, 259, .inl (upd s16 i16 (zi i16)))), (mI, .inl (G.2.1, 259, .inl zi))] H := hP
        have hD : va_D A [(mO, .inr (7, [.ref mA, .ref mS, .ref mI, .ref mV, .int me, .ref mT, .ref mR, .int (nI mz), .int (nI ma), .ref mW, .int (nI mr), .ref mN])), (mA, .inl (G.2.1, 7, .inl zf)), (mS, .inl (G.2.1, 259, .inl (upd s16 i16 (zi i16)))), (mI, .inl (G.2.1, 259, .inl zi))] := hD
        refine lv_iinc (v := nI (i16 + 1)) (lv' := [(1, .int (nI (i16 + 1))), (0, .ref mO)]) hx hb dX7_on_35 hl (k := 1) rfl (nI_1 i16) (by decide) rfl (fun ls hl => ?_)
        refine lv_goto (tgt := 16) hx hb dX7_on_38 (by decide) ?_
        exact ih16 (i16 + 1) (upd s16 i16 (zi i16)) (by omega)  hf _ _ ls hP hD hS (lv_sub hl [1, 0] rfl)
    exact L16 259 0 zs (by omega)  hf _ _ ls hP hD hS (lv_sub hl [1, 0] rfl)
  · have hf := (if_pos c1).symm.trans hf
    refine lv_aload_n hx hb dX7_on_7 rfl (lv_at hl 0 rfl) ?_
    refine lv_bipush (v := -3) hx hb dX7_on_8 (by decide) ?_
    refine cl_V (q := (RX7, TX7, 12)) (ws' := [(mO, .inr (7, [.ref mA, .ref mS, .ref mI, .ref mV, .int me, .ref mT, .ref mR, .int (nI mz), .int (nI ma), .ref mW, .int (nI mr), .ref mN])), (mA, .inl (G.2.1, 7, .inl ((f_X7_refuse zf (-3)).2))), (mS, .inl (G.2.1, 259, .inl zs)), (mI, .inl (G.2.1, 259, .inl zi))]) (v := (some (.int ((f_X7_refuse zf (-3)).1)))) (st1 := [.int ((f_X7_refuse zf (-3)).1)]) (rest := []) (As := [.int (-3)]) [0, 1] 0 7 hx hb hml hown hK (k_X7_refuse l G mO mA mS mI mV mT mR mW mN me mz ma mr zf (-3) vp7_3) (mf_X7_refuse hK.2) (kw_720 hK.2) (kw_11 hK.2) (kw_718 hK.2) ⟨rfl, rfl, Nat.le_of_ble_eq_true rfl, Nat.le_of_ble_eq_true rfl⟩ rfl hP hD hS hA rfl rfl hl (Nat.le_of_ble_eq_true rfl) rfl ⟨Nat.le_of_ble_eq_true rfl, Nat.le_of_ble_eq_true rfl⟩ rfl dX7_on_10 rfl rfl (rpl_fast (by decide) rfl rfl) rfl rfl rfl (fun H locs hP hD hS => ?_)
    exact hret ((f_X7_refuse zf (-3)).1, (f_X7_refuse zf (-3)).2, zs) dX7_on_13 rfl hf rfl hP hS
def f_X7_count (mz : Nat) (mr : Nat) (zf : Nat → Int32) (zs : Nat → Int32) (wh : Int32) : Int32 := (if wh ≤ 10 then (if wh = 0 then zs ((160 : Int32) + wh).toNatClampNeg else (if wh = 1 then zs ((160 : Int32) + wh).toNatClampNeg else (if wh = 2 then zs 258 else (if wh = 3 then nI mz else (if wh = 4 then nI mr else (-9)))))) else (if (17 : Int32) ≤ wh then (if wh = 0 then zs ((160 : Int32) + wh).toNatClampNeg else (if wh = 1 then zs ((160 : Int32) + wh).toNatClampNeg else (if wh = 2 then zs 258 else (if wh = 3 then nI mz else (if wh = 4 then nI mr else (-9)))))) else zf (wh - (10 : Int32)).toNatClampNeg))
set_option maxHeartbeats 4000000 in
set_option maxRecDepth 100000 in
theorem k_X7_count (l : Launch) (G : wG) (mO : Nat) (mA : Nat) (mS : Nat) (mI : Nat) (mV : Nat) (mT : Nat) (mR : Nat) (mW : Nat) (mN : Nat) (me : Int32) (mz : Nat) (ma : Nat) (mr : Nat) (zf : Nat → Int32) (zs : Nat → Int32) (wh : Int32) (hmz : mz ≤ 10) : CT l G yX7_count cX7_count 2 (some .int) ({ frames := 0, cells := 0, slots := 0, locals := 0 }) [.ref mO, .int wh] [(mO, .inr (7, [.ref mA, .ref mS, .ref mI, .ref mV, .int me, .ref mT, .ref mR, .int (nI mz), .int (nI ma), .ref mW, .int (nI mr), .ref mN])), (mA, .inl (G.2.1, 7, .inl zf)), (mS, .inl (G.2.1, 259, .inl zs))] (fun _ => [(mO, .inr (7, [.ref mA, .ref mS, .ref mI, .ref mV, .int me, .ref mT, .ref mR, .int (nI mz), .int (nI ma), .ref mW, .int (nI mr), .ref mN])), (mA, .inl (G.2.1, 7, .inl zf)), (mS, .inl (G.2.1, 259, .inl zs))]) (fun u => some (.int u)) (f_X7_count mz mr zf zs wh) := by
  obtain ⟨R, hf⟩ : ∃ R, f_X7_count mz mr zf zs wh = R := ⟨_, rfl⟩
  rw [hf]
  refine CT.mkI RX7 (by decide +kernel) rfl (Nat.le_of_ble_eq_true rfl) ?_
  intro p e s m args below meth c A Q ls hx hb hml hown hK hP hD hS hA hret hl
  have hl : lv_has ls 2 [(0, .ref mO), (1, .int wh)] := hl
  rw [f_X7_count] at hf
  refine lv_iload_n hx hb dX7_count_0 rfl (lv_at hl 1 rfl) ?_
  refine lv_bipush (v := 10) hx hb dX7_count_1 (by decide) ?_
  refine lv_icmp_le (tgt := 22) hx hb dX7_count_3 (by decide) (fun c1 => ?_) (fun c1 => ?_)
  · have hf := (if_pos c1).symm.trans hf
    refine lv_iload_n hx hb dX7_count_22 rfl (lv_at hl 1 rfl) ?_
    by_cases c2 : wh = 0
    · have hf := (if_pos c2).symm.trans hf
      refine ww_tsw (tgt := 56) hx hb c2 dX7_count_23 (by decide) (by decide) rfl (by decide) ?_
      refine lv_aload_n hx hb dX7_count_56 rfl (lv_at hl 0 rfl) ?_
      refine va_get (D := G.1) (ci := 7) (v := .ref mS) (C := RX7) (T := TX7) (N := 12) hx hb (ku_X7 hK.2) (fun _ h9 => h9) hown hK.1 hP 0 rfl rfl 1 (by decide) (kw_678 hK.2) (fun _ h9 => h9) rfl dX7_count_57 ?_
      refine lv_sipush (v := 160) hx hb dX7_count_60 (by decide) ?_
      refine lv_iload_n hx hb dX7_count_63 rfl (lv_at hl 1 rfl) ?_
      refine lv_iadd hx hb dX7_count_64 ?_
      refine va_iald hx hb hK.1 hP 2 0 rfl rfl (cix (by first | exact Or.inl (by assumption) | exact Or.inr (by assumption))) dX7_count_65 ?_
      exact hret (zs ((160 : Int32) + wh).toNatClampNeg) dX7_count_66 rfl hf rfl hP hS
    · have hf := (if_neg c2).symm.trans hf
      by_cases c3 : wh = 1
      · have hf := (if_pos c3).symm.trans hf
        refine ww_tsw (tgt := 56) hx hb c3 dX7_count_23 (by decide) (by decide) rfl (by decide) ?_
        refine lv_aload_n hx hb dX7_count_56 rfl (lv_at hl 0 rfl) ?_
        refine va_get (D := G.1) (ci := 7) (v := .ref mS) (C := RX7) (T := TX7) (N := 12) hx hb (ku_X7 hK.2) (fun _ h9 => h9) hown hK.1 hP 0 rfl rfl 1 (by decide) (kw_678 hK.2) (fun _ h9 => h9) rfl dX7_count_57 ?_
        refine lv_sipush (v := 160) hx hb dX7_count_60 (by decide) ?_
        refine lv_iload_n hx hb dX7_count_63 rfl (lv_at hl 1 rfl) ?_
        refine lv_iadd hx hb dX7_count_64 ?_
        refine va_iald hx hb hK.1 hP 2 0 rfl rfl (cix (by first | exact Or.inl (by assumption) | exact Or.inr (by assumption))) dX7_count_65 ?_
        exact hret (zs ((160 : Int32) + wh).toNatClampNeg) dX7_count_66 rfl hf rfl hP hS
      · have hf := (if_neg c3).symm.trans hf
        by_cases c4 : wh = 2
        · have hf := (if_pos c4).symm.trans hf
          refine ww_tsw (tgt := 67) hx hb c4 dX7_count_23 (by decide) (by decide) rfl (by decide) ?_
          refine lv_aload_n hx hb dX7_count_67 rfl (lv_at hl 0 rfl) ?_
          refine va_get (D := G.1) (ci := 7) (v := .ref mS) (C := RX7) (T := TX7) (N := 12) hx hb (ku_X7 hK.2) (fun _ h9 => h9) hown hK.1 hP 0 rfl rfl 1 (by decide) (kw_678 hK.2) (fun _ h9 => h9) rfl dX7_count_68 ?_
          refine lv_sipush (v := 258) hx hb dX7_count_71 (by decide) ?_
          refine ww_e (rfl : (258 : Int32) = nI 258) ?_
          refine ww_ild (j := 258) hx hb hK.1 hP 2 0 rfl rfl (by omega) (by omega) dX7_count_74 ?_
          exact hret (zs 258) dX7_count_75 rfl hf rfl hP hS
        · have hf := (if_neg c4).symm.trans hf
          by_cases c5 : wh = 3
          · have hf := (if_pos c5).symm.trans hf
            refine ww_tsw (tgt := 76) hx hb c5 dX7_count_23 (by decide) (by decide) rfl (by decide) ?_
            refine lv_aload_n hx hb dX7_count_76 rfl (lv_at hl 0 rfl) ?_
            refine va_get (D := G.1) (ci := 7) (v := .int (nI mz)) (C := RX7) (T := TX7) (N := 12) hx hb (ku_X7 hK.2) (fun _ h9 => h9) hown hK.1 hP 0 rfl rfl 7 (by decide) (kw_684 hK.2) (fun _ h9 => h9) rfl dX7_count_77 ?_
            exact hret (nI mz) dX7_count_80 rfl hf rfl hP hS
          · have hf := (if_neg c5).symm.trans hf
            by_cases c6 : wh = 4
            · have hf := (if_pos c6).symm.trans hf
              refine ww_tsw (tgt := 81) hx hb c6 dX7_count_23 (by decide) (by decide) rfl (by decide) ?_
              refine lv_aload_n hx hb dX7_count_81 rfl (lv_at hl 0 rfl) ?_
              refine va_get (D := G.1) (ci := 7) (v := .int (nI mr)) (C := RX7) (T := TX7) (N := 12) hx hb (ku_X7 hK.2) (fun _ h9 => h9) hown hK.1 hP 0 rfl rfl 10 (by decide) (kw_687 hK.2) (fun _ h9 => h9) rfl dX7_count_82 ?_
              exact hret (nI mr) dX7_count_85 rfl hf rfl hP hS
            · have hf := (if_neg c6).symm.trans hf
              refine lv_tableOut (tgt := 86) hx hb dX7_count_23 (ts_out 4 (by decide) (fun j hj => ?_)) (by decide) ?_
              · match j, hj with
                | 0, _ => exact c2
                | 1, _ => exact c3
                | 2, _ => exact c4
                | 3, _ => exact c5
                | 4, _ => exact c6
                | j + 5, hj => exact absurd hj (by omega)
              refine lv_bipush (v := -9) hx hb dX7_count_86 (by decide) ?_
              exact hret (-9) dX7_count_88 rfl hf rfl hP hS
  · have hf := (if_neg c1).symm.trans hf
    refine lv_iload_n hx hb dX7_count_6 rfl (lv_at hl 1 rfl) ?_
    refine lv_bipush (v := 17) hx hb dX7_count_7 (by decide) ?_
    refine lv_icmp_ge (tgt := 22) hx hb dX7_count_9 (by decide) (fun c7 => ?_) (fun c7 => ?_)
    · have hf := (if_pos c7).symm.trans hf
      refine lv_iload_n hx hb dX7_count_22 rfl (lv_at hl 1 rfl) ?_
      by_cases c8 : wh = 0
      · have hf := (if_pos c8).symm.trans hf
        refine ww_tsw (tgt := 56) hx hb c8 dX7_count_23 (by decide) (by decide) rfl (by decide) ?_
        refine lv_aload_n hx hb dX7_count_56 rfl (lv_at hl 0 rfl) ?_
        refine va_get (D := G.1) (ci := 7) (v := .ref mS) (C := RX7) (T := TX7) (N := 12) hx hb (ku_X7 hK.2) (fun _ h9 => h9) hown hK.1 hP 0 rfl rfl 1 (by decide) (kw_678 hK.2) (fun _ h9 => h9) rfl dX7_count_57 ?_
        refine lv_sipush (v := 160) hx hb dX7_count_60 (by decide) ?_
        refine lv_iload_n hx hb dX7_count_63 rfl (lv_at hl 1 rfl) ?_
        refine lv_iadd hx hb dX7_count_64 ?_
        refine va_iald hx hb hK.1 hP 2 0 rfl rfl (cix (by first | exact Or.inl (by assumption) | exact Or.inr (by assumption))) dX7_count_65 ?_
        exact hret (zs ((160 : Int32) + wh).toNatClampNeg) dX7_count_66 rfl hf rfl hP hS
      · have hf := (if_neg c8).symm.trans hf
        by_cases c9 : wh = 1
        · have hf := (if_pos c9).symm.trans hf
          refine ww_tsw (tgt := 56) hx hb c9 dX7_count_23 (by decide) (by decide) rfl (by decide) ?_
          refine lv_aload_n hx hb dX7_count_56 rfl (lv_at hl 0 rfl) ?_
          refine va_get (D := G.1) (ci := 7) (v := .ref mS) (C := RX7) (T := TX7) (N := 12) hx hb (ku_X7 hK.2) (fun _ h9 => h9) hown hK.1 hP 0 rfl rfl 1 (by decide) (kw_678 hK.2) (fun _ h9 => h9) rfl dX7_count_57 ?_
          refine lv_sipush (v := 160) hx hb dX7_count_60 (by decide) ?_
          refine lv_iload_n hx hb dX7_count_63 rfl (lv_at hl 1 rfl) ?_
          refine lv_iadd hx hb dX7_count_64 ?_
          refine va_iald hx hb hK.1 hP 2 0 rfl rfl (cix (by first | exact Or.inl (by assumption) | exact Or.inr (by assumption))) dX7_count_65 ?_
          exact hret (zs ((160 : Int32) + wh).toNatClampNeg) dX7_count_66 rfl hf rfl hP hS
        · have hf := (if_neg c9).symm.trans hf
          by_cases c10 : wh = 2
          · have hf := (if_pos c10).symm.trans hf
            refine ww_tsw (tgt := 67) hx hb c10 dX7_count_23 (by decide) (by decide) rfl (by decide) ?_
            refine lv_aload_n hx hb dX7_count_67 rfl (lv_at hl 0 rfl) ?_
            refine va_get (D := G.1) (ci := 7) (v := .ref mS) (C := RX7) (T := TX7) (N := 12) hx hb (ku_X7 hK.2) (fun _ h9 => h9) hown hK.1 hP 0 rfl rfl 1 (by decide) (kw_678 hK.2) (fun _ h9 => h9) rfl dX7_count_68 ?_
            refine lv_sipush (v := 258) hx hb dX7_count_71 (by decide) ?_
            refine ww_e (rfl : (258 : Int32) = nI 258) ?_
            refine ww_ild (j := 258) hx hb hK.1 hP 2 0 rfl rfl (by omega) (by omega) dX7_count_74 ?_
            exact hret (zs 258) dX7_count_75 rfl hf rfl hP hS
          · have hf := (if_neg c10).symm.trans hf
            by_cases c11 : wh = 3
            · have hf := (if_pos c11).symm.trans hf
              refine ww_tsw (tgt := 76) hx hb c11 dX7_count_23 (by decide) (by decide) rfl (by decide) ?_
              refine lv_aload_n hx hb dX7_count_76 rfl (lv_at hl 0 rfl) ?_
              refine va_get (D := G.1) (ci := 7) (v := .int (nI mz)) (C := RX7) (T := TX7) (N := 12) hx hb (ku_X7 hK.2) (fun _ h9 => h9) hown hK.1 hP 0 rfl rfl 7 (by decide) (kw_684 hK.2) (fun _ h9 => h9) rfl dX7_count_77 ?_
              exact hret (nI mz) dX7_count_80 rfl hf rfl hP hS
            · have hf := (if_neg c11).symm.trans hf
              by_cases c12 : wh = 4
              · have hf := (if_pos c12).symm.trans hf
                refine ww_tsw (tgt := 81) hx hb c12 dX7_count_23 (by decide) (by decide) rfl (by decide) ?_
                refine lv_aload_n hx hb dX7_count_81 rfl (lv_at hl 0 rfl) ?_
                refine va_get (D := G.1) (ci := 7) (v := .int (nI mr)) (C := RX7) (T := TX7) (N := 12) hx hb (ku_X7 hK.2) (fun _ h9 => h9) hown hK.1 hP 0 rfl rfl 10 (by decide) (kw_687 hK.2) (fun _ h9 => h9) rfl dX7_count_82 ?_
                exact hret (nI mr) dX7_count_85 rfl hf rfl hP hS
              · have hf := (if_neg c12).symm.trans hf
                refine lv_tableOut (tgt := 86) hx hb dX7_count_23 (ts_out 4 (by decide) (fun j hj => ?_)) (by decide) ?_
                · match j, hj with
                  | 0, _ => exact c8
                  | 1, _ => exact c9
                  | 2, _ => exact c10
                  | 3, _ => exact c11
                  | 4, _ => exact c12
                  | j + 5, hj => exact absurd hj (by omega)
                refine lv_bipush (v := -9) hx hb dX7_count_86 (by decide) ?_
                exact hret (-9) dX7_count_88 rfl hf rfl hP hS
    · have hf := (if_neg c7).symm.trans hf
      refine lv_aload_n hx hb dX7_count_12 rfl (lv_at hl 0 rfl) ?_
      refine va_get (D := G.1) (ci := 7) (v := .ref mA) (C := RX7) (T := TX7) (N := 12) hx hb (ku_X7 hK.2) (fun _ h9 => h9) hown hK.1 hP 0 rfl rfl 0 (by decide) (kw_677 hK.2) (fun _ h9 => h9) rfl dX7_count_13 ?_
      refine lv_iload_n hx hb dX7_count_16 rfl (lv_at hl 1 rfl) ?_
      refine lv_bipush (v := 10) hx hb dX7_count_17 (by decide) ?_
      refine lv_isub hx hb dX7_count_19 ?_
      refine va_iald hx hb hK.1 hP 1 0 rfl rfl (rix (by assumption) (by assumption)) dX7_count_20 ?_
      exact hret (zf (wh - (10 : Int32)).toNatClampNeg) dX7_count_21 rfl hf rfl hP hS
theorem lt24 {a : Nat} (h : a ≤ 24) (hn : ¬ nI a = 24) : a < 24 := by
  rcases Nat.lt_or_ge a 24 with q | q
  · exact q
  · exact absurd (by rw [show a = 24 by omega]; rfl) hn
def f_X7_put (mr : Nat) (zf : Nat → Int32) (zw : Nat → Int32) (vv : Int32) : Int32 × (Nat → Int32) × (Nat → Int32) × Nat := (if (f_X7_within vv (-1) 99) = 0 then (if (nI mr) = 24 then ((f_X7_refuse zf (-6)).1, (f_X7_refuse zf (-6)).2, zw, mr) else (nI (mr + 1), zf, upd zw mr vv, mr + 1)) else ((f_X7_refuse zf (f_X7_within vv (-1) 99)).1, (f_X7_refuse zf (f_X7_within vv (-1) 99)).2, zw, mr))
set_option maxHeartbeats 4000000 in
set_option maxRecDepth 100000 in
theorem k_X7_put (l : Launch) (G : wG) (mO : Nat) (mA : Nat) (mS : Nat) (mI : Nat) (mV : Nat) (mT : Nat) (mR : Nat) (mW : Nat) (mN : Nat) (me : Int32) (mz : Nat) (ma : Nat) (mr : Nat) (zf : Nat → Int32) (zw : Nat → Int32) (vv : Int32) (hmr : mr ≤ 24) : CT l G yX7_put cX7_put 3 (some .int) ({ frames := 1, cells := 0, slots := 0, locals := 22 }) [.ref mO, .int vv] [(mO, .inr (7, [.ref mA, .ref mS, .ref mI, .ref mV, .int me, .ref mT, .ref mR, .int (nI mz), .int (nI ma), .ref mW, .int (nI mr), .ref mN])), (mA, .inl (G.2.1, 7, .inl zf)), (mW, .inl (G.2.1, 24, .inl zw))] (fun u => [(mO, .inr (7, [.ref mA, .ref mS, .ref mI, .ref mV, .int me, .ref mT, .ref mR, .int (nI mz), .int (nI ma), .ref mW, .int (nI u.2.2.2), .ref mN])), (mA, .inl (G.2.1, 7, .inl u.2.1)), (mW, .inl (G.2.1, 24, .inl u.2.2.1))]) (fun u => some (.int u.1)) (f_X7_put mr zf zw vv) := by
  obtain ⟨R, hf⟩ : ∃ R, f_X7_put mr zf zw vv = R := ⟨_, rfl⟩
  rw [hf]
  refine CT.mkI RX7 (by decide +kernel) rfl (Nat.le_of_ble_eq_true rfl) ?_
  intro p e s m args below meth c A Q ls hx hb hml hown hK hP hD hS hA hret hl
  have hl : lv_has ls 3 [(0, .ref mO), (1, .int vv)] := hl
  rw [f_X7_put] at hf
  refine lv_iload_n hx hb dX7_put_0 rfl (lv_at hl 1 rfl) ?_
  refine lv_iconst (v := -1) hx hb dX7_put_1 (by decide) ?_
  refine lv_bipush (v := 99) hx hb dX7_put_2 (by decide) ?_
  refine cl_S (ws' := [(mO, .inr (7, [.ref mA, .ref mS, .ref mI, .ref mV, .int me, .ref mT, .ref mR, .int (nI mz), .int (nI ma), .ref mW, .int (nI mr), .ref mN])), (mA, .inl (G.2.1, 7, .inl zf)), (mW, .inl (G.2.1, 24, .inl zw))]) (v := (some (.int (f_X7_within vv (-1) 99)))) (st1 := [.int (f_X7_within vv (-1) 99)]) (rest := []) (As := [.int vv, .int (-1), .int 99]) [] hx hb hml hown hK (k_X7_within l G vv (-1) 99 ) (mf_X7_within hK.2) (kw_773 hK.2) (kw_772 hK.2) ⟨rfl, rfl, Nat.le_of_ble_eq_true rfl, Nat.le_of_ble_eq_true rfl⟩ rfl hP hD hS hA hl (Nat.le_of_ble_eq_true rfl) rfl ⟨Nat.le_of_ble_eq_true rfl, Nat.le_of_ble_eq_true rfl⟩ rfl dX7_put_4 rfl rfl rfl rfl rfl rfl (fun H locs hP hD hS => ?_)
  refine lv_istore_n (lv' := [(2, .int (f_X7_within vv (-1) 99)), (0, .ref mO), (1, .int vv)]) hx hb dX7_put_7 rfl hl (by decide) rfl (fun ls hl => ?_)
  refine lv_iload_n hx hb dX7_put_8 rfl (lv_at hl 0 rfl) ?_
  refine lv_if_ne (tgt := 24) hx hb dX7_put_9 (by decide) (fun c1 => ?_) (fun c1 => ?_)
  · have hf := (if_neg c1).symm.trans hf
    refine lv_iload_n hx hb dX7_put_24 rfl (lv_at hl 0 rfl) ?_
    refine lv_if_eq (tgt := 34) hx hb dX7_put_25 (by decide) (fun c => absurd c c1) (fun _ => ?_)
    refine lv_aload_n hx hb dX7_put_28 rfl (lv_at hl 1 rfl) ?_
    refine lv_iload_n hx hb dX7_put_29 rfl (lv_at hl 0 rfl) ?_
    refine cl_V (q := (RX7, TX7, 12)) (ws' := [(mO, .inr (7, [.ref mA, .ref mS, .ref mI, .ref mV, .int me, .ref mT, .ref mR, .int (nI mz), .int (nI ma), .ref mW, .int (nI mr), .ref mN])), (mA, .inl (G.2.1, 7, .inl ((f_X7_refuse zf (f_X7_within vv (-1) 99)).2))), (mW, .inl (G.2.1, 24, .inl zw))]) (v := (some (.int ((f_X7_refuse zf (f_X7_within vv (-1) 99)).1)))) (st1 := [.int ((f_X7_refuse zf (f_X7_within vv (-1) 99)).1)]) (rest := []) (As := [.int (f_X7_within vv (-1) 99)]) [0, 1] 0 7 hx hb hml hown hK (k_X7_refuse l G mO mA mS mI mV mT mR mW mN me mz ma mr zf (f_X7_within vv (-1) 99) (by first | exact vp7_w _ _ _ | exact vp7_6)) (mf_X7_refuse hK.2) (kw_720 hK.2) (kw_11 hK.2) (kw_718 hK.2) ⟨rfl, rfl, Nat.le_of_ble_eq_true rfl, Nat.le_of_ble_eq_true rfl⟩ rfl hP hD hS hA rfl rfl hl (Nat.le_of_ble_eq_true rfl) rfl ⟨Nat.le_of_ble_eq_true rfl, Nat.le_of_ble_eq_true rfl⟩ rfl dX7_put_30 rfl rfl (rpl_fast (by decide) rfl rfl) rfl rfl rfl (fun H locs hP hD hS => ?_)
    exact hret ((f_X7_refuse zf (f_X7_within vv (-1) 99)).1, (f_X7_refuse zf (f_X7_within vv (-1) 99)).2, zw, mr) dX7_put_33 rfl hf rfl hP hS
  · have hf := (if_pos c1).symm.trans hf
    refine lv_aload_n hx hb dX7_put_12 rfl (lv_at hl 1 rfl) ?_
    refine va_get (D := G.1) (ci := 7) (v := .int (nI mr)) (C := RX7) (T := TX7) (N := 12) hx hb (ku_X7 hK.2) (fun _ h9 => h9) hown hK.1 hP 0 rfl rfl 10 (by decide) (kw_687 hK.2) (fun _ h9 => h9) rfl dX7_put_13 ?_
    refine lv_bipush (v := 24) hx hb dX7_put_16 (by decide) ?_
    refine lv_icmp_ne (tgt := 24) hx hb dX7_put_18 (by decide) (fun c2 => ?_) (fun c2 => ?_)
    · have hf := (if_neg c2).symm.trans hf
      refine lv_iload_n hx hb dX7_put_24 rfl (lv_at hl 0 rfl) ?_
      refine lv_if_eq (tgt := 34) hx hb dX7_put_25 (by decide) (fun _ => ?_) (fun c => absurd c1 c)
      have q1 : mr < 24 := lt24 hmr (by assumption)
      refine lv_aload_n hx hb dX7_put_34 rfl (lv_at hl 1 rfl) ?_
      refine va_get (D := G.1) (ci := 7) (v := .ref mW) (C := RX7) (T := TX7) (N := 12) hx hb (ku_X7 hK.2) (fun _ h9 => h9) hown hK.1 hP 0 rfl rfl 9 (by decide) (kw_686 hK.2) (fun _ h9 => h9) rfl dX7_put_35 ?_
      refine lv_aload_n hx hb dX7_put_38 rfl (lv_at hl 1 rfl) ?_
      refine va_get (D := G.1) (ci := 7) (v := .int (nI mr)) (C := RX7) (T := TX7) (N := 12) hx hb (ku_X7 hK.2) (fun _ h9 => h9) hown hK.1 hP 0 rfl rfl 10 (by decide) (kw_687 hK.2) (fun _ h9 => h9) rfl dX7_put_39 ?_
      refine lv_iload_n hx hb dX7_put_42 rfl (lv_at hl 2 rfl) ?_
      refine ww_ist (j := mr) hx hb hK.1 hP hD hS 2 0 rfl rfl (by omega) (by omega) dX7_put_43 (fun H locs hP hD hS => ?_)
      have hP : va_P G.1 wcl [(mO, .inr (7, [.ref mA, .ref mS, .ref mI, .ref mV, .int me, .ref mT, .ref mR, .int (nI mz), .int (nI ma), .ref mW, .int (nI mr), .ref mN])), (mA, .inl (G.2.1, 7, .inl zf)), (mW, .inl (G.2.1, 24, .inl (upd zw mr vv)))] H := hP
      have hD : va_D A [(mO, .inr (7, [.ref mA, .ref mS, .ref mI, .ref mV, .int me, .ref mT, .ref mR, .int (nI mz), .int (nI ma), .ref mW, .int (nI mr), .ref mN])), (mA, .inl (G.2.1, 7, .inl zf)), (mW, .inl (G.2.1, 24, .inl (upd zw mr vv)))] := hD
      refine lv_aload_n hx hb dX7_put_44 rfl (lv_at hl 1 rfl) ?_
      refine lv_dup hx hb dX7_put_45 rfl ?_
      refine va_get (D := G.1) (ci := 7) (v := .int (nI mr)) (C := RX7) (T := TX7) (N := 12) hx hb (ku_X7 hK.2) (fun _ h9 => h9) hown hK.1 hP 0 rfl rfl 10 (by decide) (kw_687 hK.2) (fun _ h9 => h9) rfl dX7_put_46 ?_
      refine lv_iconst (v := 1) hx hb dX7_put_49 (by decide) ?_
      refine lv_iadd hx hb dX7_put_50 ?_
      refine ww_e (nI_addE (a := mr) (b := 1) rfl rfl) ?_
      refine va_put (D := G.1) (ci := 7) (v := .int (nI (mr + 1))) (ty := .int) (C := RX7) (T := TX7) (N := 12) hx hb (ku_X7 hK.2) (fun _ h9 => h9) tyX7 tyX7_ok nmX7 hown hK.1 hP hD hS 0 rfl rfl 10 (by decide) (kw_687 hK.2) (fun _ h9 => h9) rfl (by decide +kernel) rfl rfl (Nat.le_of_ble_eq_true rfl) dX7_put_51 (fun H locs hP hD hS => ?_)
      have hP : va_P G.1 wcl [(mO, .inr (7, [.ref mA, .ref mS, .ref mI, .ref mV, .int me, .ref mT, .ref mR, .int (nI mz), .int (nI ma), .ref mW, .int (nI (mr + 1)), .ref mN])), (mA, .inl (G.2.1, 7, .inl zf)), (mW, .inl (G.2.1, 24, .inl (upd zw mr vv)))] H := hP
      have hD : va_D A [(mO, .inr (7, [.ref mA, .ref mS, .ref mI, .ref mV, .int me, .ref mT, .ref mR, .int (nI mz), .int (nI ma), .ref mW, .int (nI (mr + 1)), .ref mN])), (mA, .inl (G.2.1, 7, .inl zf)), (mW, .inl (G.2.1, 24, .inl (upd zw mr vv)))] := hD
      refine lv_aload_n hx hb dX7_put_54 rfl (lv_at hl 1 rfl) ?_
      refine va_get (D := G.1) (ci := 7) (v := .int (nI (mr + 1))) (C := RX7) (T := TX7) (N := 12) hx hb (ku_X7 hK.2) (fun _ h9 => h9) hown hK.1 hP 0 rfl rfl 10 (by decide) (kw_687 hK.2) (fun _ h9 => h9) rfl dX7_put_55 ?_
      exact hret (nI (mr + 1), zf, upd zw mr vv, mr + 1) dX7_put_58 rfl hf rfl hP hS
    · have hf := (if_pos c2).symm.trans hf
      refine lv_bipush (v := -6) hx hb dX7_put_21 (by decide) ?_
      refine lv_istore_n (lv' := [(2, .int (-6)), (0, .ref mO), (1, .int vv)]) hx hb dX7_put_23 rfl hl (by decide) rfl (fun ls hl => ?_)
      refine lv_iload_n hx hb dX7_put_24 rfl (lv_at hl 0 rfl) ?_
      refine lv_if_eq (tgt := 34) hx hb dX7_put_25 (by decide) (fun c => absurd c (by decide)) (fun _ => ?_)
      refine lv_aload_n hx hb dX7_put_28 rfl (lv_at hl 1 rfl) ?_
      refine lv_iload_n hx hb dX7_put_29 rfl (lv_at hl 0 rfl) ?_
      refine cl_V (q := (RX7, TX7, 12)) (ws' := [(mO, .inr (7, [.ref mA, .ref mS, .ref mI, .ref mV, .int me, .ref mT, .ref mR, .int (nI mz), .int (nI ma), .ref mW, .int (nI mr), .ref mN])), (mA, .inl (G.2.1, 7, .inl ((f_X7_refuse zf (-6)).2))), (mW, .inl (G.2.1, 24, .inl zw))]) (v := (some (.int ((f_X7_refuse zf (-6)).1)))) (st1 := [.int ((f_X7_refuse zf (-6)).1)]) (rest := []) (As := [.int (-6)]) [0, 1] 0 7 hx hb hml hown hK (k_X7_refuse l G mO mA mS mI mV mT mR mW mN me mz ma mr zf (-6) vp7_6) (mf_X7_refuse hK.2) (kw_720 hK.2) (kw_11 hK.2) (kw_718 hK.2) ⟨rfl, rfl, Nat.le_of_ble_eq_true rfl, Nat.le_of_ble_eq_true rfl⟩ rfl hP hD hS hA rfl rfl hl (Nat.le_of_ble_eq_true rfl) rfl ⟨Nat.le_of_ble_eq_true rfl, Nat.le_of_ble_eq_true rfl⟩ rfl dX7_put_30 rfl rfl (rpl_fast (by decide) rfl rfl) rfl rfl rfl (fun H locs hP hD hS => ?_)
      exact hret ((f_X7_refuse zf (-6)).1, (f_X7_refuse zf (-6)).2, zw, mr) dX7_put_33 rfl hf rfl hP hS
