def f_X7_telling_73 (mz : Nat) (zf : Nat → Int32) (zt : Nat → Int32) (zr : Nat → Int32) (bb : Nat) (bn : Nat) : Nat → Nat → (Nat → Int32) → (Int32 × (Nat → Int32) × (Nat → Int32) × (Nat → Int32) × Nat × Nat)
  | 0, i73, s73 => ((nI (bn + 1)) - (1 : Int32), zf, upd s73 (160 + bb) (nI (bn + 1)), (f_X7_fault mz zt zr).2.1, (f_X7_fault mz zt zr).2.2.1, (f_X7_fault mz zt zr).2.2.2)
  | k73 + 1, i73, s73 => f_X7_telling_73 mz zf zt zr bb bn k73 (i73 + 1) (upd s73 (80 * bb + (4 * bn) + i73) (((f_X7_fault mz zt zr).2.1) i73))
theorem f_X7_telling_73_z (mz : Nat) (zf : Nat → Int32) (zt : Nat → Int32) (zr : Nat → Int32) (bb : Nat) (bn : Nat) (i73 : Nat) (s73 : Nat → Int32) : f_X7_telling_73 mz zf zt zr bb bn 0 i73 s73 = ((nI (bn + 1)) - (1 : Int32), zf, upd s73 (160 + bb) (nI (bn + 1)), (f_X7_fault mz zt zr).2.1, (f_X7_fault mz zt zr).2.2.1, (f_X7_fault mz zt zr).2.2.2) := rfl
theorem f_X7_telling_73_s (mz : Nat) (zf : Nat → Int32) (zt : Nat → Int32) (zr : Nat → Int32) (bb : Nat) (bn : Nat) (k73 : Nat) (i73 : Nat) (s73 : Nat → Int32) : f_X7_telling_73 mz zf zt zr bb bn (k73 + 1) i73 s73 = f_X7_telling_73 mz zf zt zr bb bn k73 (i73 + 1) (upd s73 (80 * bb + (4 * bn) + i73) (((f_X7_fault mz zt zr).2.1) i73)) := rfl
def f_X7_telling (mz : Nat) (ma : Nat) (zf : Nat → Int32) (zs : Nat → Int32) (zt : Nat → Int32) (zr : Nat → Int32) (bb : Nat) (bn : Nat) : Int32 × (Nat → Int32) × (Nat → Int32) × (Nat → Int32) × Nat × Nat := (if (nI bn) = 20 then ((f_X7_refuse zf (-6)).1, (f_X7_refuse zf (-6)).2, zs, zr, ma, mz) else (if ((f_X7_fault mz zt zr).1) < 0 then (if (f_X7_tellingsOf zs bb bn (((f_X7_fault mz zt zr).2.1) 0)) = 3 then ((f_X7_refuse zf (-6)).1, (f_X7_refuse zf (-6)).2, zs, (f_X7_fault mz zt zr).2.1, (f_X7_fault mz zt zr).2.2.1, (f_X7_fault mz zt zr).2.2.2) else (f_X7_telling_73 mz zf zt zr bb bn 4 0 zs)) else ((-20 : Int32) - ((f_X7_fault mz zt zr).1), zf, zs, (f_X7_fault mz zt zr).2.1, (f_X7_fault mz zt zr).2.2.1, (f_X7_fault mz zt zr).2.2.2)))
set_option maxHeartbeats 4000000 in
set_option maxRecDepth 100000 in
theorem k_X7_telling (l : Launch) (G : wG) (mO : Nat) (mA : Nat) (mS : Nat) (mI : Nat) (mV : Nat) (mT : Nat) (mR : Nat) (mW : Nat) (mN : Nat) (me : Int32) (mz : Nat) (ma : Nat) (mr : Nat) (zf : Nat → Int32) (zs : Nat → Int32) (zt : Nat → Int32) (zr : Nat → Int32) (bb : Nat) (bn : Nat) (hbb : bb < 2) (hbn : zs (160 + bb) = nI bn) (hb2 : bn ≤ 20) (hmz : mz ≤ 10) : CT l G yX7_telling cX7_telling 4 (some .int) ({ frames := 4, cells := 0, slots := 0, locals := 83 }) [.ref mO, .int (nI bb)] [(mO, .inr (7, [.ref mA, .ref mS, .ref mI, .ref mV, .int me, .ref mT, .ref mR, .int (nI mz), .int (nI ma), .ref mW, .int (nI mr), .ref mN])), (mA, .inl (G.2.1, 7, .inl zf)), (mS, .inl (G.2.1, 259, .inl zs)), (mT, .inl (G.2.1, 10, .inl zt)), (mR, .inl (G.2.1, 4, .inl zr))] (fun u => [(mO, .inr (7, [.ref mA, .ref mS, .ref mI, .ref mV, .int me, .ref mT, .ref mR, .int (nI u.2.2.2.2.2), .int (nI u.2.2.2.2.1), .ref mW, .int (nI mr), .ref mN])), (mA, .inl (G.2.1, 7, .inl u.2.1)), (mS, .inl (G.2.1, 259, .inl u.2.2.1)), (mT, .inl (G.2.1, 10, .inl zt)), (mR, .inl (G.2.1, 4, .inl u.2.2.2.1))]) (fun u => some (.int u.1)) (f_X7_telling mz ma zf zs zt zr bb bn) := by
  obtain ⟨R, hf⟩ : ∃ R, f_X7_telling mz ma zf zs zt zr bb bn = R := ⟨_, rfl⟩
  rw [hf]
  refine CT.mkI RX7 (by decide +kernel) rfl (Nat.le_of_ble_eq_true rfl) ?_
  intro p e s m args below meth c A Q ls hx hb hml hown hK hP hD hS hA hret hl
  have hl : lv_has ls 4 [(0, .ref mO), (1, .int (nI bb))] := hl
  rw [f_X7_telling] at hf
  refine lv_iload_n hx hb dX7_telling_0 rfl (lv_at hl 1 rfl) ?_
  refine cl_S (ws' := [(mO, .inr (7, [.ref mA, .ref mS, .ref mI, .ref mV, .int me, .ref mT, .ref mR, .int (nI mz), .int (nI ma), .ref mW, .int (nI mr), .ref mN])), (mA, .inl (G.2.1, 7, .inl zf)), (mS, .inl (G.2.1, 259, .inl zs)), (mT, .inl (G.2.1, 10, .inl zt)), (mR, .inl (G.2.1, 4, .inl zr))]) (v := (some (.int (f_X7_isBook (nI bb))))) (st1 := [.int (f_X7_isBook (nI bb))]) (rest := []) (As := [.int (nI bb)]) [] hx hb hml hown hK (k_X7_isBook l G (nI bb) ) (mf_X7_isBook hK.2) (kw_728 hK.2) (kw_727 hK.2) ⟨rfl, rfl, Nat.le_of_ble_eq_true rfl, Nat.le_of_ble_eq_true rfl⟩ rfl hP hD hS hA hl (Nat.le_of_ble_eq_true rfl) rfl ⟨Nat.le_of_ble_eq_true rfl, Nat.le_of_ble_eq_true rfl⟩ rfl dX7_telling_1 rfl rfl rfl rfl rfl rfl (fun H locs hP hD hS => ?_)
  refine lv_if_ne (tgt := 13) hx hb dX7_telling_4 (by decide) (fun _ => ?_) (fun c => absurd c (isBook7 hbb))
  refine lv_aload_n hx hb dX7_telling_13 rfl (lv_at hl 0 rfl) ?_
  refine va_get (D := G.1) (ci := 7) (v := .ref mS) (C := RX7) (T := TX7) (N := 12) hx hb (ku_X7 hK.2) (fun _ h9 => h9) hown hK.1 hP 0 rfl rfl 1 (by decide) (kw_678 hK.2) (fun _ h9 => h9) rfl dX7_telling_14 ?_
  refine lv_sipush (v := 160) hx hb dX7_telling_17 (by decide) ?_
  refine lv_iload_n hx hb dX7_telling_20 rfl (lv_at hl 1 rfl) ?_
  refine lv_iadd hx hb dX7_telling_21 ?_
  refine ww_e (nI_addE (a := 160) (b := bb) rfl rfl) ?_
  refine ww_ild (j := 160 + bb) hx hb hK.1 hP 2 0 rfl rfl (by omega) (by omega) dX7_telling_22 ?_
  refine ww_e hbn ?_
  refine lv_bipush (v := 20) hx hb dX7_telling_23 (by decide) ?_
  refine lv_icmp_ne (tgt := 35) hx hb dX7_telling_25 (by decide) (fun c1 => ?_) (fun c1 => ?_)
  · have hf := (if_neg c1).symm.trans hf
    refine lv_aload_n hx hb dX7_telling_35 rfl (lv_at hl 0 rfl) ?_
    refine cl_V (q := (RX7, TX7, 12)) (ws' := [(mO, .inr (7, [.ref mA, .ref mS, .ref mI, .ref mV, .int me, .ref mT, .ref mR, .int (nI ((f_X7_fault mz zt zr).2.2.2)), .int (nI ((f_X7_fault mz zt zr).2.2.1)), .ref mW, .int (nI mr), .ref mN])), (mA, .inl (G.2.1, 7, .inl zf)), (mS, .inl (G.2.1, 259, .inl zs)), (mT, .inl (G.2.1, 10, .inl zt)), (mR, .inl (G.2.1, 4, .inl ((f_X7_fault mz zt zr).2.1)))]) (v := (some (.int ((f_X7_fault mz zt zr).1)))) (st1 := [.int ((f_X7_fault mz zt zr).1)]) (rest := []) (As := []) [0, 3, 4] 0 7 hx hb hml hown hK (k_X7_fault l G mO mA mS mI mV mT mR mW mN me mz ma mr zt zr hmz) (mf_X7_fault hK.2) (kw_735 hK.2) (kw_12 hK.2) (kw_733 hK.2) ⟨rfl, rfl, Nat.le_of_ble_eq_true rfl, Nat.le_of_ble_eq_true rfl⟩ rfl hP hD hS hA rfl rfl hl (Nat.le_of_ble_eq_true rfl) rfl ⟨Nat.le_of_ble_eq_true rfl, Nat.le_of_ble_eq_true rfl⟩ rfl dX7_telling_36 rfl rfl (rpl_fast (by decide) rfl rfl) rfl rfl rfl (fun H locs hP hD hS => ?_)
    refine lv_istore_n (lv' := [(2, .int ((f_X7_fault mz zt zr).1)), (0, .ref mO), (1, .int (nI bb))]) hx hb dX7_telling_39 rfl hl (by decide) rfl (fun ls hl => ?_)
    refine lv_iload_n hx hb dX7_telling_40 rfl (lv_at hl 0 rfl) ?_
    refine lv_if_lt (tgt := 49) hx hb dX7_telling_41 (by decide) (fun c2 => ?_) (fun c2 => ?_)
    · have hf := (if_pos c2).symm.trans hf
      refine lv_aload_n hx hb dX7_telling_49 rfl (lv_at hl 1 rfl) ?_
      refine lv_iload_n hx hb dX7_telling_50 rfl (lv_at hl 2 rfl) ?_
      refine lv_aload_n hx hb dX7_telling_51 rfl (lv_at hl 1 rfl) ?_
      refine va_get (D := G.1) (ci := 7) (v := .ref mR) (C := RX7) (T := TX7) (N := 12) hx hb (ku_X7 hK.2) (fun _ h9 => h9) hown hK.1 hP 0 rfl rfl 6 (by decide) (kw_683 hK.2) (fun _ h9 => h9) rfl dX7_telling_52 ?_
      refine lv_iconst (v := 0) hx hb dX7_telling_55 (by decide) ?_
      refine ww_e (rfl : (0 : Int32) = nI 0) ?_
      refine ww_ild (j := 0) hx hb hK.1 hP 4 0 rfl rfl (by omega) (by omega) dX7_telling_56 ?_
      refine cl_V (q := (RX7, TX7, 12)) (ws' := [(mO, .inr (7, [.ref mA, .ref mS, .ref mI, .ref mV, .int me, .ref mT, .ref mR, .int (nI ((f_X7_fault mz zt zr).2.2.2)), .int (nI ((f_X7_fault mz zt zr).2.2.1)), .ref mW, .int (nI mr), .ref mN])), (mA, .inl (G.2.1, 7, .inl zf)), (mS, .inl (G.2.1, 259, .inl zs)), (mT, .inl (G.2.1, 10, .inl zt)), (mR, .inl (G.2.1, 4, .inl ((f_X7_fault mz zt zr).2.1)))]) (v := (some (.int (f_X7_tellingsOf zs bb bn (((f_X7_fault mz zt zr).2.1) 0))))) (st1 := [.int (f_X7_tellingsOf zs bb bn (((f_X7_fault mz zt zr).2.1) 0))]) (rest := []) (As := [.int (nI bb), .int (((f_X7_fault mz zt zr).2.1) 0)]) [0, 2] 0 7 hx hb hml hown hK (k_X7_tellingsOf l G mO mA mS mI mV mT mR mW mN me ((f_X7_fault mz zt zr).2.2.2) ((f_X7_fault mz zt zr).2.2.1) mr zs bb bn (((f_X7_fault mz zt zr).2.1) 0) hbb hbn hb2) (mf_X7_tellingsOf hK.2) (kw_754 hK.2) (kw_16 hK.2) (kw_752 hK.2) ⟨rfl, rfl, Nat.le_of_ble_eq_true rfl, Nat.le_of_ble_eq_true rfl⟩ rfl hP hD hS hA rfl rfl hl (Nat.le_of_ble_eq_true rfl) rfl ⟨Nat.le_of_ble_eq_true rfl, Nat.le_of_ble_eq_true rfl⟩ rfl dX7_telling_57 rfl rfl (rpl_fast (by decide) rfl rfl) rfl rfl rfl (fun H locs hP hD hS => ?_)
      refine lv_iconst (v := 3) hx hb dX7_telling_60 (by decide) ?_
      refine lv_icmp_ne (tgt := 71) hx hb dX7_telling_61 (by decide) (fun c3 => ?_) (fun c3 => ?_)
      · have hf := (if_neg c3).symm.trans hf
        have qn : bn < 20 := lt20 hb2 (by assumption)
        refine lv_iconst (v := 0) hx hb dX7_telling_71 (by decide) ?_
        refine lv_istore_n (lv' := [(3, .int 0), (2, .int ((f_X7_fault mz zt zr).1)), (0, .ref mO), (1, .int (nI bb))]) hx hb dX7_telling_72 rfl hl (by decide) rfl (fun ls hl => ?_)
        have L73 : ∀ (k73 : Nat) (i73 : Nat) (s73 : Nat → Int32), k73 + i73 = 4 → (s73 (160 + bb) = nI bn) → f_X7_telling_73 mz zf zt zr bb bn k73 i73 s73 = R → ∀ (H : Heap) (locs : List Loc) (ls : Array Slot), va_P G.1 wcl [(mO, .inr (7, [.ref mA, .ref mS, .ref mI, .ref mV, .int me, .ref mT, .ref mR, .int (nI ((f_X7_fault mz zt zr).2.2.2)), .int (nI ((f_X7_fault mz zt zr).2.2.1)), .ref mW, .int (nI mr), .ref mN])), (mA, .inl (G.2.1, 7, .inl zf)), (mS, .inl (G.2.1, 259, .inl s73)), (mT, .inl (G.2.1, 10, .inl zt)), (mR, .inl (G.2.1, 4, .inl ((f_X7_fault mz zt zr).2.1)))] H → va_D A [(mO, .inr (7, [.ref mA, .ref mS, .ref mI, .ref mV, .int me, .ref mT, .ref mR, .int (nI ((f_X7_fault mz zt zr).2.2.2)), .int (nI ((f_X7_fault mz zt zr).2.2.1)), .ref mW, .int (nI mr), .ref mN])), (mA, .inl (G.2.1, 7, .inl zf)), (mS, .inl (G.2.1, 259, .inl s73)), (mT, .inl (G.2.1, 10, .inl zt)), (mR, .inl (G.2.1, 4, .inl ((f_X7_fault mz zt zr).2.1)))] → va_S A s.heap H locs → lv_has ls 4 [(0, .ref mO), (1, .int (nI bb)), (3, .int (nI i73))] → W p l e ({ frames := 4, cells := 0, slots := 0, locals := 83 }) s m args below meth c H locs 0 0 Q (F0 m 73 ls []) := by
          intro k73
          induction k73 with
          | zero =>
            intro i73 s73 hi73 hsn hf _ _ ls hP hD hS hl
            rw [f_X7_telling_73_z] at hf
            refine lv_iload_n hx hb dX7_telling_73 rfl (lv_at hl 2 rfl) ?_
            refine lv_iconst (v := 4) hx hb dX7_telling_74 (by decide) ?_
            refine lv_icmp_ge (tgt := 114) hx hb dX7_telling_75 (by decide) (fun _ => ?_) (fun c => absurd (ile (a := 4) (b := i73) rfl rfl (by omega) (by omega) (by omega)) c)
            refine lv_aload_n hx hb dX7_telling_114 rfl (lv_at hl 0 rfl) ?_
            refine va_get (D := G.1) (ci := 7) (v := .ref mS) (C := RX7) (T := TX7) (N := 12) hx hb (ku_X7 hK.2) (fun _ h9 => h9) hown hK.1 hP 0 rfl rfl 1 (by decide) (kw_678 hK.2) (fun _ h9 => h9) rfl dX7_telling_115 ?_
            refine lv_sipush (v := 160) hx hb dX7_telling_118 (by decide) ?_
            refine lv_iload_n hx hb dX7_telling_121 rfl (lv_at hl 1 rfl) ?_
            refine lv_iadd hx hb dX7_telling_122 ?_
            refine ww_e (nI_addE (a := 160) (b := bb) rfl rfl) ?_
            refine lv_dup2_11 hx hb dX7_telling_123 rfl rfl ?_
            refine ww_ild (j := 160 + bb) hx hb hK.1 hP 2 0 rfl rfl (by omega) (by omega) dX7_telling_124 ?_
            refine ww_e hsn ?_
            refine lv_iconst (v := 1) hx hb dX7_telling_125 (by decide) ?_
            refine lv_iadd hx hb dX7_telling_126 ?_
            refine ww_e (nI_addE (a := bn) (b := 1) rfl rfl) ?_
            refine ww_ist (j := 160 + bb) hx hb hK.1 hP hD hS 2 0 rfl rfl (by omega) (by omega) dX7_telling_127 (fun H locs hP hD hS => ?_)
            have hP : va_P G.1 wcl [(mO, .inr (7, [.ref mA, .ref mS, .ref mI, .ref mV, .int me, .ref mT, .ref mR, .int (nI ((f_X7_fault mz zt zr).2.2.2)), .int (nI ((f_X7_fault mz zt zr).2.2.1)), .ref mW, .int (nI mr), .ref mN])), (mA, .inl (G.2.1, 7, .inl zf)), (mS, .inl (G.2.1, 259, .inl (upd s73 (160 + bb) (nI (bn + 1))))), (mT, .inl (G.2.1, 10, .inl zt)), (mR, .inl (G.2.1, 4, .inl ((f_X7_fault mz zt zr).2.1)))] H := hP
            have hD : va_D A [(mO, .inr (7, [.ref mA, .ref mS, .ref mI, .ref mV, .int me, .ref mT, .ref mR, .int (nI ((f_X7_fault mz zt zr).2.2.2)), .int (nI ((f_X7_fault mz zt zr).2.2.1)), .ref mW, .int (nI mr), .ref mN])), (mA, .inl (G.2.1, 7, .inl zf)), (mS, .inl (G.2.1, 259, .inl (upd s73 (160 + bb) (nI (bn + 1))))), (mT, .inl (G.2.1, 10, .inl zt)), (mR, .inl (G.2.1, 4, .inl ((f_X7_fault mz zt zr).2.1)))] := hD
            refine lv_aload_n hx hb dX7_telling_128 rfl (lv_at hl 0 rfl) ?_
            refine va_get (D := G.1) (ci := 7) (v := .ref mS) (C := RX7) (T := TX7) (N := 12) hx hb (ku_X7 hK.2) (fun _ h9 => h9) hown hK.1 hP 0 rfl rfl 1 (by decide) (kw_678 hK.2) (fun _ h9 => h9) rfl dX7_telling_129 ?_
            refine lv_sipush (v := 160) hx hb dX7_telling_132 (by decide) ?_
            refine lv_iload_n hx hb dX7_telling_135 rfl (lv_at hl 1 rfl) ?_
            refine lv_iadd hx hb dX7_telling_136 ?_
            refine ww_e (nI_addE (a := 160) (b := bb) rfl rfl) ?_
            refine ww_ild (j := 160 + bb) hx hb hK.1 hP 2 0 rfl rfl (by omega) (by omega) dX7_telling_137 ?_
            refine ww_e pk_us ?_
            refine lv_iconst (v := 1) hx hb dX7_telling_138 (by decide) ?_
            refine lv_isub hx hb dX7_telling_139 ?_
            exact hret ((nI (bn + 1)) - (1 : Int32), zf, upd s73 (160 + bb) (nI (bn + 1)), (f_X7_fault mz zt zr).2.1, (f_X7_fault mz zt zr).2.2.1, (f_X7_fault mz zt zr).2.2.2) dX7_telling_140 rfl hf rfl hP hS
          | succ k73 ih73 =>
            intro i73 s73 hi73 hsn hf _ _ ls hP hD hS hl
            rw [f_X7_telling_73_s] at hf
            refine lv_iload_n hx hb dX7_telling_73 rfl (lv_at hl 2 rfl) ?_
            refine lv_iconst (v := 4) hx hb dX7_telling_74 (by decide) ?_
            refine lv_icmp_ge (tgt := 114) hx hb dX7_telling_75 (by decide) (fun c => absurd c (inle (a := 4) (b := i73) rfl rfl (by omega) (by omega) (by omega))) (fun _ => ?_)
            refine lv_aload_n hx hb dX7_telling_78 rfl (lv_at hl 0 rfl) ?_
            refine va_get (D := G.1) (ci := 7) (v := .ref mS) (C := RX7) (T := TX7) (N := 12) hx hb (ku_X7 hK.2) (fun _ h9 => h9) hown hK.1 hP 0 rfl rfl 1 (by decide) (kw_678 hK.2) (fun _ h9 => h9) rfl dX7_telling_79 ?_
            refine lv_bipush (v := 80) hx hb dX7_telling_82 (by decide) ?_
            refine lv_iload_n hx hb dX7_telling_84 rfl (lv_at hl 1 rfl) ?_
            refine lv_imul hx hb dX7_telling_85 ?_
            refine ww_e (nI_mulE (a := 80) (b := bb) rfl rfl) ?_
            refine lv_iconst (v := 4) hx hb dX7_telling_86 (by decide) ?_
            refine lv_aload_n hx hb dX7_telling_87 rfl (lv_at hl 0 rfl) ?_
            refine va_get (D := G.1) (ci := 7) (v := .ref mS) (C := RX7) (T := TX7) (N := 12) hx hb (ku_X7 hK.2) (fun _ h9 => h9) hown hK.1 hP 0 rfl rfl 1 (by decide) (kw_678 hK.2) (fun _ h9 => h9) rfl dX7_telling_88 ?_
            refine lv_sipush (v := 160) hx hb dX7_telling_91 (by decide) ?_
            refine lv_iload_n hx hb dX7_telling_94 rfl (lv_at hl 1 rfl) ?_
            refine lv_iadd hx hb dX7_telling_95 ?_
            refine ww_e (nI_addE (a := 160) (b := bb) rfl rfl) ?_
            refine ww_ild (j := 160 + bb) hx hb hK.1 hP 2 0 rfl rfl (by omega) (by omega) dX7_telling_96 ?_
            refine ww_e hsn ?_
            refine lv_imul hx hb dX7_telling_97 ?_
            refine ww_e (nI_mulE (a := 4) (b := bn) rfl rfl) ?_
            refine lv_iadd hx hb dX7_telling_98 ?_
            refine ww_e (nI_addE (a := 80 * bb) (b := 4 * bn) rfl rfl) ?_
            refine lv_iload_n hx hb dX7_telling_99 rfl (lv_at hl 2 rfl) ?_
            refine lv_iadd hx hb dX7_telling_100 ?_
            refine ww_e (nI_addE (a := 80 * bb + (4 * bn)) (b := i73) rfl rfl) ?_
            refine lv_aload_n hx hb dX7_telling_101 rfl (lv_at hl 0 rfl) ?_
            refine va_get (D := G.1) (ci := 7) (v := .ref mR) (C := RX7) (T := TX7) (N := 12) hx hb (ku_X7 hK.2) (fun _ h9 => h9) hown hK.1 hP 0 rfl rfl 6 (by decide) (kw_683 hK.2) (fun _ h9 => h9) rfl dX7_telling_102 ?_
            refine lv_iload_n hx hb dX7_telling_105 rfl (lv_at hl 2 rfl) ?_
            refine ww_ild (j := i73) hx hb hK.1 hP 4 0 rfl rfl (by omega) (by omega) dX7_telling_106 ?_
            refine ww_ist (j := 80 * bb + (4 * bn) + i73) hx hb hK.1 hP hD hS 2 0 rfl rfl (by omega) (by omega) dX7_telling_107 (fun H locs hP hD hS => ?_)
            have hP : va_P G.1 wcl [(mO, .inr (7, [.ref mA, .ref mS, .ref mI, .ref mV, .int me, .ref mT, .ref mR, .int (nI ((f_X7_fault mz zt zr).2.2.2)), .int (nI ((f_X7_fault mz zt zr).2.2.1)), .ref mW, .int (nI mr), .ref mN])), (mA, .inl (G.2.1, 7, .inl zf)), (mS, .inl (G.2.1, 259, .inl (upd s73 (80 * bb + (4 * bn) + i73) (((f_X7_fault mz zt zr).2.1) i73)))), (mT, .inl (G.2.1, 10, .inl zt)), (mR, .inl (G.2.1, 4, .inl ((f_X7_fault mz zt zr).2.1)))] H := hP
            have hD : va_D A [(mO, .inr (7, [.ref mA, .ref mS, .ref mI, .ref mV, .int me, .ref mT, .ref mR, .int (nI ((f_X7_fault mz zt zr).2.2.2)), .int (nI ((f_X7_fault mz zt zr).2.2.1)), .ref mW, .int (nI mr), .ref mN])), (mA, .inl (G.2.1, 7, .inl zf)), (mS, .inl (G.2.1, 259, .inl (upd s73 (80 * bb + (4 * bn) + i73) (((f_X7_fault mz zt zr).2.1) i73)))), (mT, .inl (G.2.1, 10, .inl zt)), (mR, .inl (G.2.1, 4, .inl ((f_X7_fault mz zt zr).2.1)))] := hD
            refine lv_iinc (v := nI (i73 + 1)) (lv' := [(3, .int (nI (i73 + 1))), (0, .ref mO), (1, .int (nI bb))]) hx hb dX7_telling_108 hl (k := 2) rfl (nI_1 i73) (by decide) rfl (fun ls hl => ?_)
            refine lv_goto (tgt := 73) hx hb dX7_telling_111 (by decide) ?_
            exact ih73 (i73 + 1) (upd s73 (80 * bb + (4 * bn) + i73) (((f_X7_fault mz zt zr).2.1) i73)) (by omega) (by rw [pk_un (by omega)]; exact hsn) hf _ _ ls hP hD hS (lv_sub hl [1, 2, 0] rfl)
        exact L73 4 0 zs (by omega) hbn hf _ _ ls hP hD hS (lv_sub hl [2, 3, 0] rfl)
      · have hf := (if_pos c3).symm.trans hf
        refine lv_aload_n hx hb dX7_telling_64 rfl (lv_at hl 1 rfl) ?_
        refine lv_bipush (v := -6) hx hb dX7_telling_65 (by decide) ?_
        refine cl_V (q := (RX7, TX7, 12)) (ws' := [(mO, .inr (7, [.ref mA, .ref mS, .ref mI, .ref mV, .int me, .ref mT, .ref mR, .int (nI ((f_X7_fault mz zt zr).2.2.2)), .int (nI ((f_X7_fault mz zt zr).2.2.1)), .ref mW, .int (nI mr), .ref mN])), (mA, .inl (G.2.1, 7, .inl ((f_X7_refuse zf (-6)).2))), (mS, .inl (G.2.1, 259, .inl zs)), (mT, .inl (G.2.1, 10, .inl zt)), (mR, .inl (G.2.1, 4, .inl ((f_X7_fault mz zt zr).2.1)))]) (v := (some (.int ((f_X7_refuse zf (-6)).1)))) (st1 := [.int ((f_X7_refuse zf (-6)).1)]) (rest := []) (As := [.int (-6)]) [0, 1] 0 7 hx hb hml hown hK (k_X7_refuse l G mO mA mS mI mV mT mR mW mN me ((f_X7_fault mz zt zr).2.2.2) ((f_X7_fault mz zt zr).2.2.1) mr zf (-6) vp7_6) (mf_X7_refuse hK.2) (kw_720 hK.2) (kw_11 hK.2) (kw_718 hK.2) ⟨rfl, rfl, Nat.le_of_ble_eq_true rfl, Nat.le_of_ble_eq_true rfl⟩ rfl hP hD hS hA rfl rfl hl (Nat.le_of_ble_eq_true rfl) rfl ⟨Nat.le_of_ble_eq_true rfl, Nat.le_of_ble_eq_true rfl⟩ rfl dX7_telling_67 rfl rfl (rpl_fast (by decide) rfl rfl) rfl rfl rfl (fun H locs hP hD hS => ?_)
        exact hret ((f_X7_refuse zf (-6)).1, (f_X7_refuse zf (-6)).2, zs, (f_X7_fault mz zt zr).2.1, (f_X7_fault mz zt zr).2.2.1, (f_X7_fault mz zt zr).2.2.2) dX7_telling_70 rfl hf rfl hP hS
    · have hf := (if_neg c2).symm.trans hf
      refine lv_bipush (v := -20) hx hb dX7_telling_44 (by decide) ?_
      refine lv_iload_n hx hb dX7_telling_46 rfl (lv_at hl 0 rfl) ?_
      refine lv_isub hx hb dX7_telling_47 ?_
      exact hret ((-20 : Int32) - ((f_X7_fault mz zt zr).1), zf, zs, (f_X7_fault mz zt zr).2.1, (f_X7_fault mz zt zr).2.2.1, (f_X7_fault mz zt zr).2.2.2) dX7_telling_48 rfl hf rfl hP hS
  · have hf := (if_pos c1).symm.trans hf
    refine lv_aload_n hx hb dX7_telling_28 rfl (lv_at hl 0 rfl) ?_
    refine lv_bipush (v := -6) hx hb dX7_telling_29 (by decide) ?_
    refine cl_V (q := (RX7, TX7, 12)) (ws' := [(mO, .inr (7, [.ref mA, .ref mS, .ref mI, .ref mV, .int me, .ref mT, .ref mR, .int (nI mz), .int (nI ma), .ref mW, .int (nI mr), .ref mN])), (mA, .inl (G.2.1, 7, .inl ((f_X7_refuse zf (-6)).2))), (mS, .inl (G.2.1, 259, .inl zs)), (mT, .inl (G.2.1, 10, .inl zt)), (mR, .inl (G.2.1, 4, .inl zr))]) (v := (some (.int ((f_X7_refuse zf (-6)).1)))) (st1 := [.int ((f_X7_refuse zf (-6)).1)]) (rest := []) (As := [.int (-6)]) [0, 1] 0 7 hx hb hml hown hK (k_X7_refuse l G mO mA mS mI mV mT mR mW mN me mz ma mr zf (-6) vp7_6) (mf_X7_refuse hK.2) (kw_720 hK.2) (kw_11 hK.2) (kw_718 hK.2) ⟨rfl, rfl, Nat.le_of_ble_eq_true rfl, Nat.le_of_ble_eq_true rfl⟩ rfl hP hD hS hA rfl rfl hl (Nat.le_of_ble_eq_true rfl) rfl ⟨Nat.le_of_ble_eq_true rfl, Nat.le_of_ble_eq_true rfl⟩ rfl dX7_telling_31 rfl rfl (rpl_fast (by decide) rfl rfl) rfl rfl rfl (fun H locs hP hD hS => ?_)
    exact hret ((f_X7_refuse zf (-6)).1, (f_X7_refuse zf (-6)).2, zs, zr, ma, mz) dX7_telling_34 rfl hf rfl hP hS
def f_X7_telling_A (zf : Nat → Int32) : Int32 × (Nat → Int32) := ((f_X7_refuse zf (-1)).1, (f_X7_refuse zf (-1)).2)
set_option maxHeartbeats 4000000 in
set_option maxRecDepth 100000 in
theorem k_X7_telling_A (l : Launch) (G : wG) (mO : Nat) (mA : Nat) (mS : Nat) (mI : Nat) (mV : Nat) (mT : Nat) (mR : Nat) (mW : Nat) (mN : Nat) (me : Int32) (mz : Nat) (ma : Nat) (mr : Nat) (zf : Nat → Int32) (bo : Int32) (hbad : f_X7_isBook bo = 0) : CT l G yX7_telling cX7_telling 4 (some .int) ({ frames := 2, cells := 0, slots := 0, locals := 41 }) [.ref mO, .int bo] [(mO, .inr (7, [.ref mA, .ref mS, .ref mI, .ref mV, .int me, .ref mT, .ref mR, .int (nI mz), .int (nI ma), .ref mW, .int (nI mr), .ref mN])), (mA, .inl (G.2.1, 7, .inl zf))] (fun u => [(mO, .inr (7, [.ref mA, .ref mS, .ref mI, .ref mV, .int me, .ref mT, .ref mR, .int (nI mz), .int (nI ma), .ref mW, .int (nI mr), .ref mN])), (mA, .inl (G.2.1, 7, .inl u.2))]) (fun u => some (.int u.1)) (f_X7_telling_A zf) := by
  obtain ⟨R, hf⟩ : ∃ R, f_X7_telling_A zf = R := ⟨_, rfl⟩
  rw [hf]
  refine CT.mkI RX7 (by decide +kernel) rfl (Nat.le_of_ble_eq_true rfl) ?_
  intro p e s m args below meth c A Q ls hx hb hml hown hK hP hD hS hA hret hl
  have hl : lv_has ls 4 [(0, .ref mO), (1, .int bo)] := hl
  rw [f_X7_telling_A] at hf
  refine lv_iload_n hx hb dX7_telling_0 rfl (lv_at hl 1 rfl) ?_
  refine cl_S (ws' := [(mO, .inr (7, [.ref mA, .ref mS, .ref mI, .ref mV, .int me, .ref mT, .ref mR, .int (nI mz), .int (nI ma), .ref mW, .int (nI mr), .ref mN])), (mA, .inl (G.2.1, 7, .inl zf))]) (v := (some (.int (f_X7_isBook bo)))) (st1 := [.int (f_X7_isBook bo)]) (rest := []) (As := [.int bo]) [] hx hb hml hown hK (k_X7_isBook l G bo ) (mf_X7_isBook hK.2) (kw_728 hK.2) (kw_727 hK.2) ⟨rfl, rfl, Nat.le_of_ble_eq_true rfl, Nat.le_of_ble_eq_true rfl⟩ rfl hP hD hS hA hl (Nat.le_of_ble_eq_true rfl) rfl ⟨Nat.le_of_ble_eq_true rfl, Nat.le_of_ble_eq_true rfl⟩ rfl dX7_telling_1 rfl rfl rfl rfl rfl rfl (fun H locs hP hD hS => ?_)
  refine lv_if_ne (tgt := 13) hx hb dX7_telling_4 (by decide) (fun c => absurd hbad c) (fun _ => ?_)
  refine lv_aload_n hx hb dX7_telling_7 rfl (lv_at hl 0 rfl) ?_
  refine lv_iconst (v := -1) hx hb dX7_telling_8 (by decide) ?_
  refine cl_V (q := (RX7, TX7, 12)) (ws' := [(mO, .inr (7, [.ref mA, .ref mS, .ref mI, .ref mV, .int me, .ref mT, .ref mR, .int (nI mz), .int (nI ma), .ref mW, .int (nI mr), .ref mN])), (mA, .inl (G.2.1, 7, .inl ((f_X7_refuse zf (-1)).2)))]) (v := (some (.int ((f_X7_refuse zf (-1)).1)))) (st1 := [.int ((f_X7_refuse zf (-1)).1)]) (rest := []) (As := [.int (-1)]) [0, 1] 0 7 hx hb hml hown hK (k_X7_refuse l G mO mA mS mI mV mT mR mW mN me mz ma mr zf (-1) vp7_1) (mf_X7_refuse hK.2) (kw_720 hK.2) (kw_11 hK.2) (kw_718 hK.2) ⟨rfl, rfl, Nat.le_of_ble_eq_true rfl, Nat.le_of_ble_eq_true rfl⟩ rfl hP hD hS hA rfl rfl hl (Nat.le_of_ble_eq_true rfl) rfl ⟨Nat.le_of_ble_eq_true rfl, Nat.le_of_ble_eq_true rfl⟩ rfl dX7_telling_9 rfl rfl (rpl_fast (by decide) rfl rfl) rfl rfl rfl (fun H locs hP hD hS => ?_)
  exact hret ((f_X7_refuse zf (-1)).1, (f_X7_refuse zf (-1)).2) dX7_telling_12 rfl hf rfl hP hS
def f_X7_isTelling (bn : Nat) (te : Int32) : Int32 := (if (f_X7_isIn te (nI bn)) = 0 then 0 else 1)
set_option maxHeartbeats 4000000 in
set_option maxRecDepth 100000 in
theorem k_X7_isTelling (l : Launch) (G : wG) (mO : Nat) (mA : Nat) (mS : Nat) (mI : Nat) (mV : Nat) (mT : Nat) (mR : Nat) (mW : Nat) (mN : Nat) (me : Int32) (mz : Nat) (ma : Nat) (mr : Nat) (zs : Nat → Int32) (bb : Nat) (bn : Nat) (te : Int32) (hbb : bb < 2) (hbn : zs (160 + bb) = nI bn) (hb2 : bn ≤ 20) : CT l G yX7_isTelling cX7_isTelling 3 (some .boolean) ({ frames := 2, cells := 0, slots := 0, locals := 41 }) [.ref mO, .int (nI bb), .int te] [(mO, .inr (7, [.ref mA, .ref mS, .ref mI, .ref mV, .int me, .ref mT, .ref mR, .int (nI mz), .int (nI ma), .ref mW, .int (nI mr), .ref mN])), (mS, .inl (G.2.1, 259, .inl zs))] (fun _ => [(mO, .inr (7, [.ref mA, .ref mS, .ref mI, .ref mV, .int me, .ref mT, .ref mR, .int (nI mz), .int (nI ma), .ref mW, .int (nI mr), .ref mN])), (mS, .inl (G.2.1, 259, .inl zs))]) (fun u => some (.int u)) (f_X7_isTelling bn te) := by
  obtain ⟨R, hf⟩ : ∃ R, f_X7_isTelling bn te = R := ⟨_, rfl⟩
  rw [hf]
  refine CT.mkI RX7 (by decide +kernel) rfl (Nat.le_of_ble_eq_true rfl) ?_
  intro p e s m args below meth c A Q ls hx hb hml hown hK hP hD hS hA hret hl
  have hl : lv_has ls 3 [(0, .ref mO), (1, .int (nI bb)), (2, .int te)] := hl
  rw [f_X7_isTelling] at hf
  refine lv_iload_n hx hb dX7_isTelling_0 rfl (lv_at hl 1 rfl) ?_
  refine cl_S (ws' := [(mO, .inr (7, [.ref mA, .ref mS, .ref mI, .ref mV, .int me, .ref mT, .ref mR, .int (nI mz), .int (nI ma), .ref mW, .int (nI mr), .ref mN])), (mS, .inl (G.2.1, 259, .inl zs))]) (v := (some (.int (f_X7_isBook (nI bb))))) (st1 := [.int (f_X7_isBook (nI bb))]) (rest := []) (As := [.int (nI bb)]) [] hx hb hml hown hK (k_X7_isBook l G (nI bb) ) (mf_X7_isBook hK.2) (kw_728 hK.2) (kw_727 hK.2) ⟨rfl, rfl, Nat.le_of_ble_eq_true rfl, Nat.le_of_ble_eq_true rfl⟩ rfl hP hD hS hA hl (Nat.le_of_ble_eq_true rfl) rfl ⟨Nat.le_of_ble_eq_true rfl, Nat.le_of_ble_eq_true rfl⟩ rfl dX7_isTelling_1 rfl rfl rfl rfl rfl rfl (fun H locs hP hD hS => ?_)
  refine lv_if_eq (tgt := 28) hx hb dX7_isTelling_4 (by decide) (fun c => absurd c (isBook7 hbb)) (fun _ => ?_)
  refine lv_iload_n hx hb dX7_isTelling_7 rfl (lv_at hl 2 rfl) ?_
  refine lv_aload_n hx hb dX7_isTelling_8 rfl (lv_at hl 0 rfl) ?_
  refine va_get (D := G.1) (ci := 7) (v := .ref mS) (C := RX7) (T := TX7) (N := 12) hx hb (ku_X7 hK.2) (fun _ h9 => h9) hown hK.1 hP 0 rfl rfl 1 (by decide) (kw_678 hK.2) (fun _ h9 => h9) rfl dX7_isTelling_9 ?_
  refine lv_sipush (v := 160) hx hb dX7_isTelling_12 (by decide) ?_
  refine lv_iload_n hx hb dX7_isTelling_15 rfl (lv_at hl 1 rfl) ?_
  refine lv_iadd hx hb dX7_isTelling_16 ?_
  refine ww_e (nI_addE (a := 160) (b := bb) rfl rfl) ?_
  refine ww_ild (j := 160 + bb) hx hb hK.1 hP 1 0 rfl rfl (by omega) (by omega) dX7_isTelling_17 ?_
  refine ww_e hbn ?_
  refine cl_S (ws' := [(mO, .inr (7, [.ref mA, .ref mS, .ref mI, .ref mV, .int me, .ref mT, .ref mR, .int (nI mz), .int (nI ma), .ref mW, .int (nI mr), .ref mN])), (mS, .inl (G.2.1, 259, .inl zs))]) (v := (some (.int (f_X7_isIn te (nI bn))))) (st1 := [.int (f_X7_isIn te (nI bn))]) (rest := []) (As := [.int te, .int (nI bn)]) [] hx hb hml hown hK (k_X7_isIn l G te (nI bn) ) (mf_X7_isIn hK.2) (kw_731 hK.2) (kw_730 hK.2) ⟨rfl, rfl, Nat.le_of_ble_eq_true rfl, Nat.le_of_ble_eq_true rfl⟩ rfl hP hD hS hA hl (Nat.le_of_ble_eq_true rfl) rfl ⟨Nat.le_of_ble_eq_true rfl, Nat.le_of_ble_eq_true rfl⟩ rfl dX7_isTelling_18 rfl rfl rfl rfl rfl rfl (fun H locs hP hD hS => ?_)
  refine lv_if_eq (tgt := 28) hx hb dX7_isTelling_21 (by decide) (fun c1 => ?_) (fun c1 => ?_)
  · have hf := (if_pos c1).symm.trans hf
    refine lv_iconst (v := 0) hx hb dX7_isTelling_28 (by decide) ?_
    exact hret 0 dX7_isTelling_29 rfl hf rfl hP hS
  · have hf := (if_neg c1).symm.trans hf
    refine lv_iconst (v := 1) hx hb dX7_isTelling_24 (by decide) ?_
    refine lv_goto (tgt := 29) hx hb dX7_isTelling_25 (by decide) ?_
    exact hret 1 dX7_isTelling_29 rfl hf rfl hP hS
def f_X7_isTelling_A  : Int32 := 0
set_option maxHeartbeats 4000000 in
set_option maxRecDepth 100000 in
theorem k_X7_isTelling_A (l : Launch) (G : wG) (mO : Nat) (mA : Nat) (mS : Nat) (mI : Nat) (mV : Nat) (mT : Nat) (mR : Nat) (mW : Nat) (mN : Nat) (me : Int32) (mz : Nat) (ma : Nat) (mr : Nat) (bo : Int32) (te : Int32) (hbad : f_X7_isBook bo = 0) : CT l G yX7_isTelling cX7_isTelling 3 (some .boolean) ({ frames := 2, cells := 0, slots := 0, locals := 41 }) [.ref mO, .int bo, .int te] [(mO, .inr (7, [.ref mA, .ref mS, .ref mI, .ref mV, .int me, .ref mT, .ref mR, .int (nI mz), .int (nI ma), .ref mW, .int (nI mr), .ref mN]))] (fun _ => [(mO, .inr (7, [.ref mA, .ref mS, .ref mI, .ref mV, .int me, .ref mT, .ref mR, .int (nI mz), .int (nI ma), .ref mW, .int (nI mr), .ref mN]))]) (fun u => some (.int u)) f_X7_isTelling_A := by
  obtain ⟨R, hf⟩ : ∃ R, f_X7_isTelling_A = R := ⟨_, rfl⟩
  rw [hf]
  refine CT.mkI RX7 (by decide +kernel) rfl (Nat.le_of_ble_eq_true rfl) ?_
  intro p e s m args below meth c A Q ls hx hb hml hown hK hP hD hS hA hret hl
  have hl : lv_has ls 3 [(0, .ref mO), (1, .int bo), (2, .int te)] := hl
  rw [f_X7_isTelling_A] at hf
  refine lv_iload_n hx hb dX7_isTelling_0 rfl (lv_at hl 1 rfl) ?_
  refine cl_S (ws' := [(mO, .inr (7, [.ref mA, .ref mS, .ref mI, .ref mV, .int me, .ref mT, .ref mR, .int (nI mz), .int (nI ma), .ref mW, .int (nI mr), .ref mN]))]) (v := (some (.int (f_X7_isBook bo)))) (st1 := [.int (f_X7_isBook bo)]) (rest := []) (As := [.int bo]) [] hx hb hml hown hK (k_X7_isBook l G bo ) (mf_X7_isBook hK.2) (kw_728 hK.2) (kw_727 hK.2) ⟨rfl, rfl, Nat.le_of_ble_eq_true rfl, Nat.le_of_ble_eq_true rfl⟩ rfl hP hD hS hA hl (Nat.le_of_ble_eq_true rfl) rfl ⟨Nat.le_of_ble_eq_true rfl, Nat.le_of_ble_eq_true rfl⟩ rfl dX7_isTelling_1 rfl rfl rfl rfl rfl rfl (fun H locs hP hD hS => ?_)
  refine lv_if_eq (tgt := 28) hx hb dX7_isTelling_4 (by decide) (fun _ => ?_) (fun c => absurd hbad c)
  refine lv_iconst (v := 0) hx hb dX7_isTelling_28 (by decide) ?_
  exact hret 0 dX7_isTelling_29 rfl hf rfl hP hS
