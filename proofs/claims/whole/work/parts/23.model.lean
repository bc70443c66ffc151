theorem lt20 {a : Nat} (h : a ≤ 20) (hn : ¬ nI a = 20) : a < 20 := by
  rcases Nat.lt_or_ge a 20 with q | q
  · exact q
  · exact absurd (by rw [show a = 20 by omega]; rfl) hn
theorem lt4 {a : Nat} (h : a ≤ 4) (hn : ¬ nI a = 4) : a < 4 := by
  rcases Nat.lt_or_ge a 4 with q | q
  · exact q
  · exact absurd (by rw [show a = 4 by omega]; rfl) hn
def f_X7_isWrong_6 (zs : Nat → Int32) (bb : Nat) (wo : Int32) (s0 : Int32) (wr : Int32) : Nat → Nat → Int32 → Int32
  | 0, i6, v5_6 => v5_6
  | k6 + 1, i6, v5_6 => (if (f_X7_get zs bb i6 0) = wo then (if (f_X7_teaches zs bb i6 s0) = 0 then f_X7_isWrong_6 zs bb wo s0 wr k6 (i6 + 1) v5_6 else (if v5_6 = 0 then (if (((f_X7_get zs bb i6 2) &&& s0) &&& wr) = 0 then (if (zs ((nI (210 + (12 * bb))) + wo).toNatClampNeg) = 0 then 0 else f_X7_isWrong_6 zs bb wo s0 wr k6 (i6 + 1) 0) else (if (zs ((nI (210 + (12 * bb))) + wo).toNatClampNeg) = 0 then 1 else f_X7_isWrong_6 zs bb wo s0 wr k6 (i6 + 1) 1)) else (if (zs ((nI (210 + (12 * bb))) + wo).toNatClampNeg) = 0 then 1 else f_X7_isWrong_6 zs bb wo s0 wr k6 (i6 + 1) 1))) else f_X7_isWrong_6 zs bb wo s0 wr k6 (i6 + 1) v5_6)
theorem f_X7_isWrong_6_z (zs : Nat → Int32) (bb : Nat) (wo : Int32) (s0 : Int32) (wr : Int32) (i6 : Nat) (v5_6 : Int32) : f_X7_isWrong_6 zs bb wo s0 wr 0 i6 v5_6 = v5_6 := rfl
theorem f_X7_isWrong_6_s (zs : Nat → Int32) (bb : Nat) (wo : Int32) (s0 : Int32) (wr : Int32) (k6 : Nat) (i6 : Nat) (v5_6 : Int32) : f_X7_isWrong_6 zs bb wo s0 wr (k6 + 1) i6 v5_6 = (if (f_X7_get zs bb i6 0) = wo then (if (f_X7_teaches zs bb i6 s0) = 0 then f_X7_isWrong_6 zs bb wo s0 wr k6 (i6 + 1) v5_6 else (if v5_6 = 0 then (if (((f_X7_get zs bb i6 2) &&& s0) &&& wr) = 0 then (if (zs ((nI (210 + (12 * bb))) + wo).toNatClampNeg) = 0 then 0 else f_X7_isWrong_6 zs bb wo s0 wr k6 (i6 + 1) 0) else (if (zs ((nI (210 + (12 * bb))) + wo).toNatClampNeg) = 0 then 1 else f_X7_isWrong_6 zs bb wo s0 wr k6 (i6 + 1) 1)) else (if (zs ((nI (210 + (12 * bb))) + wo).toNatClampNeg) = 0 then 1 else f_X7_isWrong_6 zs bb wo s0 wr k6 (i6 + 1) 1))) else f_X7_isWrong_6 zs bb wo s0 wr k6 (i6 + 1) v5_6) := rfl
def f_X7_isWrong (zs : Nat → Int32) (bb : Nat) (bn : Nat) (wo : Int32) (s0 : Int32) (wr : Int32) : Int32 := (f_X7_isWrong_6 zs bb wo s0 wr bn 0 0)
set_option maxHeartbeats 4000000 in
set_option maxRecDepth 100000 in
theorem k_X7_isWrong (l : Launch) (G : wG) (mO : Nat) (mA : Nat) (mS : Nat) (mI : Nat) (mV : Nat) (mT : Nat) (mR : Nat) (mW : Nat) (mN : Nat) (me : Int32) (mz : Nat) (ma : Nat) (mr : Nat) (zs : Nat → Int32) (bb : Nat) (bn : Nat) (wo : Int32) (s0 : Int32) (wr : Int32) (hbb : bb < 2) (hbn : zs (160 + bb) = nI bn) (hb2 : bn ≤ 20) (hnd : ∀ t : Nat, t < bn → Rg (zs (80 * bb + 4 * t + 2))) (hwo : vp_in wo 12) : CT l G yX7_isWrong cX7_isWrong 7 (some .boolean) ({ frames := 2, cells := 0, slots := 0, locals := 48 }) [.ref mO, .int (nI bb), .int wo, .int s0, .int wr] [(mO, .inr (7, [.ref mA, .ref mS, .ref mI, .ref mV, .int me, .ref mT, .ref mR, .int (nI mz), .int (nI ma), .ref mW, .int (nI mr), .ref mN])), (mS, .inl (G.2.1, 259, .inl zs))] (fun _ => [(mO, .inr (7, [.ref mA, .ref mS, .ref mI, .ref mV, .int me, .ref mT, .ref mR, .int (nI mz), .int (nI ma), .ref mW, .int (nI mr), .ref mN])), (mS, .inl (G.2.1, 259, .inl zs))]) (fun u => some (.int u)) (f_X7_isWrong zs bb bn wo s0 wr) := by
  obtain ⟨R, hf⟩ : ∃ R, f_X7_isWrong zs bb bn wo s0 wr = R := ⟨_, rfl⟩
  rw [hf]
  refine CT.mkI RX7 (by decide +kernel) rfl (Nat.le_of_ble_eq_true rfl) ?_
  intro p e s m args below meth c A Q ls hx hb hml hown hK hP hD hS hA hret hl
  have hl : lv_has ls 7 [(0, .ref mO), (1, .int (nI bb)), (2, .int wo), (3, .int s0), (4, .int wr)] := hl
  rw [f_X7_isWrong] at hf
  refine lv_iconst (v := 0) hx hb dX7_isWrong_0 (by decide) ?_
  refine lv_istore (lv' := [(5, .int 0), (0, .ref mO), (1, .int (nI bb)), (2, .int wo), (3, .int s0), (4, .int wr)]) hx hb dX7_isWrong_1 hl (by decide) rfl (fun ls hl => ?_)
  refine lv_iconst (v := 0) hx hb dX7_isWrong_3 (by decide) ?_
  refine lv_istore (lv' := [(6, .int 0), (5, .int 0), (0, .ref mO), (1, .int (nI bb)), (2, .int wo), (3, .int s0), (4, .int wr)]) hx hb dX7_isWrong_4 hl (by decide) rfl (fun ls hl => ?_)
  have L6 : ∀ (k6 : Nat) (i6 : Nat) (v5_6 : Int32), k6 + i6 = bn → (v5_6 = 0 ∨ v5_6 = 1) → f_X7_isWrong_6 zs bb wo s0 wr k6 i6 v5_6 = R → ∀ (H : Heap) (locs : List Loc) (ls : Array Slot), va_P G.1 wcl [(mO, .inr (7, [.ref mA, .ref mS, .ref mI, .ref mV, .int me, .ref mT, .ref mR, .int (nI mz), .int (nI ma), .ref mW, .int (nI mr), .ref mN])), (mS, .inl (G.2.1, 259, .inl zs))] H → va_D A [(mO, .inr (7, [.ref mA, .ref mS, .ref mI, .ref mV, .int me, .ref mT, .ref mR, .int (nI mz), .int (nI ma), .ref mW, .int (nI mr), .ref mN])), (mS, .inl (G.2.1, 259, .inl zs))] → va_S A s.heap H locs → lv_has ls 7 [(0, .ref mO), (1, .int (nI bb)), (2, .int wo), (3, .int s0), (4, .int wr), (5, .int v5_6), (6, .int (nI i6))] → W p l e ({ frames := 2, cells := 0, slots := 0, locals := 48 }) s m args below meth c H locs 0 0 Q (F0 m 6 ls []) := by
    intro k6
    induction k6 with
    | zero =>
      intro i6 v5_6 hi6 hz hf _ _ ls hP hD hS hl
      rw [f_X7_isWrong_6_z] at hf
      refine lv_iload hx hb dX7_isWrong_6 (lv_at hl 6 rfl) ?_
      refine lv_aload_n hx hb dX7_isWrong_8 rfl (lv_at hl 0 rfl) ?_
      refine va_get (D := G.1) (ci := 7) (v := .ref mS) (C := RX7) (T := TX7) (N := 12) hx hb (ku_X7 hK.2) (fun _ h9 => h9) hown hK.1 hP 0 rfl rfl 1 (by decide) (kw_678 hK.2) (fun _ h9 => h9) rfl dX7_isWrong_9 ?_
      refine lv_sipush (v := 160) hx hb dX7_isWrong_12 (by decide) ?_
      refine lv_iload_n hx hb dX7_isWrong_15 rfl (lv_at hl 1 rfl) ?_
      refine lv_iadd hx hb dX7_isWrong_16 ?_
      refine ww_e (nI_addE (a := 160) (b := bb) rfl rfl) ?_
      refine ww_ild (j := 160 + bb) hx hb hK.1 hP 1 0 rfl rfl (by omega) (by omega) dX7_isWrong_17 ?_
      refine ww_e hbn ?_
      refine lv_icmp_ge (tgt := 102) hx hb dX7_isWrong_18 (by decide) (fun _ => ?_) (fun c => absurd (ile (a := bn) (b := i6) rfl rfl (by omega) (by omega) (by omega)) c)
      refine lv_iload hx hb dX7_isWrong_102 (lv_at hl 5 rfl) ?_
      exact hret v5_6 dX7_isWrong_104 (by rcases hz with h | h <;> rw [h] <;> rfl) hf rfl hP hS
    | succ k6 ih6 =>
      intro i6 v5_6 hi6 hz hf _ _ ls hP hD hS hl
      rw [f_X7_isWrong_6_s] at hf
      refine lv_iload hx hb dX7_isWrong_6 (lv_at hl 6 rfl) ?_
      refine lv_aload_n hx hb dX7_isWrong_8 rfl (lv_at hl 0 rfl) ?_
      refine va_get (D := G.1) (ci := 7) (v := .ref mS) (C := RX7) (T := TX7) (N := 12) hx hb (ku_X7 hK.2) (fun _ h9 => h9) hown hK.1 hP 0 rfl rfl 1 (by decide) (kw_678 hK.2) (fun _ h9 => h9) rfl dX7_isWrong_9 ?_
      refine lv_sipush (v := 160) hx hb dX7_isWrong_12 (by decide) ?_
      refine lv_iload_n hx hb dX7_isWrong_15 rfl (lv_at hl 1 rfl) ?_
      refine lv_iadd hx hb dX7_isWrong_16 ?_
      refine ww_e (nI_addE (a := 160) (b := bb) rfl rfl) ?_
      refine ww_ild (j := 160 + bb) hx hb hK.1 hP 1 0 rfl rfl (by omega) (by omega) dX7_isWrong_17 ?_
      refine ww_e hbn ?_
      refine lv_icmp_ge (tgt := 102) hx hb dX7_isWrong_18 (by decide) (fun c => absurd c (inle (a := bn) (b := i6) rfl rfl (by omega) (by omega) (by omega))) (fun _ => ?_)
      refine lv_aload_n hx hb dX7_isWrong_21 rfl (lv_at hl 0 rfl) ?_
      refine lv_iload_n hx hb dX7_isWrong_22 rfl (lv_at hl 1 rfl) ?_
      refine lv_iload hx hb dX7_isWrong_23 (lv_at hl 6 rfl) ?_
      refine lv_iconst (v := 0) hx hb dX7_isWrong_25 (by decide) ?_
      refine cl_V (q := (RX7, TX7, 12)) (ws' := [(mO, .inr (7, [.ref mA, .ref mS, .ref mI, .ref mV, .int me, .ref mT, .ref mR, .int (nI mz), .int (nI ma), .ref mW, .int (nI mr), .ref mN])), (mS, .inl (G.2.1, 259, .inl zs))]) (v := (some (.int (f_X7_get zs bb i6 0)))) (st1 := [.int (f_X7_get zs bb i6 0)]) (rest := []) (As := [.int (nI bb), .int (nI i6), .int 0]) [0, 1] 0 7 hx hb hml hown hK (k_X7_get l G mO mA mS mI mV mT mR mW mN me mz ma mr zs bb i6 0 hbb (by omega) (by omega)) (mf_X7_get hK.2) (kw_758 hK.2) (kw_17 hK.2) (kw_756 hK.2) ⟨rfl, rfl, Nat.le_of_ble_eq_true rfl, Nat.le_of_ble_eq_true rfl⟩ rfl hP hD hS hA rfl rfl hl (Nat.le_of_ble_eq_true rfl) rfl ⟨Nat.le_of_ble_eq_true rfl, Nat.le_of_ble_eq_true rfl⟩ rfl dX7_isWrong_26 rfl rfl (rpl_fast (by decide) rfl rfl) rfl rfl rfl (fun H locs hP hD hS => ?_)
      refine lv_iload_n hx hb dX7_isWrong_29 rfl (lv_at hl 2 rfl) ?_
      refine lv_icmp_ne (tgt := 96) hx hb dX7_isWrong_30 (by decide) (fun c1 => ?_) (fun c1 => ?_)
      · have hf := (if_neg c1).symm.trans hf
        refine lv_iinc (v := nI (i6 + 1)) (lv' := [(6, .int (nI (i6 + 1))), (0, .ref mO), (1, .int (nI bb)), (2, .int wo), (3, .int s0), (4, .int wr), (5, .int v5_6)]) hx hb dX7_isWrong_96 hl (k := 6) rfl (nI_1 i6) (by decide) rfl (fun ls hl => ?_)
        refine lv_goto (tgt := 6) hx hb dX7_isWrong_99 (by decide) ?_
        exact ih6 (i6 + 1) v5_6 (by omega) (by first | exact hz | exact Or.inl rfl | exact Or.inr rfl) hf _ _ ls hP hD hS (lv_sub hl [1, 2, 3, 4, 5, 6, 0] rfl)
      · have hf := (if_pos c1).symm.trans hf
        refine lv_aload_n hx hb dX7_isWrong_33 rfl (lv_at hl 0 rfl) ?_
        refine lv_iload_n hx hb dX7_isWrong_34 rfl (lv_at hl 1 rfl) ?_
        refine lv_iload hx hb dX7_isWrong_35 (lv_at hl 6 rfl) ?_
        refine lv_iload_n hx hb dX7_isWrong_37 rfl (lv_at hl 3 rfl) ?_
        refine cl_V (q := (RX7, TX7, 12)) (ws' := [(mO, .inr (7, [.ref mA, .ref mS, .ref mI, .ref mV, .int me, .ref mT, .ref mR, .int (nI mz), .int (nI ma), .ref mW, .int (nI mr), .ref mN])), (mS, .inl (G.2.1, 259, .inl zs))]) (v := (some (.int (f_X7_teaches zs bb i6 s0)))) (st1 := [.int (f_X7_teaches zs bb i6 s0)]) (rest := []) (As := [.int (nI bb), .int (nI i6), .int s0]) [0, 1] 0 7 hx hb hml hown hK (k_X7_teaches l G mO mA mS mI mV mT mR mW mN me mz ma mr zs bb i6 s0 hbb (by omega) (hnd _ (by omega))) (mf_X7_teaches hK.2) (kw_789 hK.2) (kw_20 hK.2) (kw_787 hK.2) ⟨rfl, rfl, Nat.le_of_ble_eq_true rfl, Nat.le_of_ble_eq_true rfl⟩ rfl hP hD hS hA rfl rfl hl (Nat.le_of_ble_eq_true rfl) rfl ⟨Nat.le_of_ble_eq_true rfl, Nat.le_of_ble_eq_true rfl⟩ rfl dX7_isWrong_38 rfl rfl (rpl_fast (by decide) rfl rfl) rfl rfl rfl (fun H locs hP hD hS => ?_)
        refine lv_if_ne (tgt := 47) hx hb dX7_isWrong_41 (by decide) (fun c2 => ?_) (fun c2 => ?_)
        · have hf := (if_neg c2).symm.trans hf
          refine lv_iload hx hb dX7_isWrong_47 (lv_at hl 5 rfl) ?_
          refine lv_if_ne (tgt := 68) hx hb dX7_isWrong_49 (by decide) (fun c3 => ?_) (fun c3 => ?_)
          · have hf := (if_neg c3).symm.trans hf
            refine lv_iconst (v := 1) hx hb dX7_isWrong_68 (by decide) ?_
            refine lv_goto (tgt := 73) hx hb dX7_isWrong_69 (by decide) ?_
            refine lv_istore (lv' := [(5, .int 1), (0, .ref mO), (1, .int (nI bb)), (2, .int wo), (3, .int s0), (4, .int wr), (6, .int (nI i6))]) hx hb dX7_isWrong_73 hl (by decide) rfl (fun ls hl => ?_)
            refine lv_aload_n hx hb dX7_isWrong_75 rfl (lv_at hl 1 rfl) ?_
            refine va_get (D := G.1) (ci := 7) (v := .ref mS) (C := RX7) (T := TX7) (N := 12) hx hb (ku_X7 hK.2) (fun _ h9 => h9) hown hK.1 hP 0 rfl rfl 1 (by decide) (kw_678 hK.2) (fun _ h9 => h9) rfl dX7_isWrong_76 ?_
            refine lv_sipush (v := 210) hx hb dX7_isWrong_79 (by decide) ?_
            refine lv_bipush (v := 12) hx hb dX7_isWrong_82 (by decide) ?_
            refine lv_iload_n hx hb dX7_isWrong_84 rfl (lv_at hl 2 rfl) ?_
            refine lv_imul hx hb dX7_isWrong_85 ?_
            refine ww_e (nI_mulE (a := 12) (b := bb) rfl rfl) ?_
            refine lv_iadd hx hb dX7_isWrong_86 ?_
            refine ww_e (nI_addE (a := 210) (b := 12 * bb) rfl rfl) ?_
            refine lv_iload_n hx hb dX7_isWrong_87 rfl (lv_at hl 3 rfl) ?_
            refine lv_iadd hx hb dX7_isWrong_88 ?_
            refine va_iald hx hb hK.1 hP 1 0 rfl rfl (ix_add hwo (by omega) (by decide)) dX7_isWrong_89 ?_
            refine lv_if_ne (tgt := 96) hx hb dX7_isWrong_90 (by decide) (fun c4 => ?_) (fun c4 => ?_)
            · have hf := (if_neg c4).symm.trans hf
              refine lv_iinc (v := nI (i6 + 1)) (lv' := [(6, .int (nI (i6 + 1))), (5, .int 1), (0, .ref mO), (1, .int (nI bb)), (2, .int wo), (3, .int s0), (4, .int wr)]) hx hb dX7_isWrong_96 hl (k := 6) rfl (nI_1 i6) (by decide) rfl (fun ls hl => ?_)
              refine lv_goto (tgt := 6) hx hb dX7_isWrong_99 (by decide) ?_
              exact ih6 (i6 + 1) 1 (by omega) (by first | exact hz | exact Or.inl rfl | exact Or.inr rfl) hf _ _ ls hP hD hS (lv_sub hl [2, 3, 4, 5, 6, 1, 0] rfl)
            · have hf := (if_pos c4).symm.trans hf
              refine lv_iload hx hb dX7_isWrong_93 (lv_at hl 0 rfl) ?_
              exact hret 1 dX7_isWrong_95 rfl hf rfl hP hS
          · have hf := (if_pos c3).symm.trans hf
            refine lv_aload_n hx hb dX7_isWrong_52 rfl (lv_at hl 0 rfl) ?_
            refine lv_iload_n hx hb dX7_isWrong_53 rfl (lv_at hl 1 rfl) ?_
            refine lv_iload hx hb dX7_isWrong_54 (lv_at hl 6 rfl) ?_
            refine lv_iconst (v := 2) hx hb dX7_isWrong_56 (by decide) ?_
            refine cl_V (q := (RX7, TX7, 12)) (ws' := [(mO, .inr (7, [.ref mA, .ref mS, .ref mI, .ref mV, .int me, .ref mT, .ref mR, .int (nI mz), .int (nI ma), .ref mW, .int (nI mr), .ref mN])), (mS, .inl (G.2.1, 259, .inl zs))]) (v := (some (.int (f_X7_get zs bb i6 2)))) (st1 := [.int (f_X7_get zs bb i6 2)]) (rest := []) (As := [.int (nI bb), .int (nI i6), .int 2]) [0, 1] 0 7 hx hb hml hown hK (k_X7_get l G mO mA mS mI mV mT mR mW mN me mz ma mr zs bb i6 2 hbb (by omega) (by omega)) (mf_X7_get hK.2) (kw_758 hK.2) (kw_17 hK.2) (kw_756 hK.2) ⟨rfl, rfl, Nat.le_of_ble_eq_true rfl, Nat.le_of_ble_eq_true rfl⟩ rfl hP hD hS hA rfl rfl hl (Nat.le_of_ble_eq_true rfl) rfl ⟨Nat.le_of_ble_eq_true rfl, Nat.le_of_ble_eq_true rfl⟩ rfl dX7_isWrong_57 rfl rfl (rpl_fast (by decide) rfl rfl) rfl rfl rfl (fun H locs hP hD hS => ?_)
            refine lv_iload_n hx hb dX7_isWrong_60 rfl (lv_at hl 3 rfl) ?_
            refine lv_iand hx hb dX7_isWrong_61 ?_
            refine lv_iload hx hb dX7_isWrong_62 (lv_at hl 4 rfl) ?_
            refine lv_iand hx hb dX7_isWrong_64 ?_
            refine lv_if_eq (tgt := 72) hx hb dX7_isWrong_65 (by decide) (fun c5 => ?_) (fun c5 => ?_)
            · have hf := (if_pos c5).symm.trans hf
              refine lv_iconst (v := 0) hx hb dX7_isWrong_72 (by decide) ?_
              refine lv_istore (lv' := [(5, .int 0), (0, .ref mO), (1, .int (nI bb)), (2, .int wo), (3, .int s0), (4, .int wr), (6, .int (nI i6))]) hx hb dX7_isWrong_73 hl (by decide) rfl (fun ls hl => ?_)
              refine lv_aload_n hx hb dX7_isWrong_75 rfl (lv_at hl 1 rfl) ?_
              refine va_get (D := G.1) (ci := 7) (v := .ref mS) (C := RX7) (T := TX7) (N := 12) hx hb (ku_X7 hK.2) (fun _ h9 => h9) hown hK.1 hP 0 rfl rfl 1 (by decide) (kw_678 hK.2) (fun _ h9 => h9) rfl dX7_isWrong_76 ?_
              refine lv_sipush (v := 210) hx hb dX7_isWrong_79 (by decide) ?_
              refine lv_bipush (v := 12) hx hb dX7_isWrong_82 (by decide) ?_
              refine lv_iload_n hx hb dX7_isWrong_84 rfl (lv_at hl 2 rfl) ?_
              refine lv_imul hx hb dX7_isWrong_85 ?_
              refine ww_e (nI_mulE (a := 12) (b := bb) rfl rfl) ?_
              refine lv_iadd hx hb dX7_isWrong_86 ?_
              refine ww_e (nI_addE (a := 210) (b := 12 * bb) rfl rfl) ?_
              refine lv_iload_n hx hb dX7_isWrong_87 rfl (lv_at hl 3 rfl) ?_
              refine lv_iadd hx hb dX7_isWrong_88 ?_
              refine va_iald hx hb hK.1 hP 1 0 rfl rfl (ix_add hwo (by omega) (by decide)) dX7_isWrong_89 ?_
              refine lv_if_ne (tgt := 96) hx hb dX7_isWrong_90 (by decide) (fun c6 => ?_) (fun c6 => ?_)
              · have hf := (if_neg c6).symm.trans hf
                refine lv_iinc (v := nI (i6 + 1)) (lv' := [(6, .int (nI (i6 + 1))), (5, .int 0), (0, .ref mO), (1, .int (nI bb)), (2, .int wo), (3, .int s0), (4, .int wr)]) hx hb dX7_isWrong_96 hl (k := 6) rfl (nI_1 i6) (by decide) rfl (fun ls hl => ?_)
                refine lv_goto (tgt := 6) hx hb dX7_isWrong_99 (by decide) ?_
                exact ih6 (i6 + 1) 0 (by omega) (by first | exact hz | exact Or.inl rfl | exact Or.inr rfl) hf _ _ ls hP hD hS (lv_sub hl [2, 3, 4, 5, 6, 1, 0] rfl)
              · have hf := (if_pos c6).symm.trans hf
                refine lv_iload hx hb dX7_isWrong_93 (lv_at hl 0 rfl) ?_
                exact hret 0 dX7_isWrong_95 rfl hf rfl hP hS
            · have hf := (if_neg c5).symm.trans hf
              refine lv_iconst (v := 1) hx hb dX7_isWrong_68 (by decide) ?_
              refine lv_goto (tgt := 73) hx hb dX7_isWrong_69 (by decide) ?_
              refine lv_istore (lv' := [(5, .int 1), (0, .ref mO), (1, .int (nI bb)), (2, .int wo), (3, .int s0), (4, .int wr), (6, .int (nI i6))]) hx hb dX7_isWrong_73 hl (by decide) rfl (fun ls hl => ?_)
              refine lv_aload_n hx hb dX7_isWrong_75 rfl (lv_at hl 1 rfl) ?_
              refine va_get (D := G.1) (ci := 7) (v := .ref mS) (C := RX7) (T := TX7) (N := 12) hx hb (ku_X7 hK.2) (fun _ h9 => h9) hown hK.1 hP 0 rfl rfl 1 (by decide) (kw_678 hK.2) (fun _ h9 => h9) rfl dX7_isWrong_76 ?_
              refine lv_sipush (v := 210) hx hb dX7_isWrong_79 (by decide) ?_
              refine lv_bipush (v := 12) hx hb dX7_isWrong_82 (by decide) ?_
              refine lv_iload_n hx hb dX7_isWrong_84 rfl (lv_at hl 2 rfl) ?_
              refine lv_imul hx hb dX7_isWrong_85 ?_
              refine ww_e (nI_mulE (a := 12) (b := bb) rfl rfl) ?_
              refine lv_iadd hx hb dX7_isWrong_86 ?_
              refine ww_e (nI_addE (a := 210) (b := 12 * bb) rfl rfl) ?_
              refine lv_iload_n hx hb dX7_isWrong_87 rfl (lv_at hl 3 rfl) ?_
              refine lv_iadd hx hb dX7_isWrong_88 ?_
              refine va_iald hx hb hK.1 hP 1 0 rfl rfl (ix_add hwo (by omega) (by decide)) dX7_isWrong_89 ?_
              refine lv_if_ne (tgt := 96) hx hb dX7_isWrong_90 (by decide) (fun c7 => ?_) (fun c7 => ?_)
              · have hf := (if_neg c7).symm.trans hf
                refine lv_iinc (v := nI (i6 + 1)) (lv' := [(6, .int (nI (i6 + 1))), (5, .int 1), (0, .ref mO), (1, .int (nI bb)), (2, .int wo), (3, .int s0), (4, .int wr)]) hx hb dX7_isWrong_96 hl (k := 6) rfl (nI_1 i6) (by decide) rfl (fun ls hl => ?_)
                refine lv_goto (tgt := 6) hx hb dX7_isWrong_99 (by decide) ?_
                exact ih6 (i6 + 1) 1 (by omega) (by first | exact hz | exact Or.inl rfl | exact Or.inr rfl) hf _ _ ls hP hD hS (lv_sub hl [2, 3, 4, 5, 6, 1, 0] rfl)
              · have hf := (if_pos c7).symm.trans hf
                refine lv_iload hx hb dX7_isWrong_93 (lv_at hl 0 rfl) ?_
                exact hret 1 dX7_isWrong_95 rfl hf rfl hP hS
        · have hf := (if_pos c2).symm.trans hf
          refine lv_goto (tgt := 96) hx hb dX7_isWrong_44 (by decide) ?_
          refine lv_iinc (v := nI (i6 + 1)) (lv' := [(6, .int (nI (i6 + 1))), (0, .ref mO), (1, .int (nI bb)), (2, .int wo), (3, .int s0), (4, .int wr), (5, .int v5_6)]) hx hb dX7_isWrong_96 hl (k := 6) rfl (nI_1 i6) (by decide) rfl (fun ls hl => ?_)
          refine lv_goto (tgt := 6) hx hb dX7_isWrong_99 (by decide) ?_
          exact ih6 (i6 + 1) v5_6 (by omega) (by first | exact hz | exact Or.inl rfl | exact Or.inr rfl) hf _ _ ls hP hD hS (lv_sub hl [1, 2, 3, 4, 5, 6, 0] rfl)
  exact L6 bn 0 0 (by omega) (Or.inl rfl) hf _ _ ls hP hD hS (lv_sub hl [2, 3, 4, 5, 6, 1, 0] rfl)
def f_X7_spreads_31 (zs : Nat → Int32) (bb : Nat) (bn : Nat) (v4_17 : Int32) (v5_17 : Int32) (v6_17 : Int32) : Nat → Nat → Int32 → Int32
  | 0, i31, v7_31 => v7_31
  | k31 + 1, i31, v7_31 => (if (((v6_17 &&& (v4_17 ^^^ (-1 : Int32))) >>> ((nI i31) &&& 31)) &&& (1 : Int32)) = 1 then (if (f_X7_isWrong zs bb bn (nI i31) v4_17 v5_17) = 0 then f_X7_spreads_31 zs bb bn v4_17 v5_17 v6_17 k31 (i31 + 1) v7_31 else f_X7_spreads_31 zs bb bn v4_17 v5_17 v6_17 k31 (i31 + 1) (v7_31 ||| ((1 : Int32) <<< ((nI i31) &&& 31)))) else f_X7_spreads_31 zs bb bn v4_17 v5_17 v6_17 k31 (i31 + 1) v7_31)
theorem f_X7_spreads_31_z (zs : Nat → Int32) (bb : Nat) (bn : Nat) (v4_17 : Int32) (v5_17 : Int32) (v6_17 : Int32) (i31 : Nat) (v7_31 : Int32) : f_X7_spreads_31 zs bb bn v4_17 v5_17 v6_17 0 i31 v7_31 = v7_31 := rfl
theorem f_X7_spreads_31_s (zs : Nat → Int32) (bb : Nat) (bn : Nat) (v4_17 : Int32) (v5_17 : Int32) (v6_17 : Int32) (k31 : Nat) (i31 : Nat) (v7_31 : Int32) : f_X7_spreads_31 zs bb bn v4_17 v5_17 v6_17 (k31 + 1) i31 v7_31 = (if (((v6_17 &&& (v4_17 ^^^ (-1 : Int32))) >>> ((nI i31) &&& 31)) &&& (1 : Int32)) = 1 then (if (f_X7_isWrong zs bb bn (nI i31) v4_17 v5_17) = 0 then f_X7_spreads_31 zs bb bn v4_17 v5_17 v6_17 k31 (i31 + 1) v7_31 else f_X7_spreads_31 zs bb bn v4_17 v5_17 v6_17 k31 (i31 + 1) (v7_31 ||| ((1 : Int32) <<< ((nI i31) &&& 31)))) else f_X7_spreads_31 zs bb bn v4_17 v5_17 v6_17 k31 (i31 + 1) v7_31) := rfl
def f_X7_spreads_17 (zs : Nat → Int32) (bb : Nat) (bn : Nat) : Nat → Int32 → Int32 → Int32 → Int32
  | 0, _, _, _ => default
  | k17 + 1, v4_17, v5_17, v6_17 => (if v6_17 = v4_17 then v5_17 else f_X7_spreads_17 zs bb bn k17 v6_17 (f_X7_spreads_31 zs bb bn v4_17 v5_17 v6_17 12 0 v5_17) (f_X7_next zs bb bn v6_17))
theorem f_X7_spreads_17_z (zs : Nat → Int32) (bb : Nat) (bn : Nat) (v4_17 : Int32) (v5_17 : Int32) (v6_17 : Int32) : f_X7_spreads_17 zs bb bn 0 v4_17 v5_17 v6_17 = default := rfl
theorem f_X7_spreads_17_s (zs : Nat → Int32) (bb : Nat) (bn : Nat) (k17 : Nat) (v4_17 : Int32) (v5_17 : Int32) (v6_17 : Int32) : f_X7_spreads_17 zs bb bn (k17 + 1) v4_17 v5_17 v6_17 = (if v6_17 = v4_17 then v5_17 else f_X7_spreads_17 zs bb bn k17 v6_17 (f_X7_spreads_31 zs bb bn v4_17 v5_17 v6_17 12 0 v5_17) (f_X7_next zs bb bn v6_17)) := rfl
def f_X7_spreads (zs : Nat → Int32) (bb : Nat) (bn : Nat) (s0 : Int32) (wo : Int32) : Int32 := (f_X7_spreads_17 zs bb bn 4096 s0 ((1 : Int32) <<< (wo &&& 31)) (f_X7_next zs bb bn s0))
set_option maxHeartbeats 4000000 in
set_option maxRecDepth 100000 in
theorem k_X7_spreads (l : Launch) (G : wG) (mO : Nat) (mA : Nat) (mS : Nat) (mI : Nat) (mV : Nat) (mT : Nat) (mR : Nat) (mW : Nat) (mN : Nat) (me : Int32) (mz : Nat) (ma : Nat) (mr : Nat) (zs : Nat → Int32) (bb : Nat) (bn : Nat) (s0 : Int32) (wo : Int32) (hbb : bb < 2) (hbn : zs (160 + bb) = nI bn) (hb2 : bn ≤ 20) (hnd : ∀ t : Nat, t < bn → Rg (zs (80 * bb + 4 * t + 2))) (hwd : ∀ t : Nat, t < bn → ∃ w : Nat, w < 12 ∧ zs (80 * bb + 4 * t) = nI w) (hs : Rg s0) : CT l G yX7_spreads cX7_spreads 9 (some .int) ({ frames := 3, cells := 0, slots := 0, locals := 74 }) [.ref mO, .int (nI bb), .int s0, .int wo] [(mO, .inr (7, [.ref mA, .ref mS, .ref mI, .ref mV, .int me, .ref mT, .ref mR, .int (nI mz), .int (nI ma), .ref mW, .int (nI mr), .ref mN])), (mS, .inl (G.2.1, 259, .inl zs))] (fun _ => [(mO, .inr (7, [.ref mA, .ref mS, .ref mI, .ref mV, .int me, .ref mT, .ref mR, .int (nI mz), .int (nI ma), .ref mW, .int (nI mr), .ref mN])), (mS, .inl (G.2.1, 259, .inl zs))]) (fun u => some (.int u)) (f_X7_spreads zs bb bn s0 wo) := by
  obtain ⟨R, hf⟩ : ∃ R, f_X7_spreads zs bb bn s0 wo = R := ⟨_, rfl⟩
  rw [hf]
  refine CT.mkI RX7 (by decide +kernel) rfl (Nat.le_of_ble_eq_true rfl) ?_
  intro p e s m args below meth c A Q ls hx hb hml hown hK hP hD hS hA hret hl
  have hl : lv_has ls 9 [(0, .ref mO), (1, .int (nI bb)), (2, .int s0), (3, .int wo)] := hl
  rw [f_X7_spreads] at hf
  refine lv_iload_n hx hb dX7_spreads_0 rfl (lv_at hl 2 rfl) ?_
  refine lv_istore (lv' := [(4, .int s0), (0, .ref mO), (1, .int (nI bb)), (2, .int s0), (3, .int wo)]) hx hb dX7_spreads_1 hl (by decide) rfl (fun ls hl => ?_)
  refine lv_iconst (v := 1) hx hb dX7_spreads_3 (by decide) ?_
  refine lv_iload_n hx hb dX7_spreads_4 rfl (lv_at hl 4 rfl) ?_
  refine lv_ishl hx hb dX7_spreads_5 ?_
  refine lv_istore (lv' := [(5, .int ((1 : Int32) <<< (wo &&& 31))), (4, .int s0), (0, .ref mO), (1, .int (nI bb)), (2, .int s0), (3, .int wo)]) hx hb dX7_spreads_6 hl (by decide) rfl (fun ls hl => ?_)
  refine lv_aload_n hx hb dX7_spreads_8 rfl (lv_at hl 2 rfl) ?_
  refine lv_iload_n hx hb dX7_spreads_9 rfl (lv_at hl 3 rfl) ?_
  refine lv_iload hx hb dX7_spreads_10 (lv_at hl 1 rfl) ?_
  refine cl_V (q := (RX7, TX7, 12)) (ws' := [(mO, .inr (7, [.ref mA, .ref mS, .ref mI, .ref mV, .int me, .ref mT, .ref mR, .int (nI mz), .int (nI ma), .ref mW, .int (nI mr), .ref mN])), (mS, .inl (G.2.1, 259, .inl zs))]) (v := (some (.int (f_X7_next zs bb bn s0)))) (st1 := [.int (f_X7_next zs bb bn s0)]) (rest := []) (As := [.int (nI bb), .int s0]) [0, 1] 0 7 hx hb hml hown hK (k_X7_next l G mO mA mS mI mV mT mR mW mN me mz ma mr zs bb bn s0 hbb hbn hb2 hnd) (mf_X7_next hK.2) (kw_785 hK.2) (kw_19 hK.2) (kw_783 hK.2) ⟨rfl, rfl, Nat.le_of_ble_eq_true rfl, Nat.le_of_ble_eq_true rfl⟩ rfl hP hD hS hA rfl rfl hl (Nat.le_of_ble_eq_true rfl) rfl ⟨Nat.le_of_ble_eq_true rfl, Nat.le_of_ble_eq_true rfl⟩ rfl dX7_spreads_12 rfl rfl (rpl_fast (by decide) rfl rfl) rfl rfl rfl (fun H locs hP hD hS => ?_)
  refine lv_istore (lv' := [(6, .int (f_X7_next zs bb bn s0)), (5, .int ((1 : Int32) <<< (wo &&& 31))), (4, .int s0), (0, .ref mO), (1, .int (nI bb)), (2, .int s0), (3, .int wo)]) hx hb dX7_spreads_15 hl (by decide) rfl (fun ls hl => ?_)
  have L17 : ∀ (k17 : Nat) (v4_17 : Int32) (v5_17 : Int32) (v6_17 : Int32), (Rg v4_17) → (Rg v6_17) → (v6_17 = v4_17 ∨ v4_17.toNatClampNeg < v6_17.toNatClampNeg) → (4096 ≤ v4_17.toNatClampNeg + k17) → f_X7_spreads_17 zs bb bn k17 v4_17 v5_17 v6_17 = R → ∀ (H : Heap) (locs : List Loc) (ls : Array Slot), va_P G.1 wcl [(mO, .inr (7, [.ref mA, .ref mS, .ref mI, .ref mV, .int me, .ref mT, .ref mR, .int (nI mz), .int (nI ma), .ref mW, .int (nI mr), .ref mN])), (mS, .inl (G.2.1, 259, .inl zs))] H → va_D A [(mO, .inr (7, [.ref mA, .ref mS, .ref mI, .ref mV, .int me, .ref mT, .ref mR, .int (nI mz), .int (nI ma), .ref mW, .int (nI mr), .ref mN])), (mS, .inl (G.2.1, 259, .inl zs))] → va_S A s.heap H locs → lv_has ls 9 [(0, .ref mO), (1, .int (nI bb)), (4, .int v4_17), (5, .int v5_17), (6, .int v6_17)] → W p l e ({ frames := 3, cells := 0, slots := 0, locals := 74 }) s m args below meth c H locs 0 0 Q (F0 m 17 ls []) := by
    intro k17
    induction k17 with
    | zero =>
      intro v4_17 v5_17 v6_17  h0 h1 h2 h3 hf _ _ ls hP hD hS hl
      exact absurd (clamp_lt h0) (by omega)
    | succ k17 ih17 =>
      intro v4_17 v5_17 v6_17  h0 h1 h2 h3 hf _ _ ls hP hD hS hl
      rw [f_X7_spreads_17_s] at hf
      refine lv_iload hx hb dX7_spreads_17 (lv_at hl 4 rfl) ?_
      refine lv_iload hx hb dX7_spreads_19 (lv_at hl 2 rfl) ?_
      refine lv_icmp_eq (tgt := 103) hx hb dX7_spreads_21 (by decide) (fun c1 => ?_) (fun c1 => ?_)
      · have hf := (if_pos c1).symm.trans hf
        refine lv_iload hx hb dX7_spreads_103 (lv_at hl 3 rfl) ?_
        exact hret v5_17 dX7_spreads_105 rfl hf rfl hP hS
      · have hf := (if_neg c1).symm.trans hf
        refine lv_iload hx hb dX7_spreads_24 (lv_at hl 3 rfl) ?_
        refine lv_istore (lv' := [(7, .int v5_17), (0, .ref mO), (1, .int (nI bb)), (4, .int v4_17), (5, .int v5_17), (6, .int v6_17)]) hx hb dX7_spreads_26 hl (by decide) rfl (fun ls hl => ?_)
        refine lv_iconst (v := 0) hx hb dX7_spreads_28 (by decide) ?_
        refine lv_istore (lv' := [(8, .int 0), (7, .int v5_17), (0, .ref mO), (1, .int (nI bb)), (4, .int v4_17), (5, .int v5_17), (6, .int v6_17)]) hx hb dX7_spreads_29 hl (by decide) rfl (fun ls hl => ?_)
        have X31 : ∀ (H : Heap) (locs : List Loc) (ls : Array Slot), va_P G.1 wcl [(mO, .inr (7, [.ref mA, .ref mS, .ref mI, .ref mV, .int me, .ref mT, .ref mR, .int (nI mz), .int (nI ma), .ref mW, .int (nI mr), .ref mN])), (mS, .inl (G.2.1, 259, .inl zs))] H → va_D A [(mO, .inr (7, [.ref mA, .ref mS, .ref mI, .ref mV, .int me, .ref mT, .ref mR, .int (nI mz), .int (nI ma), .ref mW, .int (nI mr), .ref mN])), (mS, .inl (G.2.1, 259, .inl zs))] → va_S A s.heap H locs → lv_has ls 9 [(0, .ref mO), (1, .int (nI bb)), (6, .int v6_17), (7, .int (f_X7_spreads_31 zs bb bn v4_17 v5_17 v6_17 12 0 v5_17))] → W p l e ({ frames := 3, cells := 0, slots := 0, locals := 74 }) s m args below meth c H locs 0 0 Q (F0 m 83 ls []) := by
          intro H locs ls hP hD hS hl
          refine lv_iload hx hb dX7_spreads_83 (lv_at hl 3 rfl) ?_
          refine lv_istore (lv' := [(5, .int (f_X7_spreads_31 zs bb bn v4_17 v5_17 v6_17 12 0 v5_17)), (0, .ref mO), (1, .int (nI bb)), (6, .int v6_17), (7, .int (f_X7_spreads_31 zs bb bn v4_17 v5_17 v6_17 12 0 v5_17))]) hx hb dX7_spreads_85 hl (by decide) rfl (fun ls hl => ?_)
          refine lv_iload hx hb dX7_spreads_87 (lv_at hl 3 rfl) ?_
          refine lv_istore (lv' := [(4, .int v6_17), (5, .int (f_X7_spreads_31 zs bb bn v4_17 v5_17 v6_17 12 0 v5_17)), (0, .ref mO), (1, .int (nI bb)), (6, .int v6_17), (7, .int (f_X7_spreads_31 zs bb bn v4_17 v5_17 v6_17 12 0 v5_17))]) hx hb dX7_spreads_89 hl (by decide) rfl (fun ls hl => ?_)
          refine lv_aload_n hx hb dX7_spreads_91 rfl (lv_at hl 2 rfl) ?_
          refine lv_iload_n hx hb dX7_spreads_92 rfl (lv_at hl 3 rfl) ?_
          refine lv_iload hx hb dX7_spreads_93 (lv_at hl 0 rfl) ?_
          refine cl_V (q := (RX7, TX7, 12)) (ws' := [(mO, .inr (7, [.ref mA, .ref mS, .ref mI, .ref mV, .int me, .ref mT, .ref mR, .int (nI mz), .int (nI ma), .ref mW, .int (nI mr), .ref mN])), (mS, .inl (G.2.1, 259, .inl zs))]) (v := (some (.int (f_X7_next zs bb bn v6_17)))) (st1 := [.int (f_X7_next zs bb bn v6_17)]) (rest := []) (As := [.int (nI bb), .int v6_17]) [0, 1] 0 7 hx hb hml hown hK (k_X7_next l G mO mA mS mI mV mT mR mW mN me mz ma mr zs bb bn v6_17 hbb hbn hb2 hnd) (mf_X7_next hK.2) (kw_785 hK.2) (kw_19 hK.2) (kw_783 hK.2) ⟨rfl, rfl, Nat.le_of_ble_eq_true rfl, Nat.le_of_ble_eq_true rfl⟩ rfl hP hD hS hA rfl rfl hl (Nat.le_of_ble_eq_true rfl) rfl ⟨Nat.le_of_ble_eq_true rfl, Nat.le_of_ble_eq_true rfl⟩ rfl dX7_spreads_95 rfl rfl (rpl_fast (by decide) rfl rfl) rfl rfl rfl (fun H locs hP hD hS => ?_)
          refine lv_istore (lv' := [(6, .int (f_X7_next zs bb bn v6_17)), (4, .int v6_17), (5, .int (f_X7_spreads_31 zs bb bn v4_17 v5_17 v6_17 12 0 v5_17)), (0, .ref mO), (1, .int (nI bb)), (7, .int (f_X7_spreads_31 zs bb bn v4_17 v5_17 v6_17 12 0 v5_17))]) hx hb dX7_spreads_98 hl (by decide) rfl (fun ls hl => ?_)
          refine lv_goto (tgt := 17) hx hb dX7_spreads_100 (by decide) ?_
          exact ih17 v6_17 (f_X7_spreads_31 zs bb bn v4_17 v5_17 v6_17 12 0 v5_17) (f_X7_next zs bb bn v6_17)  h1 (Rg_next h1 hwd) (next_up h1 hwd) (by have := h2.resolve_left (by assumption); omega) hf _ _ ls hP hD hS (lv_sub hl [3, 4, 1, 2, 0] rfl)
        have L31 : ∀ (k31 : Nat) (i31 : Nat) (v7_31 : Int32), k31 + i31 = 12 → f_X7_spreads_31 zs bb bn v4_17 v5_17 v6_17 k31 i31 v7_31 = (f_X7_spreads_31 zs bb bn v4_17 v5_17 v6_17 12 0 v5_17) → ∀ (H : Heap) (locs : List Loc) (ls : Array Slot), va_P G.1 wcl [(mO, .inr (7, [.ref mA, .ref mS, .ref mI, .ref mV, .int me, .ref mT, .ref mR, .int (nI mz), .int (nI ma), .ref mW, .int (nI mr), .ref mN])), (mS, .inl (G.2.1, 259, .inl zs))] H → va_D A [(mO, .inr (7, [.ref mA, .ref mS, .ref mI, .ref mV, .int me, .ref mT, .ref mR, .int (nI mz), .int (nI ma), .ref mW, .int (nI mr), .ref mN])), (mS, .inl (G.2.1, 259, .inl zs))] → va_S A s.heap H locs → lv_has ls 9 [(0, .ref mO), (1, .int (nI bb)), (4, .int v4_17), (5, .int v5_17), (6, .int v6_17), (7, .int v7_31), (8, .int (nI i31))] → W p l e ({ frames := 3, cells := 0, slots := 0, locals := 74 }) s m args below meth c H locs 0 0 Q (F0 m 31 ls []) := by
          intro k31
          induction k31 with
          | zero =>
            intro i31 v7_31 hi31  hf _ _ ls hP hD hS hl
            rw [f_X7_spreads_31_z] at hf
            refine lv_iload hx hb dX7_spreads_31 (lv_at hl 6 rfl) ?_
            refine lv_bipush (v := 12) hx hb dX7_spreads_33 (by decide) ?_
            refine lv_icmp_ge (tgt := 83) hx hb dX7_spreads_35 (by decide) (fun _ => ?_) (fun c => absurd (ile (a := 12) (b := i31) rfl rfl (by omega) (by omega) (by omega)) c)
            exact X31 _ _ ls (by first | exact hP | (rw [← hf]; exact hP)) (by first | exact hD | (rw [← hf]; exact hD)) hS (by first | exact (lv_sub hl [0, 1, 4, 5] rfl) | (rw [← hf]; exact (lv_sub hl [0, 1, 4, 5] rfl)))
          | succ k31 ih31 =>
            intro i31 v7_31 hi31  hf _ _ ls hP hD hS hl
            rw [f_X7_spreads_31_s] at hf
            refine lv_iload hx hb dX7_spreads_31 (lv_at hl 6 rfl) ?_
            refine lv_bipush (v := 12) hx hb dX7_spreads_33 (by decide) ?_
            refine lv_icmp_ge (tgt := 83) hx hb dX7_spreads_35 (by decide) (fun c => absurd c (inle (a := 12) (b := i31) rfl rfl (by omega) (by omega) (by omega))) (fun _ => ?_)
            refine lv_iload hx hb dX7_spreads_38 (lv_at hl 4 rfl) ?_
            refine lv_iload hx hb dX7_spreads_40 (lv_at hl 2 rfl) ?_
            refine lv_iconst (v := -1) hx hb dX7_spreads_42 (by decide) ?_
            refine lv_ixor hx hb dX7_spreads_43 ?_
            refine lv_iand hx hb dX7_spreads_44 ?_
            refine lv_iload hx hb dX7_spreads_45 (lv_at hl 6 rfl) ?_
            refine lv_ishr hx hb dX7_spreads_47 ?_
            refine lv_iconst (v := 1) hx hb dX7_spreads_48 (by decide) ?_
            refine lv_iand hx hb dX7_spreads_49 ?_
            refine lv_iconst (v := 1) hx hb dX7_spreads_50 (by decide) ?_
            refine lv_icmp_ne (tgt := 77) hx hb dX7_spreads_51 (by decide) (fun c2 => ?_) (fun c2 => ?_)
            · have hf := (if_neg c2).symm.trans hf
              refine lv_iinc (v := nI (i31 + 1)) (lv' := [(8, .int (nI (i31 + 1))), (0, .ref mO), (1, .int (nI bb)), (4, .int v4_17), (5, .int v5_17), (6, .int v6_17), (7, .int v7_31)]) hx hb dX7_spreads_77 hl (k := 6) rfl (nI_1 i31) (by decide) rfl (fun ls hl => ?_)
              refine lv_goto (tgt := 31) hx hb dX7_spreads_80 (by decide) ?_
              exact ih31 (i31 + 1) v7_31 (by omega)  hf _ _ ls hP hD hS (lv_sub hl [1, 2, 3, 4, 5, 6, 0] rfl)
            · have hf := (if_pos c2).symm.trans hf
              refine lv_aload_n hx hb dX7_spreads_54 rfl (lv_at hl 0 rfl) ?_
              refine lv_iload_n hx hb dX7_spreads_55 rfl (lv_at hl 1 rfl) ?_
              refine lv_iload hx hb dX7_spreads_56 (lv_at hl 6 rfl) ?_
              refine lv_iload hx hb dX7_spreads_58 (lv_at hl 2 rfl) ?_
              refine lv_iload hx hb dX7_spreads_60 (lv_at hl 3 rfl) ?_
              refine cl_V (q := (RX7, TX7, 12)) (ws' := [(mO, .inr (7, [.ref mA, .ref mS, .ref mI, .ref mV, .int me, .ref mT, .ref mR, .int (nI mz), .int (nI ma), .ref mW, .int (nI mr), .ref mN])), (mS, .inl (G.2.1, 259, .inl zs))]) (v := (some (.int (f_X7_isWrong zs bb bn (nI i31) v4_17 v5_17)))) (st1 := [.int (f_X7_isWrong zs bb bn (nI i31) v4_17 v5_17)]) (rest := []) (As := [.int (nI bb), .int (nI i31), .int v4_17, .int v5_17]) [0, 1] 0 7 hx hb hml hown hK (k_X7_isWrong l G mO mA mS mI mV mT mR mW mN me mz ma mr zs bb bn (nI i31) v4_17 v5_17 hbb hbn hb2 hnd (vp_in_nI (by omega) (by decide))) (mf_X7_isWrong hK.2) (kw_900 hK.2) (kw_31 hK.2) (kw_898 hK.2) ⟨rfl, rfl, Nat.le_of_ble_eq_true rfl, Nat.le_of_ble_eq_true rfl⟩ rfl hP hD hS hA rfl rfl hl (Nat.le_of_ble_eq_true rfl) rfl ⟨Nat.le_of_ble_eq_true rfl, Nat.le_of_ble_eq_true rfl⟩ rfl dX7_spreads_62 rfl rfl (rpl_fast (by decide) rfl rfl) rfl rfl rfl (fun H locs hP hD hS => ?_)
              refine lv_if_eq (tgt := 77) hx hb dX7_spreads_65 (by decide) (fun c3 => ?_) (fun c3 => ?_)
              · have hf := (if_pos c3).symm.trans hf
                refine lv_iinc (v := nI (i31 + 1)) (lv' := [(8, .int (nI (i31 + 1))), (0, .ref mO), (1, .int (nI bb)), (4, .int v4_17), (5, .int v5_17), (6, .int v6_17), (7, .int v7_31)]) hx hb dX7_spreads_77 hl (k := 6) rfl (nI_1 i31) (by decide) rfl (fun ls hl => ?_)
                refine lv_goto (tgt := 31) hx hb dX7_spreads_80 (by decide) ?_
                exact ih31 (i31 + 1) v7_31 (by omega)  hf _ _ ls hP hD hS (lv_sub hl [1, 2, 3, 4, 5, 6, 0] rfl)
              · have hf := (if_neg c3).symm.trans hf
                refine lv_iload hx hb dX7_spreads_68 (lv_at hl 5 rfl) ?_
                refine lv_iconst (v := 1) hx hb dX7_spreads_70 (by decide) ?_
                refine lv_iload hx hb dX7_spreads_71 (lv_at hl 6 rfl) ?_
                refine lv_ishl hx hb dX7_spreads_73 ?_
                refine lv_ior hx hb dX7_spreads_74 ?_
                refine lv_istore (lv' := [(7, .int (v7_31 ||| ((1 : Int32) <<< ((nI i31) &&& 31)))), (0, .ref mO), (1, .int (nI bb)), (4, .int v4_17), (5, .int v5_17), (6, .int v6_17), (8, .int (nI i31))]) hx hb dX7_spreads_75 hl (by decide) rfl (fun ls hl => ?_)
                refine lv_iinc (v := nI (i31 + 1)) (lv' := [(8, .int (nI (i31 + 1))), (7, .int (v7_31 ||| ((1 : Int32) <<< ((nI i31) &&& 31)))), (0, .ref mO), (1, .int (nI bb)), (4, .int v4_17), (5, .int v5_17), (6, .int v6_17)]) hx hb dX7_spreads_77 hl (k := 6) rfl (nI_1 i31) (by decide) rfl (fun ls hl => ?_)
                refine lv_goto (tgt := 31) hx hb dX7_spreads_80 (by decide) ?_
                exact ih31 (i31 + 1) (v7_31 ||| ((1 : Int32) <<< ((nI i31) &&& 31))) (by omega)  hf _ _ ls hP hD hS (lv_sub hl [2, 3, 4, 5, 6, 1, 0] rfl)
        exact L31 12 0 v5_17 (by omega)  rfl _ _ ls hP hD hS (lv_sub hl [2, 3, 4, 5, 6, 1, 0] rfl)
  exact L17 4096 s0 ((1 : Int32) <<< (wo &&& 31)) (f_X7_next zs bb bn s0)  hs (Rg_next hs hwd) (next_up hs hwd) (by omega) hf _ _ ls hP hD hS (lv_sub hl [3, 4, 2, 1, 0] rfl)
