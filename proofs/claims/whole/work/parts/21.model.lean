def f_X7_next_74 (zs : Nat → Int32) (bb : Nat) (s0 : Int32) (v4_8 : Int32) : Nat → Nat → Int32 → Int32
  | 0, i74, v3_74 => s0 ||| v3_74
  | k74 + 1, i74, v3_74 => (if (zs (210 + (12 * bb) + i74)) = 1 then (if ((v4_8 >>> ((nI i74) &&& 31)) &&& (1 : Int32)) = 1 then f_X7_next_74 zs bb s0 v4_8 k74 (i74 + 1) (v3_74 &&& (((1 : Int32) <<< ((nI i74) &&& 31)) ^^^ (-1 : Int32))) else f_X7_next_74 zs bb s0 v4_8 k74 (i74 + 1) v3_74) else f_X7_next_74 zs bb s0 v4_8 k74 (i74 + 1) v3_74)
theorem f_X7_next_74_z (zs : Nat → Int32) (bb : Nat) (s0 : Int32) (v4_8 : Int32) (i74 : Nat) (v3_74 : Int32) : f_X7_next_74 zs bb s0 v4_8 0 i74 v3_74 = s0 ||| v3_74 := rfl
theorem f_X7_next_74_s (zs : Nat → Int32) (bb : Nat) (s0 : Int32) (v4_8 : Int32) (k74 : Nat) (i74 : Nat) (v3_74 : Int32) : f_X7_next_74 zs bb s0 v4_8 (k74 + 1) i74 v3_74 = (if (zs (210 + (12 * bb) + i74)) = 1 then (if ((v4_8 >>> ((nI i74) &&& 31)) &&& (1 : Int32)) = 1 then f_X7_next_74 zs bb s0 v4_8 k74 (i74 + 1) (v3_74 &&& (((1 : Int32) <<< ((nI i74) &&& 31)) ^^^ (-1 : Int32))) else f_X7_next_74 zs bb s0 v4_8 k74 (i74 + 1) v3_74) else f_X7_next_74 zs bb s0 v4_8 k74 (i74 + 1) v3_74) := rfl
def f_X7_next_8 (zs : Nat → Int32) (bb : Nat) (s0 : Int32) : Nat → Nat → Int32 → Int32 → Int32
  | 0, i8, v3_8, v4_8 => (f_X7_next_74 zs bb s0 v4_8 12 0 v3_8)
  | k8 + 1, i8, v3_8, v4_8 => (if (f_X7_teaches zs bb i8 s0) = 0 then f_X7_next_8 zs bb s0 k8 (i8 + 1) v3_8 (v4_8 ||| ((1 : Int32) <<< ((f_X7_get zs bb i8 0) &&& 31))) else f_X7_next_8 zs bb s0 k8 (i8 + 1) (v3_8 ||| ((1 : Int32) <<< ((f_X7_get zs bb i8 0) &&& 31))) v4_8)
theorem f_X7_next_8_z (zs : Nat → Int32) (bb : Nat) (s0 : Int32) (i8 : Nat) (v3_8 : Int32) (v4_8 : Int32) : f_X7_next_8 zs bb s0 0 i8 v3_8 v4_8 = (f_X7_next_74 zs bb s0 v4_8 12 0 v3_8) := rfl
theorem f_X7_next_8_s (zs : Nat → Int32) (bb : Nat) (s0 : Int32) (k8 : Nat) (i8 : Nat) (v3_8 : Int32) (v4_8 : Int32) : f_X7_next_8 zs bb s0 (k8 + 1) i8 v3_8 v4_8 = (if (f_X7_teaches zs bb i8 s0) = 0 then f_X7_next_8 zs bb s0 k8 (i8 + 1) v3_8 (v4_8 ||| ((1 : Int32) <<< ((f_X7_get zs bb i8 0) &&& 31))) else f_X7_next_8 zs bb s0 k8 (i8 + 1) (v3_8 ||| ((1 : Int32) <<< ((f_X7_get zs bb i8 0) &&& 31))) v4_8) := rfl
def f_X7_next (zs : Nat → Int32) (bb : Nat) (bn : Nat) (s0 : Int32) : Int32 := (f_X7_next_8 zs bb s0 bn 0 0 0)
set_option maxHeartbeats 4000000 in
set_option maxRecDepth 100000 in
theorem k_X7_next (l : Launch) (G : wG) (mO : Nat) (mA : Nat) (mS : Nat) (mI : Nat) (mV : Nat) (mT : Nat) (mR : Nat) (mW : Nat) (mN : Nat) (me : Int32) (mz : Nat) (ma : Nat) (mr : Nat) (zs : Nat → Int32) (bb : Nat) (bn : Nat) (s0 : Int32) (hbb : bb < 2) (hbn : zs (160 + bb) = nI bn) (hb2 : bn ≤ 20) (hnd : ∀ t : Nat, t < bn → Rg (zs (80 * bb + 4 * t + 2))) : CT l G yX7_next cX7_next 6 (some .int) ({ frames := 2, cells := 0, slots := 0, locals := 48 }) [.ref mO, .int (nI bb), .int s0] [(mO, .inr (7, [.ref mA, .ref mS, .ref mI, .ref mV, .int me, .ref mT, .ref mR, .int (nI mz), .int (nI ma), .ref mW, .int (nI mr), .ref mN])), (mS, .inl (G.2.1, 259, .inl zs))] (fun _ => [(mO, .inr (7, [.ref mA, .ref mS, .ref mI, .ref mV, .int me, .ref mT, .ref mR, .int (nI mz), .int (nI ma), .ref mW, .int (nI mr), .ref mN])), (mS, .inl (G.2.1, 259, .inl zs))]) (fun u => some (.int u)) (f_X7_next zs bb bn s0) := by
  obtain ⟨R, hf⟩ : ∃ R, f_X7_next zs bb bn s0 = R := ⟨_, rfl⟩
  rw [hf]
  refine CT.mkI RX7 (by decide +kernel) rfl (Nat.le_of_ble_eq_true rfl) ?_
  intro p e s m args below meth c A Q ls hx hb hml hown hK hP hD hS hA hret hl
  have hl : lv_has ls 6 [(0, .ref mO), (1, .int (nI bb)), (2, .int s0)] := hl
  rw [f_X7_next] at hf
  refine lv_iconst (v := 0) hx hb dX7_next_0 (by decide) ?_
  refine lv_istore_n (lv' := [(3, .int 0), (0, .ref mO), (1, .int (nI bb)), (2, .int s0)]) hx hb dX7_next_1 rfl hl (by decide) rfl (fun ls hl => ?_)
  refine lv_iconst (v := 0) hx hb dX7_next_2 (by decide) ?_
  refine lv_istore (lv' := [(4, .int 0), (3, .int 0), (0, .ref mO), (1, .int (nI bb)), (2, .int s0)]) hx hb dX7_next_3 hl (by decide) rfl (fun ls hl => ?_)
  refine lv_iconst (v := 0) hx hb dX7_next_5 (by decide) ?_
  refine lv_istore (lv' := [(5, .int 0), (4, .int 0), (3, .int 0), (0, .ref mO), (1, .int (nI bb)), (2, .int s0)]) hx hb dX7_next_6 hl (by decide) rfl (fun ls hl => ?_)
  have L8 : ∀ (k8 : Nat) (i8 : Nat) (v3_8 : Int32) (v4_8 : Int32), k8 + i8 = bn → f_X7_next_8 zs bb s0 k8 i8 v3_8 v4_8 = R → ∀ (H : Heap) (locs : List Loc) (ls : Array Slot), va_P G.1 wcl [(mO, .inr (7, [.ref mA, .ref mS, .ref mI, .ref mV, .int me, .ref mT, .ref mR, .int (nI mz), .int (nI ma), .ref mW, .int (nI mr), .ref mN])), (mS, .inl (G.2.1, 259, .inl zs))] H → va_D A [(mO, .inr (7, [.ref mA, .ref mS, .ref mI, .ref mV, .int me, .ref mT, .ref mR, .int (nI mz), .int (nI ma), .ref mW, .int (nI mr), .ref mN])), (mS, .inl (G.2.1, 259, .inl zs))] → va_S A s.heap H locs → lv_has ls 6 [(0, .ref mO), (1, .int (nI bb)), (2, .int s0), (3, .int v3_8), (4, .int v4_8), (5, .int (nI i8))] → W p l e ({ frames := 2, cells := 0, slots := 0, locals := 48 }) s m args below meth c H locs 0 0 Q (F0 m 8 ls []) := by
    intro k8
    induction k8 with
    | zero =>
      intro i8 v3_8 v4_8 hi8  hf _ _ ls hP hD hS hl
      rw [f_X7_next_8_z] at hf
      refine lv_iload hx hb dX7_next_8 (lv_at hl 5 rfl) ?_
      refine lv_aload_n hx hb dX7_next_10 rfl (lv_at hl 0 rfl) ?_
      refine va_get (D := G.1) (ci := 7) (v := .ref mS) (C := RX7) (T := TX7) (N := 12) hx hb (ku_X7 hK.2) (fun _ h9 => h9) hown hK.1 hP 0 rfl rfl 1 (by decide) (kw_678 hK.2) (fun _ h9 => h9) rfl dX7_next_11 ?_
      refine lv_sipush (v := 160) hx hb dX7_next_14 (by decide) ?_
      refine lv_iload_n hx hb dX7_next_17 rfl (lv_at hl 1 rfl) ?_
      refine lv_iadd hx hb dX7_next_18 ?_
      refine ww_e (nI_addE (a := 160) (b := bb) rfl rfl) ?_
      refine ww_ild (j := 160 + bb) hx hb hK.1 hP 1 0 rfl rfl (by omega) (by omega) dX7_next_19 ?_
      refine ww_e hbn ?_
      refine lv_icmp_ge (tgt := 71) hx hb dX7_next_20 (by decide) (fun _ => ?_) (fun c => absurd (ile (a := bn) (b := i8) rfl rfl (by omega) (by omega) (by omega)) c)
      refine lv_iconst (v := 0) hx hb dX7_next_71 (by decide) ?_
      refine lv_istore (lv' := [(5, .int 0), (0, .ref mO), (1, .int (nI bb)), (2, .int s0), (3, .int v3_8), (4, .int v4_8)]) hx hb dX7_next_72 hl (by decide) rfl (fun ls hl => ?_)
      have L74 : ∀ (k74 : Nat) (i74 : Nat) (v3_74 : Int32), k74 + i74 = 12 → f_X7_next_74 zs bb s0 v4_8 k74 i74 v3_74 = R → ∀ (H : Heap) (locs : List Loc) (ls : Array Slot), va_P G.1 wcl [(mO, .inr (7, [.ref mA, .ref mS, .ref mI, .ref mV, .int me, .ref mT, .ref mR, .int (nI mz), .int (nI ma), .ref mW, .int (nI mr), .ref mN])), (mS, .inl (G.2.1, 259, .inl zs))] H → va_D A [(mO, .inr (7, [.ref mA, .ref mS, .ref mI, .ref mV, .int me, .ref mT, .ref mR, .int (nI mz), .int (nI ma), .ref mW, .int (nI mr), .ref mN])), (mS, .inl (G.2.1, 259, .inl zs))] → va_S A s.heap H locs → lv_has ls 6 [(0, .ref mO), (1, .int (nI bb)), (2, .int s0), (3, .int v3_74), (4, .int v4_8), (5, .int (nI i74))] → W p l e ({ frames := 2, cells := 0, slots := 0, locals := 48 }) s m args below meth c H locs 0 0 Q (F0 m 74 ls []) := by
        intro k74
        induction k74 with
        | zero =>
          intro i74 v3_74 hi74  hf _ _ ls hP hD hS hl
          rw [f_X7_next_74_z] at hf
          refine lv_iload hx hb dX7_next_74 (lv_at hl 5 rfl) ?_
          refine lv_bipush (v := 12) hx hb dX7_next_76 (by decide) ?_
          refine lv_icmp_ge (tgt := 127) hx hb dX7_next_78 (by decide) (fun _ => ?_) (fun c => absurd (ile (a := 12) (b := i74) rfl rfl (by omega) (by omega) (by omega)) c)
          refine lv_iload_n hx hb dX7_next_127 rfl (lv_at hl 2 rfl) ?_
          refine lv_iload_n hx hb dX7_next_128 rfl (lv_at hl 3 rfl) ?_
          refine lv_ior hx hb dX7_next_129 ?_
          exact hret (s0 ||| v3_74) dX7_next_130 rfl hf rfl hP hS
        | succ k74 ih74 =>
          intro i74 v3_74 hi74  hf _ _ ls hP hD hS hl
          rw [f_X7_next_74_s] at hf
          refine lv_iload hx hb dX7_next_74 (lv_at hl 5 rfl) ?_
          refine lv_bipush (v := 12) hx hb dX7_next_76 (by decide) ?_
          refine lv_icmp_ge (tgt := 127) hx hb dX7_next_78 (by decide) (fun c => absurd c (inle (a := 12) (b := i74) rfl rfl (by omega) (by omega) (by omega))) (fun _ => ?_)
          refine lv_aload_n hx hb dX7_next_81 rfl (lv_at hl 0 rfl) ?_
          refine va_get (D := G.1) (ci := 7) (v := .ref mS) (C := RX7) (T := TX7) (N := 12) hx hb (ku_X7 hK.2) (fun _ h9 => h9) hown hK.1 hP 0 rfl rfl 1 (by decide) (kw_678 hK.2) (fun _ h9 => h9) rfl dX7_next_82 ?_
          refine lv_sipush (v := 210) hx hb dX7_next_85 (by decide) ?_
          refine lv_bipush (v := 12) hx hb dX7_next_88 (by decide) ?_
          refine lv_iload_n hx hb dX7_next_90 rfl (lv_at hl 1 rfl) ?_
          refine lv_imul hx hb dX7_next_91 ?_
          refine ww_e (nI_mulE (a := 12) (b := bb) rfl rfl) ?_
          refine lv_iadd hx hb dX7_next_92 ?_
          refine ww_e (nI_addE (a := 210) (b := 12 * bb) rfl rfl) ?_
          refine lv_iload hx hb dX7_next_93 (lv_at hl 5 rfl) ?_
          refine lv_iadd hx hb dX7_next_95 ?_
          refine ww_e (nI_addE (a := 210 + (12 * bb)) (b := i74) rfl rfl) ?_
          refine ww_ild (j := 210 + (12 * bb) + i74) hx hb hK.1 hP 1 0 rfl rfl (by omega) (by omega) dX7_next_96 ?_
          refine lv_iconst (v := 1) hx hb dX7_next_97 (by decide) ?_
          refine lv_icmp_ne (tgt := 121) hx hb dX7_next_98 (by decide) (fun c1 => ?_) (fun c1 => ?_)
          · have hf := (if_neg c1).symm.trans hf
            refine lv_iinc (v := nI (i74 + 1)) (lv' := [(5, .int (nI (i74 + 1))), (0, .ref mO), (1, .int (nI bb)), (2, .int s0), (3, .int v3_74), (4, .int v4_8)]) hx hb dX7_next_121 hl (k := 5) rfl (nI_1 i74) (by decide) rfl (fun ls hl => ?_)
            refine lv_goto (tgt := 74) hx hb dX7_next_124 (by decide) ?_
            exact ih74 (i74 + 1) v3_74 (by omega)  hf _ _ ls hP hD hS (lv_sub hl [1, 2, 3, 4, 5, 0] rfl)
          · have hf := (if_pos c1).symm.trans hf
            refine lv_iload hx hb dX7_next_101 (lv_at hl 4 rfl) ?_
            refine lv_iload hx hb dX7_next_103 (lv_at hl 5 rfl) ?_
            refine lv_ishr hx hb dX7_next_105 ?_
            refine lv_iconst (v := 1) hx hb dX7_next_106 (by decide) ?_
            refine lv_iand hx hb dX7_next_107 ?_
            refine lv_iconst (v := 1) hx hb dX7_next_108 (by decide) ?_
            refine lv_icmp_ne (tgt := 121) hx hb dX7_next_109 (by decide) (fun c2 => ?_) (fun c2 => ?_)
            · have hf := (if_neg c2).symm.trans hf
              refine lv_iinc (v := nI (i74 + 1)) (lv' := [(5, .int (nI (i74 + 1))), (0, .ref mO), (1, .int (nI bb)), (2, .int s0), (3, .int v3_74), (4, .int v4_8)]) hx hb dX7_next_121 hl (k := 5) rfl (nI_1 i74) (by decide) rfl (fun ls hl => ?_)
              refine lv_goto (tgt := 74) hx hb dX7_next_124 (by decide) ?_
              exact ih74 (i74 + 1) v3_74 (by omega)  hf _ _ ls hP hD hS (lv_sub hl [1, 2, 3, 4, 5, 0] rfl)
            · have hf := (if_pos c2).symm.trans hf
              refine lv_iload_n hx hb dX7_next_112 rfl (lv_at hl 3 rfl) ?_
              refine lv_iconst (v := 1) hx hb dX7_next_113 (by decide) ?_
              refine lv_iload hx hb dX7_next_114 (lv_at hl 5 rfl) ?_
              refine lv_ishl hx hb dX7_next_116 ?_
              refine lv_iconst (v := -1) hx hb dX7_next_117 (by decide) ?_
              refine lv_ixor hx hb dX7_next_118 ?_
              refine lv_iand hx hb dX7_next_119 ?_
              refine lv_istore_n (lv' := [(3, .int (v3_74 &&& (((1 : Int32) <<< ((nI i74) &&& 31)) ^^^ (-1 : Int32)))), (0, .ref mO), (1, .int (nI bb)), (2, .int s0), (4, .int v4_8), (5, .int (nI i74))]) hx hb dX7_next_120 rfl hl (by decide) rfl (fun ls hl => ?_)
              refine lv_iinc (v := nI (i74 + 1)) (lv' := [(5, .int (nI (i74 + 1))), (3, .int (v3_74 &&& (((1 : Int32) <<< ((nI i74) &&& 31)) ^^^ (-1 : Int32)))), (0, .ref mO), (1, .int (nI bb)), (2, .int s0), (4, .int v4_8)]) hx hb dX7_next_121 hl (k := 5) rfl (nI_1 i74) (by decide) rfl (fun ls hl => ?_)
              refine lv_goto (tgt := 74) hx hb dX7_next_124 (by decide) ?_
              exact ih74 (i74 + 1) (v3_74 &&& (((1 : Int32) <<< ((nI i74) &&& 31)) ^^^ (-1 : Int32))) (by omega)  hf _ _ ls hP hD hS (lv_sub hl [2, 3, 4, 1, 5, 0] rfl)
      exact L74 12 0 v3_8 (by omega)  hf _ _ ls hP hD hS (lv_sub hl [1, 2, 3, 4, 5, 0] rfl)
    | succ k8 ih8 =>
      intro i8 v3_8 v4_8 hi8  hf _ _ ls hP hD hS hl
      rw [f_X7_next_8_s] at hf
      refine lv_iload hx hb dX7_next_8 (lv_at hl 5 rfl) ?_
      refine lv_aload_n hx hb dX7_next_10 rfl (lv_at hl 0 rfl) ?_
      refine va_get (D := G.1) (ci := 7) (v := .ref mS) (C := RX7) (T := TX7) (N := 12) hx hb (ku_X7 hK.2) (fun _ h9 => h9) hown hK.1 hP 0 rfl rfl 1 (by decide) (kw_678 hK.2) (fun _ h9 => h9) rfl dX7_next_11 ?_
      refine lv_sipush (v := 160) hx hb dX7_next_14 (by decide) ?_
      refine lv_iload_n hx hb dX7_next_17 rfl (lv_at hl 1 rfl) ?_
      refine lv_iadd hx hb dX7_next_18 ?_
      refine ww_e (nI_addE (a := 160) (b := bb) rfl rfl) ?_
      refine ww_ild (j := 160 + bb) hx hb hK.1 hP 1 0 rfl rfl (by omega) (by omega) dX7_next_19 ?_
      refine ww_e hbn ?_
      refine lv_icmp_ge (tgt := 71) hx hb dX7_next_20 (by decide) (fun c => absurd c (inle (a := bn) (b := i8) rfl rfl (by omega) (by omega) (by omega))) (fun _ => ?_)
      refine lv_aload_n hx hb dX7_next_23 rfl (lv_at hl 0 rfl) ?_
      refine lv_iload_n hx hb dX7_next_24 rfl (lv_at hl 1 rfl) ?_
      refine lv_iload hx hb dX7_next_25 (lv_at hl 5 rfl) ?_
      refine lv_iload_n hx hb dX7_next_27 rfl (lv_at hl 2 rfl) ?_
      refine cl_V (q := (RX7, TX7, 12)) (ws' := [(mO, .inr (7, [.ref mA, .ref mS, .ref mI, .ref mV, .int me, .ref mT, .ref mR, .int (nI mz), .int (nI ma), .ref mW, .int (nI mr), .ref mN])), (mS, .inl (G.2.1, 259, .inl zs))]) (v := (some (.int (f_X7_teaches zs bb i8 s0)))) (st1 := [.int (f_X7_teaches zs bb i8 s0)]) (rest := []) (As := [.int (nI bb), .int (nI i8), .int s0]) [0, 1] 0 7 hx hb hml hown hK (k_X7_teaches l G mO mA mS mI mV mT mR mW mN me mz ma mr zs bb i8 s0 hbb (by omega) (hnd _ (by omega))) (mf_X7_teaches hK.2) (kw_789 hK.2) (kw_20 hK.2) (kw_787 hK.2) ⟨rfl, rfl, Nat.le_of_ble_eq_true rfl, Nat.le_of_ble_eq_true rfl⟩ rfl hP hD hS hA rfl rfl hl (Nat.le_of_ble_eq_true rfl) rfl ⟨Nat.le_of_ble_eq_true rfl, Nat.le_of_ble_eq_true rfl⟩ rfl dX7_next_28 rfl rfl (rpl_fast (by decide) rfl rfl) rfl rfl rfl (fun H locs hP hD hS => ?_)
      refine lv_if_eq (tgt := 50) hx hb dX7_next_31 (by decide) (fun c3 => ?_) (fun c3 => ?_)
      · have hf := (if_pos c3).symm.trans hf
        refine lv_iload hx hb dX7_next_50 (lv_at hl 4 rfl) ?_
        refine lv_iconst (v := 1) hx hb dX7_next_52 (by decide) ?_
        refine lv_aload_n hx hb dX7_next_53 rfl (lv_at hl 0 rfl) ?_
        refine lv_iload_n hx hb dX7_next_54 rfl (lv_at hl 1 rfl) ?_
        refine lv_iload hx hb dX7_next_55 (lv_at hl 5 rfl) ?_
        refine lv_iconst (v := 0) hx hb dX7_next_57 (by decide) ?_
        refine cl_V (q := (RX7, TX7, 12)) (ws' := [(mO, .inr (7, [.ref mA, .ref mS, .ref mI, .ref mV, .int me, .ref mT, .ref mR, .int (nI mz), .int (nI ma), .ref mW, .int (nI mr), .ref mN])), (mS, .inl (G.2.1, 259, .inl zs))]) (v := (some (.int (f_X7_get zs bb i8 0)))) (st1 := [.int (f_X7_get zs bb i8 0), .int 1, .int v4_8]) (rest := [.int 1, .int v4_8]) (As := [.int (nI bb), .int (nI i8), .int 0]) [0, 1] 0 7 hx hb hml hown hK (k_X7_get l G mO mA mS mI mV mT mR mW mN me mz ma mr zs bb i8 0 hbb (by omega) (by omega)) (mf_X7_get hK.2) (kw_758 hK.2) (kw_17 hK.2) (kw_756 hK.2) ⟨rfl, rfl, Nat.le_of_ble_eq_true rfl, Nat.le_of_ble_eq_true rfl⟩ rfl hP hD hS hA rfl rfl hl (Nat.le_of_ble_eq_true rfl) rfl ⟨Nat.le_of_ble_eq_true rfl, Nat.le_of_ble_eq_true rfl⟩ rfl dX7_next_58 rfl rfl (rpl_fast (by decide) rfl rfl) rfl rfl rfl (fun H locs hP hD hS => ?_)
        refine lv_ishl hx hb dX7_next_61 ?_
        refine lv_ior hx hb dX7_next_62 ?_
        refine lv_istore (lv' := [(4, .int (v4_8 ||| ((1 : Int32) <<< ((f_X7_get zs bb i8 0) &&& 31)))), (0, .ref mO), (1, .int (nI bb)), (2, .int s0), (3, .int v3_8), (5, .int (nI i8))]) hx hb dX7_next_63 hl (by decide) rfl (fun ls hl => ?_)
        refine lv_iinc (v := nI (i8 + 1)) (lv' := [(5, .int (nI (i8 + 1))), (4, .int (v4_8 ||| ((1 : Int32) <<< ((f_X7_get zs bb i8 0) &&& 31)))), (0, .ref mO), (1, .int (nI bb)), (2, .int s0), (3, .int v3_8)]) hx hb dX7_next_65 hl (k := 5) rfl (nI_1 i8) (by decide) rfl (fun ls hl => ?_)
        refine lv_goto (tgt := 8) hx hb dX7_next_68 (by decide) ?_
        exact ih8 (i8 + 1) v3_8 (v4_8 ||| ((1 : Int32) <<< ((f_X7_get zs bb i8 0) &&& 31))) (by omega)  hf _ _ ls hP hD hS (lv_sub hl [2, 3, 4, 5, 1, 0] rfl)
      · have hf := (if_neg c3).symm.trans hf
        refine lv_iload_n hx hb dX7_next_34 rfl (lv_at hl 3 rfl) ?_
        refine lv_iconst (v := 1) hx hb dX7_next_35 (by decide) ?_
        refine lv_aload_n hx hb dX7_next_36 rfl (lv_at hl 0 rfl) ?_
        refine lv_iload_n hx hb dX7_next_37 rfl (lv_at hl 1 rfl) ?_
        refine lv_iload hx hb dX7_next_38 (lv_at hl 5 rfl) ?_
        refine lv_iconst (v := 0) hx hb dX7_next_40 (by decide) ?_
        refine cl_V (q := (RX7, TX7, 12)) (ws' := [(mO, .inr (7, [.ref mA, .ref mS, .ref mI, .ref mV, .int me, .ref mT, .ref mR, .int (nI mz), .int (nI ma), .ref mW, .int (nI mr), .ref mN])), (mS, .inl (G.2.1, 259, .inl zs))]) (v := (some (.int (f_X7_get zs bb i8 0)))) (st1 := [.int (f_X7_get zs bb i8 0), .int 1, .int v3_8]) (rest := [.int 1, .int v3_8]) (As := [.int (nI bb), .int (nI i8), .int 0]) [0, 1] 0 7 hx hb hml hown hK (k_X7_get l G mO mA mS mI mV mT mR mW mN me mz ma mr zs bb i8 0 hbb (by omega) (by omega)) (mf_X7_get hK.2) (kw_758 hK.2) (kw_17 hK.2) (kw_756 hK.2) ⟨rfl, rfl, Nat.le_of_ble_eq_true rfl, Nat.le_of_ble_eq_true rfl⟩ rfl hP hD hS hA rfl rfl hl (Nat.le_of_ble_eq_true rfl) rfl ⟨Nat.le_of_ble_eq_true rfl, Nat.le_of_ble_eq_true rfl⟩ rfl dX7_next_41 rfl rfl (rpl_fast (by decide) rfl rfl) rfl rfl rfl (fun H locs hP hD hS => ?_)
        refine lv_ishl hx hb dX7_next_44 ?_
        refine lv_ior hx hb dX7_next_45 ?_
        refine lv_istore_n (lv' := [(3, .int (v3_8 ||| ((1 : Int32) <<< ((f_X7_get zs bb i8 0) &&& 31)))), (0, .ref mO), (1, .int (nI bb)), (2, .int s0), (4, .int v4_8), (5, .int (nI i8))]) hx hb dX7_next_46 rfl hl (by decide) rfl (fun ls hl => ?_)
        refine lv_goto (tgt := 65) hx hb dX7_next_47 (by decide) ?_
        refine lv_iinc (v := nI (i8 + 1)) (lv' := [(5, .int (nI (i8 + 1))), (3, .int (v3_8 ||| ((1 : Int32) <<< ((f_X7_get zs bb i8 0) &&& 31)))), (0, .ref mO), (1, .int (nI bb)), (2, .int s0), (4, .int v4_8)]) hx hb dX7_next_65 hl (k := 5) rfl (nI_1 i8) (by decide) rfl (fun ls hl => ?_)
        refine lv_goto (tgt := 8) hx hb dX7_next_68 (by decide) ?_
        exact ih8 (i8 + 1) (v3_8 ||| ((1 : Int32) <<< ((f_X7_get zs bb i8 0) &&& 31))) v4_8 (by omega)  hf _ _ ls hP hD hS (lv_sub hl [2, 3, 4, 1, 5, 0] rfl)
  exact L8 bn 0 0 0 (by omega)  hf _ _ ls hP hD hS (lv_sub hl [3, 4, 5, 2, 1, 0] rfl)
theorem Rg_next74 {zs : Nat → Int32} {bb : Nat} {s0 : Int32} (hs : Rg s0) : ∀ (k i : Nat) (a b : Int32), Rg a → Rg (f_X7_next_74 zs bb s0 b k i a) := by
  intro k
  induction k with
  | zero => intro i a b ha; rw [f_X7_next_74_z]; exact Rg_or hs ha
  | succ k ih =>
    intro i a b ha
    rw [f_X7_next_74_s]
    split
    · split
      · exact ih _ _ _ (Rg_and ha)
      · exact ih _ _ _ ha
    · exact ih _ _ _ ha
theorem Rg_next8 {zs : Nat → Int32} {bb bn : Nat} {s0 : Int32} (hs : Rg s0) (hwd : ∀ t : Nat, t < bn → ∃ w : Nat, w < 12 ∧ zs (80 * bb + 4 * t) = nI w) : ∀ (k i : Nat) (a b : Int32), k + i = bn → Rg a → Rg (f_X7_next_8 zs bb s0 k i a b) := by
  intro k
  induction k with
  | zero => intro i a b hk ha; rw [f_X7_next_8_z]; exact Rg_next74 hs _ _ _ _ ha
  | succ k ih =>
    intro i a b hk ha
    rw [f_X7_next_8_s]
    obtain ⟨w, hw, e⟩ := hwd i (by omega)
    have hb : Rg ((1 : Int32) <<< (f_X7_get zs bb i 0 &&& 31)) := by
      show Rg ((1 : Int32) <<< (zs (80 * bb + 4 * i + 0) &&& 31))
      rw [Nat.add_zero, e]
      exact Rg_bit hw
    split
    · exact ih _ _ _ (by omega) ha
    · exact ih _ _ _ (by omega) (Rg_or ha hb)
theorem next_or74 {zs : Nat → Int32} {bb : Nat} {s0 : Int32} : ∀ (k i : Nat) (a b : Int32), ∃ x : Int32, f_X7_next_74 zs bb s0 b k i a = s0 ||| x := by
  intro k
  induction k with
  | zero => intro i a b; rw [f_X7_next_74_z]; exact ⟨_, rfl⟩
  | succ k ih =>
    intro i a b
    rw [f_X7_next_74_s]
    split
    · split
      · exact ih _ _ _
      · exact ih _ _ _
    · exact ih _ _ _
theorem next_or8 {zs : Nat → Int32} {bb : Nat} {s0 : Int32} : ∀ (k i : Nat) (a b : Int32), ∃ x : Int32, f_X7_next_8 zs bb s0 k i a b = s0 ||| x := by
  intro k
  induction k with
  | zero => intro i a b; rw [f_X7_next_8_z]; exact next_or74 _ _ _ _
  | succ k ih =>
    intro i a b
    rw [f_X7_next_8_s]
    split
    · exact ih _ _ _
    · exact ih _ _ _
theorem or_up {s x : Int32} (hs : Rg s) (hx : Rg (s ||| x)) : s ||| x = s ∨ s.toNatClampNeg < (s ||| x).toNatClampNeg := by
  obtain ⟨i, hi, rfl⟩ := Rg_nI hs
  obtain ⟨j, hj, e⟩ := Rg_nI hx
  rw [e, nI_clamp (by omega), nI_clamp (by omega)]
  have h1 : i ≤ j := by
    have h2 : i ≤ (nI i ||| x).toBitVec.toNat := by
      rw [Int32.toBitVec_or, BitVec.toNat_or, pk_tn (by omega)]
      exact Nat.left_le_or
    rw [e, pk_tn (by omega)] at h2
    exact h2
  rcases Nat.eq_or_lt_of_le h1 with q | q
  · left; rw [q]
  · right; exact q
theorem Rg_next {zs : Nat → Int32} {bb bn : Nat} {s0 : Int32} (hs : Rg s0) (hwd : ∀ t : Nat, t < bn → ∃ w : Nat, w < 12 ∧ zs (80 * bb + 4 * t) = nI w) : Rg (f_X7_next zs bb bn s0) := Rg_next8 hs hwd _ _ _ _ (by omega) Rg_0
theorem next_up {zs : Nat → Int32} {bb bn : Nat} {s0 : Int32} (hs : Rg s0) (hwd : ∀ t : Nat, t < bn → ∃ w : Nat, w < 12 ∧ zs (80 * bb + 4 * t) = nI w) : f_X7_next zs bb bn s0 = s0 ∨ s0.toNatClampNeg < (f_X7_next zs bb bn s0).toNatClampNeg := by
  have h := Rg_next hs hwd
  have e := next_or8 (zs := zs) (bb := bb) (s0 := s0) bn 0 0 0
  show f_X7_next_8 zs bb s0 bn 0 0 0 = s0 ∨ s0.toNatClampNeg < (f_X7_next_8 zs bb s0 bn 0 0 0).toNatClampNeg
  obtain ⟨x, e⟩ := e
  have h' : Rg (f_X7_next_8 zs bb s0 bn 0 0 0) := h
  rw [e] at h' ⊢
  exact or_up hs h'
def f_X7_learntBy_10 (zs : Nat → Int32) (bb : Nat) (bn : Nat) : Nat → Int32 → Int32 → Int32
  | 0, _, _ => default
  | k10 + 1, v3_10, v4_10 => (if v4_10 = v3_10 then v3_10 else f_X7_learntBy_10 zs bb bn k10 v4_10 (f_X7_next zs bb bn v4_10))
theorem f_X7_learntBy_10_z (zs : Nat → Int32) (bb : Nat) (bn : Nat) (v3_10 : Int32) (v4_10 : Int32) : f_X7_learntBy_10 zs bb bn 0 v3_10 v4_10 = default := rfl
theorem f_X7_learntBy_10_s (zs : Nat → Int32) (bb : Nat) (bn : Nat) (k10 : Nat) (v3_10 : Int32) (v4_10 : Int32) : f_X7_learntBy_10 zs bb bn (k10 + 1) v3_10 v4_10 = (if v4_10 = v3_10 then v3_10 else f_X7_learntBy_10 zs bb bn k10 v4_10 (f_X7_next zs bb bn v4_10)) := rfl
def f_X7_learntBy (zs : Nat → Int32) (bb : Nat) (bn : Nat) (s0 : Int32) : Int32 := (f_X7_learntBy_10 zs bb bn 4096 s0 (f_X7_next zs bb bn s0))
set_option maxHeartbeats 4000000 in
set_option maxRecDepth 100000 in
theorem k_X7_learntBy (l : Launch) (G : wG) (mO : Nat) (mA : Nat) (mS : Nat) (mI : Nat) (mV : Nat) (mT : Nat) (mR : Nat) (mW : Nat) (mN : Nat) (me : Int32) (mz : Nat) (ma : Nat) (mr : Nat) (zs : Nat → Int32) (bb : Nat) (bn : Nat) (s0 : Int32) (hbb : bb < 2) (hbn : zs (160 + bb) = nI bn) (hb2 : bn ≤ 20) (hnd : ∀ t : Nat, t < bn → Rg (zs (80 * bb + 4 * t + 2))) (hwd : ∀ t : Nat, t < bn → ∃ w : Nat, w < 12 ∧ zs (80 * bb + 4 * t) = nI w) (hs : Rg s0) : CT l G yX7_learntBy cX7_learntBy 5 (some .int) ({ frames := 3, cells := 0, slots := 0, locals := 73 }) [.ref mO, .int (nI bb), .int s0] [(mO, .inr (7, [.ref mA, .ref mS, .ref mI, .ref mV, .int me, .ref mT, .ref mR, .int (nI mz), .int (nI ma), .ref mW, .int (nI mr), .ref mN])), (mS, .inl (G.2.1, 259, .inl zs))] (fun _ => [(mO, .inr (7, [.ref mA, .ref mS, .ref mI, .ref mV, .int me, .ref mT, .ref mR, .int (nI mz), .int (nI ma), .ref mW, .int (nI mr), .ref mN])), (mS, .inl (G.2.1, 259, .inl zs))]) (fun u => some (.int u)) (f_X7_learntBy zs bb bn s0) := by
  obtain ⟨R, hf⟩ : ∃ R, f_X7_learntBy zs bb bn s0 = R := ⟨_, rfl⟩
  rw [hf]
  refine CT.mkI RX7 (by decide +kernel) rfl (Nat.le_of_ble_eq_true rfl) ?_
  intro p e s m args below meth c A Q ls hx hb hml hown hK hP hD hS hA hret hl
  have hl : lv_has ls 5 [(0, .ref mO), (1, .int (nI bb)), (2, .int s0)] := hl
  rw [f_X7_learntBy] at hf
  refine lv_iload_n hx hb dX7_learntBy_0 rfl (lv_at hl 2 rfl) ?_
  refine lv_istore_n (lv' := [(3, .int s0), (0, .ref mO), (1, .int (nI bb)), (2, .int s0)]) hx hb dX7_learntBy_1 rfl hl (by decide) rfl (fun ls hl => ?_)
  refine lv_aload_n hx hb dX7_learntBy_2 rfl (lv_at hl 1 rfl) ?_
  refine lv_iload_n hx hb dX7_learntBy_3 rfl (lv_at hl 2 rfl) ?_
  refine lv_iload_n hx hb dX7_learntBy_4 rfl (lv_at hl 0 rfl) ?_
  refine cl_V (q := (RX7, TX7, 12)) (ws' := [(mO, .inr (7, [.ref mA, .ref mS, .ref mI, .ref mV, .int me, .ref mT, .ref mR, .int (nI mz), .int (nI ma), .ref mW, .int (nI mr), .ref mN])), (mS, .inl (G.2.1, 259, .inl zs))]) (v := (some (.int (f_X7_next zs bb bn s0)))) (st1 := [.int (f_X7_next zs bb bn s0)]) (rest := []) (As := [.int (nI bb), .int s0]) [0, 1] 0 7 hx hb hml hown hK (k_X7_next l G mO mA mS mI mV mT mR mW mN me mz ma mr zs bb bn s0 hbb hbn hb2 hnd) (mf_X7_next hK.2) (kw_785 hK.2) (kw_19 hK.2) (kw_783 hK.2) ⟨rfl, rfl, Nat.le_of_ble_eq_true rfl, Nat.le_of_ble_eq_true rfl⟩ rfl hP hD hS hA rfl rfl hl (Nat.le_of_ble_eq_true rfl) rfl ⟨Nat.le_of_ble_eq_true rfl, Nat.le_of_ble_eq_true rfl⟩ rfl dX7_learntBy_5 rfl rfl (rpl_fast (by decide) rfl rfl) rfl rfl rfl (fun H locs hP hD hS => ?_)
  refine lv_istore (lv' := [(4, .int (f_X7_next zs bb bn s0)), (3, .int s0), (0, .ref mO), (1, .int (nI bb)), (2, .int s0)]) hx hb dX7_learntBy_8 hl (by decide) rfl (fun ls hl => ?_)
  have L10 : ∀ (k10 : Nat) (v3_10 : Int32) (v4_10 : Int32), (Rg v3_10) → (Rg v4_10) → (v4_10 = v3_10 ∨ v3_10.toNatClampNeg < v4_10.toNatClampNeg) → (4096 ≤ v3_10.toNatClampNeg + k10) → f_X7_learntBy_10 zs bb bn k10 v3_10 v4_10 = R → ∀ (H : Heap) (locs : List Loc) (ls : Array Slot), va_P G.1 wcl [(mO, .inr (7, [.ref mA, .ref mS, .ref mI, .ref mV, .int me, .ref mT, .ref mR, .int (nI mz), .int (nI ma), .ref mW, .int (nI mr), .ref mN])), (mS, .inl (G.2.1, 259, .inl zs))] H → va_D A [(mO, .inr (7, [.ref mA, .ref mS, .ref mI, .ref mV, .int me, .ref mT, .ref mR, .int (nI mz), .int (nI ma), .ref mW, .int (nI mr), .ref mN])), (mS, .inl (G.2.1, 259, .inl zs))] → va_S A s.heap H locs → lv_has ls 5 [(0, .ref mO), (1, .int (nI bb)), (3, .int v3_10), (4, .int v4_10)] → W p l e ({ frames := 3, cells := 0, slots := 0, locals := 73 }) s m args below meth c H locs 0 0 Q (F0 m 10 ls []) := by
    intro k10
    induction k10 with
    | zero =>
      intro v3_10 v4_10  h0 h1 h2 h3 hf _ _ ls hP hD hS hl
      exact absurd (clamp_lt h0) (by omega)
    | succ k10 ih10 =>
      intro v3_10 v4_10  h0 h1 h2 h3 hf _ _ ls hP hD hS hl
      rw [f_X7_learntBy_10_s] at hf
      refine lv_iload hx hb dX7_learntBy_10 (lv_at hl 3 rfl) ?_
      refine lv_iload_n hx hb dX7_learntBy_12 rfl (lv_at hl 2 rfl) ?_
      refine lv_icmp_eq (tgt := 30) hx hb dX7_learntBy_13 (by decide) (fun c1 => ?_) (fun c1 => ?_)
      · have hf := (if_pos c1).symm.trans hf
        refine lv_iload_n hx hb dX7_learntBy_30 rfl (lv_at hl 2 rfl) ?_
        exact hret v3_10 dX7_learntBy_31 rfl hf rfl hP hS
      · have hf := (if_neg c1).symm.trans hf
        refine lv_iload hx hb dX7_learntBy_16 (lv_at hl 3 rfl) ?_
        refine lv_istore_n (lv' := [(3, .int v4_10), (0, .ref mO), (1, .int (nI bb)), (4, .int v4_10)]) hx hb dX7_learntBy_18 rfl hl (by decide) rfl (fun ls hl => ?_)
        refine lv_aload_n hx hb dX7_learntBy_19 rfl (lv_at hl 1 rfl) ?_
        refine lv_iload_n hx hb dX7_learntBy_20 rfl (lv_at hl 2 rfl) ?_
        refine lv_iload_n hx hb dX7_learntBy_21 rfl (lv_at hl 0 rfl) ?_
        refine cl_V (q := (RX7, TX7, 12)) (ws' := [(mO, .inr (7, [.ref mA, .ref mS, .ref mI, .ref mV, .int me, .ref mT, .ref mR, .int (nI mz), .int (nI ma), .ref mW, .int (nI mr), .ref mN])), (mS, .inl (G.2.1, 259, .inl zs))]) (v := (some (.int (f_X7_next zs bb bn v4_10)))) (st1 := [.int (f_X7_next zs bb bn v4_10)]) (rest := []) (As := [.int (nI bb), .int v4_10]) [0, 1] 0 7 hx hb hml hown hK (k_X7_next l G mO mA mS mI mV mT mR mW mN me mz ma mr zs bb bn v4_10 hbb hbn hb2 hnd) (mf_X7_next hK.2) (kw_785 hK.2) (kw_19 hK.2) (kw_783 hK.2) ⟨rfl, rfl, Nat.le_of_ble_eq_true rfl, Nat.le_of_ble_eq_true rfl⟩ rfl hP hD hS hA rfl rfl hl (Nat.le_of_ble_eq_true rfl) rfl ⟨Nat.le_of_ble_eq_true rfl, Nat.le_of_ble_eq_true rfl⟩ rfl dX7_learntBy_22 rfl rfl (rpl_fast (by decide) rfl rfl) rfl rfl rfl (fun H locs hP hD hS => ?_)
        refine lv_istore (lv' := [(4, .int (f_X7_next zs bb bn v4_10)), (3, .int v4_10), (0, .ref mO), (1, .int (nI bb))]) hx hb dX7_learntBy_25 hl (by decide) rfl (fun ls hl => ?_)
        refine lv_goto (tgt := 10) hx hb dX7_learntBy_27 (by decide) ?_
        exact ih10 v4_10 (f_X7_next zs bb bn v4_10)  h1 (Rg_next h1 hwd) (next_up h1 hwd) (by have := h2.resolve_left (by assumption); omega) hf _ _ ls hP hD hS (lv_sub hl [2, 3, 1, 0] rfl)
  exact L10 4096 s0 (f_X7_next zs bb bn s0)  hs (Rg_next hs hwd) (next_up hs hwd) (by omega) hf _ _ ls hP hD hS (lv_sub hl [2, 3, 1, 0] rfl)
theorem nar_b (p : Prop) [Decidable p] : narrow .boolean (.int (if p then 0 else 1)) = .int (if p then 0 else 1) := by split <;> rfl
def f_X7_isFoundation (zs : Nat → Int32) (bb : Nat) (bn : Nat) (s0 : Int32) : Int32 := (if (f_X7_learntBy zs bb bn s0) = 4095 then 1 else 0)
set_option maxHeartbeats 4000000 in
set_option maxRecDepth 100000 in
theorem k_X7_isFoundation (l : Launch) (G : wG) (mO : Nat) (mA : Nat) (mS : Nat) (mI : Nat) (mV : Nat) (mT : Nat) (mR : Nat) (mW : Nat) (mN : Nat) (me : Int32) (mz : Nat) (ma : Nat) (mr : Nat) (zs : Nat → Int32) (bb : Nat) (bn : Nat) (s0 : Int32) (hbb : bb < 2) (hbn : zs (160 + bb) = nI bn) (hb2 : bn ≤ 20) (hnd : ∀ t : Nat, t < bn → Rg (zs (80 * bb + 4 * t + 2))) (hwd : ∀ t : Nat, t < bn → ∃ w : Nat, w < 12 ∧ zs (80 * bb + 4 * t) = nI w) (hs : Rg s0) : CT l G yX7_isFoundation cX7_isFoundation 3 (some .boolean) ({ frames := 4, cells := 0, slots := 0, locals := 97 }) [.ref mO, .int (nI bb), .int s0] [(mO, .inr (7, [.ref mA, .ref mS, .ref mI, .ref mV, .int me, .ref mT, .ref mR, .int (nI mz), .int (nI ma), .ref mW, .int (nI mr), .ref mN])), (mS, .inl (G.2.1, 259, .inl zs))] (fun _ => [(mO, .inr (7, [.ref mA, .ref mS, .ref mI, .ref mV, .int me, .ref mT, .ref mR, .int (nI mz), .int (nI ma), .ref mW, .int (nI mr), .ref mN])), (mS, .inl (G.2.1, 259, .inl zs))]) (fun u => some (.int u)) (f_X7_isFoundation zs bb bn s0) := by
  obtain ⟨R, hf⟩ : ∃ R, f_X7_isFoundation zs bb bn s0 = R := ⟨_, rfl⟩
  rw [hf]
  refine CT.mkI RX7 (by decide +kernel) rfl (Nat.le_of_ble_eq_true rfl) ?_
  intro p e s m args below meth c A Q ls hx hb hml hown hK hP hD hS hA hret hl
  have hl : lv_has ls 3 [(0, .ref mO), (1, .int (nI bb)), (2, .int s0)] := hl
  rw [f_X7_isFoundation] at hf
  refine lv_aload_n hx hb dX7_isFoundation_0 rfl (lv_at hl 0 rfl) ?_
  refine lv_iload_n hx hb dX7_isFoundation_1 rfl (lv_at hl 1 rfl) ?_
  refine lv_iload_n hx hb dX7_isFoundation_2 rfl (lv_at hl 2 rfl) ?_
  refine cl_V (q := (RX7, TX7, 12)) (ws' := [(mO, .inr (7, [.ref mA, .ref mS, .ref mI, .ref mV, .int me, .ref mT, .ref mR, .int (nI mz), .int (nI ma), .ref mW, .int (nI mr), .ref mN])), (mS, .inl (G.2.1, 259, .inl zs))]) (v := (some (.int (f_X7_learntBy zs bb bn s0)))) (st1 := [.int (f_X7_learntBy zs bb bn s0)]) (rest := []) (As := [.int (nI bb), .int s0]) [0, 1] 0 7 hx hb hml hown hK (k_X7_learntBy l G mO mA mS mI mV mT mR mW mN me mz ma mr zs bb bn s0 hbb hbn hb2 hnd hwd hs) (mf_X7_learntBy hK.2) (kw_800 hK.2) (kw_21 hK.2) (kw_798 hK.2) ⟨rfl, rfl, Nat.le_of_ble_eq_true rfl, Nat.le_of_ble_eq_true rfl⟩ rfl hP hD hS hA rfl rfl hl (Nat.le_of_ble_eq_true rfl) rfl ⟨Nat.le_of_ble_eq_true rfl, Nat.le_of_ble_eq_true rfl⟩ rfl dX7_isFoundation_3 rfl rfl (rpl_fast (by decide) rfl rfl) rfl rfl rfl (fun H locs hP hD hS => ?_)
  refine lv_sipush (v := 4095) hx hb dX7_isFoundation_6 (by decide) ?_
  refine lv_icmp_ne (tgt := 16) hx hb dX7_isFoundation_9 (by decide) (fun c1 => ?_) (fun c1 => ?_)
  · have hf := (if_neg c1).symm.trans hf
    refine lv_iconst (v := 0) hx hb dX7_isFoundation_16 (by decide) ?_
    exact hret 0 dX7_isFoundation_17 rfl hf rfl hP hS
  · have hf := (if_pos c1).symm.trans hf
    refine lv_iconst (v := 1) hx hb dX7_isFoundation_12 (by decide) ?_
    refine lv_goto (tgt := 17) hx hb dX7_isFoundation_13 (by decide) ?_
    exact hret 1 dX7_isFoundation_17 rfl hf rfl hP hS
def f_X7_fewestOf_10 (cont : Int32) (zs : Nat → Int32) (bb : Nat) (bn : Nat) (i2 : Nat) : Nat → Nat → Int32
  | 0, i10 => cont
  | k10 + 1, i10 => (if (f_X7_bits (nI i10)) = (nI i2) then (if (f_X7_isFoundation zs bb bn (nI i10)) = 0 then f_X7_fewestOf_10 cont zs bb bn i2 k10 (i10 + 1) else nI i10) else f_X7_fewestOf_10 cont zs bb bn i2 k10 (i10 + 1))
theorem f_X7_fewestOf_10_z (cont : Int32) (zs : Nat → Int32) (bb : Nat) (bn : Nat) (i2 : Nat) (i10 : Nat) : f_X7_fewestOf_10 cont zs bb bn i2 0 i10 = cont := rfl
theorem f_X7_fewestOf_10_s (cont : Int32) (zs : Nat → Int32) (bb : Nat) (bn : Nat) (i2 : Nat) (k10 : Nat) (i10 : Nat) : f_X7_fewestOf_10 cont zs bb bn i2 (k10 + 1) i10 = (if (f_X7_bits (nI i10)) = (nI i2) then (if (f_X7_isFoundation zs bb bn (nI i10)) = 0 then f_X7_fewestOf_10 cont zs bb bn i2 k10 (i10 + 1) else nI i10) else f_X7_fewestOf_10 cont zs bb bn i2 k10 (i10 + 1)) := rfl
def f_X7_fewestOf_2 (zs : Nat → Int32) (bb : Nat) (bn : Nat) : Nat → Nat → Int32
  | 0, i2 => 4095
  | k2 + 1, i2 => (f_X7_fewestOf_10 (f_X7_fewestOf_2 zs bb bn k2 (i2 + 1)) zs bb bn i2 4096 0)
theorem f_X7_fewestOf_2_z (zs : Nat → Int32) (bb : Nat) (bn : Nat) (i2 : Nat) : f_X7_fewestOf_2 zs bb bn 0 i2 = 4095 := rfl
theorem f_X7_fewestOf_2_s (zs : Nat → Int32) (bb : Nat) (bn : Nat) (k2 : Nat) (i2 : Nat) : f_X7_fewestOf_2 zs bb bn (k2 + 1) i2 = (f_X7_fewestOf_10 (f_X7_fewestOf_2 zs bb bn k2 (i2 + 1)) zs bb bn i2 4096 0) := rfl
def f_X7_fewestOf (zs : Nat → Int32) (bb : Nat) (bn : Nat) : Int32 := (f_X7_fewestOf_2 zs bb bn 12 0)
set_option maxHeartbeats 4000000 in
set_option maxRecDepth 100000 in
theorem k_X7_fewestOf (l : Launch) (G : wG) (mO : Nat) (mA : Nat) (mS : Nat) (mI : Nat) (mV : Nat) (mT : Nat) (mR : Nat) (mW : Nat) (mN : Nat) (me : Int32) (mz : Nat) (ma : Nat) (mr : Nat) (zs : Nat → Int32) (bb : Nat) (bn : Nat) (hbb : bb < 2) (hbn : zs (160 + bb) = nI bn) (hb2 : bn ≤ 20) (hnd : ∀ t : Nat, t < bn → Rg (zs (80 * bb + 4 * t + 2))) (hwd : ∀ t : Nat, t < bn → ∃ w : Nat, w < 12 ∧ zs (80 * bb + 4 * t) = nI w) : CT l G yX7_fewestOf cX7_fewestOf 4 (some .int) ({ frames := 5, cells := 0, slots := 0, locals := 119 }) [.ref mO, .int (nI bb)] [(mO, .inr (7, [.ref mA, .ref mS, .ref mI, .ref mV, .int me, .ref mT, .ref mR, .int (nI mz), .int (nI ma), .ref mW, .int (nI mr), .ref mN])), (mS, .inl (G.2.1, 259, .inl zs))] (fun _ => [(mO, .inr (7, [.ref mA, .ref mS, .ref mI, .ref mV, .int me, .ref mT, .ref mR, .int (nI mz), .int (nI ma), .ref mW, .int (nI mr), .ref mN])), (mS, .inl (G.2.1, 259, .inl zs))]) (fun u => some (.int u)) (f_X7_fewestOf zs bb bn) := by
  obtain ⟨R, hf⟩ : ∃ R, f_X7_fewestOf zs bb bn = R := ⟨_, rfl⟩
  rw [hf]
  refine CT.mkI RX7 (by decide +kernel) rfl (Nat.le_of_ble_eq_true rfl) ?_
  intro p e s m args below meth c A Q ls hx hb hml hown hK hP hD hS hA hret hl
  have hl : lv_has ls 4 [(0, .ref mO), (1, .int (nI bb))] := hl
  rw [f_X7_fewestOf] at hf
  refine lv_iconst (v := 0) hx hb dX7_fewestOf_0 (by decide) ?_
  refine lv_istore_n (lv' := [(2, .int 0), (0, .ref mO), (1, .int (nI bb))]) hx hb dX7_fewestOf_1 rfl hl (by decide) rfl (fun ls hl => ?_)
  have L2 : ∀ (k2 : Nat) (i2 : Nat), k2 + i2 = 12 → f_X7_fewestOf_2 zs bb bn k2 i2 = R → ∀ (H : Heap) (locs : List Loc) (ls : Array Slot), va_P G.1 wcl [(mO, .inr (7, [.ref mA, .ref mS, .ref mI, .ref mV, .int me, .ref mT, .ref mR, .int (nI mz), .int (nI ma), .ref mW, .int (nI mr), .ref mN])), (mS, .inl (G.2.1, 259, .inl zs))] H → va_D A [(mO, .inr (7, [.ref mA, .ref mS, .ref mI, .ref mV, .int me, .ref mT, .ref mR, .int (nI mz), .int (nI ma), .ref mW, .int (nI mr), .ref mN])), (mS, .inl (G.2.1, 259, .inl zs))] → va_S A s.heap H locs → lv_has ls 4 [(0, .ref mO), (1, .int (nI bb)), (2, .int (nI i2))] → W p l e ({ frames := 5, cells := 0, slots := 0, locals := 119 }) s m args below meth c H locs 0 0 Q (F0 m 2 ls []) := by
    intro k2
    induction k2 with
    | zero =>
      intro i2 hi2  hf _ _ ls hP hD hS hl
      rw [f_X7_fewestOf_2_z] at hf
      refine lv_iload_n hx hb dX7_fewestOf_2 rfl (lv_at hl 2 rfl) ?_
      refine lv_bipush (v := 12) hx hb dX7_fewestOf_3 (by decide) ?_
      refine lv_icmp_ge (tgt := 48) hx hb dX7_fewestOf_5 (by decide) (fun _ => ?_) (fun c => absurd (ile (a := 12) (b := i2) rfl rfl (by omega) (by omega) (by omega)) c)
      refine lv_sipush (v := 4095) hx hb dX7_fewestOf_48 (by decide) ?_
      exact hret 4095 dX7_fewestOf_51 rfl hf rfl hP hS
    | succ k2 ih2 =>
      intro i2 hi2  hf _ _ ls hP hD hS hl
      rw [f_X7_fewestOf_2_s] at hf
      refine lv_iload_n hx hb dX7_fewestOf_2 rfl (lv_at hl 2 rfl) ?_
      refine lv_bipush (v := 12) hx hb dX7_fewestOf_3 (by decide) ?_
      refine lv_icmp_ge (tgt := 48) hx hb dX7_fewestOf_5 (by decide) (fun c => absurd c (inle (a := 12) (b := i2) rfl rfl (by omega) (by omega) (by omega))) (fun _ => ?_)
      refine lv_iconst (v := 0) hx hb dX7_fewestOf_8 (by decide) ?_
      refine lv_istore_n (lv' := [(3, .int 0), (0, .ref mO), (1, .int (nI bb)), (2, .int (nI i2))]) hx hb dX7_fewestOf_9 rfl hl (by decide) rfl (fun ls hl => ?_)
      have L10 : ∀ (k10 : Nat) (i10 : Nat), k10 + i10 = 4096 → f_X7_fewestOf_10 (f_X7_fewestOf_2 zs bb bn k2 (i2 + 1)) zs bb bn i2 k10 i10 = R → ∀ (H : Heap) (locs : List Loc) (ls : Array Slot), va_P G.1 wcl [(mO, .inr (7, [.ref mA, .ref mS, .ref mI, .ref mV, .int me, .ref mT, .ref mR, .int (nI mz), .int (nI ma), .ref mW, .int (nI mr), .ref mN])), (mS, .inl (G.2.1, 259, .inl zs))] H → va_D A [(mO, .inr (7, [.ref mA, .ref mS, .ref mI, .ref mV, .int me, .ref mT, .ref mR, .int (nI mz), .int (nI ma), .ref mW, .int (nI mr), .ref mN])), (mS, .inl (G.2.1, 259, .inl zs))] → va_S A s.heap H locs → lv_has ls 4 [(0, .ref mO), (1, .int (nI bb)), (2, .int (nI i2)), (3, .int (nI i10))] → W p l e ({ frames := 5, cells := 0, slots := 0, locals := 119 }) s m args below meth c H locs 0 0 Q (F0 m 10 ls []) := by
        intro k10
        induction k10 with
        | zero =>
          intro i10 hi10  hf _ _ ls hP hD hS hl
          rw [f_X7_fewestOf_10_z] at hf
          refine lv_iload_n hx hb dX7_fewestOf_10 rfl (lv_at hl 3 rfl) ?_
          refine lv_sipush (v := 4096) hx hb dX7_fewestOf_11 (by decide) ?_
          refine lv_icmp_ge (tgt := 42) hx hb dX7_fewestOf_14 (by decide) (fun _ => ?_) (fun c => absurd (ile (a := 4096) (b := i10) rfl rfl (by omega) (by omega) (by omega)) c)
          refine lv_iinc (v := nI (i2 + 1)) (lv' := [(2, .int (nI (i2 + 1))), (0, .ref mO), (1, .int (nI bb)), (3, .int (nI i10))]) hx hb dX7_fewestOf_42 hl (k := 2) rfl (nI_1 i2) (by decide) rfl (fun ls hl => ?_)
          refine lv_goto (tgt := 2) hx hb dX7_fewestOf_45 (by decide) ?_
          exact ih2 (i2 + 1) (by omega)  hf _ _ ls hP hD hS (lv_sub hl [1, 2, 0] rfl)
        | succ k10 ih10 =>
          intro i10 hi10  hf _ _ ls hP hD hS hl
          rw [f_X7_fewestOf_10_s] at hf
          refine lv_iload_n hx hb dX7_fewestOf_10 rfl (lv_at hl 3 rfl) ?_
          refine lv_sipush (v := 4096) hx hb dX7_fewestOf_11 (by decide) ?_
          refine lv_icmp_ge (tgt := 42) hx hb dX7_fewestOf_14 (by decide) (fun c => absurd c (inle (a := 4096) (b := i10) rfl rfl (by omega) (by omega) (by omega))) (fun _ => ?_)
          refine lv_iload_n hx hb dX7_fewestOf_17 rfl (lv_at hl 3 rfl) ?_
          refine cl_S (ws' := [(mO, .inr (7, [.ref mA, .ref mS, .ref mI, .ref mV, .int me, .ref mT, .ref mR, .int (nI mz), .int (nI ma), .ref mW, .int (nI mr), .ref mN])), (mS, .inl (G.2.1, 259, .inl zs))]) (v := (some (.int (f_X7_bits (nI i10))))) (st1 := [.int (f_X7_bits (nI i10))]) (rest := []) (As := [.int (nI i10)]) [] hx hb hml hown hK (k_X7_bits l G (nI i10) (Rg_of (by omega))) (mf_X7_bits hK.2) (kw_792 hK.2) (kw_791 hK.2) ⟨rfl, rfl, Nat.le_of_ble_eq_true rfl, Nat.le_of_ble_eq_true rfl⟩ rfl hP hD hS hA hl (Nat.le_of_ble_eq_true rfl) rfl ⟨Nat.le_of_ble_eq_true rfl, Nat.le_of_ble_eq_true rfl⟩ rfl dX7_fewestOf_18 rfl rfl rfl rfl rfl rfl (fun H locs hP hD hS => ?_)
          refine lv_iload_n hx hb dX7_fewestOf_21 rfl (lv_at hl 2 rfl) ?_
          refine lv_icmp_ne (tgt := 36) hx hb dX7_fewestOf_22 (by decide) (fun c1 => ?_) (fun c1 => ?_)
          · have hf := (if_neg c1).symm.trans hf
            refine lv_iinc (v := nI (i10 + 1)) (lv' := [(3, .int (nI (i10 + 1))), (0, .ref mO), (1, .int (nI bb)), (2, .int (nI i2))]) hx hb dX7_fewestOf_36 hl (k := 3) rfl (nI_1 i10) (by decide) rfl (fun ls hl => ?_)
            refine lv_goto (tgt := 10) hx hb dX7_fewestOf_39 (by decide) ?_
            exact ih10 (i10 + 1) (by omega)  hf _ _ ls hP hD hS (lv_sub hl [1, 2, 3, 0] rfl)
          · have hf := (if_pos c1).symm.trans hf
            refine lv_aload_n hx hb dX7_fewestOf_25 rfl (lv_at hl 0 rfl) ?_
            refine lv_iload_n hx hb dX7_fewestOf_26 rfl (lv_at hl 1 rfl) ?_
            refine lv_iload_n hx hb dX7_fewestOf_27 rfl (lv_at hl 3 rfl) ?_
            refine cl_V (q := (RX7, TX7, 12)) (ws' := [(mO, .inr (7, [.ref mA, .ref mS, .ref mI, .ref mV, .int me, .ref mT, .ref mR, .int (nI mz), .int (nI ma), .ref mW, .int (nI mr), .ref mN])), (mS, .inl (G.2.1, 259, .inl zs))]) (v := (some (.int (f_X7_isFoundation zs bb bn (nI i10))))) (st1 := [.int (f_X7_isFoundation zs bb bn (nI i10))]) (rest := []) (As := [.int (nI bb), .int (nI i10)]) [0, 1] 0 7 hx hb hml hown hK (k_X7_isFoundation l G mO mA mS mI mV mT mR mW mN me mz ma mr zs bb bn (nI i10) hbb hbn hb2 hnd hwd (Rg_of (by omega))) (mf_X7_isFoundation hK.2) (kw_852 hK.2) (kw_26 hK.2) (kw_850 hK.2) ⟨rfl, rfl, Nat.le_of_ble_eq_true rfl, Nat.le_of_ble_eq_true rfl⟩ rfl hP hD hS hA rfl rfl hl (Nat.le_of_ble_eq_true rfl) rfl ⟨Nat.le_of_ble_eq_true rfl, Nat.le_of_ble_eq_true rfl⟩ rfl dX7_fewestOf_28 rfl rfl (rpl_fast (by decide) rfl rfl) rfl rfl rfl (fun H locs hP hD hS => ?_)
            refine lv_if_eq (tgt := 36) hx hb dX7_fewestOf_31 (by decide) (fun c2 => ?_) (fun c2 => ?_)
            · have hf := (if_pos c2).symm.trans hf
              refine lv_iinc (v := nI (i10 + 1)) (lv' := [(3, .int (nI (i10 + 1))), (0, .ref mO), (1, .int (nI bb)), (2, .int (nI i2))]) hx hb dX7_fewestOf_36 hl (k := 3) rfl (nI_1 i10) (by decide) rfl (fun ls hl => ?_)
              refine lv_goto (tgt := 10) hx hb dX7_fewestOf_39 (by decide) ?_
              exact ih10 (i10 + 1) (by omega)  hf _ _ ls hP hD hS (lv_sub hl [1, 2, 3, 0] rfl)
            · have hf := (if_neg c2).symm.trans hf
              refine lv_iload_n hx hb dX7_fewestOf_34 rfl (lv_at hl 3 rfl) ?_
              exact hret (nI i10) dX7_fewestOf_35 rfl hf rfl hP hS
      exact L10 4096 0 (by omega)  hf _ _ ls hP hD hS (lv_sub hl [1, 2, 3, 0] rfl)
  exact L2 12 0 (by omega)  hf _ _ ls hP hD hS (lv_sub hl [1, 2, 0] rfl)
def f_X7_leadsBy_20 (zs : Nat → Int32) (bb : Nat) (bn : Nat) : Nat → Nat → Int32 → Int32
  | 0, i20, v3_20 => v3_20
  | k20 + 1, i20, v3_20 => (if ((v3_20 >>> ((nI i20) &&& 31)) &&& (1 : Int32)) = 1 then f_X7_leadsBy_20 zs bb bn k20 (i20 + 1) (v3_20 ||| (f_X7_neededBy zs bb bn (nI i20))) else f_X7_leadsBy_20 zs bb bn k20 (i20 + 1) (v3_20 ||| (0 : Int32)))
theorem f_X7_leadsBy_20_z (zs : Nat → Int32) (bb : Nat) (bn : Nat) (i20 : Nat) (v3_20 : Int32) : f_X7_leadsBy_20 zs bb bn 0 i20 v3_20 = v3_20 := rfl
theorem f_X7_leadsBy_20_s (zs : Nat → Int32) (bb : Nat) (bn : Nat) (k20 : Nat) (i20 : Nat) (v3_20 : Int32) : f_X7_leadsBy_20 zs bb bn (k20 + 1) i20 v3_20 = (if ((v3_20 >>> ((nI i20) &&& 31)) &&& (1 : Int32)) = 1 then f_X7_leadsBy_20 zs bb bn k20 (i20 + 1) (v3_20 ||| (f_X7_neededBy zs bb bn (nI i20))) else f_X7_leadsBy_20 zs bb bn k20 (i20 + 1) (v3_20 ||| (0 : Int32))) := rfl
def f_X7_leadsBy_10 (zs : Nat → Int32) (bb : Nat) (bn : Nat) : Nat → Nat → Int32 → Int32
  | 0, i10, v3_10 => v3_10
  | k10 + 1, i10, v3_10 => f_X7_leadsBy_10 zs bb bn k10 (i10 + 1) (f_X7_leadsBy_20 zs bb bn 12 0 v3_10)
theorem f_X7_leadsBy_10_z (zs : Nat → Int32) (bb : Nat) (bn : Nat) (i10 : Nat) (v3_10 : Int32) : f_X7_leadsBy_10 zs bb bn 0 i10 v3_10 = v3_10 := rfl
theorem f_X7_leadsBy_10_s (zs : Nat → Int32) (bb : Nat) (bn : Nat) (k10 : Nat) (i10 : Nat) (v3_10 : Int32) : f_X7_leadsBy_10 zs bb bn (k10 + 1) i10 v3_10 = f_X7_leadsBy_10 zs bb bn k10 (i10 + 1) (f_X7_leadsBy_20 zs bb bn 12 0 v3_10) := rfl
def f_X7_leadsBy (zs : Nat → Int32) (bb : Nat) (bn : Nat) (wo : Int32) : Int32 := (f_X7_leadsBy_10 zs bb bn 12 0 (f_X7_neededBy zs bb bn wo))
set_option maxHeartbeats 4000000 in
set_option maxRecDepth 100000 in
theorem k_X7_leadsBy (l : Launch) (G : wG) (mO : Nat) (mA : Nat) (mS : Nat) (mI : Nat) (mV : Nat) (mT : Nat) (mR : Nat) (mW : Nat) (mN : Nat) (me : Int32) (mz : Nat) (ma : Nat) (mr : Nat) (zs : Nat → Int32) (bb : Nat) (bn : Nat) (wo : Int32) (hbb : bb < 2) (hbn : zs (160 + bb) = nI bn) (hb2 : bn ≤ 20) : CT l G yX7_leadsBy cX7_leadsBy 6 (some .int) ({ frames := 2, cells := 0, slots := 0, locals := 47 }) [.ref mO, .int (nI bb), .int wo] [(mO, .inr (7, [.ref mA, .ref mS, .ref mI, .ref mV, .int me, .ref mT, .ref mR, .int (nI mz), .int (nI ma), .ref mW, .int (nI mr), .ref mN])), (mS, .inl (G.2.1, 259, .inl zs))] (fun _ => [(mO, .inr (7, [.ref mA, .ref mS, .ref mI, .ref mV, .int me, .ref mT, .ref mR, .int (nI mz), .int (nI ma), .ref mW, .int (nI mr), .ref mN])), (mS, .inl (G.2.1, 259, .inl zs))]) (fun u => some (.int u)) (f_X7_leadsBy zs bb bn wo) := by
  obtain ⟨R, hf⟩ : ∃ R, f_X7_leadsBy zs bb bn wo = R := ⟨_, rfl⟩
  rw [hf]
  refine CT.mkI RX7 (by decide +kernel) rfl (Nat.le_of_ble_eq_true rfl) ?_
  intro p e s m args below meth c A Q ls hx hb hml hown hK hP hD hS hA hret hl
  have hl : lv_has ls 6 [(0, .ref mO), (1, .int (nI bb)), (2, .int wo)] := hl
  rw [f_X7_leadsBy] at hf
  refine lv_aload_n hx hb dX7_leadsBy_0 rfl (lv_at hl 0 rfl) ?_
  refine lv_iload_n hx hb dX7_leadsBy_1 rfl (lv_at hl 1 rfl) ?_
  refine lv_iload_n hx hb dX7_leadsBy_2 rfl (lv_at hl 2 rfl) ?_
  refine cl_V (q := (RX7, TX7, 12)) (ws' := [(mO, .inr (7, [.ref mA, .ref mS, .ref mI, .ref mV, .int me, .ref mT, .ref mR, .int (nI mz), .int (nI ma), .ref mW, .int (nI mr), .ref mN])), (mS, .inl (G.2.1, 259, .inl zs))]) (v := (some (.int (f_X7_neededBy zs bb bn wo)))) (st1 := [.int (f_X7_neededBy zs bb bn wo)]) (rest := []) (As := [.int (nI bb), .int wo]) [0, 1] 0 7 hx hb hml hown hK (k_X7_neededBy l G mO mA mS mI mV mT mR mW mN me mz ma mr zs bb bn wo hbb hbn hb2) (mf_X7_neededBy hK.2) (kw_816 hK.2) (kw_22 hK.2) (kw_814 hK.2) ⟨rfl, rfl, Nat.le_of_ble_eq_true rfl, Nat.le_of_ble_eq_true rfl⟩ rfl hP hD hS hA rfl rfl hl (Nat.le_of_ble_eq_true rfl) rfl ⟨Nat.le_of_ble_eq_true rfl, Nat.le_of_ble_eq_true rfl⟩ rfl dX7_leadsBy_3 rfl rfl (rpl_fast (by decide) rfl rfl) rfl rfl rfl (fun H locs hP hD hS => ?_)
  refine lv_istore_n (lv' := [(3, .int (f_X7_neededBy zs bb bn wo)), (0, .ref mO), (1, .int (nI bb)), (2, .int wo)]) hx hb dX7_leadsBy_6 rfl hl (by decide) rfl (fun ls hl => ?_)
  refine lv_iconst (v := 0) hx hb dX7_leadsBy_7 (by decide) ?_
  refine lv_istore (lv' := [(4, .int 0), (3, .int (f_X7_neededBy zs bb bn wo)), (0, .ref mO), (1, .int (nI bb)), (2, .int wo)]) hx hb dX7_leadsBy_8 hl (by decide) rfl (fun ls hl => ?_)
  have L10 : ∀ (k10 : Nat) (i10 : Nat) (v3_10 : Int32), k10 + i10 = 12 → f_X7_leadsBy_10 zs bb bn k10 i10 v3_10 = R → ∀ (H : Heap) (locs : List Loc) (ls : Array Slot), va_P G.1 wcl [(mO, .inr (7, [.ref mA, .ref mS, .ref mI, .ref mV, .int me, .ref mT, .ref mR, .int (nI mz), .int (nI ma), .ref mW, .int (nI mr), .ref mN])), (mS, .inl (G.2.1, 259, .inl zs))] H → va_D A [(mO, .inr (7, [.ref mA, .ref mS, .ref mI, .ref mV, .int me, .ref mT, .ref mR, .int (nI mz), .int (nI ma), .ref mW, .int (nI mr), .ref mN])), (mS, .inl (G.2.1, 259, .inl zs))] → va_S A s.heap H locs → lv_has ls 6 [(0, .ref mO), (1, .int (nI bb)), (3, .int v3_10), (4, .int (nI i10))] → W p l e ({ frames := 2, cells := 0, slots := 0, locals := 47 }) s m args below meth c H locs 0 0 Q (F0 m 10 ls []) := by
    intro k10
    induction k10 with
    | zero =>
      intro i10 v3_10 hi10  hf _ _ ls hP hD hS hl
      rw [f_X7_leadsBy_10_z] at hf
      refine lv_iload hx hb dX7_leadsBy_10 (lv_at hl 3 rfl) ?_
      refine lv_bipush (v := 12) hx hb dX7_leadsBy_12 (by decide) ?_
      refine lv_icmp_ge (tgt := 63) hx hb dX7_leadsBy_14 (by decide) (fun _ => ?_) (fun c => absurd (ile (a := 12) (b := i10) rfl rfl (by omega) (by omega) (by omega)) c)
      refine lv_iload_n hx hb dX7_leadsBy_63 rfl (lv_at hl 2 rfl) ?_
      exact hret v3_10 dX7_leadsBy_64 rfl hf rfl hP hS
    | succ k10 ih10 =>
      intro i10 v3_10 hi10  hf _ _ ls hP hD hS hl
      rw [f_X7_leadsBy_10_s] at hf
      refine lv_iload hx hb dX7_leadsBy_10 (lv_at hl 3 rfl) ?_
      refine lv_bipush (v := 12) hx hb dX7_leadsBy_12 (by decide) ?_
      refine lv_icmp_ge (tgt := 63) hx hb dX7_leadsBy_14 (by decide) (fun c => absurd c (inle (a := 12) (b := i10) rfl rfl (by omega) (by omega) (by omega))) (fun _ => ?_)
      refine lv_iconst (v := 0) hx hb dX7_leadsBy_17 (by decide) ?_
      refine lv_istore (lv' := [(5, .int 0), (0, .ref mO), (1, .int (nI bb)), (3, .int v3_10), (4, .int (nI i10))]) hx hb dX7_leadsBy_18 hl (by decide) rfl (fun ls hl => ?_)
      have X20 : ∀ (H : Heap) (locs : List Loc) (ls : Array Slot), va_P G.1 wcl [(mO, .inr (7, [.ref mA, .ref mS, .ref mI, .ref mV, .int me, .ref mT, .ref mR, .int (nI mz), .int (nI ma), .ref mW, .int (nI mr), .ref mN])), (mS, .inl (G.2.1, 259, .inl zs))] H → va_D A [(mO, .inr (7, [.ref mA, .ref mS, .ref mI, .ref mV, .int me, .ref mT, .ref mR, .int (nI mz), .int (nI ma), .ref mW, .int (nI mr), .ref mN])), (mS, .inl (G.2.1, 259, .inl zs))] → va_S A s.heap H locs → lv_has ls 6 [(0, .ref mO), (1, .int (nI bb)), (3, .int (f_X7_leadsBy_20 zs bb bn 12 0 v3_10)), (4, .int (nI i10))] → W p l e ({ frames := 2, cells := 0, slots := 0, locals := 47 }) s m args below meth c H locs 0 0 Q (F0 m 57 ls []) := by
        intro H locs ls hP hD hS hl
        refine lv_iinc (v := nI (i10 + 1)) (lv' := [(4, .int (nI (i10 + 1))), (0, .ref mO), (1, .int (nI bb)), (3, .int (f_X7_leadsBy_20 zs bb bn 12 0 v3_10))]) hx hb dX7_leadsBy_57 hl (k := 3) rfl (nI_1 i10) (by decide) rfl (fun ls hl => ?_)
        refine lv_goto (tgt := 10) hx hb dX7_leadsBy_60 (by decide) ?_
        exact ih10 (i10 + 1) (f_X7_leadsBy_20 zs bb bn 12 0 v3_10) (by omega)  hf _ _ ls hP hD hS (lv_sub hl [1, 2, 3, 0] rfl)
      have L20 : ∀ (k20 : Nat) (i20 : Nat) (v3_20 : Int32), k20 + i20 = 12 → f_X7_leadsBy_20 zs bb bn k20 i20 v3_20 = (f_X7_leadsBy_20 zs bb bn 12 0 v3_10) → ∀ (H : Heap) (locs : List Loc) (ls : Array Slot), va_P G.1 wcl [(mO, .inr (7, [.ref mA, .ref mS, .ref mI, .ref mV, .int me, .ref mT, .ref mR, .int (nI mz), .int (nI ma), .ref mW, .int (nI mr), .ref mN])), (mS, .inl (G.2.1, 259, .inl zs))] H → va_D A [(mO, .inr (7, [.ref mA, .ref mS, .ref mI, .ref mV, .int me, .ref mT, .ref mR, .int (nI mz), .int (nI ma), .ref mW, .int (nI mr), .ref mN])), (mS, .inl (G.2.1, 259, .inl zs))] → va_S A s.heap H locs → lv_has ls 6 [(0, .ref mO), (1, .int (nI bb)), (3, .int v3_20), (4, .int (nI i10)), (5, .int (nI i20))] → W p l e ({ frames := 2, cells := 0, slots := 0, locals := 47 }) s m args below meth c H locs 0 0 Q (F0 m 20 ls []) := by
        intro k20
        induction k20 with
        | zero =>
          intro i20 v3_20 hi20  hf _ _ ls hP hD hS hl
          rw [f_X7_leadsBy_20_z] at hf
          refine lv_iload hx hb dX7_leadsBy_20 (lv_at hl 4 rfl) ?_
          refine lv_bipush (v := 12) hx hb dX7_leadsBy_22 (by decide) ?_
          refine lv_icmp_ge (tgt := 57) hx hb dX7_leadsBy_24 (by decide) (fun _ => ?_) (fun c => absurd (ile (a := 12) (b := i20) rfl rfl (by omega) (by omega) (by omega)) c)
          exact X20 _ _ ls (by first | exact hP | (rw [← hf]; exact hP)) (by first | exact hD | (rw [← hf]; exact hD)) hS (by first | exact (lv_sub hl [0, 1, 2, 3] rfl) | (rw [← hf]; exact (lv_sub hl [0, 1, 2, 3] rfl)))
        | succ k20 ih20 =>
          intro i20 v3_20 hi20  hf _ _ ls hP hD hS hl
          rw [f_X7_leadsBy_20_s] at hf
          refine lv_iload hx hb dX7_leadsBy_20 (lv_at hl 4 rfl) ?_
          refine lv_bipush (v := 12) hx hb dX7_leadsBy_22 (by decide) ?_
          refine lv_icmp_ge (tgt := 57) hx hb dX7_leadsBy_24 (by decide) (fun c => absurd c (inle (a := 12) (b := i20) rfl rfl (by omega) (by omega) (by omega))) (fun _ => ?_)
          refine lv_iload_n hx hb dX7_leadsBy_27 rfl (lv_at hl 2 rfl) ?_
          refine lv_iload_n hx hb dX7_leadsBy_28 rfl (lv_at hl 2 rfl) ?_
          refine lv_iload hx hb dX7_leadsBy_29 (lv_at hl 4 rfl) ?_
          refine lv_ishr hx hb dX7_leadsBy_31 ?_
          refine lv_iconst (v := 1) hx hb dX7_leadsBy_32 (by decide) ?_
          refine lv_iand hx hb dX7_leadsBy_33 ?_
          refine lv_iconst (v := 1) hx hb dX7_leadsBy_34 (by decide) ?_
          refine lv_icmp_ne (tgt := 48) hx hb dX7_leadsBy_35 (by decide) (fun c1 => ?_) (fun c1 => ?_)
          · have hf := (if_neg c1).symm.trans hf
            refine lv_iconst (v := 0) hx hb dX7_leadsBy_48 (by decide) ?_
            refine lv_ior hx hb dX7_leadsBy_49 ?_
            refine lv_istore_n (lv' := [(3, .int (v3_20 ||| (0 : Int32))), (0, .ref mO), (1, .int (nI bb)), (4, .int (nI i10)), (5, .int (nI i20))]) hx hb dX7_leadsBy_50 rfl hl (by decide) rfl (fun ls hl => ?_)
            refine lv_iinc (v := nI (i20 + 1)) (lv' := [(5, .int (nI (i20 + 1))), (3, .int (v3_20 ||| (0 : Int32))), (0, .ref mO), (1, .int (nI bb)), (4, .int (nI i10))]) hx hb dX7_leadsBy_51 hl (k := 4) rfl (nI_1 i20) (by decide) rfl (fun ls hl => ?_)
            refine lv_goto (tgt := 20) hx hb dX7_leadsBy_54 (by decide) ?_
            exact ih20 (i20 + 1) (v3_20 ||| (0 : Int32)) (by omega)  hf _ _ ls hP hD hS (lv_sub hl [2, 3, 1, 4, 0] rfl)
          · have hf := (if_pos c1).symm.trans hf
            refine lv_aload_n hx hb dX7_leadsBy_38 rfl (lv_at hl 0 rfl) ?_
            refine lv_iload_n hx hb dX7_leadsBy_39 rfl (lv_at hl 1 rfl) ?_
            refine lv_iload hx hb dX7_leadsBy_40 (lv_at hl 4 rfl) ?_
            refine cl_V (q := (RX7, TX7, 12)) (ws' := [(mO, .inr (7, [.ref mA, .ref mS, .ref mI, .ref mV, .int me, .ref mT, .ref mR, .int (nI mz), .int (nI ma), .ref mW, .int (nI mr), .ref mN])), (mS, .inl (G.2.1, 259, .inl zs))]) (v := (some (.int (f_X7_neededBy zs bb bn (nI i20))))) (st1 := [.int (f_X7_neededBy zs bb bn (nI i20)), .int v3_20]) (rest := [.int v3_20]) (As := [.int (nI bb), .int (nI i20)]) [0, 1] 0 7 hx hb hml hown hK (k_X7_neededBy l G mO mA mS mI mV mT mR mW mN me mz ma mr zs bb bn (nI i20) hbb hbn hb2) (mf_X7_neededBy hK.2) (kw_816 hK.2) (kw_22 hK.2) (kw_814 hK.2) ⟨rfl, rfl, Nat.le_of_ble_eq_true rfl, Nat.le_of_ble_eq_true rfl⟩ rfl hP hD hS hA rfl rfl hl (Nat.le_of_ble_eq_true rfl) rfl ⟨Nat.le_of_ble_eq_true rfl, Nat.le_of_ble_eq_true rfl⟩ rfl dX7_leadsBy_42 rfl rfl (rpl_fast (by decide) rfl rfl) rfl rfl rfl (fun H locs hP hD hS => ?_)
            refine lv_goto (tgt := 49) hx hb dX7_leadsBy_45 (by decide) ?_
            refine lv_ior hx hb dX7_leadsBy_49 ?_
            refine lv_istore_n (lv' := [(3, .int (v3_20 ||| (f_X7_neededBy zs bb bn (nI i20)))), (0, .ref mO), (1, .int (nI bb)), (4, .int (nI i10)), (5, .int (nI i20))]) hx hb dX7_leadsBy_50 rfl hl (by decide) rfl (fun ls hl => ?_)
            refine lv_iinc (v := nI (i20 + 1)) (lv' := [(5, .int (nI (i20 + 1))), (3, .int (v3_20 ||| (f_X7_neededBy zs bb bn (nI i20)))), (0, .ref mO), (1, .int (nI bb)), (4, .int (nI i10))]) hx hb dX7_leadsBy_51 hl (k := 4) rfl (nI_1 i20) (by decide) rfl (fun ls hl => ?_)
            refine lv_goto (tgt := 20) hx hb dX7_leadsBy_54 (by decide) ?_
            exact ih20 (i20 + 1) (v3_20 ||| (f_X7_neededBy zs bb bn (nI i20))) (by omega)  hf _ _ ls hP hD hS (lv_sub hl [2, 3, 1, 4, 0] rfl)
      exact L20 12 0 v3_10 (by omega)  rfl _ _ ls hP hD hS (lv_sub hl [1, 2, 3, 4, 0] rfl)
  exact L10 12 0 (f_X7_neededBy zs bb bn wo) (by omega)  hf _ _ ls hP hD hS (lv_sub hl [2, 3, 1, 0] rfl)
def f_X7_knotBy_15 (zs : Nat → Int32) (bb : Nat) (bn : Nat) (wo : Int32) : Nat → Nat → Int32 → Int32
  | 0, i15, v4_15 => v4_15
  | k15 + 1, i15, v4_15 => (if (((f_X7_leadsBy zs bb bn wo) >>> ((nI i15) &&& 31)) &&& (1 : Int32)) = 1 then (if (((f_X7_leadsBy zs bb bn (nI i15)) >>> (wo &&& 31)) &&& (1 : Int32)) = 1 then f_X7_knotBy_15 zs bb bn wo k15 (i15 + 1) (v4_15 ||| ((1 : Int32) <<< ((nI i15) &&& 31))) else f_X7_knotBy_15 zs bb bn wo k15 (i15 + 1) (v4_15 ||| (0 : Int32))) else f_X7_knotBy_15 zs bb bn wo k15 (i15 + 1) (v4_15 ||| (0 : Int32)))
theorem f_X7_knotBy_15_z (zs : Nat → Int32) (bb : Nat) (bn : Nat) (wo : Int32) (i15 : Nat) (v4_15 : Int32) : f_X7_knotBy_15 zs bb bn wo 0 i15 v4_15 = v4_15 := rfl
theorem f_X7_knotBy_15_s (zs : Nat → Int32) (bb : Nat) (bn : Nat) (wo : Int32) (k15 : Nat) (i15 : Nat) (v4_15 : Int32) : f_X7_knotBy_15 zs bb bn wo (k15 + 1) i15 v4_15 = (if (((f_X7_leadsBy zs bb bn wo) >>> ((nI i15) &&& 31)) &&& (1 : Int32)) = 1 then (if (((f_X7_leadsBy zs bb bn (nI i15)) >>> (wo &&& 31)) &&& (1 : Int32)) = 1 then f_X7_knotBy_15 zs bb bn wo k15 (i15 + 1) (v4_15 ||| ((1 : Int32) <<< ((nI i15) &&& 31))) else f_X7_knotBy_15 zs bb bn wo k15 (i15 + 1) (v4_15 ||| (0 : Int32))) else f_X7_knotBy_15 zs bb bn wo k15 (i15 + 1) (v4_15 ||| (0 : Int32))) := rfl
def f_X7_knotBy (zs : Nat → Int32) (bb : Nat) (bn : Nat) (wo : Int32) : Int32 := (f_X7_knotBy_15 zs bb bn wo 12 0 ((1 : Int32) <<< (wo &&& 31)))
set_option maxHeartbeats 4000000 in
set_option maxRecDepth 100000 in
theorem k_X7_knotBy (l : Launch) (G : wG) (mO : Nat) (mA : Nat) (mS : Nat) (mI : Nat) (mV : Nat) (mT : Nat) (mR : Nat) (mW : Nat) (mN : Nat) (me : Int32) (mz : Nat) (ma : Nat) (mr : Nat) (zs : Nat → Int32) (bb : Nat) (bn : Nat) (wo : Int32) (hbb : bb < 2) (hbn : zs (160 + bb) = nI bn) (hb2 : bn ≤ 20) : CT l G yX7_knotBy cX7_knotBy 6 (some .int) ({ frames := 3, cells := 0, slots := 0, locals := 72 }) [.ref mO, .int (nI bb), .int wo] [(mO, .inr (7, [.ref mA, .ref mS, .ref mI, .ref mV, .int me, .ref mT, .ref mR, .int (nI mz), .int (nI ma), .ref mW, .int (nI mr), .ref mN])), (mS, .inl (G.2.1, 259, .inl zs))] (fun _ => [(mO, .inr (7, [.ref mA, .ref mS, .ref mI, .ref mV, .int me, .ref mT, .ref mR, .int (nI mz), .int (nI ma), .ref mW, .int (nI mr), .ref mN])), (mS, .inl (G.2.1, 259, .inl zs))]) (fun u => some (.int u)) (f_X7_knotBy zs bb bn wo) := by
  obtain ⟨R, hf⟩ : ∃ R, f_X7_knotBy zs bb bn wo = R := ⟨_, rfl⟩
  rw [hf]
  refine CT.mkI RX7 (by decide +kernel) rfl (Nat.le_of_ble_eq_true rfl) ?_
  intro p e s m args below meth c A Q ls hx hb hml hown hK hP hD hS hA hret hl
  have hl : lv_has ls 6 [(0, .ref mO), (1, .int (nI bb)), (2, .int wo)] := hl
  rw [f_X7_knotBy] at hf
  refine lv_aload_n hx hb dX7_knotBy_0 rfl (lv_at hl 0 rfl) ?_
  refine lv_iload_n hx hb dX7_knotBy_1 rfl (lv_at hl 1 rfl) ?_
  refine lv_iload_n hx hb dX7_knotBy_2 rfl (lv_at hl 2 rfl) ?_
  refine cl_V (q := (RX7, TX7, 12)) (ws' := [(mO, .inr (7, [.ref mA, .ref mS, .ref mI, .ref mV, .int me, .ref mT, .ref mR, .int (nI mz), .int (nI ma), .ref mW, .int (nI mr), .ref mN])), (mS, .inl (G.2.1, 259, .inl zs))]) (v := (some (.int (f_X7_leadsBy zs bb bn wo)))) (st1 := [.int (f_X7_leadsBy zs bb bn wo)]) (rest := []) (As := [.int (nI bb), .int wo]) [0, 1] 0 7 hx hb hml hown hK (k_X7_leadsBy l G mO mA mS mI mV mT mR mW mN me mz ma mr zs bb bn wo hbb hbn hb2) (mf_X7_leadsBy hK.2) (kw_828 hK.2) (kw_23 hK.2) (kw_826 hK.2) ⟨rfl, rfl, Nat.le_of_ble_eq_true rfl, Nat.le_of_ble_eq_true rfl⟩ rfl hP hD hS hA rfl rfl hl (Nat.le_of_ble_eq_true rfl) rfl ⟨Nat.le_of_ble_eq_true rfl, Nat.le_of_ble_eq_true rfl⟩ rfl dX7_knotBy_3 rfl rfl (rpl_fast (by decide) rfl rfl) rfl rfl rfl (fun H locs hP hD hS => ?_)
  refine lv_istore_n (lv' := [(3, .int (f_X7_leadsBy zs bb bn wo)), (0, .ref mO), (1, .int (nI bb)), (2, .int wo)]) hx hb dX7_knotBy_6 rfl hl (by decide) rfl (fun ls hl => ?_)
  refine lv_iconst (v := 1) hx hb dX7_knotBy_7 (by decide) ?_
  refine lv_iload_n hx hb dX7_knotBy_8 rfl (lv_at hl 3 rfl) ?_
  refine lv_ishl hx hb dX7_knotBy_9 ?_
  refine lv_istore (lv' := [(4, .int ((1 : Int32) <<< (wo &&& 31))), (3, .int (f_X7_leadsBy zs bb bn wo)), (0, .ref mO), (1, .int (nI bb)), (2, .int wo)]) hx hb dX7_knotBy_10 hl (by decide) rfl (fun ls hl => ?_)
  refine lv_iconst (v := 0) hx hb dX7_knotBy_12 (by decide) ?_
  refine lv_istore (lv' := [(5, .int 0), (4, .int ((1 : Int32) <<< (wo &&& 31))), (3, .int (f_X7_leadsBy zs bb bn wo)), (0, .ref mO), (1, .int (nI bb)), (2, .int wo)]) hx hb dX7_knotBy_13 hl (by decide) rfl (fun ls hl => ?_)
  have L15 : ∀ (k15 : Nat) (i15 : Nat) (v4_15 : Int32), k15 + i15 = 12 → f_X7_knotBy_15 zs bb bn wo k15 i15 v4_15 = R → ∀ (H : Heap) (locs : List Loc) (ls : Array Slot), va_P G.1 wcl [(mO, .inr (7, [.ref mA, .ref mS, .ref mI, .ref mV, .int me, .ref mT, .ref mR, .int (nI mz), .int (nI ma), .ref mW, .int (nI mr), .ref mN])), (mS, .inl (G.2.1, 259, .inl zs))] H → va_D A [(mO, .inr (7, [.ref mA, .ref mS, .ref mI, .ref mV, .int me, .ref mT, .ref mR, .int (nI mz), .int (nI ma), .ref mW, .int (nI mr), .ref mN])), (mS, .inl (G.2.1, 259, .inl zs))] → va_S A s.heap H locs → lv_has ls 6 [(0, .ref mO), (1, .int (nI bb)), (2, .int wo), (3, .int (f_X7_leadsBy zs bb bn wo)), (4, .int v4_15), (5, .int (nI i15))] → W p l e ({ frames := 3, cells := 0, slots := 0, locals := 72 }) s m args below meth c H locs 0 0 Q (F0 m 15 ls []) := by
    intro k15
    induction k15 with
    | zero =>
      intro i15 v4_15 hi15  hf _ _ ls hP hD hS hl
      rw [f_X7_knotBy_15_z] at hf
      refine lv_iload hx hb dX7_knotBy_15 (lv_at hl 5 rfl) ?_
      refine lv_bipush (v := 12) hx hb dX7_knotBy_17 (by decide) ?_
      refine lv_icmp_ge (tgt := 66) hx hb dX7_knotBy_19 (by decide) (fun _ => ?_) (fun c => absurd (ile (a := 12) (b := i15) rfl rfl (by omega) (by omega) (by omega)) c)
      refine lv_iload hx hb dX7_knotBy_66 (lv_at hl 4 rfl) ?_
      exact hret v4_15 dX7_knotBy_68 rfl hf rfl hP hS
    | succ k15 ih15 =>
      intro i15 v4_15 hi15  hf _ _ ls hP hD hS hl
      rw [f_X7_knotBy_15_s] at hf
      refine lv_iload hx hb dX7_knotBy_15 (lv_at hl 5 rfl) ?_
      refine lv_bipush (v := 12) hx hb dX7_knotBy_17 (by decide) ?_
      refine lv_icmp_ge (tgt := 66) hx hb dX7_knotBy_19 (by decide) (fun c => absurd c (inle (a := 12) (b := i15) rfl rfl (by omega) (by omega) (by omega))) (fun _ => ?_)
      refine lv_iload hx hb dX7_knotBy_22 (lv_at hl 4 rfl) ?_
      refine lv_iload_n hx hb dX7_knotBy_24 rfl (lv_at hl 3 rfl) ?_
      refine lv_iload hx hb dX7_knotBy_25 (lv_at hl 5 rfl) ?_
      refine lv_ishr hx hb dX7_knotBy_27 ?_
      refine lv_iconst (v := 1) hx hb dX7_knotBy_28 (by decide) ?_
      refine lv_iand hx hb dX7_knotBy_29 ?_
      refine lv_iconst (v := 1) hx hb dX7_knotBy_30 (by decide) ?_
      refine lv_icmp_ne (tgt := 56) hx hb dX7_knotBy_31 (by decide) (fun c1 => ?_) (fun c1 => ?_)
      · have hf := (if_neg c1).symm.trans hf
        refine lv_iconst (v := 0) hx hb dX7_knotBy_56 (by decide) ?_
        refine lv_ior hx hb dX7_knotBy_57 ?_
        refine lv_istore (lv' := [(4, .int (v4_15 ||| (0 : Int32))), (0, .ref mO), (1, .int (nI bb)), (2, .int wo), (3, .int (f_X7_leadsBy zs bb bn wo)), (5, .int (nI i15))]) hx hb dX7_knotBy_58 hl (by decide) rfl (fun ls hl => ?_)
        refine lv_iinc (v := nI (i15 + 1)) (lv' := [(5, .int (nI (i15 + 1))), (4, .int (v4_15 ||| (0 : Int32))), (0, .ref mO), (1, .int (nI bb)), (2, .int wo), (3, .int (f_X7_leadsBy zs bb bn wo))]) hx hb dX7_knotBy_60 hl (k := 5) rfl (nI_1 i15) (by decide) rfl (fun ls hl => ?_)
        refine lv_goto (tgt := 15) hx hb dX7_knotBy_63 (by decide) ?_
        exact ih15 (i15 + 1) (v4_15 ||| (0 : Int32)) (by omega)  hf _ _ ls hP hD hS (lv_sub hl [2, 3, 4, 5, 1, 0] rfl)
      · have hf := (if_pos c1).symm.trans hf
        refine lv_aload_n hx hb dX7_knotBy_34 rfl (lv_at hl 0 rfl) ?_
        refine lv_iload_n hx hb dX7_knotBy_35 rfl (lv_at hl 1 rfl) ?_
        refine lv_iload hx hb dX7_knotBy_36 (lv_at hl 5 rfl) ?_
        refine cl_V (q := (RX7, TX7, 12)) (ws' := [(mO, .inr (7, [.ref mA, .ref mS, .ref mI, .ref mV, .int me, .ref mT, .ref mR, .int (nI mz), .int (nI ma), .ref mW, .int (nI mr), .ref mN])), (mS, .inl (G.2.1, 259, .inl zs))]) (v := (some (.int (f_X7_leadsBy zs bb bn (nI i15))))) (st1 := [.int (f_X7_leadsBy zs bb bn (nI i15)), .int v4_15]) (rest := [.int v4_15]) (As := [.int (nI bb), .int (nI i15)]) [0, 1] 0 7 hx hb hml hown hK (k_X7_leadsBy l G mO mA mS mI mV mT mR mW mN me mz ma mr zs bb bn (nI i15) hbb hbn hb2) (mf_X7_leadsBy hK.2) (kw_828 hK.2) (kw_23 hK.2) (kw_826 hK.2) ⟨rfl, rfl, Nat.le_of_ble_eq_true rfl, Nat.le_of_ble_eq_true rfl⟩ rfl hP hD hS hA rfl rfl hl (Nat.le_of_ble_eq_true rfl) rfl ⟨Nat.le_of_ble_eq_true rfl, Nat.le_of_ble_eq_true rfl⟩ rfl dX7_knotBy_38 rfl rfl (rpl_fast (by decide) rfl rfl) rfl rfl rfl (fun H locs hP hD hS => ?_)
        refine lv_iload_n hx hb dX7_knotBy_41 rfl (lv_at hl 2 rfl) ?_
        refine lv_ishr hx hb dX7_knotBy_42 ?_
        refine lv_iconst (v := 1) hx hb dX7_knotBy_43 (by decide) ?_
        refine lv_iand hx hb dX7_knotBy_44 ?_
        refine lv_iconst (v := 1) hx hb dX7_knotBy_45 (by decide) ?_
        refine lv_icmp_ne (tgt := 56) hx hb dX7_knotBy_46 (by decide) (fun c2 => ?_) (fun c2 => ?_)
        · have hf := (if_neg c2).symm.trans hf
          refine lv_iconst (v := 0) hx hb dX7_knotBy_56 (by decide) ?_
          refine lv_ior hx hb dX7_knotBy_57 ?_
          refine lv_istore (lv' := [(4, .int (v4_15 ||| (0 : Int32))), (0, .ref mO), (1, .int (nI bb)), (2, .int wo), (3, .int (f_X7_leadsBy zs bb bn wo)), (5, .int (nI i15))]) hx hb dX7_knotBy_58 hl (by decide) rfl (fun ls hl => ?_)
          refine lv_iinc (v := nI (i15 + 1)) (lv' := [(5, .int (nI (i15 + 1))), (4, .int (v4_15 ||| (0 : Int32))), (0, .ref mO), (1, .int (nI bb)), (2, .int wo), (3, .int (f_X7_leadsBy zs bb bn wo))]) hx hb dX7_knotBy_60 hl (k := 5) rfl (nI_1 i15) (by decide) rfl (fun ls hl => ?_)
          refine lv_goto (tgt := 15) hx hb dX7_knotBy_63 (by decide) ?_
          exact ih15 (i15 + 1) (v4_15 ||| (0 : Int32)) (by omega)  hf _ _ ls hP hD hS (lv_sub hl [2, 3, 4, 5, 1, 0] rfl)
        · have hf := (if_pos c2).symm.trans hf
          refine lv_iconst (v := 1) hx hb dX7_knotBy_49 (by decide) ?_
          refine lv_iload hx hb dX7_knotBy_50 (lv_at hl 5 rfl) ?_
          refine lv_ishl hx hb dX7_knotBy_52 ?_
          refine lv_goto (tgt := 57) hx hb dX7_knotBy_53 (by decide) ?_
          refine lv_ior hx hb dX7_knotBy_57 ?_
          refine lv_istore (lv' := [(4, .int (v4_15 ||| ((1 : Int32) <<< ((nI i15) &&& 31)))), (0, .ref mO), (1, .int (nI bb)), (2, .int wo), (3, .int (f_X7_leadsBy zs bb bn wo)), (5, .int (nI i15))]) hx hb dX7_knotBy_58 hl (by decide) rfl (fun ls hl => ?_)
          refine lv_iinc (v := nI (i15 + 1)) (lv' := [(5, .int (nI (i15 + 1))), (4, .int (v4_15 ||| ((1 : Int32) <<< ((nI i15) &&& 31)))), (0, .ref mO), (1, .int (nI bb)), (2, .int wo), (3, .int (f_X7_leadsBy zs bb bn wo))]) hx hb dX7_knotBy_60 hl (k := 5) rfl (nI_1 i15) (by decide) rfl (fun ls hl => ?_)
          refine lv_goto (tgt := 15) hx hb dX7_knotBy_63 (by decide) ?_
          exact ih15 (i15 + 1) (v4_15 ||| ((1 : Int32) <<< ((nI i15) &&& 31))) (by omega)  hf _ _ ls hP hD hS (lv_sub hl [2, 3, 4, 5, 1, 0] rfl)
  exact L15 12 0 ((1 : Int32) <<< (wo &&& 31)) (by omega)  hf _ _ ls hP hD hS (lv_sub hl [3, 4, 5, 2, 1, 0] rfl)
def f_X7_hardOf_5 (zs : Nat → Int32) (bb : Nat) (s0 : Int32) : Nat → Nat → Int32 → Int32
  | 0, i5, v3_5 => v3_5
  | k5 + 1, i5, v3_5 => f_X7_hardOf_5 zs bb s0 k5 (i5 + 1) (v3_5 + (((s0 >>> ((nI i5) &&& 31)) &&& (1 : Int32)) * (zs (162 + (12 * bb) + i5))))
theorem f_X7_hardOf_5_z (zs : Nat → Int32) (bb : Nat) (s0 : Int32) (i5 : Nat) (v3_5 : Int32) : f_X7_hardOf_5 zs bb s0 0 i5 v3_5 = v3_5 := rfl
theorem f_X7_hardOf_5_s (zs : Nat → Int32) (bb : Nat) (s0 : Int32) (k5 : Nat) (i5 : Nat) (v3_5 : Int32) : f_X7_hardOf_5 zs bb s0 (k5 + 1) i5 v3_5 = f_X7_hardOf_5 zs bb s0 k5 (i5 + 1) (v3_5 + (((s0 >>> ((nI i5) &&& 31)) &&& (1 : Int32)) * (zs (162 + (12 * bb) + i5)))) := rfl
def f_X7_hardOf (zs : Nat → Int32) (bb : Nat) (s0 : Int32) : Int32 := (f_X7_hardOf_5 zs bb s0 12 0 0)
set_option maxHeartbeats 4000000 in
set_option maxRecDepth 100000 in
theorem k_X7_hardOf (l : Launch) (G : wG) (mO : Nat) (mA : Nat) (mS : Nat) (mI : Nat) (mV : Nat) (mT : Nat) (mR : Nat) (mW : Nat) (mN : Nat) (me : Int32) (mz : Nat) (ma : Nat) (mr : Nat) (zs : Nat → Int32) (bb : Nat) (s0 : Int32) (hbb : bb < 2) : CT l G yX7_hardOf cX7_hardOf 5 (some .int) ({ frames := 0, cells := 0, slots := 0, locals := 0 }) [.ref mO, .int (nI bb), .int s0] [(mO, .inr (7, [.ref mA, .ref mS, .ref mI, .ref mV, .int me, .ref mT, .ref mR, .int (nI mz), .int (nI ma), .ref mW, .int (nI mr), .ref mN])), (mS, .inl (G.2.1, 259, .inl zs))] (fun _ => [(mO, .inr (7, [.ref mA, .ref mS, .ref mI, .ref mV, .int me, .ref mT, .ref mR, .int (nI mz), .int (nI ma), .ref mW, .int (nI mr), .ref mN])), (mS, .inl (G.2.1, 259, .inl zs))]) (fun u => some (.int u)) (f_X7_hardOf zs bb s0) := by
  obtain ⟨R, hf⟩ : ∃ R, f_X7_hardOf zs bb s0 = R := ⟨_, rfl⟩
  rw [hf]
  refine CT.mkI RX7 (by decide +kernel) rfl (Nat.le_of_ble_eq_true rfl) ?_
  intro p e s m args below meth c A Q ls hx hb hml hown hK hP hD hS hA hret hl
  have hl : lv_has ls 5 [(0, .ref mO), (1, .int (nI bb)), (2, .int s0)] := hl
  rw [f_X7_hardOf] at hf
  refine lv_iconst (v := 0) hx hb dX7_hardOf_0 (by decide) ?_
  refine lv_istore_n (lv' := [(3, .int 0), (0, .ref mO), (1, .int (nI bb)), (2, .int s0)]) hx hb dX7_hardOf_1 rfl hl (by decide) rfl (fun ls hl => ?_)
  refine lv_iconst (v := 0) hx hb dX7_hardOf_2 (by decide) ?_
  refine lv_istore (lv' := [(4, .int 0), (3, .int 0), (0, .ref mO), (1, .int (nI bb)), (2, .int s0)]) hx hb dX7_hardOf_3 hl (by decide) rfl (fun ls hl => ?_)
  have L5 : ∀ (k5 : Nat) (i5 : Nat) (v3_5 : Int32), k5 + i5 = 12 → f_X7_hardOf_5 zs bb s0 k5 i5 v3_5 = R → ∀ (H : Heap) (locs : List Loc) (ls : Array Slot), va_P G.1 wcl [(mO, .inr (7, [.ref mA, .ref mS, .ref mI, .ref mV, .int me, .ref mT, .ref mR, .int (nI mz), .int (nI ma), .ref mW, .int (nI mr), .ref mN])), (mS, .inl (G.2.1, 259, .inl zs))] H → va_D A [(mO, .inr (7, [.ref mA, .ref mS, .ref mI, .ref mV, .int me, .ref mT, .ref mR, .int (nI mz), .int (nI ma), .ref mW, .int (nI mr), .ref mN])), (mS, .inl (G.2.1, 259, .inl zs))] → va_S A s.heap H locs → lv_has ls 5 [(0, .ref mO), (1, .int (nI bb)), (2, .int s0), (3, .int v3_5), (4, .int (nI i5))] → W p l e ({ frames := 0, cells := 0, slots := 0, locals := 0 }) s m args below meth c H locs 0 0 Q (F0 m 5 ls []) := by
    intro k5
    induction k5 with
    | zero =>
      intro i5 v3_5 hi5  hf _ _ ls hP hD hS hl
      rw [f_X7_hardOf_5_z] at hf
      refine lv_iload hx hb dX7_hardOf_5 (lv_at hl 4 rfl) ?_
      refine lv_bipush (v := 12) hx hb dX7_hardOf_7 (by decide) ?_
      refine lv_icmp_ge (tgt := 44) hx hb dX7_hardOf_9 (by decide) (fun _ => ?_) (fun c => absurd (ile (a := 12) (b := i5) rfl rfl (by omega) (by omega) (by omega)) c)
      refine lv_iload_n hx hb dX7_hardOf_44 rfl (lv_at hl 3 rfl) ?_
      exact hret v3_5 dX7_hardOf_45 rfl hf rfl hP hS
    | succ k5 ih5 =>
      intro i5 v3_5 hi5  hf _ _ ls hP hD hS hl
      rw [f_X7_hardOf_5_s] at hf
      refine lv_iload hx hb dX7_hardOf_5 (lv_at hl 4 rfl) ?_
      refine lv_bipush (v := 12) hx hb dX7_hardOf_7 (by decide) ?_
      refine lv_icmp_ge (tgt := 44) hx hb dX7_hardOf_9 (by decide) (fun c => absurd c (inle (a := 12) (b := i5) rfl rfl (by omega) (by omega) (by omega))) (fun _ => ?_)
      refine lv_iload_n hx hb dX7_hardOf_12 rfl (lv_at hl 3 rfl) ?_
      refine lv_iload_n hx hb dX7_hardOf_13 rfl (lv_at hl 2 rfl) ?_
      refine lv_iload hx hb dX7_hardOf_14 (lv_at hl 4 rfl) ?_
      refine lv_ishr hx hb dX7_hardOf_16 ?_
      refine lv_iconst (v := 1) hx hb dX7_hardOf_17 (by decide) ?_
      refine lv_iand hx hb dX7_hardOf_18 ?_
      refine lv_aload_n hx hb dX7_hardOf_19 rfl (lv_at hl 0 rfl) ?_
      refine va_get (D := G.1) (ci := 7) (v := .ref mS) (C := RX7) (T := TX7) (N := 12) hx hb (ku_X7 hK.2) (fun _ h9 => h9) hown hK.1 hP 0 rfl rfl 1 (by decide) (kw_678 hK.2) (fun _ h9 => h9) rfl dX7_hardOf_20 ?_
      refine lv_sipush (v := 162) hx hb dX7_hardOf_23 (by decide) ?_
      refine lv_bipush (v := 12) hx hb dX7_hardOf_26 (by decide) ?_
      refine lv_iload_n hx hb dX7_hardOf_28 rfl (lv_at hl 1 rfl) ?_
      refine lv_imul hx hb dX7_hardOf_29 ?_
      refine ww_e (nI_mulE (a := 12) (b := bb) rfl rfl) ?_
      refine lv_iadd hx hb dX7_hardOf_30 ?_
      refine ww_e (nI_addE (a := 162) (b := 12 * bb) rfl rfl) ?_
      refine lv_iload hx hb dX7_hardOf_31 (lv_at hl 4 rfl) ?_
      refine lv_iadd hx hb dX7_hardOf_33 ?_
      refine ww_e (nI_addE (a := 162 + (12 * bb)) (b := i5) rfl rfl) ?_
      refine ww_ild (j := 162 + (12 * bb) + i5) hx hb hK.1 hP 1 0 rfl rfl (by omega) (by omega) dX7_hardOf_34 ?_
      refine lv_imul hx hb dX7_hardOf_35 ?_
      refine lv_iadd hx hb dX7_hardOf_36 ?_
      refine lv_istore_n (lv' := [(3, .int (v3_5 + (((s0 >>> ((nI i5) &&& 31)) &&& (1 : Int32)) * (zs (162 + (12 * bb) + i5))))), (0, .ref mO), (1, .int (nI bb)), (2, .int s0), (4, .int (nI i5))]) hx hb dX7_hardOf_37 rfl hl (by decide) rfl (fun ls hl => ?_)
      refine lv_iinc (v := nI (i5 + 1)) (lv' := [(4, .int (nI (i5 + 1))), (3, .int (v3_5 + (((s0 >>> ((nI i5) &&& 31)) &&& (1 : Int32)) * (zs (162 + (12 * bb) + i5))))), (0, .ref mO), (1, .int (nI bb)), (2, .int s0)]) hx hb dX7_hardOf_38 hl (k := 4) rfl (nI_1 i5) (by decide) rfl (fun ls hl => ?_)
      refine lv_goto (tgt := 5) hx hb dX7_hardOf_41 (by decide) ?_
      exact ih5 (i5 + 1) (v3_5 + (((s0 >>> ((nI i5) &&& 31)) &&& (1 : Int32)) * (zs (162 + (12 * bb) + i5)))) (by omega)  hf _ _ ls hP hD hS (lv_sub hl [2, 3, 4, 1, 0] rfl)
  exact L5 12 0 0 (by omega)  hf _ _ ls hP hD hS (lv_sub hl [2, 3, 4, 1, 0] rfl)
