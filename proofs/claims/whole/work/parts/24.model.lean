def f_X7_wrongSpread (kn : Int32) (wo : Int32) : Int32 := (if (f_X7_isIn kn 4096) = 0 then (-1) else (if (f_X7_isIn wo 12) = 0 then (-1) else (if ((kn >>> (wo &&& 31)) &&& (1 : Int32)) = 0 then (-3) else 0)))
set_option maxHeartbeats 4000000 in
set_option maxRecDepth 100000 in
theorem k_X7_wrongSpread (l : Launch) (G : wG) (mO : Nat) (mA : Nat) (mS : Nat) (mI : Nat) (mV : Nat) (mT : Nat) (mR : Nat) (mW : Nat) (mN : Nat) (me : Int32) (mz : Nat) (ma : Nat) (mr : Nat) (bb : Nat) (kn : Int32) (wo : Int32) (hbb : bb < 2) : CT l G yX7_wrongSpread cX7_wrongSpread 4 (some .int) ({ frames := 2, cells := 0, slots := 0, locals := 41 }) [.ref mO, .int (nI bb), .int kn, .int wo] [(mO, .inr (7, [.ref mA, .ref mS, .ref mI, .ref mV, .int me, .ref mT, .ref mR, .int (nI mz), .int (nI ma), .ref mW, .int (nI mr), .ref mN]))] (fun _ => [(mO, .inr (7, [.ref mA, .ref mS, .ref mI, .ref mV, .int me, .ref mT, .ref mR, .int (nI mz), .int (nI ma), .ref mW, .int (nI mr), .ref mN]))]) (fun u => some (.int u)) (f_X7_wrongSpread kn wo) := by
  obtain ⟨R, hf⟩ : ∃ R, f_X7_wrongSpread kn wo = R := ⟨_, rfl⟩
  rw [hf]
  refine CT.mkI RX7 (by decide +kernel) rfl (Nat.le_of_ble_eq_true rfl) ?_
  intro p e s m args below meth c A Q ls hx hb hml hown hK hP hD hS hA hret hl
  have hl : lv_has ls 4 [(0, .ref mO), (1, .int (nI bb)), (2, .int kn), (3, .int wo)] := hl
  rw [f_X7_wrongSpread] at hf
  refine lv_iload_n hx hb dX7_wrongSpread_0 rfl (lv_at hl 1 rfl) ?_
  refine cl_S (ws' := [(mO, .inr (7, [.ref mA, .ref mS, .ref mI, .ref mV, .int me, .ref mT, .ref mR, .int (nI mz), .int (nI ma), .ref mW, .int (nI mr), .ref mN]))]) (v := (some (.int (f_X7_isBook (nI bb))))) (st1 := [.int (f_X7_isBook (nI bb))]) (rest := []) (As := [.int (nI bb)]) [] hx hb hml hown hK (k_X7_isBook l G (nI bb) ) (mf_X7_isBook hK.2) (kw_728 hK.2) (kw_727 hK.2) ⟨rfl, rfl, Nat.le_of_ble_eq_true rfl, Nat.le_of_ble_eq_true rfl⟩ rfl hP hD hS hA hl (Nat.le_of_ble_eq_true rfl) rfl ⟨Nat.le_of_ble_eq_true rfl, Nat.le_of_ble_eq_true rfl⟩ rfl dX7_wrongSpread_1 rfl rfl rfl rfl rfl rfl (fun H locs hP hD hS => ?_)
  refine lv_if_eq (tgt := 26) hx hb dX7_wrongSpread_4 (by decide) (fun c => absurd c (isBook7 hbb)) (fun _ => ?_)
  refine lv_iload_n hx hb dX7_wrongSpread_7 rfl (lv_at hl 2 rfl) ?_
  refine lv_sipush (v := 4096) hx hb dX7_wrongSpread_8 (by decide) ?_
  refine cl_S (ws' := [(mO, .inr (7, [.ref mA, .ref mS, .ref mI, .ref mV, .int me, .ref mT, .ref mR, .int (nI mz), .int (nI ma), .ref mW, .int (nI mr), .ref mN]))]) (v := (some (.int (f_X7_isIn kn 4096)))) (st1 := [.int (f_X7_isIn kn 4096)]) (rest := []) (As := [.int kn, .int 4096]) [] hx hb hml hown hK (k_X7_isIn l G kn 4096 ) (mf_X7_isIn hK.2) (kw_731 hK.2) (kw_730 hK.2) ⟨rfl, rfl, Nat.le_of_ble_eq_true rfl, Nat.le_of_ble_eq_true rfl⟩ rfl hP hD hS hA hl (Nat.le_of_ble_eq_true rfl) rfl ⟨Nat.le_of_ble_eq_true rfl, Nat.le_of_ble_eq_true rfl⟩ rfl dX7_wrongSpread_11 rfl rfl rfl rfl rfl rfl (fun H locs hP hD hS => ?_)
  refine lv_if_eq (tgt := 26) hx hb dX7_wrongSpread_14 (by decide) (fun c1 => ?_) (fun c1 => ?_)
  · have hf := (if_pos c1).symm.trans hf
    refine lv_iconst (v := -1) hx hb dX7_wrongSpread_26 (by decide) ?_
    refine lv_goto (tgt := 44) hx hb dX7_wrongSpread_27 (by decide) ?_
    exact hret (-1) dX7_wrongSpread_44 rfl hf rfl hP hS
  · have hf := (if_neg c1).symm.trans hf
    refine lv_iload_n hx hb dX7_wrongSpread_17 rfl (lv_at hl 3 rfl) ?_
    refine lv_bipush (v := 12) hx hb dX7_wrongSpread_18 (by decide) ?_
    refine cl_S (ws' := [(mO, .inr (7, [.ref mA, .ref mS, .ref mI, .ref mV, .int me, .ref mT, .ref mR, .int (nI mz), .int (nI ma), .ref mW, .int (nI mr), .ref mN]))]) (v := (some (.int (f_X7_isIn wo 12)))) (st1 := [.int (f_X7_isIn wo 12)]) (rest := []) (As := [.int wo, .int 12]) [] hx hb hml hown hK (k_X7_isIn l G wo 12 ) (mf_X7_isIn hK.2) (kw_731 hK.2) (kw_730 hK.2) ⟨rfl, rfl, Nat.le_of_ble_eq_true rfl, Nat.le_of_ble_eq_true rfl⟩ rfl hP hD hS hA hl (Nat.le_of_ble_eq_true rfl) rfl ⟨Nat.le_of_ble_eq_true rfl, Nat.le_of_ble_eq_true rfl⟩ rfl dX7_wrongSpread_20 rfl rfl rfl rfl rfl rfl (fun H locs hP hD hS => ?_)
    refine lv_if_ne (tgt := 30) hx hb dX7_wrongSpread_23 (by decide) (fun c2 => ?_) (fun c2 => ?_)
    · have hf := (if_neg c2).symm.trans hf
      refine lv_iload_n hx hb dX7_wrongSpread_30 rfl (lv_at hl 2 rfl) ?_
      refine lv_iload_n hx hb dX7_wrongSpread_31 rfl (lv_at hl 3 rfl) ?_
      refine lv_ishr hx hb dX7_wrongSpread_32 ?_
      refine lv_iconst (v := 1) hx hb dX7_wrongSpread_33 (by decide) ?_
      refine lv_iand hx hb dX7_wrongSpread_34 ?_
      refine lv_if_ne (tgt := 43) hx hb dX7_wrongSpread_35 (by decide) (fun c3 => ?_) (fun c3 => ?_)
      · have hf := (if_neg c3).symm.trans hf
        refine lv_iconst (v := 0) hx hb dX7_wrongSpread_43 (by decide) ?_
        exact hret 0 dX7_wrongSpread_44 rfl hf rfl hP hS
      · have hf := (if_pos c3).symm.trans hf
        refine lv_bipush (v := -3) hx hb dX7_wrongSpread_38 (by decide) ?_
        refine lv_goto (tgt := 44) hx hb dX7_wrongSpread_40 (by decide) ?_
        exact hret (-3) dX7_wrongSpread_44 rfl hf rfl hP hS
    · have hf := (if_pos c2).symm.trans hf
      refine lv_iconst (v := -1) hx hb dX7_wrongSpread_26 (by decide) ?_
      refine lv_goto (tgt := 44) hx hb dX7_wrongSpread_27 (by decide) ?_
      exact hret (-1) dX7_wrongSpread_44 rfl hf rfl hP hS
def f_X7_wrongSpread_A  : Int32 := (-1)
set_option maxHeartbeats 4000000 in
set_option maxRecDepth 100000 in
theorem k_X7_wrongSpread_A (l : Launch) (G : wG) (mO : Nat) (mA : Nat) (mS : Nat) (mI : Nat) (mV : Nat) (mT : Nat) (mR : Nat) (mW : Nat) (mN : Nat) (me : Int32) (mz : Nat) (ma : Nat) (mr : Nat) (bo : Int32) (kn : Int32) (wo : Int32) (hbad : f_X7_isBook bo = 0) : CT l G yX7_wrongSpread cX7_wrongSpread 4 (some .int) ({ frames := 2, cells := 0, slots := 0, locals := 41 }) [.ref mO, .int bo, .int kn, .int wo] [(mO, .inr (7, [.ref mA, .ref mS, .ref mI, .ref mV, .int me, .ref mT, .ref mR, .int (nI mz), .int (nI ma), .ref mW, .int (nI mr), .ref mN]))] (fun _ => [(mO, .inr (7, [.ref mA, .ref mS, .ref mI, .ref mV, .int me, .ref mT, .ref mR, .int (nI mz), .int (nI ma), .ref mW, .int (nI mr), .ref mN]))]) (fun u => some (.int u)) f_X7_wrongSpread_A := by
  obtain ⟨R, hf⟩ : ∃ R, f_X7_wrongSpread_A = R := ⟨_, rfl⟩
  rw [hf]
  refine CT.mkI RX7 (by decide +kernel) rfl (Nat.le_of_ble_eq_true rfl) ?_
  intro p e s m args below meth c A Q ls hx hb hml hown hK hP hD hS hA hret hl
  have hl : lv_has ls 4 [(0, .ref mO), (1, .int bo), (2, .int kn), (3, .int wo)] := hl
  rw [f_X7_wrongSpread_A] at hf
  refine lv_iload_n hx hb dX7_wrongSpread_0 rfl (lv_at hl 1 rfl) ?_
  refine cl_S (ws' := [(mO, .inr (7, [.ref mA, .ref mS, .ref mI, .ref mV, .int me, .ref mT, .ref mR, .int (nI mz), .int (nI ma), .ref mW, .int (nI mr), .ref mN]))]) (v := (some (.int (f_X7_isBook bo)))) (st1 := [.int (f_X7_isBook bo)]) (rest := []) (As := [.int bo]) [] hx hb hml hown hK (k_X7_isBook l G bo ) (mf_X7_isBook hK.2) (kw_728 hK.2) (kw_727 hK.2) ⟨rfl, rfl, Nat.le_of_ble_eq_true rfl, Nat.le_of_ble_eq_true rfl⟩ rfl hP hD hS hA hl (Nat.le_of_ble_eq_true rfl) rfl ⟨Nat.le_of_ble_eq_true rfl, Nat.le_of_ble_eq_true rfl⟩ rfl dX7_wrongSpread_1 rfl rfl rfl rfl rfl rfl (fun H locs hP hD hS => ?_)
  refine lv_if_eq (tgt := 26) hx hb dX7_wrongSpread_4 (by decide) (fun _ => ?_) (fun c => absurd hbad c)
  refine lv_iconst (v := -1) hx hb dX7_wrongSpread_26 (by decide) ?_
  refine lv_goto (tgt := 44) hx hb dX7_wrongSpread_27 (by decide) ?_
  exact hret (-1) dX7_wrongSpread_44 rfl hf rfl hP hS
theorem vp7_s (b : Nat) (k w : Int32) : vp_in (-(f_X7_wrongSpread k w)) 7 := by
  unfold f_X7_wrongSpread
  repeat' split
  all_goals first | exact vp7_1 | exact vp7_3 | (unfold vp_in; decide)
theorem ws_Rg {k w : Int32} (h : f_X7_wrongSpread k w = 0) : Rg k := by
  unfold f_X7_wrongSpread at h
  by_cases h1 : f_X7_isIn k 4096 = 0
  · rw [if_pos h1] at h; exact absurd h (by decide)
  · exact isIn_Rg h1
def f_X7_spread (zf : Nat → Int32) (zs : Nat → Int32) (bb : Nat) (bn : Nat) (kn : Int32) (wo : Int32) : Int32 × (Nat → Int32) := (if (f_X7_wrongSpread kn wo) = 0 then (f_X7_spreads zs bb bn kn wo, zf) else ((f_X7_refuse zf (f_X7_wrongSpread kn wo)).1, (f_X7_refuse zf (f_X7_wrongSpread kn wo)).2))
set_option maxHeartbeats 4000000 in
set_option maxRecDepth 100000 in
theorem k_X7_spread (l : Launch) (G : wG) (mO : Nat) (mA : Nat) (mS : Nat) (mI : Nat) (mV : Nat) (mT : Nat) (mR : Nat) (mW : Nat) (mN : Nat) (me : Int32) (mz : Nat) (ma : Nat) (mr : Nat) (zf : Nat → Int32) (zs : Nat → Int32) (bb : Nat) (bn : Nat) (kn : Int32) (wo : Int32) (hbb : bb < 2) (hbn : zs (160 + bb) = nI bn) (hb2 : bn ≤ 20) (hnd : ∀ t : Nat, t < bn → Rg (zs (80 * bb + 4 * t + 2))) (hwd : ∀ t : Nat, t < bn → ∃ w : Nat, w < 12 ∧ zs (80 * bb + 4 * t) = nI w) : CT l G yX7_spread cX7_spread 5 (some .int) ({ frames := 4, cells := 0, slots := 0, locals := 102 }) [.ref mO, .int (nI bb), .int kn, .int wo] [(mO, .inr (7, [.ref mA, .ref mS, .ref mI, .ref mV, .int me, .ref mT, .ref mR, .int (nI mz), .int (nI ma), .ref mW, .int (nI mr), .ref mN])), (mA, .inl (G.2.1, 7, .inl zf)), (mS, .inl (G.2.1, 259, .inl zs))] (fun u => [(mO, .inr (7, [.ref mA, .ref mS, .ref mI, .ref mV, .int me, .ref mT, .ref mR, .int (nI mz), .int (nI ma), .ref mW, .int (nI mr), .ref mN])), (mA, .inl (G.2.1, 7, .inl u.2)), (mS, .inl (G.2.1, 259, .inl zs))]) (fun u => some (.int u.1)) (f_X7_spread zf zs bb bn kn wo) := by
  obtain ⟨R, hf⟩ : ∃ R, f_X7_spread zf zs bb bn kn wo = R := ⟨_, rfl⟩
  rw [hf]
  refine CT.mkI RX7 (by decide +kernel) rfl (Nat.le_of_ble_eq_true rfl) ?_
  intro p e s m args below meth c A Q ls hx hb hml hown hK hP hD hS hA hret hl
  have hl : lv_has ls 5 [(0, .ref mO), (1, .int (nI bb)), (2, .int kn), (3, .int wo)] := hl
  rw [f_X7_spread] at hf
  refine lv_aload_n hx hb dX7_spread_0 rfl (lv_at hl 0 rfl) ?_
  refine lv_iload_n hx hb dX7_spread_1 rfl (lv_at hl 1 rfl) ?_
  refine lv_iload_n hx hb dX7_spread_2 rfl (lv_at hl 2 rfl) ?_
  refine lv_iload_n hx hb dX7_spread_3 rfl (lv_at hl 3 rfl) ?_
  refine cl_V (q := (RX7, TX7, 12)) (ws' := [(mO, .inr (7, [.ref mA, .ref mS, .ref mI, .ref mV, .int me, .ref mT, .ref mR, .int (nI mz), .int (nI ma), .ref mW, .int (nI mr), .ref mN])), (mA, .inl (G.2.1, 7, .inl zf)), (mS, .inl (G.2.1, 259, .inl zs))]) (v := (some (.int (f_X7_wrongSpread kn wo)))) (st1 := [.int (f_X7_wrongSpread kn wo)]) (rest := []) (As := [.int (nI bb), .int kn, .int wo]) [0] 0 7 hx hb hml hown hK (k_X7_wrongSpread l G mO mA mS mI mV mT mR mW mN me mz ma mr bb kn wo hbb) (mf_X7_wrongSpread hK.2) (kw_892 hK.2) (kw_29 hK.2) (kw_890 hK.2) ⟨rfl, rfl, Nat.le_of_ble_eq_true rfl, Nat.le_of_ble_eq_true rfl⟩ rfl hP hD hS hA rfl rfl hl (Nat.le_of_ble_eq_true rfl) rfl ⟨Nat.le_of_ble_eq_true rfl, Nat.le_of_ble_eq_true rfl⟩ rfl dX7_spread_4 rfl rfl (rpl_fast (by decide) rfl rfl) rfl rfl rfl (fun H locs hP hD hS => ?_)
  refine lv_istore (lv' := [(4, .int (f_X7_wrongSpread kn wo)), (0, .ref mO), (1, .int (nI bb)), (2, .int kn), (3, .int wo)]) hx hb dX7_spread_7 hl (by decide) rfl (fun ls hl => ?_)
  refine lv_iload hx hb dX7_spread_9 (lv_at hl 0 rfl) ?_
  refine lv_if_eq (tgt := 23) hx hb dX7_spread_11 (by decide) (fun c1 => ?_) (fun c1 => ?_)
  · have hf := (if_pos c1).symm.trans hf
    refine lv_aload_n hx hb dX7_spread_23 rfl (lv_at hl 1 rfl) ?_
    refine lv_iload_n hx hb dX7_spread_24 rfl (lv_at hl 2 rfl) ?_
    refine lv_iload_n hx hb dX7_spread_25 rfl (lv_at hl 3 rfl) ?_
    refine lv_iload_n hx hb dX7_spread_26 rfl (lv_at hl 4 rfl) ?_
    refine cl_V (q := (RX7, TX7, 12)) (ws' := [(mO, .inr (7, [.ref mA, .ref mS, .ref mI, .ref mV, .int me, .ref mT, .ref mR, .int (nI mz), .int (nI ma), .ref mW, .int (nI mr), .ref mN])), (mA, .inl (G.2.1, 7, .inl zf)), (mS, .inl (G.2.1, 259, .inl zs))]) (v := (some (.int (f_X7_spreads zs bb bn kn wo)))) (st1 := [.int (f_X7_spreads zs bb bn kn wo)]) (rest := []) (As := [.int (nI bb), .int kn, .int wo]) [0, 2] 0 7 hx hb hml hown hK (k_X7_spreads l G mO mA mS mI mV mT mR mW mN me mz ma mr zs bb bn kn wo hbb hbn hb2 hnd hwd (ws_Rg (by assumption))) (mf_X7_spreads hK.2) (kw_896 hK.2) (kw_30 hK.2) (kw_894 hK.2) ⟨rfl, rfl, Nat.le_of_ble_eq_true rfl, Nat.le_of_ble_eq_true rfl⟩ rfl hP hD hS hA rfl rfl hl (Nat.le_of_ble_eq_true rfl) rfl ⟨Nat.le_of_ble_eq_true rfl, Nat.le_of_ble_eq_true rfl⟩ rfl dX7_spread_27 rfl rfl (rpl_fast (by decide) rfl rfl) rfl rfl rfl (fun H locs hP hD hS => ?_)
    exact hret (f_X7_spreads zs bb bn kn wo, zf) dX7_spread_30 rfl hf rfl hP hS
  · have hf := (if_neg c1).symm.trans hf
    refine lv_aload_n hx hb dX7_spread_14 rfl (lv_at hl 1 rfl) ?_
    refine lv_iload hx hb dX7_spread_15 (lv_at hl 0 rfl) ?_
    refine cl_V (q := (RX7, TX7, 12)) (ws' := [(mO, .inr (7, [.ref mA, .ref mS, .ref mI, .ref mV, .int me, .ref mT, .ref mR, .int (nI mz), .int (nI ma), .ref mW, .int (nI mr), .ref mN])), (mA, .inl (G.2.1, 7, .inl ((f_X7_refuse zf (f_X7_wrongSpread kn wo)).2))), (mS, .inl (G.2.1, 259, .inl zs))]) (v := (some (.int ((f_X7_refuse zf (f_X7_wrongSpread kn wo)).1)))) (st1 := [.int ((f_X7_refuse zf (f_X7_wrongSpread kn wo)).1)]) (rest := []) (As := [.int (f_X7_wrongSpread kn wo)]) [0, 1] 0 7 hx hb hml hown hK (k_X7_refuse l G mO mA mS mI mV mT mR mW mN me mz ma mr zf (f_X7_wrongSpread kn wo) (vp7_s bb _ _)) (mf_X7_refuse hK.2) (kw_720 hK.2) (kw_11 hK.2) (kw_718 hK.2) ⟨rfl, rfl, Nat.le_of_ble_eq_true rfl, Nat.le_of_ble_eq_true rfl⟩ rfl hP hD hS hA rfl rfl hl (Nat.le_of_ble_eq_true rfl) rfl ⟨Nat.le_of_ble_eq_true rfl, Nat.le_of_ble_eq_true rfl⟩ rfl dX7_spread_17 rfl rfl (rpl_fast (by decide) rfl rfl) rfl rfl rfl (fun H locs hP hD hS => ?_)
    refine lv_goto (tgt := 30) hx hb dX7_spread_20 (by decide) ?_
    exact hret ((f_X7_refuse zf (f_X7_wrongSpread kn wo)).1, (f_X7_refuse zf (f_X7_wrongSpread kn wo)).2) dX7_spread_30 rfl hf rfl hP hS
def f_X7_spread_A (zf : Nat → Int32) : Int32 × (Nat → Int32) := ((f_X7_refuse zf f_X7_wrongSpread_A).1, (f_X7_refuse zf f_X7_wrongSpread_A).2)
set_option maxHeartbeats 4000000 in
set_option maxRecDepth 100000 in
theorem k_X7_spread_A (l : Launch) (G : wG) (mO : Nat) (mA : Nat) (mS : Nat) (mI : Nat) (mV : Nat) (mT : Nat) (mR : Nat) (mW : Nat) (mN : Nat) (me : Int32) (mz : Nat) (ma : Nat) (mr : Nat) (zf : Nat → Int32) (bo : Int32) (kn : Int32) (wo : Int32) (hbad : f_X7_isBook bo = 0) : CT l G yX7_spread cX7_spread 5 (some .int) ({ frames := 3, cells := 0, slots := 0, locals := 64 }) [.ref mO, .int bo, .int kn, .int wo] [(mO, .inr (7, [.ref mA, .ref mS, .ref mI, .ref mV, .int me, .ref mT, .ref mR, .int (nI mz), .int (nI ma), .ref mW, .int (nI mr), .ref mN])), (mA, .inl (G.2.1, 7, .inl zf))] (fun u => [(mO, .inr (7, [.ref mA, .ref mS, .ref mI, .ref mV, .int me, .ref mT, .ref mR, .int (nI mz), .int (nI ma), .ref mW, .int (nI mr), .ref mN])), (mA, .inl (G.2.1, 7, .inl u.2))]) (fun u => some (.int u.1)) (f_X7_spread_A zf) := by
  obtain ⟨R, hf⟩ : ∃ R, f_X7_spread_A zf = R := ⟨_, rfl⟩
  rw [hf]
  refine CT.mkI RX7 (by decide +kernel) rfl (Nat.le_of_ble_eq_true rfl) ?_
  intro p e s m args below meth c A Q ls hx hb hml hown hK hP hD hS hA hret hl
  have hl : lv_has ls 5 [(0, .ref mO), (1, .int bo), (2, .int kn), (3, .int wo)] := hl
  rw [f_X7_spread_A] at hf
  refine lv_aload_n hx hb dX7_spread_0 rfl (lv_at hl 0 rfl) ?_
  refine lv_iload_n hx hb dX7_spread_1 rfl (lv_at hl 1 rfl) ?_
  refine lv_iload_n hx hb dX7_spread_2 rfl (lv_at hl 2 rfl) ?_
  refine lv_iload_n hx hb dX7_spread_3 rfl (lv_at hl 3 rfl) ?_
  refine cl_V (q := (RX7, TX7, 12)) (ws' := [(mO, .inr (7, [.ref mA, .ref mS, .ref mI, .ref mV, .int me, .ref mT, .ref mR, .int (nI mz), .int (nI ma), .ref mW, .int (nI mr), .ref mN])), (mA, .inl (G.2.1, 7, .inl zf))]) (v := (some (.int f_X7_wrongSpread_A))) (st1 := [.int f_X7_wrongSpread_A]) (rest := []) (As := [.int bo, .int kn, .int wo]) [0] 0 7 hx hb hml hown hK (k_X7_wrongSpread_A l G mO mA mS mI mV mT mR mW mN me mz ma mr bo kn wo hbad) (mf_X7_wrongSpread hK.2) (kw_892 hK.2) (kw_29 hK.2) (kw_890 hK.2) ⟨rfl, rfl, Nat.le_of_ble_eq_true rfl, Nat.le_of_ble_eq_true rfl⟩ rfl hP hD hS hA rfl rfl hl (Nat.le_of_ble_eq_true rfl) rfl ⟨Nat.le_of_ble_eq_true rfl, Nat.le_of_ble_eq_true rfl⟩ rfl dX7_spread_4 rfl rfl (rpl_fast (by decide) rfl rfl) rfl rfl rfl (fun H locs hP hD hS => ?_)
  refine lv_istore (lv' := [(4, .int f_X7_wrongSpread_A), (0, .ref mO), (1, .int bo), (2, .int kn), (3, .int wo)]) hx hb dX7_spread_7 hl (by decide) rfl (fun ls hl => ?_)
  refine lv_iload hx hb dX7_spread_9 (lv_at hl 0 rfl) ?_
  refine lv_if_eq (tgt := 23) hx hb dX7_spread_11 (by decide) (fun c => absurd c (by unfold f_X7_wrongSpread_A; decide)) (fun _ => ?_)
  refine lv_aload_n hx hb dX7_spread_14 rfl (lv_at hl 1 rfl) ?_
  refine lv_iload hx hb dX7_spread_15 (lv_at hl 0 rfl) ?_
  refine cl_V (q := (RX7, TX7, 12)) (ws' := [(mO, .inr (7, [.ref mA, .ref mS, .ref mI, .ref mV, .int me, .ref mT, .ref mR, .int (nI mz), .int (nI ma), .ref mW, .int (nI mr), .ref mN])), (mA, .inl (G.2.1, 7, .inl ((f_X7_refuse zf f_X7_wrongSpread_A).2)))]) (v := (some (.int ((f_X7_refuse zf f_X7_wrongSpread_A).1)))) (st1 := [.int ((f_X7_refuse zf f_X7_wrongSpread_A).1)]) (rest := []) (As := [.int f_X7_wrongSpread_A]) [0, 1] 0 7 hx hb hml hown hK (k_X7_refuse l G mO mA mS mI mV mT mR mW mN me mz ma mr zf f_X7_wrongSpread_A (by unfold f_X7_wrongSpread_A; exact vp7_1)) (mf_X7_refuse hK.2) (kw_720 hK.2) (kw_11 hK.2) (kw_718 hK.2) ⟨rfl, rfl, Nat.le_of_ble_eq_true rfl, Nat.le_of_ble_eq_true rfl⟩ rfl hP hD hS hA rfl rfl hl (Nat.le_of_ble_eq_true rfl) rfl ⟨Nat.le_of_ble_eq_true rfl, Nat.le_of_ble_eq_true rfl⟩ rfl dX7_spread_17 rfl rfl (rpl_fast (by decide) rfl rfl) rfl rfl rfl (fun H locs hP hD hS => ?_)
  refine lv_goto (tgt := 30) hx hb dX7_spread_20 (by decide) ?_
  exact hret ((f_X7_refuse zf f_X7_wrongSpread_A).1, (f_X7_refuse zf f_X7_wrongSpread_A).2) dX7_spread_30 rfl hf rfl hP hS
def f_X7_shows_91 (zf : Nat → Int32) (zs : Nat → Int32) (bb : Nat) (bn : Nat) (kn : Int32) (wo : Int32) (v6_36 : Int32) : Nat → Nat → (Int32 × (Nat → Int32))
  | 0, i91 => ((-9), zf)
  | k91 + 1, i91 => (if ((((f_X7_spreads zs bb bn kn wo) &&& v6_36) >>> ((nI i91) &&& 31)) &&& (1 : Int32)) = 1 then (nI i91, zf) else f_X7_shows_91 zf zs bb bn kn wo v6_36 k91 (i91 + 1))
theorem f_X7_shows_91_z (zf : Nat → Int32) (zs : Nat → Int32) (bb : Nat) (bn : Nat) (kn : Int32) (wo : Int32) (v6_36 : Int32) (i91 : Nat) : f_X7_shows_91 zf zs bb bn kn wo v6_36 0 i91 = ((-9), zf) := rfl
theorem f_X7_shows_91_s (zf : Nat → Int32) (zs : Nat → Int32) (bb : Nat) (bn : Nat) (kn : Int32) (wo : Int32) (v6_36 : Int32) (k91 : Nat) (i91 : Nat) : f_X7_shows_91 zf zs bb bn kn wo v6_36 (k91 + 1) i91 = (if ((((f_X7_spreads zs bb bn kn wo) &&& v6_36) >>> ((nI i91) &&& 31)) &&& (1 : Int32)) = 1 then (nI i91, zf) else f_X7_shows_91 zf zs bb bn kn wo v6_36 k91 (i91 + 1)) := rfl
def f_X7_shows_36 (zf : Nat → Int32) (zs : Nat → Int32) (bb : Nat) (bn : Nat) (kn : Int32) (wo : Int32) : Nat → Nat → Int32 → (Int32 × (Nat → Int32))
  | 0, i36, v6_36 => (f_X7_shows_91 zf zs bb bn kn wo v6_36 12 0)
  | k36 + 1, i36, v6_36 => (if (f_X7_get zs bb i36 1) = 4 then f_X7_shows_36 zf zs bb bn kn wo k36 (i36 + 1) (v6_36 ||| ((1 : Int32) <<< ((f_X7_get zs bb i36 0) &&& 31))) else f_X7_shows_36 zf zs bb bn kn wo k36 (i36 + 1) (v6_36 ||| (0 : Int32)))
theorem f_X7_shows_36_z (zf : Nat → Int32) (zs : Nat → Int32) (bb : Nat) (bn : Nat) (kn : Int32) (wo : Int32) (i36 : Nat) (v6_36 : Int32) : f_X7_shows_36 zf zs bb bn kn wo 0 i36 v6_36 = (f_X7_shows_91 zf zs bb bn kn wo v6_36 12 0) := rfl
theorem f_X7_shows_36_s (zf : Nat → Int32) (zs : Nat → Int32) (bb : Nat) (bn : Nat) (kn : Int32) (wo : Int32) (k36 : Nat) (i36 : Nat) (v6_36 : Int32) : f_X7_shows_36 zf zs bb bn kn wo (k36 + 1) i36 v6_36 = (if (f_X7_get zs bb i36 1) = 4 then f_X7_shows_36 zf zs bb bn kn wo k36 (i36 + 1) (v6_36 ||| ((1 : Int32) <<< ((f_X7_get zs bb i36 0) &&& 31))) else f_X7_shows_36 zf zs bb bn kn wo k36 (i36 + 1) (v6_36 ||| (0 : Int32))) := rfl
def f_X7_shows (zf : Nat → Int32) (zs : Nat → Int32) (bb : Nat) (bn : Nat) (kn : Int32) (wo : Int32) : Int32 × (Nat → Int32) := (if (f_X7_wrongSpread kn wo) = 0 then (f_X7_shows_36 zf zs bb bn kn wo bn 0 0) else ((f_X7_refuse zf (f_X7_wrongSpread kn wo)).1, (f_X7_refuse zf (f_X7_wrongSpread kn wo)).2))
set_option maxHeartbeats 4000000 in
set_option maxRecDepth 100000 in
theorem k_X7_shows (l : Launch) (G : wG) (mO : Nat) (mA : Nat) (mS : Nat) (mI : Nat) (mV : Nat) (mT : Nat) (mR : Nat) (mW : Nat) (mN : Nat) (me : Int32) (mz : Nat) (ma : Nat) (mr : Nat) (zf : Nat → Int32) (zs : Nat → Int32) (bb : Nat) (bn : Nat) (kn : Int32) (wo : Int32) (hbb : bb < 2) (hbn : zs (160 + bb) = nI bn) (hb2 : bn ≤ 20) (hnd : ∀ t : Nat, t < bn → Rg (zs (80 * bb + 4 * t + 2))) (hwd : ∀ t : Nat, t < bn → ∃ w : Nat, w < 12 ∧ zs (80 * bb + 4 * t) = nI w) : CT l G yX7_shows cX7_shows 8 (some .int) ({ frames := 4, cells := 0, slots := 0, locals := 102 }) [.ref mO, .int (nI bb), .int kn, .int wo] [(mO, .inr (7, [.ref mA, .ref mS, .ref mI, .ref mV, .int me, .ref mT, .ref mR, .int (nI mz), .int (nI ma), .ref mW, .int (nI mr), .ref mN])), (mA, .inl (G.2.1, 7, .inl zf)), (mS, .inl (G.2.1, 259, .inl zs))] (fun u => [(mO, .inr (7, [.ref mA, .ref mS, .ref mI, .ref mV, .int me, .ref mT, .ref mR, .int (nI mz), .int (nI ma), .ref mW, .int (nI mr), .ref mN])), (mA, .inl (G.2.1, 7, .inl u.2)), (mS, .inl (G.2.1, 259, .inl zs))]) (fun u => some (.int u.1)) (f_X7_shows zf zs bb bn kn wo) := by
  obtain ⟨R, hf⟩ : ∃ R, f_X7_shows zf zs bb bn kn wo = R := ⟨_, rfl⟩
  rw [hf]
  refine CT.mkI RX7 (by decide +kernel) rfl (Nat.le_of_ble_eq_true rfl) ?_
  intro p e s m args below meth c A Q ls hx hb hml hown hK hP hD hS hA hret hl
  have hl : lv_has ls 8 [(0, .ref mO), (1, .int (nI bb)), (2, .int kn), (3, .int wo)] := hl
  rw [f_X7_shows] at hf
  refine lv_aload_n hx hb dX7_shows_0 rfl (lv_at hl 0 rfl) ?_
  refine lv_iload_n hx hb dX7_shows_1 rfl (lv_at hl 1 rfl) ?_
  refine lv_iload_n hx hb dX7_shows_2 rfl (lv_at hl 2 rfl) ?_
  refine lv_iload_n hx hb dX7_shows_3 rfl (lv_at hl 3 rfl) ?_
  refine cl_V (q := (RX7, TX7, 12)) (ws' := [(mO, .inr (7, [.ref mA, .ref mS, .ref mI, .ref mV, .int me, .ref mT, .ref mR, .int (nI mz), .int (nI ma), .ref mW, .int (nI mr), .ref mN])), (mA, .inl (G.2.1, 7, .inl zf)), (mS, .inl (G.2.1, 259, .inl zs))]) (v := (some (.int (f_X7_wrongSpread kn wo)))) (st1 := [.int (f_X7_wrongSpread kn wo)]) (rest := []) (As := [.int (nI bb), .int kn, .int wo]) [0] 0 7 hx hb hml hown hK (k_X7_wrongSpread l G mO mA mS mI mV mT mR mW mN me mz ma mr bb kn wo hbb) (mf_X7_wrongSpread hK.2) (kw_892 hK.2) (kw_29 hK.2) (kw_890 hK.2) ⟨rfl, rfl, Nat.le_of_ble_eq_true rfl, Nat.le_of_ble_eq_true rfl⟩ rfl hP hD hS hA rfl rfl hl (Nat.le_of_ble_eq_true rfl) rfl ⟨Nat.le_of_ble_eq_true rfl, Nat.le_of_ble_eq_true rfl⟩ rfl dX7_shows_4 rfl rfl (rpl_fast (by decide) rfl rfl) rfl rfl rfl (fun H locs hP hD hS => ?_)
  refine lv_istore (lv' := [(4, .int (f_X7_wrongSpread kn wo)), (0, .ref mO), (1, .int (nI bb)), (2, .int kn), (3, .int wo)]) hx hb dX7_shows_7 hl (by decide) rfl (fun ls hl => ?_)
  refine lv_iload hx hb dX7_shows_9 (lv_at hl 0 rfl) ?_
  refine lv_if_eq (tgt := 21) hx hb dX7_shows_11 (by decide) (fun c1 => ?_) (fun c1 => ?_)
  · have hf := (if_pos c1).symm.trans hf
    refine lv_aload_n hx hb dX7_shows_21 rfl (lv_at hl 1 rfl) ?_
    refine lv_iload_n hx hb dX7_shows_22 rfl (lv_at hl 2 rfl) ?_
    refine lv_iload_n hx hb dX7_shows_23 rfl (lv_at hl 3 rfl) ?_
    refine lv_iload_n hx hb dX7_shows_24 rfl (lv_at hl 4 rfl) ?_
    refine cl_V (q := (RX7, TX7, 12)) (ws' := [(mO, .inr (7, [.ref mA, .ref mS, .ref mI, .ref mV, .int me, .ref mT, .ref mR, .int (nI mz), .int (nI ma), .ref mW, .int (nI mr), .ref mN])), (mA, .inl (G.2.1, 7, .inl zf)), (mS, .inl (G.2.1, 259, .inl zs))]) (v := (some (.int (f_X7_spreads zs bb bn kn wo)))) (st1 := [.int (f_X7_spreads zs bb bn kn wo)]) (rest := []) (As := [.int (nI bb), .int kn, .int wo]) [0, 2] 0 7 hx hb hml hown hK (k_X7_spreads l G mO mA mS mI mV mT mR mW mN me mz ma mr zs bb bn kn wo hbb hbn hb2 hnd hwd (ws_Rg (by assumption))) (mf_X7_spreads hK.2) (kw_896 hK.2) (kw_30 hK.2) (kw_894 hK.2) ⟨rfl, rfl, Nat.le_of_ble_eq_true rfl, Nat.le_of_ble_eq_true rfl⟩ rfl hP hD hS hA rfl rfl hl (Nat.le_of_ble_eq_true rfl) rfl ⟨Nat.le_of_ble_eq_true rfl, Nat.le_of_ble_eq_true rfl⟩ rfl dX7_shows_25 rfl rfl (rpl_fast (by decide) rfl rfl) rfl rfl rfl (fun H locs hP hD hS => ?_)
    refine lv_istore (lv' := [(5, .int (f_X7_spreads zs bb bn kn wo)), (4, .int (f_X7_wrongSpread kn wo)), (0, .ref mO), (1, .int (nI bb)), (2, .int kn), (3, .int wo)]) hx hb dX7_shows_28 hl (by decide) rfl (fun ls hl => ?_)
    refine lv_iconst (v := 0) hx hb dX7_shows_30 (by decide) ?_
    refine lv_istore (lv' := [(6, .int 0), (5, .int (f_X7_spreads zs bb bn kn wo)), (4, .int (f_X7_wrongSpread kn wo)), (0, .ref mO), (1, .int (nI bb)), (2, .int kn), (3, .int wo)]) hx hb dX7_shows_31 hl (by decide) rfl (fun ls hl => ?_)
    refine lv_iconst (v := 0) hx hb dX7_shows_33 (by decide) ?_
    refine lv_istore (lv' := [(7, .int 0), (6, .int 0), (5, .int (f_X7_spreads zs bb bn kn wo)), (4, .int (f_X7_wrongSpread kn wo)), (0, .ref mO), (1, .int (nI bb)), (2, .int kn), (3, .int wo)]) hx hb dX7_shows_34 hl (by decide) rfl (fun ls hl => ?_)
    have L36 : ∀ (k36 : Nat) (i36 : Nat) (v6_36 : Int32), k36 + i36 = bn → f_X7_shows_36 zf zs bb bn kn wo k36 i36 v6_36 = R → ∀ (H : Heap) (locs : List Loc) (ls : Array Slot), va_P G.1 wcl [(mO, .inr (7, [.ref mA, .ref mS, .ref mI, .ref mV, .int me, .ref mT, .ref mR, .int (nI mz), .int (nI ma), .ref mW, .int (nI mr), .ref mN])), (mA, .inl (G.2.1, 7, .inl zf)), (mS, .inl (G.2.1, 259, .inl zs))] H → va_D A [(mO, .inr (7, [.ref mA, .ref mS, .ref mI, .ref mV, .int me, .ref mT, .ref mR, .int (nI mz), .int (nI ma), .ref mW, .int (nI mr), .ref mN])), (mA, .inl (G.2.1, 7, .inl zf)), (mS, .inl (G.2.1, 259, .inl zs))] → va_S A s.heap H locs → lv_has ls 8 [(0, .ref mO), (1, .int (nI bb)), (5, .int (f_X7_spreads zs bb bn kn wo)), (6, .int v6_36), (7, .int (nI i36))] → W p l e ({ frames := 4, cells := 0, slots := 0, locals := 102 }) s m args below meth c H locs 0 0 Q (F0 m 36 ls []) := by
      intro k36
      induction k36 with
      | zero =>
        intro i36 v6_36 hi36  hf _ _ ls hP hD hS hl
        rw [f_X7_shows_36_z] at hf
        refine lv_iload hx hb dX7_shows_36 (lv_at hl 4 rfl) ?_
        refine lv_aload_n hx hb dX7_shows_38 rfl (lv_at hl 0 rfl) ?_
        refine va_get (D := G.1) (ci := 7) (v := .ref mS) (C := RX7) (T := TX7) (N := 12) hx hb (ku_X7 hK.2) (fun _ h9 => h9) hown hK.1 hP 0 rfl rfl 1 (by decide) (kw_678 hK.2) (fun _ h9 => h9) rfl dX7_shows_39 ?_
        refine lv_sipush (v := 160) hx hb dX7_shows_42 (by decide) ?_
        refine lv_iload_n hx hb dX7_shows_45 rfl (lv_at hl 1 rfl) ?_
        refine lv_iadd hx hb dX7_shows_46 ?_
        refine ww_e (nI_addE (a := 160) (b := bb) rfl rfl) ?_
        refine ww_ild (j := 160 + bb) hx hb hK.1 hP 2 0 rfl rfl (by omega) (by omega) dX7_shows_47 ?_
        refine ww_e hbn ?_
        refine lv_icmp_ge (tgt := 88) hx hb dX7_shows_48 (by decide) (fun _ => ?_) (fun c => absurd (ile (a := bn) (b := i36) rfl rfl (by omega) (by omega) (by omega)) c)
        refine lv_iconst (v := 0) hx hb dX7_shows_88 (by decide) ?_
        refine lv_istore (lv' := [(7, .int 0), (0, .ref mO), (1, .int (nI bb)), (5, .int (f_X7_spreads zs bb bn kn wo)), (6, .int v6_36)]) hx hb dX7_shows_89 hl (by decide) rfl (fun ls hl => ?_)
        have L91 : ∀ (k91 : Nat) (i91 : Nat), k91 + i91 = 12 → f_X7_shows_91 zf zs bb bn kn wo v6_36 k91 i91 = R → ∀ (H : Heap) (locs : List Loc) (ls : Array Slot), va_P G.1 wcl [(mO, .inr (7, [.ref mA, .ref mS, .ref mI, .ref mV, .int me, .ref mT, .ref mR, .int (nI mz), .int (nI ma), .ref mW, .int (nI mr), .ref mN])), (mA, .inl (G.2.1, 7, .inl zf)), (mS, .inl (G.2.1, 259, .inl zs))] H → va_D A [(mO, .inr (7, [.ref mA, .ref mS, .ref mI, .ref mV, .int me, .ref mT, .ref mR, .int (nI mz), .int (nI ma), .ref mW, .int (nI mr), .ref mN])), (mA, .inl (G.2.1, 7, .inl zf)), (mS, .inl (G.2.1, 259, .inl zs))] → va_S A s.heap H locs → lv_has ls 8 [(5, .int (f_X7_spreads zs bb bn kn wo)), (6, .int v6_36), (7, .int (nI i91))] → W p l e ({ frames := 4, cells := 0, slots := 0, locals := 102 }) s m args below meth c H locs 0 0 Q (F0 m 91 ls []) := by
          intro k91
          induction k91 with
          | zero =>
            intro i91 hi91  hf _ _ ls hP hD hS hl
            rw [f_X7_shows_91_z] at hf
            refine lv_iload hx hb dX7_shows_91 (lv_at hl 2 rfl) ?_
            refine lv_bipush (v := 12) hx hb dX7_shows_93 (by decide) ?_
            refine lv_icmp_ge (tgt := 121) hx hb dX7_shows_95 (by decide) (fun _ => ?_) (fun c => absurd (ile (a := 12) (b := i91) rfl rfl (by omega) (by omega) (by omega)) c)
            refine lv_bipush (v := -9) hx hb dX7_shows_121 (by decide) ?_
            exact hret ((-9), zf) dX7_shows_123 rfl hf rfl hP hS
          | succ k91 ih91 =>
            intro i91 hi91  hf _ _ ls hP hD hS hl
            rw [f_X7_shows_91_s] at hf
            refine lv_iload hx hb dX7_shows_91 (lv_at hl 2 rfl) ?_
            refine lv_bipush (v := 12) hx hb dX7_shows_93 (by decide) ?_
            refine lv_icmp_ge (tgt := 121) hx hb dX7_shows_95 (by decide) (fun c => absurd c (inle (a := 12) (b := i91) rfl rfl (by omega) (by omega) (by omega))) (fun _ => ?_)
            refine lv_iload hx hb dX7_shows_98 (lv_at hl 0 rfl) ?_
            refine lv_iload hx hb dX7_shows_100 (lv_at hl 1 rfl) ?_
            refine lv_iand hx hb dX7_shows_102 ?_
            refine lv_iload hx hb dX7_shows_103 (lv_at hl 2 rfl) ?_
            refine lv_ishr hx hb dX7_shows_105 ?_
            refine lv_iconst (v := 1) hx hb dX7_shows_106 (by decide) ?_
            refine lv_iand hx hb dX7_shows_107 ?_
            refine lv_iconst (v := 1) hx hb dX7_shows_108 (by decide) ?_
            refine lv_icmp_ne (tgt := 115) hx hb dX7_shows_109 (by decide) (fun c2 => ?_) (fun c2 => ?_)
            · have hf := (if_neg c2).symm.trans hf
              refine lv_iinc (v := nI (i91 + 1)) (lv' := [(7, .int (nI (i91 + 1))), (5, .int (f_X7_spreads zs bb bn kn wo)), (6, .int v6_36)]) hx hb dX7_shows_115 hl (k := 2) rfl (nI_1 i91) (by decide) rfl (fun ls hl => ?_)
              refine lv_goto (tgt := 91) hx hb dX7_shows_118 (by decide) ?_
              exact ih91 (i91 + 1) (by omega)  hf _ _ ls hP hD hS (lv_sub hl [1, 2, 0] rfl)
            · have hf := (if_pos c2).symm.trans hf
              refine lv_iload hx hb dX7_shows_112 (lv_at hl 2 rfl) ?_
              exact hret (nI i91, zf) dX7_shows_114 rfl hf rfl hP hS
        exact L91 12 0 (by omega)  hf _ _ ls hP hD hS (lv_sub hl [3, 4, 0] rfl)
      | succ k36 ih36 =>
        intro i36 v6_36 hi36  hf _ _ ls hP hD hS hl
        rw [f_X7_shows_36_s] at hf
        refine lv_iload hx hb dX7_shows_36 (lv_at hl 4 rfl) ?_
        refine lv_aload_n hx hb dX7_shows_38 rfl (lv_at hl 0 rfl) ?_
        refine va_get (D := G.1) (ci := 7) (v := .ref mS) (C := RX7) (T := TX7) (N := 12) hx hb (ku_X7 hK.2) (fun _ h9 => h9) hown hK.1 hP 0 rfl rfl 1 (by decide) (kw_678 hK.2) (fun _ h9 => h9) rfl dX7_shows_39 ?_
        refine lv_sipush (v := 160) hx hb dX7_shows_42 (by decide) ?_
        refine lv_iload_n hx hb dX7_shows_45 rfl (lv_at hl 1 rfl) ?_
        refine lv_iadd hx hb dX7_shows_46 ?_
        refine ww_e (nI_addE (a := 160) (b := bb) rfl rfl) ?_
        refine ww_ild (j := 160 + bb) hx hb hK.1 hP 2 0 rfl rfl (by omega) (by omega) dX7_shows_47 ?_
        refine ww_e hbn ?_
        refine lv_icmp_ge (tgt := 88) hx hb dX7_shows_48 (by decide) (fun c => absurd c (inle (a := bn) (b := i36) rfl rfl (by omega) (by omega) (by omega))) (fun _ => ?_)
        refine lv_iload hx hb dX7_shows_51 (lv_at hl 3 rfl) ?_
        refine lv_aload_n hx hb dX7_shows_53 rfl (lv_at hl 0 rfl) ?_
        refine lv_iload_n hx hb dX7_shows_54 rfl (lv_at hl 1 rfl) ?_
        refine lv_iload hx hb dX7_shows_55 (lv_at hl 4 rfl) ?_
        refine lv_iconst (v := 1) hx hb dX7_shows_57 (by decide) ?_
        refine cl_V (q := (RX7, TX7, 12)) (ws' := [(mO, .inr (7, [.ref mA, .ref mS, .ref mI, .ref mV, .int me, .ref mT, .ref mR, .int (nI mz), .int (nI ma), .ref mW, .int (nI mr), .ref mN])), (mA, .inl (G.2.1, 7, .inl zf)), (mS, .inl (G.2.1, 259, .inl zs))]) (v := (some (.int (f_X7_get zs bb i36 1)))) (st1 := [.int (f_X7_get zs bb i36 1), .int v6_36]) (rest := [.int v6_36]) (As := [.int (nI bb), .int (nI i36), .int 1]) [0, 2] 0 7 hx hb hml hown hK (k_X7_get l G mO mA mS mI mV mT mR mW mN me mz ma mr zs bb i36 1 hbb (by omega) (by omega)) (mf_X7_get hK.2) (kw_758 hK.2) (kw_17 hK.2) (kw_756 hK.2) ⟨rfl, rfl, Nat.le_of_ble_eq_true rfl, Nat.le_of_ble_eq_true rfl⟩ rfl hP hD hS hA rfl rfl hl (Nat.le_of_ble_eq_true rfl) rfl ⟨Nat.le_of_ble_eq_true rfl, Nat.le_of_ble_eq_true rfl⟩ rfl dX7_shows_58 rfl rfl (rpl_fast (by decide) rfl rfl) rfl rfl rfl (fun H locs hP hD hS => ?_)
        refine lv_iconst (v := 4) hx hb dX7_shows_61 (by decide) ?_
        refine lv_icmp_ne (tgt := 78) hx hb dX7_shows_62 (by decide) (fun c3 => ?_) (fun c3 => ?_)
        · have hf := (if_neg c3).symm.trans hf
          refine lv_iconst (v := 0) hx hb dX7_shows_78 (by decide) ?_
          refine lv_ior hx hb dX7_shows_79 ?_
          refine lv_istore (lv' := [(6, .int (v6_36 ||| (0 : Int32))), (0, .ref mO), (1, .int (nI bb)), (5, .int (f_X7_spreads zs bb bn kn wo)), (7, .int (nI i36))]) hx hb dX7_shows_80 hl (by decide) rfl (fun ls hl => ?_)
          refine lv_iinc (v := nI (i36 + 1)) (lv' := [(7, .int (nI (i36 + 1))), (6, .int (v6_36 ||| (0 : Int32))), (0, .ref mO), (1, .int (nI bb)), (5, .int (f_X7_spreads zs bb bn kn wo))]) hx hb dX7_shows_82 hl (k := 4) rfl (nI_1 i36) (by decide) rfl (fun ls hl => ?_)
          refine lv_goto (tgt := 36) hx hb dX7_shows_85 (by decide) ?_
          exact ih36 (i36 + 1) (v6_36 ||| (0 : Int32)) (by omega)  hf _ _ ls hP hD hS (lv_sub hl [2, 3, 4, 1, 0] rfl)
        · have hf := (if_pos c3).symm.trans hf
          refine lv_iconst (v := 1) hx hb dX7_shows_65 (by decide) ?_
          refine lv_aload_n hx hb dX7_shows_66 rfl (lv_at hl 0 rfl) ?_
          refine lv_iload_n hx hb dX7_shows_67 rfl (lv_at hl 1 rfl) ?_
          refine lv_iload hx hb dX7_shows_68 (lv_at hl 4 rfl) ?_
          refine lv_iconst (v := 0) hx hb dX7_shows_70 (by decide) ?_
          refine cl_V (q := (RX7, TX7, 12)) (ws' := [(mO, .inr (7, [.ref mA, .ref mS, .ref mI, .ref mV, .int me, .ref mT, .ref mR, .int (nI mz), .int (nI ma), .ref mW, .int (nI mr), .ref mN])), (mA, .inl (G.2.1, 7, .inl zf)), (mS, .inl (G.2.1, 259, .inl zs))]) (v := (some (.int (f_X7_get zs bb i36 0)))) (st1 := [.int (f_X7_get zs bb i36 0), .int 1, .int v6_36]) (rest := [.int 1, .int v6_36]) (As := [.int (nI bb), .int (nI i36), .int 0]) [0, 2] 0 7 hx hb hml hown hK (k_X7_get l G mO mA mS mI mV mT mR mW mN me mz ma mr zs bb i36 0 hbb (by omega) (by omega)) (mf_X7_get hK.2) (kw_758 hK.2) (kw_17 hK.2) (kw_756 hK.2) ⟨rfl, rfl, Nat.le_of_ble_eq_true rfl, Nat.le_of_ble_eq_true rfl⟩ rfl hP hD hS hA rfl rfl hl (Nat.le_of_ble_eq_true rfl) rfl ⟨Nat.le_of_ble_eq_true rfl, Nat.le_of_ble_eq_true rfl⟩ rfl dX7_shows_71 rfl rfl (rpl_fast (by decide) rfl rfl) rfl rfl rfl (fun H locs hP hD hS => ?_)
          refine lv_ishl hx hb dX7_shows_74 ?_
          refine lv_goto (tgt := 79) hx hb dX7_shows_75 (by decide) ?_
          refine lv_ior hx hb dX7_shows_79 ?_
          refine lv_istore (lv' := [(6, .int (v6_36 ||| ((1 : Int32) <<< ((f_X7_get zs bb i36 0) &&& 31)))), (0, .ref mO), (1, .int (nI bb)), (5, .int (f_X7_spreads zs bb bn kn wo)), (7, .int (nI i36))]) hx hb dX7_shows_80 hl (by decide) rfl (fun ls hl => ?_)
          refine lv_iinc (v := nI (i36 + 1)) (lv' := [(7, .int (nI (i36 + 1))), (6, .int (v6_36 ||| ((1 : Int32) <<< ((f_X7_get zs bb i36 0) &&& 31)))), (0, .ref mO), (1, .int (nI bb)), (5, .int (f_X7_spreads zs bb bn kn wo))]) hx hb dX7_shows_82 hl (k := 4) rfl (nI_1 i36) (by decide) rfl (fun ls hl => ?_)
          refine lv_goto (tgt := 36) hx hb dX7_shows_85 (by decide) ?_
          exact ih36 (i36 + 1) (v6_36 ||| ((1 : Int32) <<< ((f_X7_get zs bb i36 0) &&& 31))) (by omega)  hf _ _ ls hP hD hS (lv_sub hl [2, 3, 4, 1, 0] rfl)
    exact L36 bn 0 0 (by omega)  hf _ _ ls hP hD hS (lv_sub hl [4, 5, 2, 1, 0] rfl)
  · have hf := (if_neg c1).symm.trans hf
    refine lv_aload_n hx hb dX7_shows_14 rfl (lv_at hl 1 rfl) ?_
    refine lv_iload hx hb dX7_shows_15 (lv_at hl 0 rfl) ?_
    refine cl_V (q := (RX7, TX7, 12)) (ws' := [(mO, .inr (7, [.ref mA, .ref mS, .ref mI, .ref mV, .int me, .ref mT, .ref mR, .int (nI mz), .int (nI ma), .ref mW, .int (nI mr), .ref mN])), (mA, .inl (G.2.1, 7, .inl ((f_X7_refuse zf (f_X7_wrongSpread kn wo)).2))), (mS, .inl (G.2.1, 259, .inl zs))]) (v := (some (.int ((f_X7_refuse zf (f_X7_wrongSpread kn wo)).1)))) (st1 := [.int ((f_X7_refuse zf (f_X7_wrongSpread kn wo)).1)]) (rest := []) (As := [.int (f_X7_wrongSpread kn wo)]) [0, 1] 0 7 hx hb hml hown hK (k_X7_refuse l G mO mA mS mI mV mT mR mW mN me mz ma mr zf (f_X7_wrongSpread kn wo) (vp7_s bb _ _)) (mf_X7_refuse hK.2) (kw_720 hK.2) (kw_11 hK.2) (kw_718 hK.2) ⟨rfl, rfl, Nat.le_of_ble_eq_true rfl, Nat.le_of_ble_eq_true rfl⟩ rfl hP hD hS hA rfl rfl hl (Nat.le_of_ble_eq_true rfl) rfl ⟨Nat.le_of_ble_eq_true rfl, Nat.le_of_ble_eq_true rfl⟩ rfl dX7_shows_17 rfl rfl (rpl_fast (by decide) rfl rfl) rfl rfl rfl (fun H locs hP hD hS => ?_)
    exact hret ((f_X7_refuse zf (f_X7_wrongSpread kn wo)).1, (f_X7_refuse zf (f_X7_wrongSpread kn wo)).2) dX7_shows_20 rfl hf rfl hP hS
def f_X7_shows_A (zf : Nat → Int32) : Int32 × (Nat → Int32) := ((f_X7_refuse zf f_X7_wrongSpread_A).1, (f_X7_refuse zf f_X7_wrongSpread_A).2)
set_option maxHeartbeats 4000000 in
set_option maxRecDepth 100000 in
theorem k_X7_shows_A (l : Launch) (G : wG) (mO : Nat) (mA : Nat) (mS : Nat) (mI : Nat) (mV : Nat) (mT : Nat) (mR : Nat) (mW : Nat) (mN : Nat) (me : Int32) (mz : Nat) (ma : Nat) (mr : Nat) (zf : Nat → Int32) (bo : Int32) (kn : Int32) (wo : Int32) (hbad : f_X7_isBook bo = 0) : CT l G yX7_shows cX7_shows 8 (some .int) ({ frames := 3, cells := 0, slots := 0, locals := 64 }) [.ref mO, .int bo, .int kn, .int wo] [(mO, .inr (7, [.ref mA, .ref mS, .ref mI, .ref mV, .int me, .ref mT, .ref mR, .int (nI mz), .int (nI ma), .ref mW, .int (nI mr), .ref mN])), (mA, .inl (G.2.1, 7, .inl zf))] (fun u => [(mO, .inr (7, [.ref mA, .ref mS, .ref mI, .ref mV, .int me, .ref mT, .ref mR, .int (nI mz), .int (nI ma), .ref mW, .int (nI mr), .ref mN])), (mA, .inl (G.2.1, 7, .inl u.2))]) (fun u => some (.int u.1)) (f_X7_shows_A zf) := by
  obtain ⟨R, hf⟩ : ∃ R, f_X7_shows_A zf = R := ⟨_, rfl⟩
  rw [hf]
  refine CT.mkI RX7 (by decide +kernel) rfl (Nat.le_of_ble_eq_true rfl) ?_
  intro p e s m args below meth c A Q ls hx hb hml hown hK hP hD hS hA hret hl
  have hl : lv_has ls 8 [(0, .ref mO), (1, .int bo), (2, .int kn), (3, .int wo)] := hl
  rw [f_X7_shows_A] at hf
  refine lv_aload_n hx hb dX7_shows_0 rfl (lv_at hl 0 rfl) ?_
  refine lv_iload_n hx hb dX7_shows_1 rfl (lv_at hl 1 rfl) ?_
  refine lv_iload_n hx hb dX7_shows_2 rfl (lv_at hl 2 rfl) ?_
  refine lv_iload_n hx hb dX7_shows_3 rfl (lv_at hl 3 rfl) ?_
  refine cl_V (q := (RX7, TX7, 12)) (ws' := [(mO, .inr (7, [.ref mA, .ref mS, .ref mI, .ref mV, .int me, .ref mT, .ref mR, .int (nI mz), .int (nI ma), .ref mW, .int (nI mr), .ref mN])), (mA, .inl (G.2.1, 7, .inl zf))]) (v := (some (.int f_X7_wrongSpread_A))) (st1 := [.int f_X7_wrongSpread_A]) (rest := []) (As := [.int bo, .int kn, .int wo]) [0] 0 7 hx hb hml hown hK (k_X7_wrongSpread_A l G mO mA mS mI mV mT mR mW mN me mz ma mr bo kn wo hbad) (mf_X7_wrongSpread hK.2) (kw_892 hK.2) (kw_29 hK.2) (kw_890 hK.2) ⟨rfl, rfl, Nat.le_of_ble_eq_true rfl, Nat.le_of_ble_eq_true rfl⟩ rfl hP hD hS hA rfl rfl hl (Nat.le_of_ble_eq_true rfl) rfl ⟨Nat.le_of_ble_eq_true rfl, Nat.le_of_ble_eq_true rfl⟩ rfl dX7_shows_4 rfl rfl (rpl_fast (by decide) rfl rfl) rfl rfl rfl (fun H locs hP hD hS => ?_)
  refine lv_istore (lv' := [(4, .int f_X7_wrongSpread_A), (0, .ref mO), (1, .int bo), (2, .int kn), (3, .int wo)]) hx hb dX7_shows_7 hl (by decide) rfl (fun ls hl => ?_)
  refine lv_iload hx hb dX7_shows_9 (lv_at hl 0 rfl) ?_
  refine lv_if_eq (tgt := 21) hx hb dX7_shows_11 (by decide) (fun c => absurd c (by unfold f_X7_wrongSpread_A; decide)) (fun _ => ?_)
  refine lv_aload_n hx hb dX7_shows_14 rfl (lv_at hl 1 rfl) ?_
  refine lv_iload hx hb dX7_shows_15 (lv_at hl 0 rfl) ?_
  refine cl_V (q := (RX7, TX7, 12)) (ws' := [(mO, .inr (7, [.ref mA, .ref mS, .ref mI, .ref mV, .int me, .ref mT, .ref mR, .int (nI mz), .int (nI ma), .ref mW, .int (nI mr), .ref mN])), (mA, .inl (G.2.1, 7, .inl ((f_X7_refuse zf f_X7_wrongSpread_A).2)))]) (v := (some (.int ((f_X7_refuse zf f_X7_wrongSpread_A).1)))) (st1 := [.int ((f_X7_refuse zf f_X7_wrongSpread_A).1)]) (rest := []) (As := [.int f_X7_wrongSpread_A]) [0, 1] 0 7 hx hb hml hown hK (k_X7_refuse l G mO mA mS mI mV mT mR mW mN me mz ma mr zf f_X7_wrongSpread_A (by unfold f_X7_wrongSpread_A; exact vp7_1)) (mf_X7_refuse hK.2) (kw_720 hK.2) (kw_11 hK.2) (kw_718 hK.2) ⟨rfl, rfl, Nat.le_of_ble_eq_true rfl, Nat.le_of_ble_eq_true rfl⟩ rfl hP hD hS hA rfl rfl hl (Nat.le_of_ble_eq_true rfl) rfl ⟨Nat.le_of_ble_eq_true rfl, Nat.le_of_ble_eq_true rfl⟩ rfl dX7_shows_17 rfl rfl (rpl_fast (by decide) rfl rfl) rfl rfl rfl (fun H locs hP hD hS => ?_)
  exact hret ((f_X7_refuse zf f_X7_wrongSpread_A).1, (f_X7_refuse zf f_X7_wrongSpread_A).2) dX7_shows_20 rfl hf rfl hP hS
def f_X7_carries (zf : Nat → Int32) (zs : Nat → Int32) (bb : Nat) (bn : Nat) (bn2 : Nat) : Int32 × (Nat → Int32) := (if (f_X7_isFoundation zs (1 - bb) bn2 (f_X7_fewestOf zs bb bn)) = 0 then (0, zf) else (1, zf))
set_option maxHeartbeats 4000000 in
set_option maxRecDepth 100000 in
theorem k_X7_carries (l : Launch) (G : wG) (mO : Nat) (mA : Nat) (mS : Nat) (mI : Nat) (mV : Nat) (mT : Nat) (mR : Nat) (mW : Nat) (mN : Nat) (me : Int32) (mz : Nat) (ma : Nat) (mr : Nat) (zf : Nat → Int32) (zs : Nat → Int32) (bb : Nat) (bn : Nat) (bn2 : Nat) (hbb : bb < 2) (hbn : zs (160 + bb) = nI bn) (hb2 : bn ≤ 20) (hnd : ∀ t : Nat, t < bn → Rg (zs (80 * bb + 4 * t + 2))) (hwd : ∀ t : Nat, t < bn → ∃ w : Nat, w < 12 ∧ zs (80 * bb + 4 * t) = nI w) (hbn2 : zs (160 + (1 - bb)) = nI bn2) (hb22 : bn2 ≤ 20) (hnd2 : ∀ t : Nat, t < bn2 → Rg (zs (80 * (1 - bb) + 4 * t + 2))) (hwd2 : ∀ t : Nat, t < bn2 → ∃ w : Nat, w < 12 ∧ zs (80 * (1 - bb) + 4 * t) = nI w) : CT l G yX7_carries cX7_carries 2 (some .int) ({ frames := 6, cells := 0, slots := 0, locals := 142 }) [.ref mO, .int (nI bb)] [(mO, .inr (7, [.ref mA, .ref mS, .ref mI, .ref mV, .int me, .ref mT, .ref mR, .int (nI mz), .int (nI ma), .ref mW, .int (nI mr), .ref mN])), (mA, .inl (G.2.1, 7, .inl zf)), (mS, .inl (G.2.1, 259, .inl zs))] (fun u => [(mO, .inr (7, [.ref mA, .ref mS, .ref mI, .ref mV, .int me, .ref mT, .ref mR, .int (nI mz), .int (nI ma), .ref mW, .int (nI mr), .ref mN])), (mA, .inl (G.2.1, 7, .inl u.2)), (mS, .inl (G.2.1, 259, .inl zs))]) (fun u => some (.int u.1)) (f_X7_carries zf zs bb bn bn2) := by
  obtain ⟨R, hf⟩ : ∃ R, f_X7_carries zf zs bb bn bn2 = R := ⟨_, rfl⟩
  rw [hf]
  refine CT.mkI RX7 (by decide +kernel) rfl (Nat.le_of_ble_eq_true rfl) ?_
  intro p e s m args below meth c A Q ls hx hb hml hown hK hP hD hS hA hret hl
  have hl : lv_has ls 2 [(0, .ref mO), (1, .int (nI bb))] := hl
  rw [f_X7_carries] at hf
  refine lv_iload_n hx hb dX7_carries_0 rfl (lv_at hl 1 rfl) ?_
  refine cl_S (ws' := [(mO, .inr (7, [.ref mA, .ref mS, .ref mI, .ref mV, .int me, .ref mT, .ref mR, .int (nI mz), .int (nI ma), .ref mW, .int (nI mr), .ref mN])), (mA, .inl (G.2.1, 7, .inl zf)), (mS, .inl (G.2.1, 259, .inl zs))]) (v := (some (.int (f_X7_isBook (nI bb))))) (st1 := [.int (f_X7_isBook (nI bb))]) (rest := []) (As := [.int (nI bb)]) [] hx hb hml hown hK (k_X7_isBook l G (nI bb) ) (mf_X7_isBook hK.2) (kw_728 hK.2) (kw_727 hK.2) ⟨rfl, rfl, Nat.le_of_ble_eq_true rfl, Nat.le_of_ble_eq_true rfl⟩ rfl hP hD hS hA hl (Nat.le_of_ble_eq_true rfl) rfl ⟨Nat.le_of_ble_eq_true rfl, Nat.le_of_ble_eq_true rfl⟩ rfl dX7_carries_1 rfl rfl rfl rfl rfl rfl (fun H locs hP hD hS => ?_)
  refine lv_if_ne (tgt := 15) hx hb dX7_carries_4 (by decide) (fun _ => ?_) (fun c => absurd c (isBook7 hbb))
  refine lv_aload_n hx hb dX7_carries_15 rfl (lv_at hl 0 rfl) ?_
  refine lv_iconst (v := 1) hx hb dX7_carries_16 (by decide) ?_
  refine lv_iload_n hx hb dX7_carries_17 rfl (lv_at hl 1 rfl) ?_
  refine lv_isub hx hb dX7_carries_18 ?_
  refine ww_e (nI_subE (a := 1) (b := bb) rfl rfl (by omega)) ?_
  refine lv_aload_n hx hb dX7_carries_19 rfl (lv_at hl 0 rfl) ?_
  refine lv_iload_n hx hb dX7_carries_20 rfl (lv_at hl 1 rfl) ?_
  refine cl_V (q := (RX7, TX7, 12)) (ws' := [(mO, .inr (7, [.ref mA, .ref mS, .ref mI, .ref mV, .int me, .ref mT, .ref mR, .int (nI mz), .int (nI ma), .ref mW, .int (nI mr), .ref mN])), (mA, .inl (G.2.1, 7, .inl zf)), (mS, .inl (G.2.1, 259, .inl zs))]) (v := (some (.int (f_X7_fewestOf zs bb bn)))) (st1 := [.int (f_X7_fewestOf zs bb bn), .int (nI (1 - bb)), .ref mO]) (rest := [.int (nI (1 - bb)), .ref mO]) (As := [.int (nI bb)]) [0, 2] 0 7 hx hb hml hown hK (k_X7_fewestOf l G mO mA mS mI mV mT mR mW mN me mz ma mr zs bb bn hbb hbn hb2 hnd hwd) (mf_X7_fewestOf hK.2) (kw_848 hK.2) (kw_25 hK.2) (kw_846 hK.2) ⟨rfl, rfl, Nat.le_of_ble_eq_true rfl, Nat.le_of_ble_eq_true rfl⟩ rfl hP hD hS hA rfl rfl hl (Nat.le_of_ble_eq_true rfl) rfl ⟨Nat.le_of_ble_eq_true rfl, Nat.le_of_ble_eq_true rfl⟩ rfl dX7_carries_21 rfl rfl (rpl_fast (by decide) rfl rfl) rfl rfl rfl (fun H locs hP hD hS => ?_)
  refine cl_V (q := (RX7, TX7, 12)) (ws' := [(mO, .inr (7, [.ref mA, .ref mS, .ref mI, .ref mV, .int me, .ref mT, .ref mR, .int (nI mz), .int (nI ma), .ref mW, .int (nI mr), .ref mN])), (mA, .inl (G.2.1, 7, .inl zf)), (mS, .inl (G.2.1, 259, .inl zs))]) (v := (some (.int (f_X7_isFoundation zs (1 - bb) bn2 (f_X7_fewestOf zs bb bn))))) (st1 := [.int (f_X7_isFoundation zs (1 - bb) bn2 (f_X7_fewestOf zs bb bn))]) (rest := []) (As := [.int (nI (1 - bb)), .int (f_X7_fewestOf zs bb bn)]) [0, 2] 0 7 hx hb hml hown hK (k_X7_isFoundation l G mO mA mS mI mV mT mR mW mN me mz ma mr zs (1 - bb) bn2 (f_X7_fewestOf zs bb bn) (by omega) hbn2 (by omega) hnd2 hwd2 Rg_few) (mf_X7_isFoundation hK.2) (kw_852 hK.2) (kw_26 hK.2) (kw_850 hK.2) ⟨rfl, rfl, Nat.le_of_ble_eq_true rfl, Nat.le_of_ble_eq_true rfl⟩ rfl hP hD hS hA rfl rfl hl (Nat.le_of_ble_eq_true rfl) rfl ⟨Nat.le_of_ble_eq_true rfl, Nat.le_of_ble_eq_true rfl⟩ rfl dX7_carries_24 rfl rfl (rpl_fast (by decide) rfl rfl) rfl rfl rfl (fun H locs hP hD hS => ?_)
  refine lv_if_eq (tgt := 34) hx hb dX7_carries_27 (by decide) (fun c1 => ?_) (fun c1 => ?_)
  · have hf := (if_pos c1).symm.trans hf
    refine lv_iconst (v := 0) hx hb dX7_carries_34 (by decide) ?_
    exact hret (0, zf) dX7_carries_35 rfl hf rfl hP hS
  · have hf := (if_neg c1).symm.trans hf
    refine lv_iconst (v := 1) hx hb dX7_carries_30 (by decide) ?_
    refine lv_goto (tgt := 35) hx hb dX7_carries_31 (by decide) ?_
    exact hret (1, zf) dX7_carries_35 rfl hf rfl hP hS
def f_X7_carries_A (zf : Nat → Int32) : Int32 × (Nat → Int32) := ((f_X7_refuse zf (-1)).1, (f_X7_refuse zf (-1)).2)
set_option maxHeartbeats 4000000 in
set_option maxRecDepth 100000 in
theorem k_X7_carries_A (l : Launch) (G : wG) (mO : Nat) (mA : Nat) (mS : Nat) (mI : Nat) (mV : Nat) (mT : Nat) (mR : Nat) (mW : Nat) (mN : Nat) (me : Int32) (mz : Nat) (ma : Nat) (mr : Nat) (zf : Nat → Int32) (bo : Int32) (hbad : f_X7_isBook bo = 0) : CT l G yX7_carries cX7_carries 2 (some .int) ({ frames := 2, cells := 0, slots := 0, locals := 41 }) [.ref mO, .int bo] [(mO, .inr (7, [.ref mA, .ref mS, .ref mI, .ref mV, .int me, .ref mT, .ref mR, .int (nI mz), .int (nI ma), .ref mW, .int (nI mr), .ref mN])), (mA, .inl (G.2.1, 7, .inl zf))] (fun u => [(mO, .inr (7, [.ref mA, .ref mS, .ref mI, .ref mV, .int me, .ref mT, .ref mR, .int (nI mz), .int (nI ma), .ref mW, .int (nI mr), .ref mN])), (mA, .inl (G.2.1, 7, .inl u.2))]) (fun u => some (.int u.1)) (f_X7_carries_A zf) := by
  obtain ⟨R, hf⟩ : ∃ R, f_X7_carries_A zf = R := ⟨_, rfl⟩
  rw [hf]
  refine CT.mkI RX7 (by decide +kernel) rfl (Nat.le_of_ble_eq_true rfl) ?_
  intro p e s m args below meth c A Q ls hx hb hml hown hK hP hD hS hA hret hl
  have hl : lv_has ls 2 [(0, .ref mO), (1, .int bo)] := hl
  rw [f_X7_carries_A] at hf
  refine lv_iload_n hx hb dX7_carries_0 rfl (lv_at hl 1 rfl) ?_
  refine cl_S (ws' := [(mO, .inr (7, [.ref mA, .ref mS, .ref mI, .ref mV, .int me, .ref mT, .ref mR, .int (nI mz), .int (nI ma), .ref mW, .int (nI mr), .ref mN])), (mA, .inl (G.2.1, 7, .inl zf))]) (v := (some (.int (f_X7_isBook bo)))) (st1 := [.int (f_X7_isBook bo)]) (rest := []) (As := [.int bo]) [] hx hb hml hown hK (k_X7_isBook l G bo ) (mf_X7_isBook hK.2) (kw_728 hK.2) (kw_727 hK.2) ⟨rfl, rfl, Nat.le_of_ble_eq_true rfl, Nat.le_of_ble_eq_true rfl⟩ rfl hP hD hS hA hl (Nat.le_of_ble_eq_true rfl) rfl ⟨Nat.le_of_ble_eq_true rfl, Nat.le_of_ble_eq_true rfl⟩ rfl dX7_carries_1 rfl rfl rfl rfl rfl rfl (fun H locs hP hD hS => ?_)
  refine lv_if_ne (tgt := 15) hx hb dX7_carries_4 (by decide) (fun c => absurd hbad c) (fun _ => ?_)
  refine lv_aload_n hx hb dX7_carries_7 rfl (lv_at hl 0 rfl) ?_
  refine lv_iconst (v := -1) hx hb dX7_carries_8 (by decide) ?_
  refine cl_V (q := (RX7, TX7, 12)) (ws' := [(mO, .inr (7, [.ref mA, .ref mS, .ref mI, .ref mV, .int me, .ref mT, .ref mR, .int (nI mz), .int (nI ma), .ref mW, .int (nI mr), .ref mN])), (mA, .inl (G.2.1, 7, .inl ((f_X7_refuse zf (-1)).2)))]) (v := (some (.int ((f_X7_refuse zf (-1)).1)))) (st1 := [.int ((f_X7_refuse zf (-1)).1)]) (rest := []) (As := [.int (-1)]) [0, 1] 0 7 hx hb hml hown hK (k_X7_refuse l G mO mA mS mI mV mT mR mW mN me mz ma mr zf (-1) vp7_1) (mf_X7_refuse hK.2) (kw_720 hK.2) (kw_11 hK.2) (kw_718 hK.2) ⟨rfl, rfl, Nat.le_of_ble_eq_true rfl, Nat.le_of_ble_eq_true rfl⟩ rfl hP hD hS hA rfl rfl hl (Nat.le_of_ble_eq_true rfl) rfl ⟨Nat.le_of_ble_eq_true rfl, Nat.le_of_ble_eq_true rfl⟩ rfl dX7_carries_9 rfl rfl (rpl_fast (by decide) rfl rfl) rfl rfl rfl (fun H locs hP hD hS => ?_)
  refine lv_goto (tgt := 35) hx hb dX7_carries_12 (by decide) ?_
  exact hret ((f_X7_refuse zf (-1)).1, (f_X7_refuse zf (-1)).2) dX7_carries_35 rfl hf rfl hP hS
def f_X7_lacks_30 (zf : Nat → Int32) (zs : Nat → Int32) (bb : Nat) (bn : Nat) (bn2 : Nat) : Nat → Nat → Int32 → (Int32 × (Nat → Int32))
  | 0, i30, v3_30 => (v3_30, zf)
  | k30 + 1, i30, v3_30 => (if ((nI i30) &&& (f_X7_fewestOf zs bb bn)) = 0 then (if (f_X7_bits v3_30) ≤ (f_X7_bits (nI i30)) then f_X7_lacks_30 zf zs bb bn bn2 k30 (i30 + 1) v3_30 else (if (f_X7_isFoundation zs (1 - bb) bn2 ((nI i30) ||| (f_X7_fewestOf zs bb bn))) = 0 then f_X7_lacks_30 zf zs bb bn bn2 k30 (i30 + 1) v3_30 else f_X7_lacks_30 zf zs bb bn bn2 k30 (i30 + 1) (nI i30))) else f_X7_lacks_30 zf zs bb bn bn2 k30 (i30 + 1) v3_30)
theorem f_X7_lacks_30_z (zf : Nat → Int32) (zs : Nat → Int32) (bb : Nat) (bn : Nat) (bn2 : Nat) (i30 : Nat) (v3_30 : Int32) : f_X7_lacks_30 zf zs bb bn bn2 0 i30 v3_30 = (v3_30, zf) := rfl
theorem f_X7_lacks_30_s (zf : Nat → Int32) (zs : Nat → Int32) (bb : Nat) (bn : Nat) (bn2 : Nat) (k30 : Nat) (i30 : Nat) (v3_30 : Int32) : f_X7_lacks_30 zf zs bb bn bn2 (k30 + 1) i30 v3_30 = (if ((nI i30) &&& (f_X7_fewestOf zs bb bn)) = 0 then (if (f_X7_bits v3_30) ≤ (f_X7_bits (nI i30)) then f_X7_lacks_30 zf zs bb bn bn2 k30 (i30 + 1) v3_30 else (if (f_X7_isFoundation zs (1 - bb) bn2 ((nI i30) ||| (f_X7_fewestOf zs bb bn))) = 0 then f_X7_lacks_30 zf zs bb bn bn2 k30 (i30 + 1) v3_30 else f_X7_lacks_30 zf zs bb bn bn2 k30 (i30 + 1) (nI i30))) else f_X7_lacks_30 zf zs bb bn bn2 k30 (i30 + 1) v3_30) := rfl
def f_X7_lacks (zf : Nat → Int32) (zs : Nat → Int32) (bb : Nat) (bn : Nat) (bn2 : Nat) : Int32 × (Nat → Int32) := (f_X7_lacks_30 zf zs bb bn bn2 4096 0 (((f_X7_fewestOf zs bb bn) ^^^ (-1 : Int32)) &&& (4095 : Int32)))
set_option maxHeartbeats 4000000 in
set_option maxRecDepth 100000 in
theorem k_X7_lacks (l : Launch) (G : wG) (mO : Nat) (mA : Nat) (mS : Nat) (mI : Nat) (mV : Nat) (mT : Nat) (mR : Nat) (mW : Nat) (mN : Nat) (me : Int32) (mz : Nat) (ma : Nat) (mr : Nat) (zf : Nat → Int32) (zs : Nat → Int32) (bb : Nat) (bn : Nat) (bn2 : Nat) (hbb : bb < 2) (hbn : zs (160 + bb) = nI bn) (hb2 : bn ≤ 20) (hnd : ∀ t : Nat, t < bn → Rg (zs (80 * bb + 4 * t + 2))) (hwd : ∀ t : Nat, t < bn → ∃ w : Nat, w < 12 ∧ zs (80 * bb + 4 * t) = nI w) (hbn2 : zs (160 + (1 - bb)) = nI bn2) (hb22 : bn2 ≤ 20) (hnd2 : ∀ t : Nat, t < bn2 → Rg (zs (80 * (1 - bb) + 4 * t + 2))) (hwd2 : ∀ t : Nat, t < bn2 → ∃ w : Nat, w < 12 ∧ zs (80 * (1 - bb) + 4 * t) = nI w) : CT l G yX7_lacks cX7_lacks 5 (some .int) ({ frames := 6, cells := 0, slots := 0, locals := 142 }) [.ref mO, .int (nI bb)] [(mO, .inr (7, [.ref mA, .ref mS, .ref mI, .ref mV, .int me, .ref mT, .ref mR, .int (nI mz), .int (nI ma), .ref mW, .int (nI mr), .ref mN])), (mA, .inl (G.2.1, 7, .inl zf)), (mS, .inl (G.2.1, 259, .inl zs))] (fun u => [(mO, .inr (7, [.ref mA, .ref mS, .ref mI, .ref mV, .int me, .ref mT, .ref mR, .int (nI mz), .int (nI ma), .ref mW, .int (nI mr), .ref mN])), (mA, .inl (G.2.1, 7, .inl u.2)), (mS, .inl (G.2.1, 259, .inl zs))]) (fun u => some (.int u.1)) (f_X7_lacks zf zs bb bn bn2) := by
  obtain ⟨R, hf⟩ : ∃ R, f_X7_lacks zf zs bb bn bn2 = R := ⟨_, rfl⟩
  rw [hf]
  refine CT.mkI RX7 (by decide +kernel) rfl (Nat.le_of_ble_eq_true rfl) ?_
  intro p e s m args below meth c A Q ls hx hb hml hown hK hP hD hS hA hret hl
  have hl : lv_has ls 5 [(0, .ref mO), (1, .int (nI bb))] := hl
  rw [f_X7_lacks] at hf
  refine lv_iload_n hx hb dX7_lacks_0 rfl (lv_at hl 1 rfl) ?_
  refine cl_S (ws' := [(mO, .inr (7, [.ref mA, .ref mS, .ref mI, .ref mV, .int me, .ref mT, .ref mR, .int (nI mz), .int (nI ma), .ref mW, .int (nI mr), .ref mN])), (mA, .inl (G.2.1, 7, .inl zf)), (mS, .inl (G.2.1, 259, .inl zs))]) (v := (some (.int (f_X7_isBook (nI bb))))) (st1 := [.int (f_X7_isBook (nI bb))]) (rest := []) (As := [.int (nI bb)]) [] hx hb hml hown hK (k_X7_isBook l G (nI bb) ) (mf_X7_isBook hK.2) (kw_728 hK.2) (kw_727 hK.2) ⟨rfl, rfl, Nat.le_of_ble_eq_true rfl, Nat.le_of_ble_eq_true rfl⟩ rfl hP hD hS hA hl (Nat.le_of_ble_eq_true rfl) rfl ⟨Nat.le_of_ble_eq_true rfl, Nat.le_of_ble_eq_true rfl⟩ rfl dX7_lacks_1 rfl rfl rfl rfl rfl rfl (fun H locs hP hD hS => ?_)
  refine lv_if_ne (tgt := 13) hx hb dX7_lacks_4 (by decide) (fun _ => ?_) (fun c => absurd c (isBook7 hbb))
  refine lv_aload_n hx hb dX7_lacks_13 rfl (lv_at hl 0 rfl) ?_
  refine lv_iload_n hx hb dX7_lacks_14 rfl (lv_at hl 1 rfl) ?_
  refine cl_V (q := (RX7, TX7, 12)) (ws' := [(mO, .inr (7, [.ref mA, .ref mS, .ref mI, .ref mV, .int me, .ref mT, .ref mR, .int (nI mz), .int (nI ma), .ref mW, .int (nI mr), .ref mN])), (mA, .inl (G.2.1, 7, .inl zf)), (mS, .inl (G.2.1, 259, .inl zs))]) (v := (some (.int (f_X7_fewestOf zs bb bn)))) (st1 := [.int (f_X7_fewestOf zs bb bn)]) (rest := []) (As := [.int (nI bb)]) [0, 2] 0 7 hx hb hml hown hK (k_X7_fewestOf l G mO mA mS mI mV mT mR mW mN me mz ma mr zs bb bn hbb hbn hb2 hnd hwd) (mf_X7_fewestOf hK.2) (kw_848 hK.2) (kw_25 hK.2) (kw_846 hK.2) ⟨rfl, rfl, Nat.le_of_ble_eq_true rfl, Nat.le_of_ble_eq_true rfl⟩ rfl hP hD hS hA rfl rfl hl (Nat.le_of_ble_eq_true rfl) rfl ⟨Nat.le_of_ble_eq_true rfl, Nat.le_of_ble_eq_true rfl⟩ rfl dX7_lacks_15 rfl rfl (rpl_fast (by decide) rfl rfl) rfl rfl rfl (fun H locs hP hD hS => ?_)
  refine lv_istore_n (lv' := [(2, .int (f_X7_fewestOf zs bb bn)), (0, .ref mO), (1, .int (nI bb))]) hx hb dX7_lacks_18 rfl hl (by decide) rfl (fun ls hl => ?_)
  refine lv_iload_n hx hb dX7_lacks_19 rfl (lv_at hl 0 rfl) ?_
  refine lv_iconst (v := -1) hx hb dX7_lacks_20 (by decide) ?_
  refine lv_ixor hx hb dX7_lacks_21 ?_
  refine lv_sipush (v := 4095) hx hb dX7_lacks_22 (by decide) ?_
  refine lv_iand hx hb dX7_lacks_25 ?_
  refine lv_istore_n (lv' := [(3, .int (((f_X7_fewestOf zs bb bn) ^^^ (-1 : Int32)) &&& (4095 : Int32))), (2, .int (f_X7_fewestOf zs bb bn)), (0, .ref mO), (1, .int (nI bb))]) hx hb dX7_lacks_26 rfl hl (by decide) rfl (fun ls hl => ?_)
  refine lv_iconst (v := 0) hx hb dX7_lacks_27 (by decide) ?_
  refine lv_istore (lv' := [(4, .int 0), (3, .int (((f_X7_fewestOf zs bb bn) ^^^ (-1 : Int32)) &&& (4095 : Int32))), (2, .int (f_X7_fewestOf zs bb bn)), (0, .ref mO), (1, .int (nI bb))]) hx hb dX7_lacks_28 hl (by decide) rfl (fun ls hl => ?_)
  have L30 : ∀ (k30 : Nat) (i30 : Nat) (v3_30 : Int32), k30 + i30 = 4096 → (Rg v3_30) → f_X7_lacks_30 zf zs bb bn bn2 k30 i30 v3_30 = R → ∀ (H : Heap) (locs : List Loc) (ls : Array Slot), va_P G.1 wcl [(mO, .inr (7, [.ref mA, .ref mS, .ref mI, .ref mV, .int me, .ref mT, .ref mR, .int (nI mz), .int (nI ma), .ref mW, .int (nI mr), .ref mN])), (mA, .inl (G.2.1, 7, .inl zf)), (mS, .inl (G.2.1, 259, .inl zs))] H → va_D A [(mO, .inr (7, [.ref mA, .ref mS, .ref mI, .ref mV, .int me, .ref mT, .ref mR, .int (nI mz), .int (nI ma), .ref mW, .int (nI mr), .ref mN])), (mA, .inl (G.2.1, 7, .inl zf)), (mS, .inl (G.2.1, 259, .inl zs))] → va_S A s.heap H locs → lv_has ls 5 [(0, .ref mO), (1, .int (nI bb)), (2, .int (f_X7_fewestOf zs bb bn)), (3, .int v3_30), (4, .int (nI i30))] → W p l e ({ frames := 6, cells := 0, slots := 0, locals := 142 }) s m args below meth c H locs 0 0 Q (F0 m 30 ls []) := by
    intro k30
    induction k30 with
    | zero =>
      intro i30 v3_30 hi30 h1 hf _ _ ls hP hD hS hl
      rw [f_X7_lacks_30_z] at hf
      refine lv_iload hx hb dX7_lacks_30 (lv_at hl 4 rfl) ?_
      refine lv_sipush (v := 4096) hx hb dX7_lacks_32 (by decide) ?_
      refine lv_icmp_ge (tgt := 80) hx hb dX7_lacks_35 (by decide) (fun _ => ?_) (fun c => absurd (ile (a := 4096) (b := i30) rfl rfl (by omega) (by omega) (by omega)) c)
      refine lv_iload_n hx hb dX7_lacks_80 rfl (lv_at hl 3 rfl) ?_
      exact hret (v3_30, zf) dX7_lacks_81 rfl hf rfl hP hS
    | succ k30 ih30 =>
      intro i30 v3_30 hi30 h1 hf _ _ ls hP hD hS hl
      rw [f_X7_lacks_30_s] at hf
      refine lv_iload hx hb dX7_lacks_30 (lv_at hl 4 rfl) ?_
      refine lv_sipush (v := 4096) hx hb dX7_lacks_32 (by decide) ?_
      refine lv_icmp_ge (tgt := 80) hx hb dX7_lacks_35 (by decide) (fun c => absurd c (inle (a := 4096) (b := i30) rfl rfl (by omega) (by omega) (by omega))) (fun _ => ?_)
      refine lv_iload hx hb dX7_lacks_38 (lv_at hl 4 rfl) ?_
      refine lv_iload_n hx hb dX7_lacks_40 rfl (lv_at hl 2 rfl) ?_
      refine lv_iand hx hb dX7_lacks_41 ?_
      refine lv_if_ne (tgt := 74) hx hb dX7_lacks_42 (by decide) (fun c1 => ?_) (fun c1 => ?_)
      · have hf := (if_neg c1).symm.trans hf
        refine lv_iinc (v := nI (i30 + 1)) (lv' := [(4, .int (nI (i30 + 1))), (0, .ref mO), (1, .int (nI bb)), (2, .int (f_X7_fewestOf zs bb bn)), (3, .int v3_30)]) hx hb dX7_lacks_74 hl (k := 4) rfl (nI_1 i30) (by decide) rfl (fun ls hl => ?_)
        refine lv_goto (tgt := 30) hx hb dX7_lacks_77 (by decide) ?_
        exact ih30 (i30 + 1) v3_30 (by omega) (by first | exact h1 | exact Rg_of (by omega)) hf _ _ ls hP hD hS (lv_sub hl [1, 2, 3, 4, 0] rfl)
      · have hf := (if_pos c1).symm.trans hf
        refine lv_iload hx hb dX7_lacks_45 (lv_at hl 4 rfl) ?_
        refine cl_S (ws' := [(mO, .inr (7, [.ref mA, .ref mS, .ref mI, .ref mV, .int me, .ref mT, .ref mR, .int (nI mz), .int (nI ma), .ref mW, .int (nI mr), .ref mN])), (mA, .inl (G.2.1, 7, .inl zf)), (mS, .inl (G.2.1, 259, .inl zs))]) (v := (some (.int (f_X7_bits (nI i30))))) (st1 := [.int (f_X7_bits (nI i30))]) (rest := []) (As := [.int (nI i30)]) [] hx hb hml hown hK (k_X7_bits l G (nI i30) (Rg_of (by omega))) (mf_X7_bits hK.2) (kw_792 hK.2) (kw_791 hK.2) ⟨rfl, rfl, Nat.le_of_ble_eq_true rfl, Nat.le_of_ble_eq_true rfl⟩ rfl hP hD hS hA hl (Nat.le_of_ble_eq_true rfl) rfl ⟨Nat.le_of_ble_eq_true rfl, Nat.le_of_ble_eq_true rfl⟩ rfl dX7_lacks_47 rfl rfl rfl rfl rfl rfl (fun H locs hP hD hS => ?_)
        refine lv_iload_n hx hb dX7_lacks_50 rfl (lv_at hl 3 rfl) ?_
        refine cl_S (ws' := [(mO, .inr (7, [.ref mA, .ref mS, .ref mI, .ref mV, .int me, .ref mT, .ref mR, .int (nI mz), .int (nI ma), .ref mW, .int (nI mr), .ref mN])), (mA, .inl (G.2.1, 7, .inl zf)), (mS, .inl (G.2.1, 259, .inl zs))]) (v := (some (.int (f_X7_bits v3_30)))) (st1 := [.int (f_X7_bits v3_30), .int (f_X7_bits (nI i30))]) (rest := [.int (f_X7_bits (nI i30))]) (As := [.int v3_30]) [] hx hb hml hown hK (k_X7_bits l G v3_30 h1) (mf_X7_bits hK.2) (kw_792 hK.2) (kw_791 hK.2) ⟨rfl, rfl, Nat.le_of_ble_eq_true rfl, Nat.le_of_ble_eq_true rfl⟩ rfl hP hD hS hA hl (Nat.le_of_ble_eq_true rfl) rfl ⟨Nat.le_of_ble_eq_true rfl, Nat.le_of_ble_eq_true rfl⟩ rfl dX7_lacks_51 rfl rfl rfl rfl rfl rfl (fun H locs hP hD hS => ?_)
        refine lv_icmp_ge (tgt := 74) hx hb dX7_lacks_54 (by decide) (fun c2 => ?_) (fun c2 => ?_)
        · have hf := (if_pos c2).symm.trans hf
          refine lv_iinc (v := nI (i30 + 1)) (lv' := [(4, .int (nI (i30 + 1))), (0, .ref mO), (1, .int (nI bb)), (2, .int (f_X7_fewestOf zs bb bn)), (3, .int v3_30)]) hx hb dX7_lacks_74 hl (k := 4) rfl (nI_1 i30) (by decide) rfl (fun ls hl => ?_)
          refine lv_goto (tgt := 30) hx hb dX7_lacks_77 (by decide) ?_
          exact ih30 (i30 + 1) v3_30 (by omega) (by first | exact h1 | exact Rg_of (by omega)) hf _ _ ls hP hD hS (lv_sub hl [1, 2, 3, 4, 0] rfl)
        · have hf := (if_neg c2).symm.trans hf
          refine lv_aload_n hx hb dX7_lacks_57 rfl (lv_at hl 0 rfl) ?_
          refine lv_iconst (v := 1) hx hb dX7_lacks_58 (by decide) ?_
          refine lv_iload_n hx hb dX7_lacks_59 rfl (lv_at hl 1 rfl) ?_
          refine lv_isub hx hb dX7_lacks_60 ?_
          refine ww_e (nI_subE (a := 1) (b := bb) rfl rfl (by omega)) ?_
          refine lv_iload hx hb dX7_lacks_61 (lv_at hl 4 rfl) ?_
          refine lv_iload_n hx hb dX7_lacks_63 rfl (lv_at hl 2 rfl) ?_
          refine lv_ior hx hb dX7_lacks_64 ?_
          refine cl_V (q := (RX7, TX7, 12)) (ws' := [(mO, .inr (7, [.ref mA, .ref mS, .ref mI, .ref mV, .int me, .ref mT, .ref mR, .int (nI mz), .int (nI ma), .ref mW, .int (nI mr), .ref mN])), (mA, .inl (G.2.1, 7, .inl zf)), (mS, .inl (G.2.1, 259, .inl zs))]) (v := (some (.int (f_X7_isFoundation zs (1 - bb) bn2 ((nI i30) ||| (f_X7_fewestOf zs bb bn)))))) (st1 := [.int (f_X7_isFoundation zs (1 - bb) bn2 ((nI i30) ||| (f_X7_fewestOf zs bb bn)))]) (rest := []) (As := [.int (nI (1 - bb)), .int ((nI i30) ||| (f_X7_fewestOf zs bb bn))]) [0, 2] 0 7 hx hb hml hown hK (k_X7_isFoundation l G mO mA mS mI mV mT mR mW mN me mz ma mr zs (1 - bb) bn2 ((nI i30) ||| (f_X7_fewestOf zs bb bn)) (by omega) hbn2 (by omega) hnd2 hwd2 (Rg_or (Rg_of (by omega)) Rg_few)) (mf_X7_isFoundation hK.2) (kw_852 hK.2) (kw_26 hK.2) (kw_850 hK.2) ⟨rfl, rfl, Nat.le_of_ble_eq_true rfl, Nat.le_of_ble_eq_true rfl⟩ rfl hP hD hS hA rfl rfl hl (Nat.le_of_ble_eq_true rfl) rfl ⟨Nat.le_of_ble_eq_true rfl, Nat.le_of_ble_eq_true rfl⟩ rfl dX7_lacks_65 rfl rfl (rpl_fast (by decide) rfl rfl) rfl rfl rfl (fun H locs hP hD hS => ?_)
          refine lv_if_eq (tgt := 74) hx hb dX7_lacks_68 (by decide) (fun c3 => ?_) (fun c3 => ?_)
          · have hf := (if_pos c3).symm.trans hf
            refine lv_iinc (v := nI (i30 + 1)) (lv' := [(4, .int (nI (i30 + 1))), (0, .ref mO), (1, .int (nI bb)), (2, .int (f_X7_fewestOf zs bb bn)), (3, .int v3_30)]) hx hb dX7_lacks_74 hl (k := 4) rfl (nI_1 i30) (by decide) rfl (fun ls hl => ?_)
            refine lv_goto (tgt := 30) hx hb dX7_lacks_77 (by decide) ?_
            exact ih30 (i30 + 1) v3_30 (by omega) (by first | exact h1 | exact Rg_of (by omega)) hf _ _ ls hP hD hS (lv_sub hl [1, 2, 3, 4, 0] rfl)
          · have hf := (if_neg c3).symm.trans hf
            refine lv_iload hx hb dX7_lacks_71 (lv_at hl 4 rfl) ?_
            refine lv_istore_n (lv' := [(3, .int (nI i30)), (0, .ref mO), (1, .int (nI bb)), (2, .int (f_X7_fewestOf zs bb bn)), (4, .int (nI i30))]) hx hb dX7_lacks_73 rfl hl (by decide) rfl (fun ls hl => ?_)
            refine lv_iinc (v := nI (i30 + 1)) (lv' := [(4, .int (nI (i30 + 1))), (3, .int (nI i30)), (0, .ref mO), (1, .int (nI bb)), (2, .int (f_X7_fewestOf zs bb bn))]) hx hb dX7_lacks_74 hl (k := 4) rfl (nI_1 i30) (by decide) rfl (fun ls hl => ?_)
            refine lv_goto (tgt := 30) hx hb dX7_lacks_77 (by decide) ?_
            exact ih30 (i30 + 1) (nI i30) (by omega) (by first | exact h1 | exact Rg_of (by omega)) hf _ _ ls hP hD hS (lv_sub hl [2, 3, 4, 1, 0] rfl)
  exact L30 4096 0 (((f_X7_fewestOf zs bb bn) ^^^ (-1 : Int32)) &&& (4095 : Int32)) (by omega) (Rg_and' (Rg_of (j := 4095) (by decide))) hf _ _ ls hP hD hS (lv_sub hl [3, 4, 2, 1, 0] rfl)
def f_X7_lacks_A (zf : Nat → Int32) : Int32 × (Nat → Int32) := ((f_X7_refuse zf (-1)).1, (f_X7_refuse zf (-1)).2)
set_option maxHeartbeats 4000000 in
set_option maxRecDepth 100000 in
theorem k_X7_lacks_A (l : Launch) (G : wG) (mO : Nat) (mA : Nat) (mS : Nat) (mI : Nat) (mV : Nat) (mT : Nat) (mR : Nat) (mW : Nat) (mN : Nat) (me : Int32) (mz : Nat) (ma : Nat) (mr : Nat) (zf : Nat → Int32) (bo : Int32) (hbad : f_X7_isBook bo = 0) : CT l G yX7_lacks cX7_lacks 5 (some .int) ({ frames := 2, cells := 0, slots := 0, locals := 41 }) [.ref mO, .int bo] [(mO, .inr (7, [.ref mA, .ref mS, .ref mI, .ref mV, .int me, .ref mT, .ref mR, .int (nI mz), .int (nI ma), .ref mW, .int (nI mr), .ref mN])), (mA, .inl (G.2.1, 7, .inl zf))] (fun u => [(mO, .inr (7, [.ref mA, .ref mS, .ref mI, .ref mV, .int me, .ref mT, .ref mR, .int (nI mz), .int (nI ma), .ref mW, .int (nI mr), .ref mN])), (mA, .inl (G.2.1, 7, .inl u.2))]) (fun u => some (.int u.1)) (f_X7_lacks_A zf) := by
  obtain ⟨R, hf⟩ : ∃ R, f_X7_lacks_A zf = R := ⟨_, rfl⟩
  rw [hf]
  refine CT.mkI RX7 (by decide +kernel) rfl (Nat.le_of_ble_eq_true rfl) ?_
  intro p e s m args below meth c A Q ls hx hb hml hown hK hP hD hS hA hret hl
  have hl : lv_has ls 5 [(0, .ref mO), (1, .int bo)] := hl
  rw [f_X7_lacks_A] at hf
  refine lv_iload_n hx hb dX7_lacks_0 rfl (lv_at hl 1 rfl) ?_
  refine cl_S (ws' := [(mO, .inr (7, [.ref mA, .ref mS, .ref mI, .ref mV, .int me, .ref mT, .ref mR, .int (nI mz), .int (nI ma), .ref mW, .int (nI mr), .ref mN])), (mA, .inl (G.2.1, 7, .inl zf))]) (v := (some (.int (f_X7_isBook bo)))) (st1 := [.int (f_X7_isBook bo)]) (rest := []) (As := [.int bo]) [] hx hb hml hown hK (k_X7_isBook l G bo ) (mf_X7_isBook hK.2) (kw_728 hK.2) (kw_727 hK.2) ⟨rfl, rfl, Nat.le_of_ble_eq_true rfl, Nat.le_of_ble_eq_true rfl⟩ rfl hP hD hS hA hl (Nat.le_of_ble_eq_true rfl) rfl ⟨Nat.le_of_ble_eq_true rfl, Nat.le_of_ble_eq_true rfl⟩ rfl dX7_lacks_1 rfl rfl rfl rfl rfl rfl (fun H locs hP hD hS => ?_)
  refine lv_if_ne (tgt := 13) hx hb dX7_lacks_4 (by decide) (fun c => absurd hbad c) (fun _ => ?_)
  refine lv_aload_n hx hb dX7_lacks_7 rfl (lv_at hl 0 rfl) ?_
  refine lv_iconst (v := -1) hx hb dX7_lacks_8 (by decide) ?_
  refine cl_V (q := (RX7, TX7, 12)) (ws' := [(mO, .inr (7, [.ref mA, .ref mS, .ref mI, .ref mV, .int me, .ref mT, .ref mR, .int (nI mz), .int (nI ma), .ref mW, .int (nI mr), .ref mN])), (mA, .inl (G.2.1, 7, .inl ((f_X7_refuse zf (-1)).2)))]) (v := (some (.int ((f_X7_refuse zf (-1)).1)))) (st1 := [.int ((f_X7_refuse zf (-1)).1)]) (rest := []) (As := [.int (-1)]) [0, 1] 0 7 hx hb hml hown hK (k_X7_refuse l G mO mA mS mI mV mT mR mW mN me mz ma mr zf (-1) vp7_1) (mf_X7_refuse hK.2) (kw_720 hK.2) (kw_11 hK.2) (kw_718 hK.2) ⟨rfl, rfl, Nat.le_of_ble_eq_true rfl, Nat.le_of_ble_eq_true rfl⟩ rfl hP hD hS hA rfl rfl hl (Nat.le_of_ble_eq_true rfl) rfl ⟨Nat.le_of_ble_eq_true rfl, Nat.le_of_ble_eq_true rfl⟩ rfl dX7_lacks_9 rfl rfl (rpl_fast (by decide) rfl rfl) rfl rfl rfl (fun H locs hP hD hS => ?_)
  exact hret ((f_X7_refuse zf (-1)).1, (f_X7_refuse zf (-1)).2) dX7_lacks_12 rfl hf rfl hP hS
