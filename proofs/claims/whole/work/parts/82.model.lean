theorem isTel {bn te : Nat} (h : te < bn) (h2 : bn ≤ 20) : ¬ f_X7_isTelling bn (nI te) = 0 := by
  unfold f_X7_isTelling f_X7_isIn
  rw [if_neg (nI_pos (by omega)), if_neg (inle rfl rfl (by omega) (by omega) h)]
  decide
theorem isIn4 {w : Nat} (h : w < 4) : ¬ f_X7_isIn (nI w) 4 = 0 := by
  unfold f_X7_isIn
  have h9 : ¬ (4 : Int32) ≤ nI w := inle (a := 4) (b := w) rfl rfl (by omega) (by omega) h
  rw [if_neg (nI_pos (by omega)), if_neg h9]
  decide
def f_X7_tellingOf (zf : Nat → Int32) (zs : Nat → Int32) (bb : Nat) (te : Nat) (wh : Nat) : Int32 × (Nat → Int32) := (f_X7_get zs bb te wh, zf)
set_option maxHeartbeats 4000000 in
set_option maxRecDepth 100000 in
theorem k_X7_tellingOf (l : Launch) (G : wG) (mO : Nat) (mA : Nat) (mS : Nat) (mI : Nat) (mV : Nat) (mT : Nat) (mR : Nat) (mW : Nat) (mN : Nat) (me : Int32) (mz : Nat) (ma : Nat) (mr : Nat) (zf : Nat → Int32) (zs : Nat → Int32) (bb : Nat) (bn : Nat) (te : Nat) (wh : Nat) (hbb : bb < 2) (hbn : zs (160 + bb) = nI bn) (hb2 : bn ≤ 20) (hte : te < bn) (hwh : wh < 4) : CT l G yX7_tellingOf cX7_tellingOf 4 (some .int) ({ frames := 3, cells := 0, slots := 0, locals := 63 }) [.ref mO, .int (nI bb), .int (nI te), .int (nI wh)] [(mO, .inr (7, [.ref mA, .ref mS, .ref mI, .ref mV, .int me, .ref mT, .ref mR, .int (nI mz), .int (nI ma), .ref mW, .int (nI mr), .ref mN])), (mA, .inl (G.2.1, 7, .inl zf)), (mS, .inl (G.2.1, 259, .inl zs))] (fun u => [(mO, .inr (7, [.ref mA, .ref mS, .ref mI, .ref mV, .int me, .ref mT, .ref mR, .int (nI mz), .int (nI ma), .ref mW, .int (nI mr), .ref mN])), (mA, .inl (G.2.1, 7, .inl u.2)), (mS, .inl (G.2.1, 259, .inl zs))]) (fun u => some (.int u.1)) (f_X7_tellingOf zf zs bb te wh) := by
  obtain ⟨R, hf⟩ : ∃ R, f_X7_tellingOf zf zs bb te wh = R := ⟨_, rfl⟩
  rw [hf]
  refine CT.mkI RX7 (by decide +kernel) rfl (Nat.le_of_ble_eq_true rfl) ?_
  intro p e s m args below meth c A Q ls hx hb hml hown hK hP hD hS hA hret hl
  have hl : lv_has ls 4 [(0, .ref mO), (1, .int (nI bb)), (2, .int (nI te)), (3, .int (nI wh))] := hl
  rw [f_X7_tellingOf] at hf
  refine lv_aload_n hx hb dX7_tellingOf_0 rfl (lv_at hl 0 rfl) ?_
  refine lv_iload_n hx hb dX7_tellingOf_1 rfl (lv_at hl 1 rfl) ?_
  refine lv_iload_n hx hb dX7_tellingOf_2 rfl (lv_at hl 2 rfl) ?_
  refine cl_V (q := (RX7, TX7, 12)) (ws' := [(mO, .inr (7, [.ref mA, .ref mS, .ref mI, .ref mV, .int me, .ref mT, .ref mR, .int (nI mz), .int (nI ma), .ref mW, .int (nI mr), .ref mN])), (mA, .inl (G.2.1, 7, .inl zf)), (mS, .inl (G.2.1, 259, .inl zs))]) (v := (some (.int (f_X7_isTelling bn (nI te))))) (st1 := [.int (f_X7_isTelling bn (nI te))]) (rest := []) (As := [.int (nI bb), .int (nI te)]) [0, 2] 0 7 hx hb hml hown hK (k_X7_isTelling l G mO mA mS mI mV mT mR mW mN me mz ma mr zs bb bn (nI te) hbb hbn hb2) (mf_X7_isTelling hK.2) (kw_766 hK.2) (kw_18 hK.2) (kw_764 hK.2) ⟨rfl, rfl, Nat.le_of_ble_eq_true rfl, Nat.le_of_ble_eq_true rfl⟩ rfl hP hD hS hA rfl rfl hl (Nat.le_of_ble_eq_true rfl) rfl ⟨Nat.le_of_ble_eq_true rfl, Nat.le_of_ble_eq_true rfl⟩ rfl dX7_tellingOf_3 rfl rfl (rpl_fast (by decide) rfl rfl) rfl rfl rfl (fun H locs hP hD hS => ?_)
  refine lv_if_ne (tgt := 17) hx hb dX7_tellingOf_6 (by decide) (fun _ => ?_) (fun c => absurd c (isTel hte hb2))
  refine lv_iload_n hx hb dX7_tellingOf_17 rfl (lv_at hl 3 rfl) ?_
  refine lv_iconst (v := 4) hx hb dX7_tellingOf_18 (by decide) ?_
  refine cl_S (ws' := [(mO, .inr (7, [.ref mA, .ref mS, .ref mI, .ref mV, .int me, .ref mT, .ref mR, .int (nI mz), .int (nI ma), .ref mW, .int (nI mr), .ref mN])), (mA, .inl (G.2.1, 7, .inl zf)), (mS, .inl (G.2.1, 259, .inl zs))]) (v := (some (.int (f_X7_isIn (nI wh) 4)))) (st1 := [.int (f_X7_isIn (nI wh) 4)]) (rest := []) (As := [.int (nI wh), .int 4]) [] hx hb hml hown hK (k_X7_isIn l G (nI wh) 4 ) (mf_X7_isIn hK.2) (kw_731 hK.2) (kw_730 hK.2) ⟨rfl, rfl, Nat.le_of_ble_eq_true rfl, Nat.le_of_ble_eq_true rfl⟩ rfl hP hD hS hA hl (Nat.le_of_ble_eq_true rfl) rfl ⟨Nat.le_of_ble_eq_true rfl, Nat.le_of_ble_eq_true rfl⟩ rfl dX7_tellingOf_19 rfl rfl rfl rfl rfl rfl (fun H locs hP hD hS => ?_)
  refine lv_if_eq (tgt := 35) hx hb dX7_tellingOf_22 (by decide) (fun c => absurd c (isIn4 hwh)) (fun _ => ?_)
  refine lv_aload_n hx hb dX7_tellingOf_25 rfl (lv_at hl 0 rfl) ?_
  refine lv_iload_n hx hb dX7_tellingOf_26 rfl (lv_at hl 1 rfl) ?_
  refine lv_iload_n hx hb dX7_tellingOf_27 rfl (lv_at hl 2 rfl) ?_
  refine lv_iload_n hx hb dX7_tellingOf_28 rfl (lv_at hl 3 rfl) ?_
  refine cl_V (q := (RX7, TX7, 12)) (ws' := [(mO, .inr (7, [.ref mA, .ref mS, .ref mI, .ref mV, .int me, .ref mT, .ref mR, .int (nI mz), .int (nI ma), .ref mW, .int (nI mr), .ref mN])), (mA, .inl (G.2.1, 7, .inl zf)), (mS, .inl (G.2.1, 259, .inl zs))]) (v := (some (.int (f_X7_get zs bb te wh)))) (st1 := [.int (f_X7_get zs bb te wh)]) (rest := []) (As := [.int (nI bb), .int (nI te), .int (nI wh)]) [0, 2] 0 7 hx hb hml hown hK (k_X7_get l G mO mA mS mI mV mT mR mW mN me mz ma mr zs bb te wh hbb (by omega) (by omega)) (mf_X7_get hK.2) (kw_758 hK.2) (kw_17 hK.2) (kw_756 hK.2) ⟨rfl, rfl, Nat.le_of_ble_eq_true rfl, Nat.le_of_ble_eq_true rfl⟩ rfl hP hD hS hA rfl rfl hl (Nat.le_of_ble_eq_true rfl) rfl ⟨Nat.le_of_ble_eq_true rfl, Nat.le_of_ble_eq_true rfl⟩ rfl dX7_tellingOf_29 rfl rfl (rpl_fast (by decide) rfl rfl) rfl rfl rfl (fun H locs hP hD hS => ?_)
  refine lv_goto (tgt := 41) hx hb dX7_tellingOf_32 (by decide) ?_
  exact hret (f_X7_get zs bb te wh, zf) dX7_tellingOf_41 rfl hf rfl hP hS
def f_X7_tellingOf_W (zf : Nat → Int32) : Int32 × (Nat → Int32) := ((f_X7_refuse zf (-2)).1, (f_X7_refuse zf (-2)).2)
set_option maxHeartbeats 4000000 in
set_option maxRecDepth 100000 in
theorem k_X7_tellingOf_W (l : Launch) (G : wG) (mO : Nat) (mA : Nat) (mS : Nat) (mI : Nat) (mV : Nat) (mT : Nat) (mR : Nat) (mW : Nat) (mN : Nat) (me : Int32) (mz : Nat) (ma : Nat) (mr : Nat) (zf : Nat → Int32) (zs : Nat → Int32) (bb : Nat) (bn : Nat) (te : Nat) (wh : Int32) (hbb : bb < 2) (hbn : zs (160 + bb) = nI bn) (hb2 : bn ≤ 20) (hte : te < bn) (hbad : f_X7_isIn wh 4 = 0) : CT l G yX7_tellingOf cX7_tellingOf 4 (some .int) ({ frames := 3, cells := 0, slots := 0, locals := 63 }) [.ref mO, .int (nI bb), .int (nI te), .int wh] [(mO, .inr (7, [.ref mA, .ref mS, .ref mI, .ref mV, .int me, .ref mT, .ref mR, .int (nI mz), .int (nI ma), .ref mW, .int (nI mr), .ref mN])), (mA, .inl (G.2.1, 7, .inl zf)), (mS, .inl (G.2.1, 259, .inl zs))] (fun u => [(mO, .inr (7, [.ref mA, .ref mS, .ref mI, .ref mV, .int me, .ref mT, .ref mR, .int (nI mz), .int (nI ma), .ref mW, .int (nI mr), .ref mN])), (mA, .inl (G.2.1, 7, .inl u.2)), (mS, .inl (G.2.1, 259, .inl zs))]) (fun u => some (.int u.1)) (f_X7_tellingOf_W zf) := by
  obtain ⟨R, hf⟩ : ∃ R, f_X7_tellingOf_W zf = R := ⟨_, rfl⟩
  rw [hf]
  refine CT.mkI RX7 (by decide +kernel) rfl (Nat.le_of_ble_eq_true rfl) ?_
  intro p e s m args below meth c A Q ls hx hb hml hown hK hP hD hS hA hret hl
  have hl : lv_has ls 4 [(0, .ref mO), (1, .int (nI bb)), (2, .int (nI te)), (3, .int wh)] := hl
  rw [f_X7_tellingOf_W] at hf
  refine lv_aload_n hx hb dX7_tellingOf_0 rfl (lv_at hl 0 rfl) ?_
  refine lv_iload_n hx hb dX7_tellingOf_1 rfl (lv_at hl 1 rfl) ?_
  refine lv_iload_n hx hb dX7_tellingOf_2 rfl (lv_at hl 2 rfl) ?_
  refine cl_V (q := (RX7, TX7, 12)) (ws' := [(mO, .inr (7, [.ref mA, .ref mS, .ref mI, .ref mV, .int me, .ref mT, .ref mR, .int (nI mz), .int (nI ma), .ref mW, .int (nI mr), .ref mN])), (mA, .inl (G.2.1, 7, .inl zf)), (mS, .inl (G.2.1, 259, .inl zs))]) (v := (some (.int (f_X7_isTelling bn (nI te))))) (st1 := [.int (f_X7_isTelling bn (nI te))]) (rest := []) (As := [.int (nI bb), .int (nI te)]) [0, 2] 0 7 hx hb hml hown hK (k_X7_isTelling l G mO mA mS mI mV mT mR mW mN me mz ma mr zs bb bn (nI te) hbb hbn hb2) (mf_X7_isTelling hK.2) (kw_766 hK.2) (kw_18 hK.2) (kw_764 hK.2) ⟨rfl, rfl, Nat.le_of_ble_eq_true rfl, Nat.le_of_ble_eq_true rfl⟩ rfl hP hD hS hA rfl rfl hl (Nat.le_of_ble_eq_true rfl) rfl ⟨Nat.le_of_ble_eq_true rfl, Nat.le_of_ble_eq_true rfl⟩ rfl dX7_tellingOf_3 rfl rfl (rpl_fast (by decide) rfl rfl) rfl rfl rfl (fun H locs hP hD hS => ?_)
  refine lv_if_ne (tgt := 17) hx hb dX7_tellingOf_6 (by decide) (fun _ => ?_) (fun c => absurd c (isTel hte hb2))
  refine lv_iload_n hx hb dX7_tellingOf_17 rfl (lv_at hl 3 rfl) ?_
  refine lv_iconst (v := 4) hx hb dX7_tellingOf_18 (by decide) ?_
  refine cl_S (ws' := [(mO, .inr (7, [.ref mA, .ref mS, .ref mI, .ref mV, .int me, .ref mT, .ref mR, .int (nI mz), .int (nI ma), .ref mW, .int (nI mr), .ref mN])), (mA, .inl (G.2.1, 7, .inl zf)), (mS, .inl (G.2.1, 259, .inl zs))]) (v := (some (.int (f_X7_isIn wh 4)))) (st1 := [.int (f_X7_isIn wh 4)]) (rest := []) (As := [.int wh, .int 4]) [] hx hb hml hown hK (k_X7_isIn l G wh 4 ) (mf_X7_isIn hK.2) (kw_731 hK.2) (kw_730 hK.2) ⟨rfl, rfl, Nat.le_of_ble_eq_true rfl, Nat.le_of_ble_eq_true rfl⟩ rfl hP hD hS hA hl (Nat.le_of_ble_eq_true rfl) rfl ⟨Nat.le_of_ble_eq_true rfl, Nat.le_of_ble_eq_true rfl⟩ rfl dX7_tellingOf_19 rfl rfl rfl rfl rfl rfl (fun H locs hP hD hS => ?_)
  refine lv_if_eq (tgt := 35) hx hb dX7_tellingOf_22 (by decide) (fun _ => ?_) (fun c => absurd hbad c)
  refine lv_aload_n hx hb dX7_tellingOf_35 rfl (lv_at hl 0 rfl) ?_
  refine lv_bipush (v := -2) hx hb dX7_tellingOf_36 (by decide) ?_
  refine cl_V (q := (RX7, TX7, 12)) (ws' := [(mO, .inr (7, [.ref mA, .ref mS, .ref mI, .ref mV, .int me, .ref mT, .ref mR, .int (nI mz), .int (nI ma), .ref mW, .int (nI mr), .ref mN])), (mA, .inl (G.2.1, 7, .inl ((f_X7_refuse zf (-2)).2))), (mS, .inl (G.2.1, 259, .inl zs))]) (v := (some (.int ((f_X7_refuse zf (-2)).1)))) (st1 := [.int ((f_X7_refuse zf (-2)).1)]) (rest := []) (As := [.int (-2)]) [0, 1] 0 7 hx hb hml hown hK (k_X7_refuse l G mO mA mS mI mV mT mR mW mN me mz ma mr zf (-2) vp7_2) (mf_X7_refuse hK.2) (kw_720 hK.2) (kw_11 hK.2) (kw_718 hK.2) ⟨rfl, rfl, Nat.le_of_ble_eq_true rfl, Nat.le_of_ble_eq_true rfl⟩ rfl hP hD hS hA rfl rfl hl (Nat.le_of_ble_eq_true rfl) rfl ⟨Nat.le_of_ble_eq_true rfl, Nat.le_of_ble_eq_true rfl⟩ rfl dX7_tellingOf_38 rfl rfl (rpl_fast (by decide) rfl rfl) rfl rfl rfl (fun H locs hP hD hS => ?_)
  exact hret ((f_X7_refuse zf (-2)).1, (f_X7_refuse zf (-2)).2) dX7_tellingOf_41 rfl hf rfl hP hS
def f_X7_tellingOf_T (zf : Nat → Int32) : Int32 × (Nat → Int32) := ((f_X7_refuse zf (-1)).1, (f_X7_refuse zf (-1)).2)
set_option maxHeartbeats 4000000 in
set_option maxRecDepth 100000 in
theorem k_X7_tellingOf_T (l : Launch) (G : wG) (mO : Nat) (mA : Nat) (mS : Nat) (mI : Nat) (mV : Nat) (mT : Nat) (mR : Nat) (mW : Nat) (mN : Nat) (me : Int32) (mz : Nat) (ma : Nat) (mr : Nat) (zf : Nat → Int32) (zs : Nat → Int32) (bb : Nat) (bn : Nat) (te : Int32) (wh : Int32) (hbb : bb < 2) (hbn : zs (160 + bb) = nI bn) (hb2 : bn ≤ 20) (hbad : f_X7_isTelling bn te = 0) : CT l G yX7_tellingOf cX7_tellingOf 4 (some .int) ({ frames := 3, cells := 0, slots := 0, locals := 63 }) [.ref mO, .int (nI bb), .int te, .int wh] [(mO, .inr (7, [.ref mA, .ref mS, .ref mI, .ref mV, .int me, .ref mT, .ref mR, .int (nI mz), .int (nI ma), .ref mW, .int (nI mr), .ref mN])), (mA, .inl (G.2.1, 7, .inl zf)), (mS, .inl (G.2.1, 259, .inl zs))] (fun u => [(mO, .inr (7, [.ref mA, .ref mS, .ref mI, .ref mV, .int me, .ref mT, .ref mR, .int (nI mz), .int (nI ma), .ref mW, .int (nI mr), .ref mN])), (mA, .inl (G.2.1, 7, .inl u.2)), (mS, .inl (G.2.1, 259, .inl zs))]) (fun u => some (.int u.1)) (f_X7_tellingOf_T zf) := by
  obtain ⟨R, hf⟩ : ∃ R, f_X7_tellingOf_T zf = R := ⟨_, rfl⟩
  rw [hf]
  refine CT.mkI RX7 (by decide +kernel) rfl (Nat.le_of_ble_eq_true rfl) ?_
  intro p e s m args below meth c A Q ls hx hb hml hown hK hP hD hS hA hret hl
  have hl : lv_has ls 4 [(0, .ref mO), (1, .int (nI bb)), (2, .int te), (3, .int wh)] := hl
  rw [f_X7_tellingOf_T] at hf
  refine lv_aload_n hx hb dX7_tellingOf_0 rfl (lv_at hl 0 rfl) ?_
  refine lv_iload_n hx hb dX7_tellingOf_1 rfl (lv_at hl 1 rfl) ?_
  refine lv_iload_n hx hb dX7_tellingOf_2 rfl (lv_at hl 2 rfl) ?_
  refine cl_V (q := (RX7, TX7, 12)) (ws' := [(mO, .inr (7, [.ref mA, .ref mS, .ref mI, .ref mV, .int me, .ref mT, .ref mR, .int (nI mz), .int (nI ma), .ref mW, .int (nI mr), .ref mN])), (mA, .inl (G.2.1, 7, .inl zf)), (mS, .inl (G.2.1, 259, .inl zs))]) (v := (some (.int (f_X7_isTelling bn te)))) (st1 := [.int (f_X7_isTelling bn te)]) (rest := []) (As := [.int (nI bb), .int te]) [0, 2] 0 7 hx hb hml hown hK (k_X7_isTelling l G mO mA mS mI mV mT mR mW mN me mz ma mr zs bb bn te hbb hbn hb2) (mf_X7_isTelling hK.2) (kw_766 hK.2) (kw_18 hK.2) (kw_764 hK.2) ⟨rfl, rfl, Nat.le_of_ble_eq_true rfl, Nat.le_of_ble_eq_true rfl⟩ rfl hP hD hS hA rfl rfl hl (Nat.le_of_ble_eq_true rfl) rfl ⟨Nat.le_of_ble_eq_true rfl, Nat.le_of_ble_eq_true rfl⟩ rfl dX7_tellingOf_3 rfl rfl (rpl_fast (by decide) rfl rfl) rfl rfl rfl (fun H locs hP hD hS => ?_)
  refine lv_if_ne (tgt := 17) hx hb dX7_tellingOf_6 (by decide) (fun c => absurd hbad c) (fun _ => ?_)
  refine lv_aload_n hx hb dX7_tellingOf_9 rfl (lv_at hl 0 rfl) ?_
  refine lv_iconst (v := -1) hx hb dX7_tellingOf_10 (by decide) ?_
  refine cl_V (q := (RX7, TX7, 12)) (ws' := [(mO, .inr (7, [.ref mA, .ref mS, .ref mI, .ref mV, .int me, .ref mT, .ref mR, .int (nI mz), .int (nI ma), .ref mW, .int (nI mr), .ref mN])), (mA, .inl (G.2.1, 7, .inl ((f_X7_refuse zf (-1)).2))), (mS, .inl (G.2.1, 259, .inl zs))]) (v := (some (.int ((f_X7_refuse zf (-1)).1)))) (st1 := [.int ((f_X7_refuse zf (-1)).1)]) (rest := []) (As := [.int (-1)]) [0, 1] 0 7 hx hb hml hown hK (k_X7_refuse l G mO mA mS mI mV mT mR mW mN me mz ma mr zf (-1) vp7_1) (mf_X7_refuse hK.2) (kw_720 hK.2) (kw_11 hK.2) (kw_718 hK.2) ⟨rfl, rfl, Nat.le_of_ble_eq_true rfl, Nat.le_of_ble_eq_true rfl⟩ rfl hP hD hS hA rfl rfl hl (Nat.le_of_ble_eq_true rfl) rfl ⟨Nat.le_of_ble_eq_true rfl, Nat.le_of_ble_eq_true rfl⟩ rfl dX7_tellingOf_11 rfl rfl (rpl_fast (by decide) rfl rfl) rfl rfl rfl (fun H locs hP hD hS => ?_)
  refine lv_goto (tgt := 41) hx hb dX7_tellingOf_14 (by decide) ?_
  exact hret ((f_X7_refuse zf (-1)).1, (f_X7_refuse zf (-1)).2) dX7_tellingOf_41 rfl hf rfl hP hS
def f_X7_tellingOf_A (zf : Nat → Int32) : Int32 × (Nat → Int32) := ((f_X7_refuse zf (-1)).1, (f_X7_refuse zf (-1)).2)
set_option maxHeartbeats 4000000 in
set_option maxRecDepth 100000 in
theorem k_X7_tellingOf_A (l : Launch) (G : wG) (mO : Nat) (mA : Nat) (mS : Nat) (mI : Nat) (mV : Nat) (mT : Nat) (mR : Nat) (mW : Nat) (mN : Nat) (me : Int32) (mz : Nat) (ma : Nat) (mr : Nat) (zf : Nat → Int32) (bo : Int32) (te : Int32) (wh : Int32) (hbad : f_X7_isBook bo = 0) : CT l G yX7_tellingOf cX7_tellingOf 4 (some .int) ({ frames := 3, cells := 0, slots := 0, locals := 63 }) [.ref mO, .int bo, .int te, .int wh] [(mO, .inr (7, [.ref mA, .ref mS, .ref mI, .ref mV, .int me, .ref mT, .ref mR, .int (nI mz), .int (nI ma), .ref mW, .int (nI mr), .ref mN])), (mA, .inl (G.2.1, 7, .inl zf))] (fun u => [(mO, .inr (7, [.ref mA, .ref mS, .ref mI, .ref mV, .int me, .ref mT, .ref mR, .int (nI mz), .int (nI ma), .ref mW, .int (nI mr), .ref mN])), (mA, .inl (G.2.1, 7, .inl u.2))]) (fun u => some (.int u.1)) (f_X7_tellingOf_A zf) := by
  obtain ⟨R, hf⟩ : ∃ R, f_X7_tellingOf_A zf = R := ⟨_, rfl⟩
  rw [hf]
  refine CT.mkI RX7 (by decide +kernel) rfl (Nat.le_of_ble_eq_true rfl) ?_
  intro p e s m args below meth c A Q ls hx hb hml hown hK hP hD hS hA hret hl
  have hl : lv_has ls 4 [(0, .ref mO), (1, .int bo), (2, .int te), (3, .int wh)] := hl
  rw [f_X7_tellingOf_A] at hf
  refine lv_aload_n hx hb dX7_tellingOf_0 rfl (lv_at hl 0 rfl) ?_
  refine lv_iload_n hx hb dX7_tellingOf_1 rfl (lv_at hl 1 rfl) ?_
  refine lv_iload_n hx hb dX7_tellingOf_2 rfl (lv_at hl 2 rfl) ?_
  refine cl_V (q := (RX7, TX7, 12)) (ws' := [(mO, .inr (7, [.ref mA, .ref mS, .ref mI, .ref mV, .int me, .ref mT, .ref mR, .int (nI mz), .int (nI ma), .ref mW, .int (nI mr), .ref mN])), (mA, .inl (G.2.1, 7, .inl zf))]) (v := (some (.int f_X7_isTelling_A))) (st1 := [.int f_X7_isTelling_A]) (rest := []) (As := [.int bo, .int te]) [0] 0 7 hx hb hml hown hK (k_X7_isTelling_A l G mO mA mS mI mV mT mR mW mN me mz ma mr bo te hbad) (mf_X7_isTelling hK.2) (kw_766 hK.2) (kw_18 hK.2) (kw_764 hK.2) ⟨rfl, rfl, Nat.le_of_ble_eq_true rfl, Nat.le_of_ble_eq_true rfl⟩ rfl hP hD hS hA rfl rfl hl (Nat.le_of_ble_eq_true rfl) rfl ⟨Nat.le_of_ble_eq_true rfl, Nat.le_of_ble_eq_true rfl⟩ rfl dX7_tellingOf_3 rfl rfl (rpl_fast (by decide) rfl rfl) rfl rfl rfl (fun H locs hP hD hS => ?_)
  refine lv_if_ne (tgt := 17) hx hb dX7_tellingOf_6 (by decide) (fun c => absurd rfl c) (fun _ => ?_)
  refine lv_aload_n hx hb dX7_tellingOf_9 rfl (lv_at hl 0 rfl) ?_
  refine lv_iconst (v := -1) hx hb dX7_tellingOf_10 (by decide) ?_
  refine cl_V (q := (RX7, TX7, 12)) (ws' := [(mO, .inr (7, [.ref mA, .ref mS, .ref mI, .ref mV, .int me, .ref mT, .ref mR, .int (nI mz), .int (nI ma), .ref mW, .int (nI mr), .ref mN])), (mA, .inl (G.2.1, 7, .inl ((f_X7_refuse zf (-1)).2)))]) (v := (some (.int ((f_X7_refuse zf (-1)).1)))) (st1 := [.int ((f_X7_refuse zf (-1)).1)]) (rest := []) (As := [.int (-1)]) [0, 1] 0 7 hx hb hml hown hK (k_X7_refuse l G mO mA mS mI mV mT mR mW mN me mz ma mr zf (-1) vp7_1) (mf_X7_refuse hK.2) (kw_720 hK.2) (kw_11 hK.2) (kw_718 hK.2) ⟨rfl, rfl, Nat.le_of_ble_eq_true rfl, Nat.le_of_ble_eq_true rfl⟩ rfl hP hD hS hA rfl rfl hl (Nat.le_of_ble_eq_true rfl) rfl ⟨Nat.le_of_ble_eq_true rfl, Nat.le_of_ble_eq_true rfl⟩ rfl dX7_tellingOf_11 rfl rfl (rpl_fast (by decide) rfl rfl) rfl rfl rfl (fun H locs hP hD hS => ?_)
  refine lv_goto (tgt := 41) hx hb dX7_tellingOf_14 (by decide) ?_
  exact hret ((f_X7_refuse zf (-1)).1, (f_X7_refuse zf (-1)).2) dX7_tellingOf_41 rfl hf rfl hP hS
def f_X7_change_109 (mz : Nat) (zf : Nat → Int32) (zt : Nat → Int32) (zr : Nat → Int32) (cn : Nat) : Nat → Nat → (Nat → Int32) → (Int32 × (Nat → Int32) × (Nat → Int32) × (Nat → Int32) × Nat × Nat)
  | 0, i109, s109 => ((nI (cn + 1)) - (1 : Int32), zf, upd s109 258 (nI (cn + 1)), (f_X7_fault mz zt zr).2.1, (f_X7_fault mz zt zr).2.2.1, (f_X7_fault mz zt zr).2.2.2)
  | k109 + 1, i109, s109 => f_X7_change_109 mz zf zt zr cn k109 (i109 + 1) (upd s109 (234 + (6 * cn) + 2 + i109) (((f_X7_fault mz zt zr).2.1) i109))
theorem f_X7_change_109_z (mz : Nat) (zf : Nat → Int32) (zt : Nat → Int32) (zr : Nat → Int32) (cn : Nat) (i109 : Nat) (s109 : Nat → Int32) : f_X7_change_109 mz zf zt zr cn 0 i109 s109 = ((nI (cn + 1)) - (1 : Int32), zf, upd s109 258 (nI (cn + 1)), (f_X7_fault mz zt zr).2.1, (f_X7_fault mz zt zr).2.2.1, (f_X7_fault mz zt zr).2.2.2) := rfl
theorem f_X7_change_109_s (mz : Nat) (zf : Nat → Int32) (zt : Nat → Int32) (zr : Nat → Int32) (cn : Nat) (k109 : Nat) (i109 : Nat) (s109 : Nat → Int32) : f_X7_change_109 mz zf zt zr cn (k109 + 1) i109 s109 = f_X7_change_109 mz zf zt zr cn k109 (i109 + 1) (upd s109 (234 + (6 * cn) + 2 + i109) (((f_X7_fault mz zt zr).2.1) i109)) := rfl
def f_X7_change (mz : Nat) (ma : Nat) (zf : Nat → Int32) (zs : Nat → Int32) (zt : Nat → Int32) (zr : Nat → Int32) (bb : Nat) (te : Nat) (cn : Nat) : Int32 × (Nat → Int32) × (Nat → Int32) × (Nat → Int32) × Nat × Nat := (if (nI cn) = 4 then ((f_X7_refuse zf (-6)).1, (f_X7_refuse zf (-6)).2, zs, zr, ma, mz) else (if ((f_X7_fault mz zt zr).1) < 0 then (if (((f_X7_fault mz zt zr).2.1) 0) = (f_X7_get zs bb te 0) then (f_X7_change_109 mz zf zt zr cn 4 0 (upd (upd zs (234 + (6 * cn)) (nI bb)) (234 + (6 * cn) + 1) (nI te))) else ((f_X7_refuse zf (-3)).1, (f_X7_refuse zf (-3)).2, zs, (f_X7_fault mz zt zr).2.1, (f_X7_fault mz zt zr).2.2.1, (f_X7_fault mz zt zr).2.2.2)) else ((-20 : Int32) - ((f_X7_fault mz zt zr).1), zf, zs, (f_X7_fault mz zt zr).2.1, (f_X7_fault mz zt zr).2.2.1, (f_X7_fault mz zt zr).2.2.2)))
set_option maxHeartbeats 4000000 in
set_option maxRecDepth 100000 in
theorem k_X7_change (l : Launch) (G : wG) (mO : Nat) (mA : Nat) (mS : Nat) (mI : Nat) (mV : Nat) (mT : Nat) (mR : Nat) (mW : Nat) (mN : Nat) (me : Int32) (mz : Nat) (ma : Nat) (mr : Nat) (zf : Nat → Int32) (zs : Nat → Int32) (zt : Nat → Int32) (zr : Nat → Int32) (bb : Nat) (bn : Nat) (te : Nat) (cn : Nat) (hbb : bb < 2) (hbn : zs (160 + bb) = nI bn) (hb2 : bn ≤ 20) (hte : te < bn) (hcn : zs 258 = nI cn) (hc4 : cn ≤ 4) (hmz : mz ≤ 10) : CT l G yX7_change cX7_change 6 (some .int) ({ frames := 4, cells := 0, slots := 0, locals := 83 }) [.ref mO, .int (nI bb), .int (nI te)] [(mO, .inr (7, [.ref mA, .ref mS, .ref mI, .ref mV, .int me, .ref mT, .ref mR, .int (nI mz), .int (nI ma), .ref mW, .int (nI mr), .ref mN])), (mA, .inl (G.2.1, 7, .inl zf)), (mS, .inl (G.2.1, 259, .inl zs)), (mT, .inl (G.2.1, 10, .inl zt)), (mR, .inl (G.2.1, 4, .inl zr))] (fun u => [(mO, .inr (7, [.ref mA, .ref mS, .ref mI, .ref mV, .int me, .ref mT, .ref mR, .int (nI u.2.2.2.2.2), .int (nI u.2.2.2.2.1), .ref mW, .int (nI mr), .ref mN])), (mA, .inl (G.2.1, 7, .inl u.2.1)), (mS, .inl (G.2.1, 259, .inl u.2.2.1)), (mT, .inl (G.2.1, 10, .inl zt)), (mR, .inl (G.2.1, 4, .inl u.2.2.2.1))]) (fun u => some (.int u.1)) (f_X7_change mz ma zf zs zt zr bb te cn) := by
  obtain ⟨R, hf⟩ : ∃ R, f_X7_change mz ma zf zs zt zr bb te cn = R := ⟨_, rfl⟩
  rw [hf]
  refine CT.mkI RX7 (by decide +kernel) rfl (Nat.le_of_ble_eq_true rfl) ?_
  intro p e s m args below meth c A Q ls hx hb hml hown hK hP hD hS hA hret hl
  have hl : lv_has ls 6 [(0, .ref mO), (1, .int (nI bb)), (2, .int (nI te))] := hl
  rw [f_X7_change] at hf
  refine lv_aload_n hx hb dX7_change_0 rfl (lv_at hl 0 rfl) ?_
  refine lv_iload_n hx hb dX7_change_1 rfl (lv_at hl 1 rfl) ?_
  refine lv_iload_n hx hb dX7_change_2 rfl (lv_at hl 2 rfl) ?_
  refine cl_V (q := (RX7, TX7, 12)) (ws' := [(mO, .inr (7, [.ref mA, .ref mS, .ref mI, .ref mV, .int me, .ref mT, .ref mR, .int (nI mz), .int (nI ma), .ref mW, .int (nI mr), .ref mN])), (mA, .inl (G.2.1, 7, .inl zf)), (mS, .inl (G.2.1, 259, .inl zs)), (mT, .inl (G.2.1, 10, .inl zt)), (mR, .inl (G.2.1, 4, .inl zr))]) (v := (some (.int (f_X7_isTelling bn (nI te))))) (st1 := [.int (f_X7_isTelling bn (nI te))]) (rest := []) (As := [.int (nI bb), .int (nI te)]) [0, 2] 0 7 hx hb hml hown hK (k_X7_isTelling l G mO mA mS mI mV mT mR mW mN me mz ma mr zs bb bn (nI te) hbb hbn hb2) (mf_X7_isTelling hK.2) (kw_766 hK.2) (kw_18 hK.2) (kw_764 hK.2) ⟨rfl, rfl, Nat.le_of_ble_eq_true rfl, Nat.le_of_ble_eq_true rfl⟩ rfl hP hD hS hA rfl rfl hl (Nat.le_of_ble_eq_true rfl) rfl ⟨Nat.le_of_ble_eq_true rfl, Nat.le_of_ble_eq_true rfl⟩ rfl dX7_change_3 rfl rfl (rpl_fast (by decide) rfl rfl) rfl rfl rfl (fun H locs hP hD hS => ?_)
  refine lv_if_ne (tgt := 15) hx hb dX7_change_6 (by decide) (fun _ => ?_) (fun c => absurd c (isTel hte hb2))
  refine lv_aload_n hx hb dX7_change_15 rfl (lv_at hl 0 rfl) ?_
  refine va_get (D := G.1) (ci := 7) (v := .ref mS) (C := RX7) (T := TX7) (N := 12) hx hb (ku_X7 hK.2) (fun _ h9 => h9) hown hK.1 hP 0 rfl rfl 1 (by decide) (kw_678 hK.2) (fun _ h9 => h9) rfl dX7_change_16 ?_
  refine lv_sipush (v := 258) hx hb dX7_change_19 (by decide) ?_
  refine ww_e (rfl : (258 : Int32) = nI 258) ?_
  refine ww_ild (j := 258) hx hb hK.1 hP 2 0 rfl rfl (by omega) (by omega) dX7_change_22 ?_
  refine ww_e hcn ?_
  refine lv_iconst (v := 4) hx hb dX7_change_23 (by decide) ?_
  refine lv_icmp_ne (tgt := 34) hx hb dX7_change_24 (by decide) (fun c1 => ?_) (fun c1 => ?_)
  · have hf := (if_neg c1).symm.trans hf
    refine lv_aload_n hx hb dX7_change_34 rfl (lv_at hl 0 rfl) ?_
    refine cl_V (q := (RX7, TX7, 12)) (ws' := [(mO, .inr (7, [.ref mA, .ref mS, .ref mI, .ref mV, .int me, .ref mT, .ref mR, .int (nI ((f_X7_fault mz zt zr).2.2.2)), .int (nI ((f_X7_fault mz zt zr).2.2.1)), .ref mW, .int (nI mr), .ref mN])), (mA, .inl (G.2.1, 7, .inl zf)), (mS, .inl (G.2.1, 259, .inl zs)), (mT, .inl (G.2.1, 10, .inl zt)), (mR, .inl (G.2.1, 4, .inl ((f_X7_fault mz zt zr).2.1)))]) (v := (some (.int ((f_X7_fault mz zt zr).1)))) (st1 := [.int ((f_X7_fault mz zt zr).1)]) (rest := []) (As := []) [0, 3, 4] 0 7 hx hb hml hown hK (k_X7_fault l G mO mA mS mI mV mT mR mW mN me mz ma mr zt zr hmz) (mf_X7_fault hK.2) (kw_735 hK.2) (kw_12 hK.2) (kw_733 hK.2) ⟨rfl, rfl, Nat.le_of_ble_eq_true rfl, Nat.le_of_ble_eq_true rfl⟩ rfl hP hD hS hA rfl rfl hl (Nat.le_of_ble_eq_true rfl) rfl ⟨Nat.le_of_ble_eq_true rfl, Nat.le_of_ble_eq_true rfl⟩ rfl dX7_change_35 rfl rfl (rpl_fast (by decide) rfl rfl) rfl rfl rfl (fun H locs hP hD hS => ?_)
    refine lv_istore_n (lv' := [(3, .int ((f_X7_fault mz zt zr).1)), (0, .ref mO), (1, .int (nI bb)), (2, .int (nI te))]) hx hb dX7_change_38 rfl hl (by decide) rfl (fun ls hl => ?_)
    refine lv_iload_n hx hb dX7_change_39 rfl (lv_at hl 0 rfl) ?_
    refine lv_if_lt (tgt := 48) hx hb dX7_change_40 (by decide) (fun c2 => ?_) (fun c2 => ?_)
    · have hf := (if_pos c2).symm.trans hf
      refine lv_aload_n hx hb dX7_change_48 rfl (lv_at hl 1 rfl) ?_
      refine va_get (D := G.1) (ci := 7) (v := .ref mR) (C := RX7) (T := TX7) (N := 12) hx hb (ku_X7 hK.2) (fun _ h9 => h9) hown hK.1 hP 0 rfl rfl 6 (by decide) (kw_683 hK.2) (fun _ h9 => h9) rfl dX7_change_49 ?_
      refine lv_iconst (v := 0) hx hb dX7_change_52 (by decide) ?_
      refine ww_e (rfl : (0 : Int32) = nI 0) ?_
      refine ww_ild (j := 0) hx hb hK.1 hP 4 0 rfl rfl (by omega) (by omega) dX7_change_53 ?_
      refine lv_aload_n hx hb dX7_change_54 rfl (lv_at hl 1 rfl) ?_
      refine lv_iload_n hx hb dX7_change_55 rfl (lv_at hl 2 rfl) ?_
      refine lv_iload_n hx hb dX7_change_56 rfl (lv_at hl 3 rfl) ?_
      refine lv_iconst (v := 0) hx hb dX7_change_57 (by decide) ?_
      refine cl_V (q := (RX7, TX7, 12)) (ws' := [(mO, .inr (7, [.ref mA, .ref mS, .ref mI, .ref mV, .int me, .ref mT, .ref mR, .int (nI ((f_X7_fault mz zt zr).2.2.2)), .int (nI ((f_X7_fault mz zt zr).2.2.1)), .ref mW, .int (nI mr), .ref mN])), (mA, .inl (G.2.1, 7, .inl zf)), (mS, .inl (G.2.1, 259, .inl zs)), (mT, .inl (G.2.1, 10, .inl zt)), (mR, .inl (G.2.1, 4, .inl ((f_X7_fault mz zt zr).2.1)))]) (v := (some (.int (f_X7_get zs bb te 0)))) (st1 := [.int (f_X7_get zs bb te 0), .int (((f_X7_fault mz zt zr).2.1) 0)]) (rest := [.int (((f_X7_fault mz zt zr).2.1) 0)]) (As := [.int (nI bb), .int (nI te), .int 0]) [0, 2] 0 7 hx hb hml hown hK (k_X7_get l G mO mA mS mI mV mT mR mW mN me ((f_X7_fault mz zt zr).2.2.2) ((f_X7_fault mz zt zr).2.2.1) mr zs bb te 0 hbb (by omega) (by omega)) (mf_X7_get hK.2) (kw_758 hK.2) (kw_17 hK.2) (kw_756 hK.2) ⟨rfl, rfl, Nat.le_of_ble_eq_true rfl, Nat.le_of_ble_eq_true rfl⟩ rfl hP hD hS hA rfl rfl hl (Nat.le_of_ble_eq_true rfl) rfl ⟨Nat.le_of_ble_eq_true rfl, Nat.le_of_ble_eq_true rfl⟩ rfl dX7_change_58 rfl rfl (rpl_fast (by decide) rfl rfl) rfl rfl rfl (fun H locs hP hD hS => ?_)
      refine lv_icmp_eq (tgt := 71) hx hb dX7_change_61 (by decide) (fun c3 => ?_) (fun c3 => ?_)
      · have hf := (if_pos c3).symm.trans hf
        have qc : cn < 4 := lt4 hc4 (by assumption)
        refine lv_sipush (v := 234) hx hb dX7_change_71 (by decide) ?_
        refine lv_bipush (v := 6) hx hb dX7_change_74 (by decide) ?_
        refine lv_aload_n hx hb dX7_change_76 rfl (lv_at hl 1 rfl) ?_
        refine va_get (D := G.1) (ci := 7) (v := .ref mS) (C := RX7) (T := TX7) (N := 12) hx hb (ku_X7 hK.2) (fun _ h9 => h9) hown hK.1 hP 0 rfl rfl 1 (by decide) (kw_678 hK.2) (fun _ h9 => h9) rfl dX7_change_77 ?_
        refine lv_sipush (v := 258) hx hb dX7_change_80 (by decide) ?_
        refine ww_e (rfl : (258 : Int32) = nI 258) ?_
        refine ww_ild (j := 258) hx hb hK.1 hP 2 0 rfl rfl (by omega) (by omega) dX7_change_83 ?_
        refine ww_e hcn ?_
        refine lv_imul hx hb dX7_change_84 ?_
        refine ww_e (nI_mulE (a := 6) (b := cn) rfl rfl) ?_
        refine lv_iadd hx hb dX7_change_85 ?_
        refine ww_e (nI_addE (a := 234) (b := 6 * cn) rfl rfl) ?_
        refine lv_istore (lv' := [(4, .int (nI (234 + (6 * cn)))), (3, .int ((f_X7_fault mz zt zr).1)), (0, .ref mO), (1, .int (nI bb)), (2, .int (nI te))]) hx hb dX7_change_86 hl (by decide) rfl (fun ls hl => ?_)
        refine lv_aload_n hx hb dX7_change_88 rfl (lv_at hl 2 rfl) ?_
        refine va_get (D := G.1) (ci := 7) (v := .ref mS) (C := RX7) (T := TX7) (N := 12) hx hb (ku_X7 hK.2) (fun _ h9 => h9) hown hK.1 hP 0 rfl rfl 1 (by decide) (kw_678 hK.2) (fun _ h9 => h9) rfl dX7_change_89 ?_
        refine lv_iload hx hb dX7_change_92 (lv_at hl 0 rfl) ?_
        refine lv_iload_n hx hb dX7_change_94 rfl (lv_at hl 3 rfl) ?_
        refine ww_ist (j := 234 + (6 * cn)) hx hb hK.1 hP hD hS 2 0 rfl rfl (by omega) (by omega) dX7_change_95 (fun H locs hP hD hS => ?_)
        have hP : va_P G.1 wcl [(mO, .inr (7, [.ref mA, .ref mS, .ref mI, .ref mV, .int me, .ref mT, .ref mR, .int (nI ((f_X7_fault mz zt zr).2.2.2)), .int (nI ((f_X7_fault mz zt zr).2.2.1)), .ref mW, .int (nI mr), .ref mN])), (mA, .inl (G.2.1, 7, .inl zf)), (mS, .inl (G.2.1, 259, .inl (upd zs (234 + (6 * cn)) (nI bb)))), (mT, .inl (G.2.1, 10, .inl zt)), (mR, .inl (G.2.1, 4, .inl ((f_X7_fault mz zt zr).2.1)))] H := hP
        have hD : va_D A [(mO, .inr (7, [.ref mA, .ref mS, .ref mI, .ref mV, .int me, .ref mT, .ref mR, .int (nI ((f_X7_fault mz zt zr).2.2.2)), .int (nI ((f_X7_fault mz zt zr).2.2.1)), .ref mW, .int (nI mr), .ref mN])), (mA, .inl (G.2.1, 7, .inl zf)), (mS, .inl (G.2.1, 259, .inl (upd zs (234 + (6 * cn)) (nI bb)))), (mT, .inl (G.2.1, 10, .inl zt)), (mR, .inl (G.2.1, 4, .inl ((f_X7_fault mz zt zr).2.1)))] := hD
        refine lv_aload_n hx hb dX7_change_96 rfl (lv_at hl 2 rfl) ?_
        refine va_get (D := G.1) (ci := 7) (v := .ref mS) (C := RX7) (T := TX7) (N := 12) hx hb (ku_X7 hK.2) (fun _ h9 => h9) hown hK.1 hP 0 rfl rfl 1 (by decide) (kw_678 hK.2) (fun _ h9 => h9) rfl dX7_change_97 ?_
        refine lv_iload hx hb dX7_change_100 (lv_at hl 0 rfl) ?_
        refine lv_iconst (v := 1) hx hb dX7_change_102 (by decide) ?_
        refine lv_iadd hx hb dX7_change_103 ?_
        refine ww_e (nI_addE (a := 234 + (6 * cn)) (b := 1) rfl rfl) ?_
        refine lv_iload_n hx hb dX7_change_104 rfl (lv_at hl 4 rfl) ?_
        refine ww_ist (j := 234 + (6 * cn) + 1) hx hb hK.1 hP hD hS 2 0 rfl rfl (by omega) (by omega) dX7_change_105 (fun H locs hP hD hS => ?_)
        have hP : va_P G.1 wcl [(mO, .inr (7, [.ref mA, .ref mS, .ref mI, .ref mV, .int me, .ref mT, .ref mR, .int (nI ((f_X7_fault mz zt zr).2.2.2)), .int (nI ((f_X7_fault mz zt zr).2.2.1)), .ref mW, .int (nI mr), .ref mN])), (mA, .inl (G.2.1, 7, .inl zf)), (mS, .inl (G.2.1, 259, .inl (upd (upd zs (234 + (6 * cn)) (nI bb)) (234 + (6 * cn) + 1) (nI te)))), (mT, .inl (G.2.1, 10, .inl zt)), (mR, .inl (G.2.1, 4, .inl ((f_X7_fault mz zt zr).2.1)))] H := hP
        have hD : va_D A [(mO, .inr (7, [.ref mA, .ref mS, .ref mI, .ref mV, .int me, .ref mT, .ref mR, .int (nI ((f_X7_fault mz zt zr).2.2.2)), .int (nI ((f_X7_fault mz zt zr).2.2.1)), .ref mW, .int (nI mr), .ref mN])), (mA, .inl (G.2.1, 7, .inl zf)), (mS, .inl (G.2.1, 259, .inl (upd (upd zs (234 + (6 * cn)) (nI bb)) (234 + (6 * cn) + 1) (nI te)))), (mT, .inl (G.2.1, 10, .inl zt)), (mR, .inl (G.2.1, 4, .inl ((f_X7_fault mz zt zr).2.1)))] := hD
        refine lv_iconst (v := 0) hx hb dX7_change_106 (by decide) ?_
        refine lv_istore (lv' := [(5, .int 0), (4, .int (nI (234 + (6 * cn)))), (3, .int ((f_X7_fault mz zt zr).1)), (0, .ref mO), (1, .int (nI bb)), (2, .int (nI te))]) hx hb dX7_change_107 hl (by decide) rfl (fun ls hl => ?_)
        have L109 : ∀ (k109 : Nat) (i109 : Nat) (s109 : Nat → Int32), k109 + i109 = 4 → (s109 258 = nI cn) → f_X7_change_109 mz zf zt zr cn k109 i109 s109 = R → ∀ (H : Heap) (locs : List Loc) (ls : Array Slot), va_P G.1 wcl [(mO, .inr (7, [.ref mA, .ref mS, .ref mI, .ref mV, .int me, .ref mT, .ref mR, .int (nI ((f_X7_fault mz zt zr).2.2.2)), .int (nI ((f_X7_fault mz zt zr).2.2.1)), .ref mW, .int (nI mr), .ref mN])), (mA, .inl (G.2.1, 7, .inl zf)), (mS, .inl (G.2.1, 259, .inl s109)), (mT, .inl (G.2.1, 10, .inl zt)), (mR, .inl (G.2.1, 4, .inl ((f_X7_fault mz zt zr).2.1)))] H → va_D A [(mO, .inr (7, [.ref mA, .ref mS, .ref mI, .ref mV, .int me, .ref mT, .ref mR, .int (nI ((f_X7_fault mz zt zr).2.2.2)), .int (nI ((f_X7_fault mz zt zr).2.2.1)), .ref mW, .int (nI mr), .ref mN])), (mA, .inl (G.2.1, 7, .inl zf)), (mS, .inl (G.2.1, 259, .inl s109)), (mT, .inl (G.2.1, 10, .inl zt)), (mR, .inl (G.2.1, 4, .inl ((f_X7_fault mz zt zr).2.1)))] → va_S A s.heap H locs → lv_has ls 6 [(0, .ref mO), (4, .int (nI (234 + (6 * cn)))), (5, .int (nI i109))] → W p l e ({ frames := 4, cells := 0, slots := 0, locals := 83 }) s m args below meth c H locs 0 0 Q (F0 m 109 ls []) := by
          intro k109
          induction k109 with
          | zero =>
            intro i109 s109 hi109 hsn hf _ _ ls hP hD hS hl
            rw [f_X7_change_109_z] at hf
            refine lv_iload hx hb dX7_change_109 (lv_at hl 2 rfl) ?_
            refine lv_iconst (v := 4) hx hb dX7_change_111 (by decide) ?_
            refine lv_icmp_ge (tgt := 140) hx hb dX7_change_112 (by decide) (fun _ => ?_) (fun c => absurd (ile (a := 4) (b := i109) rfl rfl (by omega) (by omega) (by omega)) c)
            refine lv_aload_n hx hb dX7_change_140 rfl (lv_at hl 0 rfl) ?_
            refine va_get (D := G.1) (ci := 7) (v := .ref mS) (C := RX7) (T := TX7) (N := 12) hx hb (ku_X7 hK.2) (fun _ h9 => h9) hown hK.1 hP 0 rfl rfl 1 (by decide) (kw_678 hK.2) (fun _ h9 => h9) rfl dX7_change_141 ?_
            refine lv_sipush (v := 258) hx hb dX7_change_144 (by decide) ?_
            refine lv_dup2_11 hx hb dX7_change_147 rfl rfl ?_
            refine ww_e (rfl : (258 : Int32) = nI 258) ?_
            refine ww_ild (j := 258) hx hb hK.1 hP 2 0 rfl rfl (by omega) (by omega) dX7_change_148 ?_
            refine ww_e hsn ?_
            refine lv_iconst (v := 1) hx hb dX7_change_149 (by decide) ?_
            refine lv_iadd hx hb dX7_change_150 ?_
            refine ww_e (nI_addE (a := cn) (b := 1) rfl rfl) ?_
            refine ww_ist (j := 258) hx hb hK.1 hP hD hS 2 0 rfl rfl (by omega) (by omega) dX7_change_151 (fun H locs hP hD hS => ?_)
            have hP : va_P G.1 wcl [(mO, .inr (7, [.ref mA, .ref mS, .ref mI, .ref mV, .int me, .ref mT, .ref mR, .int (nI ((f_X7_fault mz zt zr).2.2.2)), .int (nI ((f_X7_fault mz zt zr).2.2.1)), .ref mW, .int (nI mr), .ref mN])), (mA, .inl (G.2.1, 7, .inl zf)), (mS, .inl (G.2.1, 259, .inl (upd s109 258 (nI (cn + 1))))), (mT, .inl (G.2.1, 10, .inl zt)), (mR, .inl (G.2.1, 4, .inl ((f_X7_fault mz zt zr).2.1)))] H := hP
            have hD : va_D A [(mO, .inr (7, [.ref mA, .ref mS, .ref mI, .ref mV, .int me, .ref mT, .ref mR, .int (nI ((f_X7_fault mz zt zr).2.2.2)), .int (nI ((f_X7_fault mz zt zr).2.2.1)), .ref mW, .int (nI mr), .ref mN])), (mA, .inl (G.2.1, 7, .inl zf)), (mS, .inl (G.2.1, 259, .inl (upd s109 258 (nI (cn + 1))))), (mT, .inl (G.2.1, 10, .inl zt)), (mR, .inl (G.2.1, 4, .inl ((f_X7_fault mz zt zr).2.1)))] := hD
            refine lv_aload_n hx hb dX7_change_152 rfl (lv_at hl 0 rfl) ?_
            refine va_get (D := G.1) (ci := 7) (v := .ref mS) (C := RX7) (T := TX7) (N := 12) hx hb (ku_X7 hK.2) (fun _ h9 => h9) hown hK.1 hP 0 rfl rfl 1 (by decide) (kw_678 hK.2) (fun _ h9 => h9) rfl dX7_change_153 ?_
            refine lv_sipush (v := 258) hx hb dX7_change_156 (by decide) ?_
            refine ww_e (rfl : (258 : Int32) = nI 258) ?_
            refine ww_ild (j := 258) hx hb hK.1 hP 2 0 rfl rfl (by omega) (by omega) dX7_change_159 ?_
            refine ww_e pk_us ?_
            refine lv_iconst (v := 1) hx hb dX7_change_160 (by decide) ?_
            refine lv_isub hx hb dX7_change_161 ?_
            exact hret ((nI (cn + 1)) - (1 : Int32), zf, upd s109 258 (nI (cn + 1)), (f_X7_fault mz zt zr).2.1, (f_X7_fault mz zt zr).2.2.1, (f_X7_fault mz zt zr).2.2.2) dX7_change_162 rfl hf rfl hP hS
          | succ k109 ih109 =>
            intro i109 s109 hi109 hsn hf _ _ ls hP hD hS hl
            rw [f_X7_change_109_s] at hf
            refine lv_iload hx hb dX7_change_109 (lv_at hl 2 rfl) ?_
            refine lv_iconst (v := 4) hx hb dX7_change_111 (by decide) ?_
            refine lv_icmp_ge (tgt := 140) hx hb dX7_change_112 (by decide) (fun c => absurd c (inle (a := 4) (b := i109) rfl rfl (by omega) (by omega) (by omega))) (fun _ => ?_)
            refine lv_aload_n hx hb dX7_change_115 rfl (lv_at hl 0 rfl) ?_
            refine va_get (D := G.1) (ci := 7) (v := .ref mS) (C := RX7) (T := TX7) (N := 12) hx hb (ku_X7 hK.2) (fun _ h9 => h9) hown hK.1 hP 0 rfl rfl 1 (by decide) (kw_678 hK.2) (fun _ h9 => h9) rfl dX7_change_116 ?_
            refine lv_iload hx hb dX7_change_119 (lv_at hl 1 rfl) ?_
            refine lv_iconst (v := 2) hx hb dX7_change_121 (by decide) ?_
            refine lv_iadd hx hb dX7_change_122 ?_
            refine ww_e (nI_addE (a := 234 + (6 * cn)) (b := 2) rfl rfl) ?_
            refine lv_iload hx hb dX7_change_123 (lv_at hl 2 rfl) ?_
            refine lv_iadd hx hb dX7_change_125 ?_
            refine ww_e (nI_addE (a := 234 + (6 * cn) + 2) (b := i109) rfl rfl) ?_
            refine lv_aload_n hx hb dX7_change_126 rfl (lv_at hl 0 rfl) ?_
            refine va_get (D := G.1) (ci := 7) (v := .ref mR) (C := RX7) (T := TX7) (N := 12) hx hb (ku_X7 hK.2) (fun _ h9 => h9) hown hK.1 hP 0 rfl rfl 6 (by decide) (kw_683 hK.2) (fun _ h9 => h9) rfl dX7_change_127 ?_
            refine lv_iload hx hb dX7_change_130 (lv_at hl 2 rfl) ?_
            refine ww_ild (j := i109) hx hb hK.1 hP 4 0 rfl rfl (by omega) (by omega) dX7_change_132 ?_
            refine ww_ist (j := 234 + (6 * cn) + 2 + i109) hx hb hK.1 hP hD hS 2 0 rfl rfl (by omega) (by omega) dX7_change_133 (fun H locs hP hD hS => ?_)
            have hP : va_P G.1 wcl [(mO, .inr (7, [.ref mA, .ref mS, .ref mI, .ref mV, .int me, .ref mT, .ref mR, .int (nI ((f_X7_fault mz zt zr).2.2.2)), .int (nI ((f_X7_fault mz zt zr).2.2.1)), .ref mW, .int (nI mr), .ref mN])), (mA, .inl (G.2.1, 7, .inl zf)), (mS, .inl (G.2.1, 259, .inl (upd s109 (234 + (6 * cn) + 2 + i109) (((f_X7_fault mz zt zr).2.1) i109)))), (mT, .inl (G.2.1, 10, .inl zt)), (mR, .inl (G.2.1, 4, .inl ((f_X7_fault mz zt zr).2.1)))] H := hP
            have hD : va_D A [(mO, .inr (7, [.ref mA, .ref mS, .ref mI, .ref mV, .int me, .ref mT, .ref mR, .int (nI ((f_X7_fault mz zt zr).2.2.2)), .int (nI ((f_X7_fault mz zt zr).2.2.1)), .ref mW, .int (nI mr), .ref mN])), (mA, .inl (G.2.1, 7, .inl zf)), (mS, .inl (G.2.1, 259, .inl (upd s109 (234 + (6 * cn) + 2 + i109) (((f_X7_fault mz zt zr).2.1) i109)))), (mT, .inl (G.2.1, 10, .inl zt)), (mR, .inl (G.2.1, 4, .inl ((f_X7_fault mz zt zr).2.1)))] := hD
            refine lv_iinc (v := nI (i109 + 1)) (lv' := [(5, .int (nI (i109 + 1))), (0, .ref mO), (4, .int (nI (234 + (6 * cn))))]) hx hb dX7_change_134 hl (k := 2) rfl (nI_1 i109) (by decide) rfl (fun ls hl => ?_)
            refine lv_goto (tgt := 109) hx hb dX7_change_137 (by decide) ?_
            exact ih109 (i109 + 1) (upd s109 (234 + (6 * cn) + 2 + i109) (((f_X7_fault mz zt zr).2.1) i109)) (by omega) (by rw [pk_un (by omega)]; exact hsn) hf _ _ ls hP hD hS (lv_sub hl [1, 2, 0] rfl)
        exact L109 4 0 (upd (upd zs (234 + (6 * cn)) (nI bb)) (234 + (6 * cn) + 1) (nI te)) (by omega) (by rw [pk_un (by omega), pk_un (by omega)]; exact hcn) hf _ _ ls hP hD hS (lv_sub hl [3, 1, 0] rfl)
      · have hf := (if_neg c3).symm.trans hf
        refine lv_aload_n hx hb dX7_change_64 rfl (lv_at hl 1 rfl) ?_
        refine lv_bipush (v := -3) hx hb dX7_change_65 (by decide) ?_
        refine cl_V (q := (RX7, TX7, 12)) (ws' := [(mO, .inr (7, [.ref mA, .ref mS, .ref mI, .ref mV, .int me, .ref mT, .ref mR, .int (nI ((f_X7_fault mz zt zr).2.2.2)), .int (nI ((f_X7_fault mz zt zr).2.2.1)), .ref mW, .int (nI mr), .ref mN])), (mA, .inl (G.2.1, 7, .inl ((f_X7_refuse zf (-3)).2))), (mS, .inl (G.2.1, 259, .inl zs)), (mT, .inl (G.2.1, 10, .inl zt)), (mR, .inl (G.2.1, 4, .inl ((f_X7_fault mz zt zr).2.1)))]) (v := (some (.int ((f_X7_refuse zf (-3)).1)))) (st1 := [.int ((f_X7_refuse zf (-3)).1)]) (rest := []) (As := [.int (-3)]) [0, 1] 0 7 hx hb hml hown hK (k_X7_refuse l G mO mA mS mI mV mT mR mW mN me ((f_X7_fault mz zt zr).2.2.2) ((f_X7_fault mz zt zr).2.2.1) mr zf (-3) vp7_3) (mf_X7_refuse hK.2) (kw_720 hK.2) (kw_11 hK.2) (kw_718 hK.2) ⟨rfl, rfl, Nat.le_of_ble_eq_true rfl, Nat.le_of_ble_eq_true rfl⟩ rfl hP hD hS hA rfl rfl hl (Nat.le_of_ble_eq_true rfl) rfl ⟨Nat.le_of_ble_eq_true rfl, Nat.le_of_ble_eq_true rfl⟩ rfl dX7_change_67 rfl rfl (rpl_fast (by decide) rfl rfl) rfl rfl rfl (fun H locs hP hD hS => ?_)
        exact hret ((f_X7_refuse zf (-3)).1, (f_X7_refuse zf (-3)).2, zs, (f_X7_fault mz zt zr).2.1, (f_X7_fault mz zt zr).2.2.1, (f_X7_fault mz zt zr).2.2.2) dX7_change_70 rfl hf rfl hP hS
    · have hf := (if_neg c2).symm.trans hf
      refine lv_bipush (v := -20) hx hb dX7_change_43 (by decide) ?_
      refine lv_iload_n hx hb dX7_change_45 rfl (lv_at hl 0 rfl) ?_
      refine lv_isub hx hb dX7_change_46 ?_
      exact hret ((-20 : Int32) - ((f_X7_fault mz zt zr).1), zf, zs, (f_X7_fault mz zt zr).2.1, (f_X7_fault mz zt zr).2.2.1, (f_X7_fault mz zt zr).2.2.2) dX7_change_47 rfl hf rfl hP hS
  · have hf := (if_pos c1).symm.trans hf
    refine lv_aload_n hx hb dX7_change_27 rfl (lv_at hl 0 rfl) ?_
    refine lv_bipush (v := -6) hx hb dX7_change_28 (by decide) ?_
    refine cl_V (q := (RX7, TX7, 12)) (ws' := [(mO, .inr (7, [.ref mA, .ref mS, .ref mI, .ref mV, .int me, .ref mT, .ref mR, .int (nI mz), .int (nI ma), .ref mW, .int (nI mr), .ref mN])), (mA, .inl (G.2.1, 7, .inl ((f_X7_refuse zf (-6)).2))), (mS, .inl (G.2.1, 259, .inl zs)), (mT, .inl (G.2.1, 10, .inl zt)), (mR, .inl (G.2.1, 4, .inl zr))]) (v := (some (.int ((f_X7_refuse zf (-6)).1)))) (st1 := [.int ((f_X7_refuse zf (-6)).1)]) (rest := []) (As := [.int (-6)]) [0, 1] 0 7 hx hb hml hown hK (k_X7_refuse l G mO mA mS mI mV mT mR mW mN me mz ma mr zf (-6) vp7_6) (mf_X7_refuse hK.2) (kw_720 hK.2) (kw_11 hK.2) (kw_718 hK.2) ⟨rfl, rfl, Nat.le_of_ble_eq_true rfl, Nat.le_of_ble_eq_true rfl⟩ rfl hP hD hS hA rfl rfl hl (Nat.le_of_ble_eq_true rfl) rfl ⟨Nat.le_of_ble_eq_true rfl, Nat.le_of_ble_eq_true rfl⟩ rfl dX7_change_30 rfl rfl (rpl_fast (by decide) rfl rfl) rfl rfl rfl (fun H locs hP hD hS => ?_)
    exact hret ((f_X7_refuse zf (-6)).1, (f_X7_refuse zf (-6)).2, zs, zr, ma, mz) dX7_change_33 rfl hf rfl hP hS
def f_X7_change_T (zf : Nat → Int32) : Int32 × (Nat → Int32) := ((f_X7_refuse zf (-1)).1, (f_X7_refuse zf (-1)).2)
set_option maxHeartbeats 4000000 in
set_option maxRecDepth 100000 in
theorem k_X7_change_T (l : Launch) (G : wG) (mO : Nat) (mA : Nat) (mS : Nat) (mI : Nat) (mV : Nat) (mT : Nat) (mR : Nat) (mW : Nat) (mN : Nat) (me : Int32) (mz : Nat) (ma : Nat) (mr : Nat) (zf : Nat → Int32) (zs : Nat → Int32) (bb : Nat) (bn : Nat) (te : Int32) (hbb : bb < 2) (hbn : zs (160 + bb) = nI bn) (hb2 : bn ≤ 20) (hbad : f_X7_isTelling bn te = 0) : CT l G yX7_change cX7_change 6 (some .int) ({ frames := 3, cells := 0, slots := 0, locals := 63 }) [.ref mO, .int (nI bb), .int te] [(mO, .inr (7, [.ref mA, .ref mS, .ref mI, .ref mV, .int me, .ref mT, .ref mR, .int (nI mz), .int (nI ma), .ref mW, .int (nI mr), .ref mN])), (mA, .inl (G.2.1, 7, .inl zf)), (mS, .inl (G.2.1, 259, .inl zs))] (fun u => [(mO, .inr (7, [.ref mA, .ref mS, .ref mI, .ref mV, .int me, .ref mT, .ref mR, .int (nI mz), .int (nI ma), .ref mW, .int (nI mr), .ref mN])), (mA, .inl (G.2.1, 7, .inl u.2)), (mS, .inl (G.2.1, 259, .inl zs))]) (fun u => some (.int u.1)) (f_X7_change_T zf) := by
  obtain ⟨R, hf⟩ : ∃ R, f_X7_change_T zf = R := ⟨_, rfl⟩
  rw [hf]
  refine CT.mkI RX7 (by decide +kernel) rfl (Nat.le_of_ble_eq_true rfl) ?_
  intro p e s m args below meth c A Q ls hx hb hml hown hK hP hD hS hA hret hl
  have hl : lv_has ls 6 [(0, .ref mO), (1, .int (nI bb)), (2, .int te)] := hl
  rw [f_X7_change_T] at hf
  refine lv_aload_n hx hb dX7_change_0 rfl (lv_at hl 0 rfl) ?_
  refine lv_iload_n hx hb dX7_change_1 rfl (lv_at hl 1 rfl) ?_
  refine lv_iload_n hx hb dX7_change_2 rfl (lv_at hl 2 rfl) ?_
  refine cl_V (q := (RX7, TX7, 12)) (ws' := [(mO, .inr (7, [.ref mA, .ref mS, .ref mI, .ref mV, .int me, .ref mT, .ref mR, .int (nI mz), .int (nI ma), .ref mW, .int (nI mr), .ref mN])), (mA, .inl (G.2.1, 7, .inl zf)), (mS, .inl (G.2.1, 259, .inl zs))]) (v := (some (.int (f_X7_isTelling bn te)))) (st1 := [.int (f_X7_isTelling bn te)]) (rest := []) (As := [.int (nI bb), .int te]) [0, 2] 0 7 hx hb hml hown hK (k_X7_isTelling l G mO mA mS mI mV mT mR mW mN me mz ma mr zs bb bn te hbb hbn hb2) (mf_X7_isTelling hK.2) (kw_766 hK.2) (kw_18 hK.2) (kw_764 hK.2) ⟨rfl, rfl, Nat.le_of_ble_eq_true rfl, Nat.le_of_ble_eq_true rfl⟩ rfl hP hD hS hA rfl rfl hl (Nat.le_of_ble_eq_true rfl) rfl ⟨Nat.le_of_ble_eq_true rfl, Nat.le_of_ble_eq_true rfl⟩ rfl dX7_change_3 rfl rfl (rpl_fast (by decide) rfl rfl) rfl rfl rfl (fun H locs hP hD hS => ?_)
  refine lv_if_ne (tgt := 15) hx hb dX7_change_6 (by decide) (fun c => absurd hbad c) (fun _ => ?_)
  refine lv_aload_n hx hb dX7_change_9 rfl (lv_at hl 0 rfl) ?_
  refine lv_iconst (v := -1) hx hb dX7_change_10 (by decide) ?_
  refine cl_V (q := (RX7, TX7, 12)) (ws' := [(mO, .inr (7, [.ref mA, .ref mS, .ref mI, .ref mV, .int me, .ref mT, .ref mR, .int (nI mz), .int (nI ma), .ref mW, .int (nI mr), .ref mN])), (mA, .inl (G.2.1, 7, .inl ((f_X7_refuse zf (-1)).2))), (mS, .inl (G.2.1, 259, .inl zs))]) (v := (some (.int ((f_X7_refuse zf (-1)).1)))) (st1 := [.int ((f_X7_refuse zf (-1)).1)]) (rest := []) (As := [.int (-1)]) [0, 1] 0 7 hx hb hml hown hK (k_X7_refuse l G mO mA mS mI mV mT mR mW mN me mz ma mr zf (-1) vp7_1) (mf_X7_refuse hK.2) (kw_720 hK.2) (kw_11 hK.2) (kw_718 hK.2) ⟨rfl, rfl, Nat.le_of_ble_eq_true rfl, Nat.le_of_ble_eq_true rfl⟩ rfl hP hD hS hA rfl rfl hl (Nat.le_of_ble_eq_true rfl) rfl ⟨Nat.le_of_ble_eq_true rfl, Nat.le_of_ble_eq_true rfl⟩ rfl dX7_change_11 rfl rfl (rpl_fast (by decide) rfl rfl) rfl rfl rfl (fun H locs hP hD hS => ?_)
  exact hret ((f_X7_refuse zf (-1)).1, (f_X7_refuse zf (-1)).2) dX7_change_14 rfl hf rfl hP hS
def f_X7_change_A (zf : Nat → Int32) : Int32 × (Nat → Int32) := ((f_X7_refuse zf (-1)).1, (f_X7_refuse zf (-1)).2)
set_option maxHeartbeats 4000000 in
set_option maxRecDepth 100000 in
theorem k_X7_change_A (l : Launch) (G : wG) (mO : Nat) (mA : Nat) (mS : Nat) (mI : Nat) (mV : Nat) (mT : Nat) (mR : Nat) (mW : Nat) (mN : Nat) (me : Int32) (mz : Nat) (ma : Nat) (mr : Nat) (zf : Nat → Int32) (bo : Int32) (te : Int32) (hbad : f_X7_isBook bo = 0) : CT l G yX7_change cX7_change 6 (some .int) ({ frames := 3, cells := 0, slots := 0, locals := 63 }) [.ref mO, .int bo, .int te] [(mO, .inr (7, [.ref mA, .ref mS, .ref mI, .ref mV, .int me, .ref mT, .ref mR, .int (nI mz), .int (nI ma), .ref mW, .int (nI mr), .ref mN])), (mA, .inl (G.2.1, 7, .inl zf))] (fun u => [(mO, .inr (7, [.ref mA, .ref mS, .ref mI, .ref mV, .int me, .ref mT, .ref mR, .int (nI mz), .int (nI ma), .ref mW, .int (nI mr), .ref mN])), (mA, .inl (G.2.1, 7, .inl u.2))]) (fun u => some (.int u.1)) (f_X7_change_A zf) := by
  obtain ⟨R, hf⟩ : ∃ R, f_X7_change_A zf = R := ⟨_, rfl⟩
  rw [hf]
  refine CT.mkI RX7 (by decide +kernel) rfl (Nat.le_of_ble_eq_true rfl) ?_
  intro p e s m args below meth c A Q ls hx hb hml hown hK hP hD hS hA hret hl
  have hl : lv_has ls 6 [(0, .ref mO), (1, .int bo), (2, .int te)] := hl
  rw [f_X7_change_A] at hf
  refine lv_aload_n hx hb dX7_change_0 rfl (lv_at hl 0 rfl) ?_
  refine lv_iload_n hx hb dX7_change_1 rfl (lv_at hl 1 rfl) ?_
  refine lv_iload_n hx hb dX7_change_2 rfl (lv_at hl 2 rfl) ?_
  refine cl_V (q := (RX7, TX7, 12)) (ws' := [(mO, .inr (7, [.ref mA, .ref mS, .ref mI, .ref mV, .int me, .ref mT, .ref mR, .int (nI mz), .int (nI ma), .ref mW, .int (nI mr), .ref mN])), (mA, .inl (G.2.1, 7, .inl zf))]) (v := (some (.int f_X7_isTelling_A))) (st1 := [.int f_X7_isTelling_A]) (rest := []) (As := [.int bo, .int te]) [0] 0 7 hx hb hml hown hK (k_X7_isTelling_A l G mO mA mS mI mV mT mR mW mN me mz ma mr bo te hbad) (mf_X7_isTelling hK.2) (kw_766 hK.2) (kw_18 hK.2) (kw_764 hK.2) ⟨rfl, rfl, Nat.le_of_ble_eq_true rfl, Nat.le_of_ble_eq_true rfl⟩ rfl hP hD hS hA rfl rfl hl (Nat.le_of_ble_eq_true rfl) rfl ⟨Nat.le_of_ble_eq_true rfl, Nat.le_of_ble_eq_true rfl⟩ rfl dX7_change_3 rfl rfl (rpl_fast (by decide) rfl rfl) rfl rfl rfl (fun H locs hP hD hS => ?_)
  refine lv_if_ne (tgt := 15) hx hb dX7_change_6 (by decide) (fun c => absurd rfl c) (fun _ => ?_)
  refine lv_aload_n hx hb dX7_change_9 rfl (lv_at hl 0 rfl) ?_
  refine lv_iconst (v := -1) hx hb dX7_change_10 (by decide) ?_
  refine cl_V (q := (RX7, TX7, 12)) (ws' := [(mO, .inr (7, [.ref mA, .ref mS, .ref mI, .ref mV, .int me, .ref mT, .ref mR, .int (nI mz), .int (nI ma), .ref mW, .int (nI mr), .ref mN])), (mA, .inl (G.2.1, 7, .inl ((f_X7_refuse zf (-1)).2)))]) (v := (some (.int ((f_X7_refuse zf (-1)).1)))) (st1 := [.int ((f_X7_refuse zf (-1)).1)]) (rest := []) (As := [.int (-1)]) [0, 1] 0 7 hx hb hml hown hK (k_X7_refuse l G mO mA mS mI mV mT mR mW mN me mz ma mr zf (-1) vp7_1) (mf_X7_refuse hK.2) (kw_720 hK.2) (kw_11 hK.2) (kw_718 hK.2) ⟨rfl, rfl, Nat.le_of_ble_eq_true rfl, Nat.le_of_ble_eq_true rfl⟩ rfl hP hD hS hA rfl rfl hl (Nat.le_of_ble_eq_true rfl) rfl ⟨Nat.le_of_ble_eq_true rfl, Nat.le_of_ble_eq_true rfl⟩ rfl dX7_change_11 rfl rfl (rpl_fast (by decide) rfl rfl) rfl rfl rfl (fun H locs hP hD hS => ?_)
  exact hret ((f_X7_refuse zf (-1)).1, (f_X7_refuse zf (-1)).2) dX7_change_14 rfl hf rfl hP hS
