theorem isIn_n {x y : Int32} {n : Nat} (hy : y = nI n) (hn : n ≤ 12) (h : ¬ f_X7_isIn x y = 0) : vp_in x 12 := by
  rw [hy] at h
  have h2 := isIn_in (by omega) h
  obtain ⟨j, hj, rfl⟩ := vp_in_of h2 (by omega)
  exact vp_in_nI (by omega) (by decide)
def f_X7_soonest (zf : Nat → Int32) (zs : Nat → Int32) (zn : Nat → Int32) (bb : Nat) (bn : Nat) (ix : Int32) : Int32 × (Nat → Int32) × (Nat → Int32) := (if (f_X7_isIn ix (((f_X7_findSoonest zs zn bb bn)).1)) = 0 then ((-9), zf, ((f_X7_findSoonest zs zn bb bn)).2) else ((((f_X7_findSoonest zs zn bb bn)).2) ix.toNatClampNeg, zf, ((f_X7_findSoonest zs zn bb bn)).2))
set_option maxHeartbeats 4000000 in
set_option maxRecDepth 100000 in
theorem k_X7_soonest (l : Launch) (G : wG) (mO : Nat) (mA : Nat) (mS : Nat) (mI : Nat) (mV : Nat) (mT : Nat) (mR : Nat) (mW : Nat) (mN : Nat) (me : Int32) (mz : Nat) (ma : Nat) (mr : Nat) (zf : Nat → Int32) (zs : Nat → Int32) (zn : Nat → Int32) (bb : Nat) (bn : Nat) (xw : Nat → Int32) (xk : Nat → Int32) (xm : Nat → Int32) (xf : Nat → Int32) (xB : Int32) (xh : Nat → Int32) (xt : Nat → Int32) (nn : Nat) (ix : Int32) (hbb : bb < 2) (hbn : zs (160 + bb) = nI bn) (hb2 : bn ≤ 20) (hnd : ∀ t : Nat, t < bn → Rg (zs (80 * bb + 4 * t + 2))) (hwd : ∀ t : Nat, t < bn → ∃ w : Nat, w < 12 ∧ zs (80 * bb + 4 * t) = nI w) (hR : RB zs bb bn xw xk xm xf xB xh xt) (hnn : (f_X7_findSoonest zs zn bb bn).1 = nI nn) (hn12 : nn ≤ 12) : CT l G yX7_soonest cX7_soonest 3 (some .int) ({ frames := 7, cells := 0, slots := 0, locals := 168 }) [.ref mO, .int (nI bb), .int ix] [(mO, .inr (7, [.ref mA, .ref mS, .ref mI, .ref mV, .int me, .ref mT, .ref mR, .int (nI mz), .int (nI ma), .ref mW, .int (nI mr), .ref mN])), (mA, .inl (G.2.1, 7, .inl zf)), (mS, .inl (G.2.1, 259, .inl zs)), (mN, .inl (G.2.1, 12, .inl zn))] (fun u => [(mO, .inr (7, [.ref mA, .ref mS, .ref mI, .ref mV, .int me, .ref mT, .ref mR, .int (nI mz), .int (nI ma), .ref mW, .int (nI mr), .ref mN])), (mA, .inl (G.2.1, 7, .inl u.2.1)), (mS, .inl (G.2.1, 259, .inl zs)), (mN, .inl (G.2.1, 12, .inl u.2.2))]) (fun u => some (.int u.1)) (f_X7_soonest zf zs zn bb bn ix) := by
  obtain ⟨R, hf⟩ : ∃ R, f_X7_soonest zf zs zn bb bn ix = R := ⟨_, rfl⟩
  rw [hf]
  refine CT.mkI RX7 (by decide +kernel) rfl (Nat.le_of_ble_eq_true rfl) ?_
  intro p e s m args below meth c A Q ls hx hb hml hown hK hP hD hS hA hret hl
  have hl : lv_has ls 3 [(0, .ref mO), (1, .int (nI bb)), (2, .int ix)] := hl
  rw [f_X7_soonest] at hf
  refine lv_iload_n hx hb dX7_soonest_0 rfl (lv_at hl 1 rfl) ?_
  refine cl_S (ws' := [(mO, .inr (7, [.ref mA, .ref mS, .ref mI, .ref mV, .int me, .ref mT, .ref mR, .int (nI mz), .int (nI ma), .ref mW, .int (nI mr), .ref mN])), (mA, .inl (G.2.1, 7, .inl zf)), (mS, .inl (G.2.1, 259, .inl zs)), (mN, .inl (G.2.1, 12, .inl zn))]) (v := (some (.int (f_X7_isBook (nI bb))))) (st1 := [.int (f_X7_isBook (nI bb))]) (rest := []) (As := [.int (nI bb)]) [] hx hb hml hown hK (k_X7_isBook l G (nI bb) ) (mf_X7_isBook hK.2) (kw_728 hK.2) (kw_727 hK.2) ⟨rfl, rfl, Nat.le_of_ble_eq_true rfl, Nat.le_of_ble_eq_true rfl⟩ rfl hP hD hS hA hl (Nat.le_of_ble_eq_true rfl) rfl ⟨Nat.le_of_ble_eq_true rfl, Nat.le_of_ble_eq_true rfl⟩ rfl dX7_soonest_1 rfl rfl rfl rfl rfl rfl (fun H locs hP hD hS => ?_)
  refine lv_if_ne (tgt := 13) hx hb dX7_soonest_4 (by decide) (fun _ => ?_) (fun c => absurd c (isBook7 hbb))
  refine lv_iload_n hx hb dX7_soonest_13 rfl (lv_at hl 2 rfl) ?_
  refine lv_aload_n hx hb dX7_soonest_14 rfl (lv_at hl 0 rfl) ?_
  refine lv_iload_n hx hb dX7_soonest_15 rfl (lv_at hl 1 rfl) ?_
  obtain ⟨rr1, hrr1⟩ : ∃ r : Int32 × (Nat → Int32), f_X7_findSoonest zs zn bb bn = r := ⟨_, rfl⟩
  (try rw [hrr1] at hf)
  refine cl_V (q := (RX7, TX7, 12)) (ws' := [(mO, .inr (7, [.ref mA, .ref mS, .ref mI, .ref mV, .int me, .ref mT, .ref mR, .int (nI mz), .int (nI ma), .ref mW, .int (nI mr), .ref mN])), (mA, .inl (G.2.1, 7, .inl zf)), (mS, .inl (G.2.1, 259, .inl zs)), (mN, .inl (G.2.1, 12, .inl ((rr1).2)))]) (v := (some (.int ((rr1).1)))) (st1 := [.int ((rr1).1), .int ix]) (rest := [.int ix]) (As := [.int (nI bb)]) [0, 2, 3] 0 7 hx hb hml hown hK (CT_nm hrr1 (k_X7_findSoonest l G mO mA mS mI mV mT mR mW mN me mz ma mr zs zn bb bn xw xk xm xf xB xh xt hbb hbn hb2 hnd hwd hR)) (mf_X7_findSoonest hK.2) (kw_872 hK.2) (kw_28 hK.2) (kw_870 hK.2) ⟨rfl, rfl, Nat.le_of_ble_eq_true rfl, Nat.le_of_ble_eq_true rfl⟩ rfl hP hD hS hA rfl rfl hl (Nat.le_of_ble_eq_true rfl) rfl ⟨Nat.le_of_ble_eq_true rfl, Nat.le_of_ble_eq_true rfl⟩ rfl dX7_soonest_16 rfl rfl (rpl_fast (by decide) rfl rfl) rfl rfl rfl (fun H locs hP hD hS => ?_)
  refine cl_S (ws' := [(mO, .inr (7, [.ref mA, .ref mS, .ref mI, .ref mV, .int me, .ref mT, .ref mR, .int (nI mz), .int (nI ma), .ref mW, .int (nI mr), .ref mN])), (mA, .inl (G.2.1, 7, .inl zf)), (mS, .inl (G.2.1, 259, .inl zs)), (mN, .inl (G.2.1, 12, .inl ((rr1).2)))]) (v := (some (.int (f_X7_isIn ix ((rr1).1))))) (st1 := [.int (f_X7_isIn ix ((rr1).1))]) (rest := []) (As := [.int ix, .int ((rr1).1)]) [] hx hb hml hown hK (k_X7_isIn l G ix ((rr1).1) ) (mf_X7_isIn hK.2) (kw_731 hK.2) (kw_730 hK.2) ⟨rfl, rfl, Nat.le_of_ble_eq_true rfl, Nat.le_of_ble_eq_true rfl⟩ rfl hP hD hS hA hl (Nat.le_of_ble_eq_true rfl) rfl ⟨Nat.le_of_ble_eq_true rfl, Nat.le_of_ble_eq_true rfl⟩ rfl dX7_soonest_19 rfl rfl rfl rfl rfl rfl (fun H locs hP hD hS => ?_)
  refine lv_if_eq (tgt := 34) hx hb dX7_soonest_22 (by decide) (fun c1 => ?_) (fun c1 => ?_)
  · have hf := (if_pos c1).symm.trans hf
    refine lv_bipush (v := -9) hx hb dX7_soonest_34 (by decide) ?_
    exact hret ((-9), zf, (rr1).2) dX7_soonest_36 rfl hf rfl hP hS
  · have hf := (if_neg c1).symm.trans hf
    refine lv_aload_n hx hb dX7_soonest_25 rfl (lv_at hl 0 rfl) ?_
    refine va_get (D := G.1) (ci := 7) (v := .ref mN) (C := RX7) (T := TX7) (N := 12) hx hb (ku_X7 hK.2) (fun _ h9 => h9) hown hK.1 hP 0 rfl rfl 11 (by decide) (kw_688 hK.2) (fun _ h9 => h9) rfl dX7_soonest_26 ?_
    refine lv_iload_n hx hb dX7_soonest_29 rfl (lv_at hl 2 rfl) ?_
    refine va_iald hx hb hK.1 hP 3 0 rfl rfl (isIn_n (y := (rr1).1) (by rw [← hrr1]; exact hnn) hn12 c1) dX7_soonest_30 ?_
    refine lv_goto (tgt := 36) hx hb dX7_soonest_31 (by decide) ?_
    exact hret (((rr1).2) ix.toNatClampNeg, zf, (rr1).2) dX7_soonest_36 rfl hf rfl hP hS
def f_X7_soonest_A (zf : Nat → Int32) : Int32 × (Nat → Int32) := ((f_X7_refuse zf (-1)).1, (f_X7_refuse zf (-1)).2)
set_option maxHeartbeats 4000000 in
set_option maxRecDepth 100000 in
theorem k_X7_soonest_A (l : Launch) (G : wG) (mO : Nat) (mA : Nat) (mS : Nat) (mI : Nat) (mV : Nat) (mT : Nat) (mR : Nat) (mW : Nat) (mN : Nat) (me : Int32) (mz : Nat) (ma : Nat) (mr : Nat) (zf : Nat → Int32) (bo : Int32) (ix : Int32) (hbad : f_X7_isBook bo = 0) : CT l G yX7_soonest cX7_soonest 3 (some .int) ({ frames := 2, cells := 0, slots := 0, locals := 41 }) [.ref mO, .int bo, .int ix] [(mO, .inr (7, [.ref mA, .ref mS, .ref mI, .ref mV, .int me, .ref mT, .ref mR, .int (nI mz), .int (nI ma), .ref mW, .int (nI mr), .ref mN])), (mA, .inl (G.2.1, 7, .inl zf))] (fun u => [(mO, .inr (7, [.ref mA, .ref mS, .ref mI, .ref mV, .int me, .ref mT, .ref mR, .int (nI mz), .int (nI ma), .ref mW, .int (nI mr), .ref mN])), (mA, .inl (G.2.1, 7, .inl u.2))]) (fun u => some (.int u.1)) (f_X7_soonest_A zf) := by
  obtain ⟨R, hf⟩ : ∃ R, f_X7_soonest_A zf = R := ⟨_, rfl⟩
  rw [hf]
  refine CT.mkI RX7 (by decide +kernel) rfl (Nat.le_of_ble_eq_true rfl) ?_
  intro p e s m args below meth c A Q ls hx hb hml hown hK hP hD hS hA hret hl
  have hl : lv_has ls 3 [(0, .ref mO), (1, .int bo), (2, .int ix)] := hl
  rw [f_X7_soonest_A] at hf
  refine lv_iload_n hx hb dX7_soonest_0 rfl (lv_at hl 1 rfl) ?_
  refine cl_S (ws' := [(mO, .inr (7, [.ref mA, .ref mS, .ref mI, .ref mV, .int me, .ref mT, .ref mR, .int (nI mz), .int (nI ma), .ref mW, .int (nI mr), .ref mN])), (mA, .inl (G.2.1, 7, .inl zf))]) (v := (some (.int (f_X7_isBook bo)))) (st1 := [.int (f_X7_isBook bo)]) (rest := []) (As := [.int bo]) [] hx hb hml hown hK (k_X7_isBook l G bo ) (mf_X7_isBook hK.2) (kw_728 hK.2) (kw_727 hK.2) ⟨rfl, rfl, Nat.le_of_ble_eq_true rfl, Nat.le_of_ble_eq_true rfl⟩ rfl hP hD hS hA hl (Nat.le_of_ble_eq_true rfl) rfl ⟨Nat.le_of_ble_eq_true rfl, Nat.le_of_ble_eq_true rfl⟩ rfl dX7_soonest_1 rfl rfl rfl rfl rfl rfl (fun H locs hP hD hS => ?_)
  refine lv_if_ne (tgt := 13) hx hb dX7_soonest_4 (by decide) (fun c => absurd hbad c) (fun _ => ?_)
  refine lv_aload_n hx hb dX7_soonest_7 rfl (lv_at hl 0 rfl) ?_
  refine lv_iconst (v := -1) hx hb dX7_soonest_8 (by decide) ?_
  refine cl_V (q := (RX7, TX7, 12)) (ws' := [(mO, .inr (7, [.ref mA, .ref mS, .ref mI, .ref mV, .int me, .ref mT, .ref mR, .int (nI mz), .int (nI ma), .ref mW, .int (nI mr), .ref mN])), (mA, .inl (G.2.1, 7, .inl ((f_X7_refuse zf (-1)).2)))]) (v := (some (.int ((f_X7_refuse zf (-1)).1)))) (st1 := [.int ((f_X7_refuse zf (-1)).1)]) (rest := []) (As := [.int (-1)]) [0, 1] 0 7 hx hb hml hown hK (k_X7_refuse l G mO mA mS mI mV mT mR mW mN me mz ma mr zf (-1) vp7_1) (mf_X7_refuse hK.2) (kw_720 hK.2) (kw_11 hK.2) (kw_718 hK.2) ⟨rfl, rfl, Nat.le_of_ble_eq_true rfl, Nat.le_of_ble_eq_true rfl⟩ rfl hP hD hS hA rfl rfl hl (Nat.le_of_ble_eq_true rfl) rfl ⟨Nat.le_of_ble_eq_true rfl, Nat.le_of_ble_eq_true rfl⟩ rfl dX7_soonest_9 rfl rfl (rpl_fast (by decide) rfl rfl) rfl rfl rfl (fun H locs hP hD hS => ?_)
  exact hret ((f_X7_refuse zf (-1)).1, (f_X7_refuse zf (-1)).2) dX7_soonest_12 rfl hf rfl hP hS
def f_X7_waits_24 (zf : Nat → Int32) (zs : Nat → Int32) (bb : Nat) (rr1 : Int32 × (Nat → Int32)) : Nat → Nat → Int32 → (Int32 × (Nat → Int32) × (Nat → Int32))
  | 0, i24, v3_24 => (v3_24, zf, (rr1).2)
  | k24 + 1, i24, v3_24 => f_X7_waits_24 zf zs bb rr1 k24 (i24 + 1) (v3_24 + ((nI (i24 + 1)) * (zs ((nI (186 + (12 * bb))) + (((rr1).2) i24)).toNatClampNeg)))
theorem f_X7_waits_24_z (zf : Nat → Int32) (zs : Nat → Int32) (bb : Nat) (rr1 : Int32 × (Nat → Int32)) (i24 : Nat) (v3_24 : Int32) : f_X7_waits_24 zf zs bb rr1 0 i24 v3_24 = (v3_24, zf, (rr1).2) := rfl
theorem f_X7_waits_24_s (zf : Nat → Int32) (zs : Nat → Int32) (bb : Nat) (rr1 : Int32 × (Nat → Int32)) (k24 : Nat) (i24 : Nat) (v3_24 : Int32) : f_X7_waits_24 zf zs bb rr1 (k24 + 1) i24 v3_24 = f_X7_waits_24 zf zs bb rr1 k24 (i24 + 1) (v3_24 + ((nI (i24 + 1)) * (zs ((nI (186 + (12 * bb))) + (((rr1).2) i24)).toNatClampNeg))) := rfl
def f_X7_waits (zf : Nat → Int32) (zs : Nat → Int32) (zn : Nat → Int32) (bb : Nat) (bn : Nat) (nn : Nat) : Int32 × (Nat → Int32) × (Nat → Int32) := (f_X7_waits_24 zf zs bb (f_X7_findSoonest zs zn bb bn) nn 0 0)
set_option maxHeartbeats 4000000 in
set_option maxRecDepth 100000 in
theorem k_X7_waits (l : Launch) (G : wG) (mO : Nat) (mA : Nat) (mS : Nat) (mI : Nat) (mV : Nat) (mT : Nat) (mR : Nat) (mW : Nat) (mN : Nat) (me : Int32) (mz : Nat) (ma : Nat) (mr : Nat) (zf : Nat → Int32) (zs : Nat → Int32) (zn : Nat → Int32) (bb : Nat) (bn : Nat) (xw : Nat → Int32) (xk : Nat → Int32) (xm : Nat → Int32) (xf : Nat → Int32) (xB : Int32) (xh : Nat → Int32) (xt : Nat → Int32) (nn : Nat) (hbb : bb < 2) (hbn : zs (160 + bb) = nI bn) (hb2 : bn ≤ 20) (hnd : ∀ t : Nat, t < bn → Rg (zs (80 * bb + 4 * t + 2))) (hwd : ∀ t : Nat, t < bn → ∃ w : Nat, w < 12 ∧ zs (80 * bb + 4 * t) = nI w) (hR : RB zs bb bn xw xk xm xf xB xh xt) (hnn : (f_X7_findSoonest zs zn bb bn).1 = nI nn) (hn12 : nn ≤ 12) (hso : ∀ j : Nat, j < nn → vp_in ((f_X7_findSoonest zs zn bb bn).2 j) 12) : CT l G yX7_waits cX7_waits 5 (some .int) ({ frames := 7, cells := 0, slots := 0, locals := 168 }) [.ref mO, .int (nI bb)] [(mO, .inr (7, [.ref mA, .ref mS, .ref mI, .ref mV, .int me, .ref mT, .ref mR, .int (nI mz), .int (nI ma), .ref mW, .int (nI mr), .ref mN])), (mA, .inl (G.2.1, 7, .inl zf)), (mS, .inl (G.2.1, 259, .inl zs)), (mN, .inl (G.2.1, 12, .inl zn))] (fun u => [(mO, .inr (7, [.ref mA, .ref mS, .ref mI, .ref mV, .int me, .ref mT, .ref mR, .int (nI mz), .int (nI ma), .ref mW, .int (nI mr), .ref mN])), (mA, .inl (G.2.1, 7, .inl u.2.1)), (mS, .inl (G.2.1, 259, .inl zs)), (mN, .inl (G.2.1, 12, .inl u.2.2))]) (fun u => some (.int u.1)) (f_X7_waits zf zs zn bb bn nn) := by
  obtain ⟨R, hf⟩ : ∃ R, f_X7_waits zf zs zn bb bn nn = R := ⟨_, rfl⟩
  rw [hf]
  refine CT.mkI RX7 (by decide +kernel) rfl (Nat.le_of_ble_eq_true rfl) ?_
  intro p e s m args below meth c A Q ls hx hb hml hown hK hP hD hS hA hret hl
  have hl : lv_has ls 5 [(0, .ref mO), (1, .int (nI bb))] := hl
  rw [f_X7_waits] at hf
  refine lv_iload_n hx hb dX7_waits_0 rfl (lv_at hl 1 rfl) ?_
  refine cl_S (ws' := [(mO, .inr (7, [.ref mA, .ref mS, .ref mI, .ref mV, .int me, .ref mT, .ref mR, .int (nI mz), .int (nI ma), .ref mW, .int (nI mr), .ref mN])), (mA, .inl (G.2.1, 7, .inl zf)), (mS, .inl (G.2.1, 259, .inl zs)), (mN, .inl (G.2.1, 12, .inl zn))]) (v := (some (.int (f_X7_isBook (nI bb))))) (st1 := [.int (f_X7_isBook (nI bb))]) (rest := []) (As := [.int (nI bb)]) [] hx hb hml hown hK (k_X7_isBook l G (nI bb) ) (mf_X7_isBook hK.2) (kw_728 hK.2) (kw_727 hK.2) ⟨rfl, rfl, Nat.le_of_ble_eq_true rfl, Nat.le_of_ble_eq_true rfl⟩ rfl hP hD hS hA hl (Nat.le_of_ble_eq_true rfl) rfl ⟨Nat.le_of_ble_eq_true rfl, Nat.le_of_ble_eq_true rfl⟩ rfl dX7_waits_1 rfl rfl rfl rfl rfl rfl (fun H locs hP hD hS => ?_)
  refine lv_if_ne (tgt := 13) hx hb dX7_waits_4 (by decide) (fun _ => ?_) (fun c => absurd c (isBook7 hbb))
  refine lv_aload_n hx hb dX7_waits_13 rfl (lv_at hl 0 rfl) ?_
  refine lv_iload_n hx hb dX7_waits_14 rfl (lv_at hl 1 rfl) ?_
  obtain ⟨rr1, hrr1⟩ : ∃ r : Int32 × (Nat → Int32), f_X7_findSoonest zs zn bb bn = r := ⟨_, rfl⟩
  (try rw [hrr1] at hf)
  refine cl_V (q := (RX7, TX7, 12)) (ws' := [(mO, .inr (7, [.ref mA, .ref mS, .ref mI, .ref mV, .int me, .ref mT, .ref mR, .int (nI mz), .int (nI ma), .ref mW, .int (nI mr), .ref mN])), (mA, .inl (G.2.1, 7, .inl zf)), (mS, .inl (G.2.1, 259, .inl zs)), (mN, .inl (G.2.1, 12, .inl ((rr1).2)))]) (v := (some (.int ((rr1).1)))) (st1 := [.int ((rr1).1)]) (rest := []) (As := [.int (nI bb)]) [0, 2, 3] 0 7 hx hb hml hown hK (CT_nm hrr1 (k_X7_findSoonest l G mO mA mS mI mV mT mR mW mN me mz ma mr zs zn bb bn xw xk xm xf xB xh xt hbb hbn hb2 hnd hwd hR)) (mf_X7_findSoonest hK.2) (kw_872 hK.2) (kw_28 hK.2) (kw_870 hK.2) ⟨rfl, rfl, Nat.le_of_ble_eq_true rfl, Nat.le_of_ble_eq_true rfl⟩ rfl hP hD hS hA rfl rfl hl (Nat.le_of_ble_eq_true rfl) rfl ⟨Nat.le_of_ble_eq_true rfl, Nat.le_of_ble_eq_true rfl⟩ rfl dX7_waits_15 rfl rfl (rpl_fast (by decide) rfl rfl) rfl rfl rfl (fun H locs hP hD hS => ?_)
  refine ww_e (show (rr1).1 = nI nn by rw [← hrr1]; exact hnn) ?_
  refine lv_istore_n (lv' := [(2, .int (nI nn)), (0, .ref mO), (1, .int (nI bb))]) hx hb dX7_waits_18 rfl hl (by decide) rfl (fun ls hl => ?_)
  refine lv_iconst (v := 0) hx hb dX7_waits_19 (by decide) ?_
  refine lv_istore_n (lv' := [(3, .int 0), (2, .int (nI nn)), (0, .ref mO), (1, .int (nI bb))]) hx hb dX7_waits_20 rfl hl (by decide) rfl (fun ls hl => ?_)
  refine lv_iconst (v := 0) hx hb dX7_waits_21 (by decide) ?_
  refine lv_istore (lv' := [(4, .int 0), (3, .int 0), (2, .int (nI nn)), (0, .ref mO), (1, .int (nI bb))]) hx hb dX7_waits_22 hl (by decide) rfl (fun ls hl => ?_)
  have L24 : ∀ (k24 : Nat) (i24 : Nat) (v3_24 : Int32), k24 + i24 = nn → f_X7_waits_24 zf zs bb rr1 k24 i24 v3_24 = R → ∀ (H : Heap) (locs : List Loc) (ls : Array Slot), va_P G.1 wcl [(mO, .inr (7, [.ref mA, .ref mS, .ref mI, .ref mV, .int me, .ref mT, .ref mR, .int (nI mz), .int (nI ma), .ref mW, .int (nI mr), .ref mN])), (mA, .inl (G.2.1, 7, .inl zf)), (mS, .inl (G.2.1, 259, .inl zs)), (mN, .inl (G.2.1, 12, .inl ((rr1).2)))] H → va_D A [(mO, .inr (7, [.ref mA, .ref mS, .ref mI, .ref mV, .int me, .ref mT, .ref mR, .int (nI mz), .int (nI ma), .ref mW, .int (nI mr), .ref mN])), (mA, .inl (G.2.1, 7, .inl zf)), (mS, .inl (G.2.1, 259, .inl zs)), (mN, .inl (G.2.1, 12, .inl ((rr1).2)))] → va_S A s.heap H locs → lv_has ls 5 [(0, .ref mO), (1, .int (nI bb)), (2, .int (nI nn)), (3, .int v3_24), (4, .int (nI i24))] → W p l e ({ frames := 7, cells := 0, slots := 0, locals := 168 }) s m args below meth c H locs 0 0 Q (F0 m 24 ls []) := by
    intro k24
    induction k24 with
    | zero =>
      intro i24 v3_24 hi24  hf _ _ ls hP hD hS hl
      rw [f_X7_waits_24_z] at hf
      refine lv_iload hx hb dX7_waits_24 (lv_at hl 4 rfl) ?_
      refine lv_iload_n hx hb dX7_waits_26 rfl (lv_at hl 2 rfl) ?_
      refine lv_icmp_ge (tgt := 65) hx hb dX7_waits_27 (by decide) (fun _ => ?_) (fun c => absurd (ile (a := nn) (b := i24) rfl rfl (by omega) (by omega) (by omega)) c)
      refine lv_iload_n hx hb dX7_waits_65 rfl (lv_at hl 3 rfl) ?_
      exact hret (v3_24, zf, (rr1).2) dX7_waits_66 rfl hf rfl hP hS
    | succ k24 ih24 =>
      intro i24 v3_24 hi24  hf _ _ ls hP hD hS hl
      rw [f_X7_waits_24_s] at hf
      refine lv_iload hx hb dX7_waits_24 (lv_at hl 4 rfl) ?_
      refine lv_iload_n hx hb dX7_waits_26 rfl (lv_at hl 2 rfl) ?_
      refine lv_icmp_ge (tgt := 65) hx hb dX7_waits_27 (by decide) (fun c => absurd c (inle (a := nn) (b := i24) rfl rfl (by omega) (by omega) (by omega))) (fun _ => ?_)
      have hi2 := hso i24 (by omega)
      rw [hrr1] at hi2
      refine lv_iload_n hx hb dX7_waits_30 rfl (lv_at hl 3 rfl) ?_
      refine lv_iload hx hb dX7_waits_31 (lv_at hl 4 rfl) ?_
      refine lv_iconst (v := 1) hx hb dX7_waits_33 (by decide) ?_
      refine lv_iadd hx hb dX7_waits_34 ?_
      refine ww_e (nI_addE (a := i24) (b := 1) rfl rfl) ?_
      refine lv_aload_n hx hb dX7_waits_35 rfl (lv_at hl 0 rfl) ?_
      refine va_get (D := G.1) (ci := 7) (v := .ref mS) (C := RX7) (T := TX7) (N := 12) hx hb (ku_X7 hK.2) (fun _ h9 => h9) hown hK.1 hP 0 rfl rfl 1 (by decide) (kw_678 hK.2) (fun _ h9 => h9) rfl dX7_waits_36 ?_
      refine lv_sipush (v := 186) hx hb dX7_waits_39 (by decide) ?_
      refine lv_bipush (v := 12) hx hb dX7_waits_42 (by decide) ?_
      refine lv_iload_n hx hb dX7_waits_44 rfl (lv_at hl 1 rfl) ?_
      refine lv_imul hx hb dX7_waits_45 ?_
      refine ww_e (nI_mulE (a := 12) (b := bb) rfl rfl) ?_
      refine lv_iadd hx hb dX7_waits_46 ?_
      refine ww_e (nI_addE (a := 186) (b := 12 * bb) rfl rfl) ?_
      refine lv_aload_n hx hb dX7_waits_47 rfl (lv_at hl 0 rfl) ?_
      refine va_get (D := G.1) (ci := 7) (v := .ref mN) (C := RX7) (T := TX7) (N := 12) hx hb (ku_X7 hK.2) (fun _ h9 => h9) hown hK.1 hP 0 rfl rfl 11 (by decide) (kw_688 hK.2) (fun _ h9 => h9) rfl dX7_waits_48 ?_
      refine lv_iload hx hb dX7_waits_51 (lv_at hl 4 rfl) ?_
      refine ww_ild (j := i24) hx hb hK.1 hP 3 0 rfl rfl (by omega) (by omega) dX7_waits_53 ?_
      refine lv_iadd hx hb dX7_waits_54 ?_
      refine va_iald hx hb hK.1 hP 2 0 rfl rfl (ix_add hi2 (by omega) (by decide)) dX7_waits_55 ?_
      refine lv_imul hx hb dX7_waits_56 ?_
      refine lv_iadd hx hb dX7_waits_57 ?_
      refine lv_istore_n (lv' := [(3, .int (v3_24 + ((nI (i24 + 1)) * (zs ((nI (186 + (12 * bb))) + (((rr1).2) i24)).toNatClampNeg)))), (0, .ref mO), (1, .int (nI bb)), (2, .int (nI nn)), (4, .int (nI i24))]) hx hb dX7_waits_58 rfl hl (by decide) rfl (fun ls hl => ?_)
      refine lv_iinc (v := nI (i24 + 1)) (lv' := [(4, .int (nI (i24 + 1))), (3, .int (v3_24 + ((nI (i24 + 1)) * (zs ((nI (186 + (12 * bb))) + (((rr1).2) i24)).toNatClampNeg)))), (0, .ref mO), (1, .int (nI bb)), (2, .int (nI nn))]) hx hb dX7_waits_59 hl (k := 4) rfl (nI_1 i24) (by decide) rfl (fun ls hl => ?_)
      refine lv_goto (tgt := 24) hx hb dX7_waits_62 (by decide) ?_
      exact ih24 (i24 + 1) (v3_24 + ((nI (i24 + 1)) * (zs ((nI (186 + (12 * bb))) + (((rr1).2) i24)).toNatClampNeg))) (by omega)  hf _ _ ls hP hD hS (lv_sub hl [2, 3, 4, 1, 0] rfl)
  exact L24 nn 0 0 (by omega)  hf _ _ ls hP hD hS (lv_sub hl [3, 4, 2, 1, 0] rfl)
def f_X7_waits_A (zf : Nat → Int32) : Int32 × (Nat → Int32) := ((f_X7_refuse zf (-1)).1, (f_X7_refuse zf (-1)).2)
set_option maxHeartbeats 4000000 in
set_option maxRecDepth 100000 in
theorem k_X7_waits_A (l : Launch) (G : wG) (mO : Nat) (mA : Nat) (mS : Nat) (mI : Nat) (mV : Nat) (mT : Nat) (mR : Nat) (mW : Nat) (mN : Nat) (me : Int32) (mz : Nat) (ma : Nat) (mr : Nat) (zf : Nat → Int32) (bo : Int32) (hbad : f_X7_isBook bo = 0) : CT l G yX7_waits cX7_waits 5 (some .int) ({ frames := 2, cells := 0, slots := 0, locals := 41 }) [.ref mO, .int bo] [(mO, .inr (7, [.ref mA, .ref mS, .ref mI, .ref mV, .int me, .ref mT, .ref mR, .int (nI mz), .int (nI ma), .ref mW, .int (nI mr), .ref mN])), (mA, .inl (G.2.1, 7, .inl zf))] (fun u => [(mO, .inr (7, [.ref mA, .ref mS, .ref mI, .ref mV, .int me, .ref mT, .ref mR, .int (nI mz), .int (nI ma), .ref mW, .int (nI mr), .ref mN])), (mA, .inl (G.2.1, 7, .inl u.2))]) (fun u => some (.int u.1)) (f_X7_waits_A zf) := by
  obtain ⟨R, hf⟩ : ∃ R, f_X7_waits_A zf = R := ⟨_, rfl⟩
  rw [hf]
  refine CT.mkI RX7 (by decide +kernel) rfl (Nat.le_of_ble_eq_true rfl) ?_
  intro p e s m args below meth c A Q ls hx hb hml hown hK hP hD hS hA hret hl
  have hl : lv_has ls 5 [(0, .ref mO), (1, .int bo)] := hl
  rw [f_X7_waits_A] at hf
  refine lv_iload_n hx hb dX7_waits_0 rfl (lv_at hl 1 rfl) ?_
  refine cl_S (ws' := [(mO, .inr (7, [.ref mA, .ref mS, .ref mI, .ref mV, .int me, .ref mT, .ref mR, .int (nI mz), .int (nI ma), .ref mW, .int (nI mr), .ref mN])), (mA, .inl (G.2.1, 7, .inl zf))]) (v := (some (.int (f_X7_isBook bo)))) (st1 := [.int (f_X7_isBook bo)]) (rest := []) (As := [.int bo]) [] hx hb hml hown hK (k_X7_isBook l G bo ) (mf_X7_isBook hK.2) (kw_728 hK.2) (kw_727 hK.2) ⟨rfl, rfl, Nat.le_of_ble_eq_true rfl, Nat.le_of_ble_eq_true rfl⟩ rfl hP hD hS hA hl (Nat.le_of_ble_eq_true rfl) rfl ⟨Nat.le_of_ble_eq_true rfl, Nat.le_of_ble_eq_true rfl⟩ rfl dX7_waits_1 rfl rfl rfl rfl rfl rfl (fun H locs hP hD hS => ?_)
  refine lv_if_ne (tgt := 13) hx hb dX7_waits_4 (by decide) (fun c => absurd hbad c) (fun _ => ?_)
  refine lv_aload_n hx hb dX7_waits_7 rfl (lv_at hl 0 rfl) ?_
  refine lv_iconst (v := -1) hx hb dX7_waits_8 (by decide) ?_
  refine cl_V (q := (RX7, TX7, 12)) (ws' := [(mO, .inr (7, [.ref mA, .ref mS, .ref mI, .ref mV, .int me, .ref mT, .ref mR, .int (nI mz), .int (nI ma), .ref mW, .int (nI mr), .ref mN])), (mA, .inl (G.2.1, 7, .inl ((f_X7_refuse zf (-1)).2)))]) (v := (some (.int ((f_X7_refuse zf (-1)).1)))) (st1 := [.int ((f_X7_refuse zf (-1)).1)]) (rest := []) (As := [.int (-1)]) [0, 1] 0 7 hx hb hml hown hK (k_X7_refuse l G mO mA mS mI mV mT mR mW mN me mz ma mr zf (-1) vp7_1) (mf_X7_refuse hK.2) (kw_720 hK.2) (kw_11 hK.2) (kw_718 hK.2) ⟨rfl, rfl, Nat.le_of_ble_eq_true rfl, Nat.le_of_ble_eq_true rfl⟩ rfl hP hD hS hA rfl rfl hl (Nat.le_of_ble_eq_true rfl) rfl ⟨Nat.le_of_ble_eq_true rfl, Nat.le_of_ble_eq_true rfl⟩ rfl dX7_waits_9 rfl rfl (rpl_fast (by decide) rfl rfl) rfl rfl rfl (fun H locs hP hD hS => ?_)
  exact hret ((f_X7_refuse zf (-1)).1, (f_X7_refuse zf (-1)).2) dX7_waits_12 rfl hf rfl hP hS
