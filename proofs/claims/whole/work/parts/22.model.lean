theorem vp7_1 : vp_in (-(-1 : Int32)) 7 := by unfold vp_in; decide
theorem vp7_2 : vp_in (-(-2 : Int32)) 7 := by unfold vp_in; decide
theorem vp7_3 : vp_in (-(-3 : Int32)) 7 := by unfold vp_in; decide
theorem vp7_4 : vp_in (-(-4 : Int32)) 7 := by unfold vp_in; decide
theorem vp7_6 : vp_in (-(-6 : Int32)) 7 := by unfold vp_in; decide
theorem vp7_w (v a b : Int32) : vp_in (-(f_X7_within v a b)) 7 := by
  unfold f_X7_within
  split
  · split
    · unfold vp_in; decide
    · exact vp7_6
  · exact vp7_4
theorem isBook7 {b : Nat} (h : b < 2) : ¬ f_X7_isBook (nI b) = 0 := by
  rcases (show b = 0 ∨ b = 1 by omega) with rfl | rfl <;> decide
theorem isIn_in {x : Int32} {n : Nat} (hn : n < 2 ^ 31) (h : ¬ f_X7_isIn x (nI n) = 0) : vp_in x n := by
  unfold f_X7_isIn at h
  by_cases h1 : x < 0
  · rw [if_pos h1] at h; exact absurd rfl h
  · rw [if_neg h1] at h
    by_cases h2 : nI n ≤ x
    · rw [if_pos h2] at h; exact absurd rfl h
    · exact vp_in_c hn h1 h2
theorem isIn_12 {x : Int32} (h : ¬ f_X7_isIn x 12 = 0) : vp_in x 12 := isIn_in (n := 12) (by decide) h
theorem isIn_Rg {x : Int32} (h : ¬ f_X7_isIn x 4096 = 0) : Rg x := by
  obtain ⟨j, hj, rfl⟩ := vp_in_of (isIn_in (n := 4096) (by decide) h) (by decide)
  exact Rg_of hj
theorem ix_add {a n : Nat} {w : Int32} (h : vp_in w 12) (ha : a + 12 ≤ n) (hn : n < 2 ^ 31) : vp_in (nI a + w) n := by
  obtain ⟨j, hj, rfl⟩ := vp_in_of h (by decide)
  rw [nI_add]
  exact vp_in_nI (by omega) hn
theorem cix {x : Int32} (h : x = 0 ∨ x = 1) : vp_in (160 + x) 259 := by
  rcases h with rfl | rfl <;> (unfold vp_in; decide)
theorem rix {x : Int32} (h1 : ¬ x ≤ 10) (h2 : ¬ (17 : Int32) ≤ x) : vp_in (x - 10) 7 := by
  have h0 : ¬ x < 0 := fun h => h1 (Int32.le_trans (Int32.le_of_lt h) (by decide))
  obtain ⟨j, hj, rfl⟩ := nI_of h0
  have e1 : ¬ nI j ≤ nI 10 := h1
  have e2 : ¬ nI 17 ≤ nI j := h2
  rw [nI_leI hj (by decide)] at e1
  rw [nI_leI (by decide) hj] at e2
  have e3 : nI j - 10 = nI (j - 10) := nI_subE rfl rfl (by omega)
  rw [e3]
  exact vp_in_nI (by omega) (by decide)
theorem Rg_few10 {cont : Int32} {zs : Nat → Int32} {bb bn i2 : Nat} (hc : Rg cont) : ∀ k i : Nat, k + i = 4096 → Rg (f_X7_fewestOf_10 cont zs bb bn i2 k i) := by
  intro k
  induction k with
  | zero => intro i _; rw [f_X7_fewestOf_10_z]; exact hc
  | succ k ih =>
    intro i hk
    rw [f_X7_fewestOf_10_s]
    split
    · split
      · exact ih _ (by omega)
      · exact Rg_of (by omega)
    · exact ih _ (by omega)
theorem Rg_few2 {zs : Nat → Int32} {bb bn : Nat} : ∀ k i : Nat, Rg (f_X7_fewestOf_2 zs bb bn k i) := by
  intro k
  induction k with
  | zero => intro i; rw [f_X7_fewestOf_2_z]; exact Rg_of (j := 4095) (by decide)
  | succ k ih => intro i; rw [f_X7_fewestOf_2_s]; exact Rg_few10 (ih _) _ _ rfl
theorem Rg_few {zs : Nat → Int32} {bb bn : Nat} : Rg (f_X7_fewestOf zs bb bn) := Rg_few2 _ _
theorem Rg_knot15 {zs : Nat → Int32} {bb bn : Nat} {wo : Int32} : ∀ (k i : Nat) (a : Int32), k + i = 12 → Rg a → Rg (f_X7_knotBy_15 zs bb bn wo k i a) := by
  intro k
  induction k with
  | zero => intro i a _ ha; rw [f_X7_knotBy_15_z]; exact ha
  | succ k ih =>
    intro i a hk ha
    rw [f_X7_knotBy_15_s]
    split
    · split
      · exact ih _ _ (by omega) (Rg_or ha (Rg_bit (by omega)))
      · exact ih _ _ (by omega) (Rg_or ha Rg_0)
    · exact ih _ _ (by omega) (Rg_or ha Rg_0)
theorem Rg_knotBy {zs : Nat → Int32} {bb bn w : Nat} (hw : w < 12) : Rg (f_X7_knotBy zs bb bn (nI w)) := Rg_knot15 _ _ _ (by omega) (Rg_bit hw)
def f_X7_needed (zf : Nat → Int32) (zs : Nat → Int32) (bb : Nat) (bn : Nat) (wo : Int32) : Int32 × (Nat → Int32) := (if (f_X7_isIn wo 12) = 0 then ((f_X7_refuse zf (-1)).1, (f_X7_refuse zf (-1)).2) else (f_X7_neededBy zs bb bn wo, zf))
set_option maxHeartbeats 4000000 in
set_option maxRecDepth 100000 in
theorem k_X7_needed (l : Launch) (G : wG) (mO : Nat) (mA : Nat) (mS : Nat) (mI : Nat) (mV : Nat) (mT : Nat) (mR : Nat) (mW : Nat) (mN : Nat) (me : Int32) (mz : Nat) (ma : Nat) (mr : Nat) (zf : Nat → Int32) (zs : Nat → Int32) (bb : Nat) (bn : Nat) (wo : Int32) (hbb : bb < 2) (hbn : zs (160 + bb) = nI bn) (hb2 : bn ≤ 20) (hnd : ∀ t : Nat, t < bn → Rg (zs (80 * bb + 4 * t + 2))) (hwd : ∀ t : Nat, t < bn → ∃ w : Nat, w < 12 ∧ zs (80 * bb + 4 * t) = nI w) : CT l G yX7_needed cX7_needed 3 (some .int) ({ frames := 2, cells := 0, slots := 0, locals := 47 }) [.ref mO, .int (nI bb), .int wo] [(mO, .inr (7, [.ref mA, .ref mS, .ref mI, .ref mV, .int me, .ref mT, .ref mR, .int (nI mz), .int (nI ma), .ref mW, .int (nI mr), .ref mN])), (mA, .inl (G.2.1, 7, .inl zf)), (mS, .inl (G.2.1, 259, .inl zs))] (fun u => [(mO, .inr (7, [.ref mA, .ref mS, .ref mI, .ref mV, .int me, .ref mT, .ref mR, .int (nI mz), .int (nI ma), .ref mW, .int (nI mr), .ref mN])), (mA, .inl (G.2.1, 7, .inl u.2)), (mS, .inl (G.2.1, 259, .inl zs))]) (fun u => some (.int u.1)) (f_X7_needed zf zs bb bn wo) := by
  obtain ⟨R, hf⟩ : ∃ R, f_X7_needed zf zs bb bn wo = R := ⟨_, rfl⟩
  rw [hf]
  refine CT.mkI RX7 (by decide +kernel) rfl (Nat.le_of_ble_eq_true rfl) ?_
  intro p e s m args below meth c A Q ls hx hb hml hown hK hP hD hS hA hret hl
  have hl : lv_has ls 3 [(0, .ref mO), (1, .int (nI bb)), (2, .int wo)] := hl
  rw [f_X7_needed] at hf
  refine lv_iload_n hx hb dX7_needed_0 rfl (lv_at hl 1 rfl) ?_
  refine cl_S (ws' := [(mO, .inr (7, [.ref mA, .ref mS, .ref mI, .ref mV, .int me, .ref mT, .ref mR, .int (nI mz), .int (nI ma), .ref mW, .int (nI mr), .ref mN])), (mA, .inl (G.2.1, 7, .inl zf)), (mS, .inl (G.2.1, 259, .inl zs))]) (v := (some (.int (f_X7_isBook (nI bb))))) (st1 := [.int (f_X7_isBook (nI bb))]) (rest := []) (As := [.int (nI bb)]) [] hx hb hml hown hK (k_X7_isBook l G (nI bb) ) (mf_X7_isBook hK.2) (kw_728 hK.2) (kw_727 hK.2) ⟨rfl, rfl, Nat.le_of_ble_eq_true rfl, Nat.le_of_ble_eq_true rfl⟩ rfl hP hD hS hA hl (Nat.le_of_ble_eq_true rfl) rfl ⟨Nat.le_of_ble_eq_true rfl, Nat.le_of_ble_eq_true rfl⟩ rfl dX7_needed_1 rfl rfl rfl rfl rfl rfl (fun H locs hP hD hS => ?_)
  refine lv_if_eq (tgt := 25) hx hb dX7_needed_4 (by decide) (fun c => absurd c (isBook7 hbb)) (fun _ => ?_)
  refine lv_iload_n hx hb dX7_needed_7 rfl (lv_at hl 2 rfl) ?_
  refine lv_bipush (v := 12) hx hb dX7_needed_8 (by decide) ?_
  refine cl_S (ws' := [(mO, .inr (7, [.ref mA, .ref mS, .ref mI, .ref mV, .int me, .ref mT, .ref mR, .int (nI mz), .int (nI ma), .ref mW, .int (nI mr), .ref mN])), (mA, .inl (G.2.1, 7, .inl zf)), (mS, .inl (G.2.1, 259, .inl zs))]) (v := (some (.int (f_X7_isIn wo 12)))) (st1 := [.int (f_X7_isIn wo 12)]) (rest := []) (As := [.int wo, .int 12]) [] hx hb hml hown hK (k_X7_isIn l G wo 12 ) (mf_X7_isIn hK.2) (kw_731 hK.2) (kw_730 hK.2) ⟨rfl, rfl, Nat.le_of_ble_eq_true rfl, Nat.le_of_ble_eq_true rfl⟩ rfl hP hD hS hA hl (Nat.le_of_ble_eq_true rfl) rfl ⟨Nat.le_of_ble_eq_true rfl, Nat.le_of_ble_eq_true rfl⟩ rfl dX7_needed_10 rfl rfl rfl rfl rfl rfl (fun H locs hP hD hS => ?_)
  refine lv_if_eq (tgt := 25) hx hb dX7_needed_13 (by decide) (fun c1 => ?_) (fun c1 => ?_)
  · have hf := (if_pos c1).symm.trans hf
    refine lv_aload_n hx hb dX7_needed_25 rfl (lv_at hl 0 rfl) ?_
    refine lv_iconst (v := -1) hx hb dX7_needed_26 (by decide) ?_
    refine cl_V (q := (RX7, TX7, 12)) (ws' := [(mO, .inr (7, [.ref mA, .ref mS, .ref mI, .ref mV, .int me, .ref mT, .ref mR, .int (nI mz), .int (nI ma), .ref mW, .int (nI mr), .ref mN])), (mA, .inl (G.2.1, 7, .inl ((f_X7_refuse zf (-1)).2))), (mS, .inl (G.2.1, 259, .inl zs))]) (v := (some (.int ((f_X7_refuse zf (-1)).1)))) (st1 := [.int ((f_X7_refuse zf (-1)).1)]) (rest := []) (As := [.int (-1)]) [0, 1] 0 7 hx hb hml hown hK (k_X7_refuse l G mO mA mS mI mV mT mR mW mN me mz ma mr zf (-1) vp7_1) (mf_X7_refuse hK.2) (kw_720 hK.2) (kw_11 hK.2) (kw_718 hK.2) ⟨rfl, rfl, Nat.le_of_ble_eq_true rfl, Nat.le_of_ble_eq_true rfl⟩ rfl hP hD hS hA rfl rfl hl (Nat.le_of_ble_eq_true rfl) rfl ⟨Nat.le_of_ble_eq_true rfl, Nat.le_of_ble_eq_true rfl⟩ rfl dX7_needed_27 rfl rfl (rpl_fast (by decide) rfl rfl) rfl rfl rfl (fun H locs hP hD hS => ?_)
    exact hret ((f_X7_refuse zf (-1)).1, (f_X7_refuse zf (-1)).2) dX7_needed_30 rfl hf rfl hP hS
  · have hf := (if_neg c1).symm.trans hf
    refine lv_aload_n hx hb dX7_needed_16 rfl (lv_at hl 0 rfl) ?_
    refine lv_iload_n hx hb dX7_needed_17 rfl (lv_at hl 1 rfl) ?_
    refine lv_iload_n hx hb dX7_needed_18 rfl (lv_at hl 2 rfl) ?_
    refine cl_V (q := (RX7, TX7, 12)) (ws' := [(mO, .inr (7, [.ref mA, .ref mS, .ref mI, .ref mV, .int me, .ref mT, .ref mR, .int (nI mz), .int (nI ma), .ref mW, .int (nI mr), .ref mN])), (mA, .inl (G.2.1, 7, .inl zf)), (mS, .inl (G.2.1, 259, .inl zs))]) (v := (some (.int (f_X7_neededBy zs bb bn wo)))) (st1 := [.int (f_X7_neededBy zs bb bn wo)]) (rest := []) (As := [.int (nI bb), .int wo]) [0, 2] 0 7 hx hb hml hown hK (k_X7_neededBy l G mO mA mS mI mV mT mR mW mN me mz ma mr zs bb bn wo hbb hbn hb2) (mf_X7_neededBy hK.2) (kw_816 hK.2) (kw_22 hK.2) (kw_814 hK.2) ⟨rfl, rfl, Nat.le_of_ble_eq_true rfl, Nat.le_of_ble_eq_true rfl⟩ rfl hP hD hS hA rfl rfl hl (Nat.le_of_ble_eq_true rfl) rfl ⟨Nat.le_of_ble_eq_true rfl, Nat.le_of_ble_eq_true rfl⟩ rfl dX7_needed_19 rfl rfl (rpl_fast (by decide) rfl rfl) rfl rfl rfl (fun H locs hP hD hS => ?_)
    refine lv_goto (tgt := 30) hx hb dX7_needed_22 (by decide) ?_
    exact hret (f_X7_neededBy zs bb bn wo, zf) dX7_needed_30 rfl hf rfl hP hS
def f_X7_needed_A (zf : Nat → Int32) : Int32 × (Nat → Int32) := ((f_X7_refuse zf (-1)).1, (f_X7_refuse zf (-1)).2)
set_option maxHeartbeats 4000000 in
set_option maxRecDepth 100000 in
theorem k_X7_needed_A (l : Launch) (G : wG) (mO : Nat) (mA : Nat) (mS : Nat) (mI : Nat) (mV : Nat) (mT : Nat) (mR : Nat) (mW : Nat) (mN : Nat) (me : Int32) (mz : Nat) (ma : Nat) (mr : Nat) (zf : Nat → Int32) (bo : Int32) (wo : Int32) (hbad : f_X7_isBook bo = 0) : CT l G yX7_needed cX7_needed 3 (some .int) ({ frames := 2, cells := 0, slots := 0, locals := 41 }) [.ref mO, .int bo, .int wo] [(mO, .inr (7, [.ref mA, .ref mS, .ref mI, .ref mV, .int me, .ref mT, .ref mR, .int (nI mz), .int (nI ma), .ref mW, .int (nI mr), .ref mN])), (mA, .inl (G.2.1, 7, .inl zf))] (fun u => [(mO, .inr (7, [.ref mA, .ref mS, .ref mI, .ref mV, .int me, .ref mT, .ref mR, .int (nI mz), .int (nI ma), .ref mW, .int (nI mr), .ref mN])), (mA, .inl (G.2.1, 7, .inl u.2))]) (fun u => some (.int u.1)) (f_X7_needed_A zf) := by
  obtain ⟨R, hf⟩ : ∃ R, f_X7_needed_A zf = R := ⟨_, rfl⟩
  rw [hf]
  refine CT.mkI RX7 (by decide +kernel) rfl (Nat.le_of_ble_eq_true rfl) ?_
  intro p e s m args below meth c A Q ls hx hb hml hown hK hP hD hS hA hret hl
  have hl : lv_has ls 3 [(0, .ref mO), (1, .int bo), (2, .int wo)] := hl
  rw [f_X7_needed_A] at hf
  refine lv_iload_n hx hb dX7_needed_0 rfl (lv_at hl 1 rfl) ?_
  refine cl_S (ws' := [(mO, .inr (7, [.ref mA, .ref mS, .ref mI, .ref mV, .int me, .ref mT, .ref mR, .int (nI mz), .int (nI ma), .ref mW, .int (nI mr), .ref mN])), (mA, .inl (G.2.1, 7, .inl zf))]) (v := (some (.int (f_X7_isBook bo)))) (st1 := [.int (f_X7_isBook bo)]) (rest := []) (As := [.int bo]) [] hx hb hml hown hK (k_X7_isBook l G bo ) (mf_X7_isBook hK.2) (kw_728 hK.2) (kw_727 hK.2) ⟨rfl, rfl, Nat.le_of_ble_eq_true rfl, Nat.le_of_ble_eq_true rfl⟩ rfl hP hD hS hA hl (Nat.le_of_ble_eq_true rfl) rfl ⟨Nat.le_of_ble_eq_true rfl, Nat.le_of_ble_eq_true rfl⟩ rfl dX7_needed_1 rfl rfl rfl rfl rfl rfl (fun H locs hP hD hS => ?_)
  refine lv_if_eq (tgt := 25) hx hb dX7_needed_4 (by decide) (fun _ => ?_) (fun c => absurd hbad c)
  refine lv_aload_n hx hb dX7_needed_25 rfl (lv_at hl 0 rfl) ?_
  refine lv_iconst (v := -1) hx hb dX7_needed_26 (by decide) ?_
  refine cl_V (q := (RX7, TX7, 12)) (ws' := [(mO, .inr (7, [.ref mA, .ref mS, .ref mI, .ref mV, .int me, .ref mT, .ref mR, .int (nI mz), .int (nI ma), .ref mW, .int (nI mr), .ref mN])), (mA, .inl (G.2.1, 7, .inl ((f_X7_refuse zf (-1)).2)))]) (v := (some (.int ((f_X7_refuse zf (-1)).1)))) (st1 := [.int ((f_X7_refuse zf (-1)).1)]) (rest := []) (As := [.int (-1)]) [0, 1] 0 7 hx hb hml hown hK (k_X7_refuse l G mO mA mS mI mV mT mR mW mN me mz ma mr zf (-1) vp7_1) (mf_X7_refuse hK.2) (kw_720 hK.2) (kw_11 hK.2) (kw_718 hK.2) ⟨rfl, rfl, Nat.le_of_ble_eq_true rfl, Nat.le_of_ble_eq_true rfl⟩ rfl hP hD hS hA rfl rfl hl (Nat.le_of_ble_eq_true rfl) rfl ⟨Nat.le_of_ble_eq_true rfl, Nat.le_of_ble_eq_true rfl⟩ rfl dX7_needed_27 rfl rfl (rpl_fast (by decide) rfl rfl) rfl rfl rfl (fun H locs hP hD hS => ?_)
  exact hret ((f_X7_refuse zf (-1)).1, (f_X7_refuse zf (-1)).2) dX7_needed_30 rfl hf rfl hP hS
def f_X7_leads (zf : Nat → Int32) (zs : Nat → Int32) (bb : Nat) (bn : Nat) (wo : Int32) : Int32 × (Nat → Int32) := (if (f_X7_isIn wo 12) = 0 then ((f_X7_refuse zf (-1)).1, (f_X7_refuse zf (-1)).2) else (f_X7_leadsBy zs bb bn wo, zf))
set_option maxHeartbeats 4000000 in
set_option maxRecDepth 100000 in
theorem k_X7_leads (l : Launch) (G : wG) (mO : Nat) (mA : Nat) (mS : Nat) (mI : Nat) (mV : Nat) (mT : Nat) (mR : Nat) (mW : Nat) (mN : Nat) (me : Int32) (mz : Nat) (ma : Nat) (mr : Nat) (zf : Nat → Int32) (zs : Nat → Int32) (bb : Nat) (bn : Nat) (wo : Int32) (hbb : bb < 2) (hbn : zs (160 + bb) = nI bn) (hb2 : bn ≤ 20) (hnd : ∀ t : Nat, t < bn → Rg (zs (80 * bb + 4 * t + 2))) (hwd : ∀ t : Nat, t < bn → ∃ w : Nat, w < 12 ∧ zs (80 * bb + 4 * t) = nI w) : CT l G yX7_leads cX7_leads 3 (some .int) ({ frames := 3, cells := 0, slots := 0, locals := 72 }) [.ref mO, .int (nI bb), .int wo] [(mO, .inr (7, [.ref mA, .ref mS, .ref mI, .ref mV, .int me, .ref mT, .ref mR, .int (nI mz), .int (nI ma), .ref mW, .int (nI mr), .ref mN])), (mA, .inl (G.2.1, 7, .inl zf)), (mS, .inl (G.2.1, 259, .inl zs))] (fun u => [(mO, .inr (7, [.ref mA, .ref mS, .ref mI, .ref mV, .int me, .ref mT, .ref mR, .int (nI mz), .int (nI ma), .ref mW, .int (nI mr), .ref mN])), (mA, .inl (G.2.1, 7, .inl u.2)), (mS, .inl (G.2.1, 259, .inl zs))]) (fun u => some (.int u.1)) (f_X7_leads zf zs bb bn wo) := by
  obtain ⟨R, hf⟩ : ∃ R, f_X7_leads zf zs bb bn wo = R := ⟨_, rfl⟩
  rw [hf]
  refine CT.mkI RX7 (by decide +kernel) rfl (Nat.le_of_ble_eq_true rfl) ?_
  intro p e s m args below meth c A Q ls hx hb hml hown hK hP hD hS hA hret hl
  have hl : lv_has ls 3 [(0, .ref mO), (1, .int (nI bb)), (2, .int wo)] := hl
  rw [f_X7_leads] at hf
  refine lv_iload_n hx hb dX7_leads_0 rfl (lv_at hl 1 rfl) ?_
  refine cl_S (ws' := [(mO, .inr (7, [.ref mA, .ref mS, .ref mI, .ref mV, .int me, .ref mT, .ref mR, .int (nI mz), .int (nI ma), .ref mW, .int (nI mr), .ref mN])), (mA, .inl (G.2.1, 7, .inl zf)), (mS, .inl (G.2.1, 259, .inl zs))]) (v := (some (.int (f_X7_isBook (nI bb))))) (st1 := [.int (f_X7_isBook (nI bb))]) (rest := []) (As := [.int (nI bb)]) [] hx hb hml hown hK (k_X7_isBook l G (nI bb) ) (mf_X7_isBook hK.2) (kw_728 hK.2) (kw_727 hK.2) ⟨rfl, rfl, Nat.le_of_ble_eq_true rfl, Nat.le_of_ble_eq_true rfl⟩ rfl hP hD hS hA hl (Nat.le_of_ble_eq_true rfl) rfl ⟨Nat.le_of_ble_eq_true rfl, Nat.le_of_ble_eq_true rfl⟩ rfl dX7_leads_1 rfl rfl rfl rfl rfl rfl (fun H locs hP hD hS => ?_)
  refine lv_if_eq (tgt := 25) hx hb dX7_leads_4 (by decide) (fun c => absurd c (isBook7 hbb)) (fun _ => ?_)
  refine lv_iload_n hx hb dX7_leads_7 rfl (lv_at hl 2 rfl) ?_
  refine lv_bipush (v := 12) hx hb dX7_leads_8 (by decide) ?_
  refine cl_S (ws' := [(mO, .inr (7, [.ref mA, .ref mS, .ref mI, .ref mV, .int me, .ref mT, .ref mR, .int (nI mz), .int (nI ma), .ref mW, .int (nI mr), .ref mN])), (mA, .inl (G.2.1, 7, .inl zf)), (mS, .inl (G.2.1, 259, .inl zs))]) (v := (some (.int (f_X7_isIn wo 12)))) (st1 := [.int (f_X7_isIn wo 12)]) (rest := []) (As := [.int wo, .int 12]) [] hx hb hml hown hK (k_X7_isIn l G wo 12 ) (mf_X7_isIn hK.2) (kw_731 hK.2) (kw_730 hK.2) ⟨rfl, rfl, Nat.le_of_ble_eq_true rfl, Nat.le_of_ble_eq_true rfl⟩ rfl hP hD hS hA hl (Nat.le_of_ble_eq_true rfl) rfl ⟨Nat.le_of_ble_eq_true rfl, Nat.le_of_ble_eq_true rfl⟩ rfl dX7_leads_10 rfl rfl rfl rfl rfl rfl (fun H locs hP hD hS => ?_)
  refine lv_if_eq (tgt := 25) hx hb dX7_leads_13 (by decide) (fun c1 => ?_) (fun c1 => ?_)
  · have hf := (if_pos c1).symm.trans hf
    refine lv_aload_n hx hb dX7_leads_25 rfl (lv_at hl 0 rfl) ?_
    refine lv_iconst (v := -1) hx hb dX7_leads_26 (by decide) ?_
    refine cl_V (q := (RX7, TX7, 12)) (ws' := [(mO, .inr (7, [.ref mA, .ref mS, .ref mI, .ref mV, .int me, .ref mT, .ref mR, .int (nI mz), .int (nI ma), .ref mW, .int (nI mr), .ref mN])), (mA, .inl (G.2.1, 7, .inl ((f_X7_refuse zf (-1)).2))), (mS, .inl (G.2.1, 259, .inl zs))]) (v := (some (.int ((f_X7_refuse zf (-1)).1)))) (st1 := [.int ((f_X7_refuse zf (-1)).1)]) (rest := []) (As := [.int (-1)]) [0, 1] 0 7 hx hb hml hown hK (k_X7_refuse l G mO mA mS mI mV mT mR mW mN me mz ma mr zf (-1) vp7_1) (mf_X7_refuse hK.2) (kw_720 hK.2) (kw_11 hK.2) (kw_718 hK.2) ⟨rfl, rfl, Nat.le_of_ble_eq_true rfl, Nat.le_of_ble_eq_true rfl⟩ rfl hP hD hS hA rfl rfl hl (Nat.le_of_ble_eq_true rfl) rfl ⟨Nat.le_of_ble_eq_true rfl, Nat.le_of_ble_eq_true rfl⟩ rfl dX7_leads_27 rfl rfl (rpl_fast (by decide) rfl rfl) rfl rfl rfl (fun H locs hP hD hS => ?_)
    exact hret ((f_X7_refuse zf (-1)).1, (f_X7_refuse zf (-1)).2) dX7_leads_30 rfl hf rfl hP hS
  · have hf := (if_neg c1).symm.trans hf
    refine lv_aload_n hx hb dX7_leads_16 rfl (lv_at hl 0 rfl) ?_
    refine lv_iload_n hx hb dX7_leads_17 rfl (lv_at hl 1 rfl) ?_
    refine lv_iload_n hx hb dX7_leads_18 rfl (lv_at hl 2 rfl) ?_
    refine cl_V (q := (RX7, TX7, 12)) (ws' := [(mO, .inr (7, [.ref mA, .ref mS, .ref mI, .ref mV, .int me, .ref mT, .ref mR, .int (nI mz), .int (nI ma), .ref mW, .int (nI mr), .ref mN])), (mA, .inl (G.2.1, 7, .inl zf)), (mS, .inl (G.2.1, 259, .inl zs))]) (v := (some (.int (f_X7_leadsBy zs bb bn wo)))) (st1 := [.int (f_X7_leadsBy zs bb bn wo)]) (rest := []) (As := [.int (nI bb), .int wo]) [0, 2] 0 7 hx hb hml hown hK (k_X7_leadsBy l G mO mA mS mI mV mT mR mW mN me mz ma mr zs bb bn wo hbb hbn hb2) (mf_X7_leadsBy hK.2) (kw_828 hK.2) (kw_23 hK.2) (kw_826 hK.2) ⟨rfl, rfl, Nat.le_of_ble_eq_true rfl, Nat.le_of_ble_eq_true rfl⟩ rfl hP hD hS hA rfl rfl hl (Nat.le_of_ble_eq_true rfl) rfl ⟨Nat.le_of_ble_eq_true rfl, Nat.le_of_ble_eq_true rfl⟩ rfl dX7_leads_19 rfl rfl (rpl_fast (by decide) rfl rfl) rfl rfl rfl (fun H locs hP hD hS => ?_)
    refine lv_goto (tgt := 30) hx hb dX7_leads_22 (by decide) ?_
    exact hret (f_X7_leadsBy zs bb bn wo, zf) dX7_leads_30 rfl hf rfl hP hS
def f_X7_leads_A (zf : Nat → Int32) : Int32 × (Nat → Int32) := ((f_X7_refuse zf (-1)).1, (f_X7_refuse zf (-1)).2)
set_option maxHeartbeats 4000000 in
set_option maxRecDepth 100000 in
theorem k_X7_leads_A (l : Launch) (G : wG) (mO : Nat) (mA : Nat) (mS : Nat) (mI : Nat) (mV : Nat) (mT : Nat) (mR : Nat) (mW : Nat) (mN : Nat) (me : Int32) (mz : Nat) (ma : Nat) (mr : Nat) (zf : Nat → Int32) (bo : Int32) (wo : Int32) (hbad : f_X7_isBook bo = 0) : CT l G yX7_leads cX7_leads 3 (some .int) ({ frames := 2, cells := 0, slots := 0, locals := 41 }) [.ref mO, .int bo, .int wo] [(mO, .inr (7, [.ref mA, .ref mS, .ref mI, .ref mV, .int me, .ref mT, .ref mR, .int (nI mz), .int (nI ma), .ref mW, .int (nI mr), .ref mN])), (mA, .inl (G.2.1, 7, .inl zf))] (fun u => [(mO, .inr (7, [.ref mA, .ref mS, .ref mI, .ref mV, .int me, .ref mT, .ref mR, .int (nI mz), .int (nI ma), .ref mW, .int (nI mr), .ref mN])), (mA, .inl (G.2.1, 7, .inl u.2))]) (fun u => some (.int u.1)) (f_X7_leads_A zf) := by
  obtain ⟨R, hf⟩ : ∃ R, f_X7_leads_A zf = R := ⟨_, rfl⟩
  rw [hf]
  refine CT.mkI RX7 (by decide +kernel) rfl (Nat.le_of_ble_eq_true rfl) ?_
  intro p e s m args below meth c A Q ls hx hb hml hown hK hP hD hS hA hret hl
  have hl : lv_has ls 3 [(0, .ref mO), (1, .int bo), (2, .int wo)] := hl
  rw [f_X7_leads_A] at hf
  refine lv_iload_n hx hb dX7_leads_0 rfl (lv_at hl 1 rfl) ?_
  refine cl_S (ws' := [(mO, .inr (7, [.ref mA, .ref mS, .ref mI, .ref mV, .int me, .ref mT, .ref mR, .int (nI mz), .int (nI ma), .ref mW, .int (nI mr), .ref mN])), (mA, .inl (G.2.1, 7, .inl zf))]) (v := (some (.int (f_X7_isBook bo)))) (st1 := [.int (f_X7_isBook bo)]) (rest := []) (As := [.int bo]) [] hx hb hml hown hK (k_X7_isBook l G bo ) (mf_X7_isBook hK.2) (kw_728 hK.2) (kw_727 hK.2) ⟨rfl, rfl, Nat.le_of_ble_eq_true rfl, Nat.le_of_ble_eq_true rfl⟩ rfl hP hD hS hA hl (Nat.le_of_ble_eq_true rfl) rfl ⟨Nat.le_of_ble_eq_true rfl, Nat.le_of_ble_eq_true rfl⟩ rfl dX7_leads_1 rfl rfl rfl rfl rfl rfl (fun H locs hP hD hS => ?_)
  refine lv_if_eq (tgt := 25) hx hb dX7_leads_4 (by decide) (fun _ => ?_) (fun c => absurd hbad c)
  refine lv_aload_n hx hb dX7_leads_25 rfl (lv_at hl 0 rfl) ?_
  refine lv_iconst (v := -1) hx hb dX7_leads_26 (by decide) ?_
  refine cl_V (q := (RX7, TX7, 12)) (ws' := [(mO, .inr (7, [.ref mA, .ref mS, .ref mI, .ref mV, .int me, .ref mT, .ref mR, .int (nI mz), .int (nI ma), .ref mW, .int (nI mr), .ref mN])), (mA, .inl (G.2.1, 7, .inl ((f_X7_refuse zf (-1)).2)))]) (v := (some (.int ((f_X7_refuse zf (-1)).1)))) (st1 := [.int ((f_X7_refuse zf (-1)).1)]) (rest := []) (As := [.int (-1)]) [0, 1] 0 7 hx hb hml hown hK (k_X7_refuse l G mO mA mS mI mV mT mR mW mN me mz ma mr zf (-1) vp7_1) (mf_X7_refuse hK.2) (kw_720 hK.2) (kw_11 hK.2) (kw_718 hK.2) ⟨rfl, rfl, Nat.le_of_ble_eq_true rfl, Nat.le_of_ble_eq_true rfl⟩ rfl hP hD hS hA rfl rfl hl (Nat.le_of_ble_eq_true rfl) rfl ⟨Nat.le_of_ble_eq_true rfl, Nat.le_of_ble_eq_true rfl⟩ rfl dX7_leads_27 rfl rfl (rpl_fast (by decide) rfl rfl) rfl rfl rfl (fun H locs hP hD hS => ?_)
  exact hret ((f_X7_refuse zf (-1)).1, (f_X7_refuse zf (-1)).2) dX7_leads_30 rfl hf rfl hP hS
def f_X7_knot (zf : Nat → Int32) (zs : Nat → Int32) (bb : Nat) (bn : Nat) (wo : Int32) : Int32 × (Nat → Int32) := (if (f_X7_isIn wo 12) = 0 then ((f_X7_refuse zf (-1)).1, (f_X7_refuse zf (-1)).2) else (f_X7_knotBy zs bb bn wo, zf))
set_option maxHeartbeats 4000000 in
set_option maxRecDepth 100000 in
theorem k_X7_knot (l : Launch) (G : wG) (mO : Nat) (mA : Nat) (mS : Nat) (mI : Nat) (mV : Nat) (mT : Nat) (mR : Nat) (mW : Nat) (mN : Nat) (me : Int32) (mz : Nat) (ma : Nat) (mr : Nat) (zf : Nat → Int32) (zs : Nat → Int32) (bb : Nat) (bn : Nat) (wo : Int32) (hbb : bb < 2) (hbn : zs (160 + bb) = nI bn) (hb2 : bn ≤ 20) (hnd : ∀ t : Nat, t < bn → Rg (zs (80 * bb + 4 * t + 2))) (hwd : ∀ t : Nat, t < bn → ∃ w : Nat, w < 12 ∧ zs (80 * bb + 4 * t) = nI w) : CT l G yX7_knot cX7_knot 3 (some .int) ({ frames := 4, cells := 0, slots := 0, locals := 97 }) [.ref mO, .int (nI bb), .int wo] [(mO, .inr (7, [.ref mA, .ref mS, .ref mI, .ref mV, .int me, .ref mT, .ref mR, .int (nI mz), .int (nI ma), .ref mW, .int (nI mr), .ref mN])), (mA, .inl (G.2.1, 7, .inl zf)), (mS, .inl (G.2.1, 259, .inl zs))] (fun u => [(mO, .inr (7, [.ref mA, .ref mS, .ref mI, .ref mV, .int me, .ref mT, .ref mR, .int (nI mz), .int (nI ma), .ref mW, .int (nI mr), .ref mN])), (mA, .inl (G.2.1, 7, .inl u.2)), (mS, .inl (G.2.1, 259, .inl zs))]) (fun u => some (.int u.1)) (f_X7_knot zf zs bb bn wo) := by
  obtain ⟨R, hf⟩ : ∃ R, f_X7_knot zf zs bb bn wo = R := ⟨_, rfl⟩
  rw [hf]
  refine CT.mkI RX7 (by decide +kernel) rfl (Nat.le_of_ble_eq_true rfl) ?_
  intro p e s m args below meth c A Q ls hx hb hml hown hK hP hD hS hA hret hl
  have hl : lv_has ls 3 [(0, .ref mO), (1, .int (nI bb)), (2, .int wo)] := hl
  rw [f_X7_knot] at hf
  refine lv_iload_n hx hb dX7_knot_0 rfl (lv_at hl 1 rfl) ?_
  refine cl_S (ws' := [(mO, .inr (7, [.ref mA, .ref mS, .ref mI, .ref mV, .int me, .ref mT, .ref mR, .int (nI mz), .int (nI ma), .ref mW, .int (nI mr), .ref mN])), (mA, .inl (G.2.1, 7, .inl zf)), (mS, .inl (G.2.1, 259, .inl zs))]) (v := (some (.int (f_X7_isBook (nI bb))))) (st1 := [.int (f_X7_isBook (nI bb))]) (rest := []) (As := [.int (nI bb)]) [] hx hb hml hown hK (k_X7_isBook l G (nI bb) ) (mf_X7_isBook hK.2) (kw_728 hK.2) (kw_727 hK.2) ⟨rfl, rfl, Nat.le_of_ble_eq_true rfl, Nat.le_of_ble_eq_true rfl⟩ rfl hP hD hS hA hl (Nat.le_of_ble_eq_true rfl) rfl ⟨Nat.le_of_ble_eq_true rfl, Nat.le_of_ble_eq_true rfl⟩ rfl dX7_knot_1 rfl rfl rfl rfl rfl rfl (fun H locs hP hD hS => ?_)
  refine lv_if_eq (tgt := 25) hx hb dX7_knot_4 (by decide) (fun c => absurd c (isBook7 hbb)) (fun _ => ?_)
  refine lv_iload_n hx hb dX7_knot_7 rfl (lv_at hl 2 rfl) ?_
  refine lv_bipush (v := 12) hx hb dX7_knot_8 (by decide) ?_
  refine cl_S (ws' := [(mO, .inr (7, [.ref mA, .ref mS, .ref mI, .ref mV, .int me, .ref mT, .ref mR, .int (nI mz), .int (nI ma), .ref mW, .int (nI mr), .ref mN])), (mA, .inl (G.2.1, 7, .inl zf)), (mS, .inl (G.2.1, 259, .inl zs))]) (v := (some (.int (f_X7_isIn wo 12)))) (st1 := [.int (f_X7_isIn wo 12)]) (rest := []) (As := [.int wo, .int 12]) [] hx hb hml hown hK (k_X7_isIn l G wo 12 ) (mf_X7_isIn hK.2) (kw_731 hK.2) (kw_730 hK.2) ⟨rfl, rfl, Nat.le_of_ble_eq_true rfl, Nat.le_of_ble_eq_true rfl⟩ rfl hP hD hS hA hl (Nat.le_of_ble_eq_true rfl) rfl ⟨Nat.le_of_ble_eq_true rfl, Nat.le_of_ble_eq_true rfl⟩ rfl dX7_knot_10 rfl rfl rfl rfl rfl rfl (fun H locs hP hD hS => ?_)
  refine lv_if_eq (tgt := 25) hx hb dX7_knot_13 (by decide) (fun c1 => ?_) (fun c1 => ?_)
  · have hf := (if_pos c1).symm.trans hf
    refine lv_aload_n hx hb dX7_knot_25 rfl (lv_at hl 0 rfl) ?_
    refine lv_iconst (v := -1) hx hb dX7_knot_26 (by decide) ?_
    refine cl_V (q := (RX7, TX7, 12)) (ws' := [(mO, .inr (7, [.ref mA, .ref mS, .ref mI, .ref mV, .int me, .ref mT, .ref mR, .int (nI mz), .int (nI ma), .ref mW, .int (nI mr), .ref mN])), (mA, .inl (G.2.1, 7, .inl ((f_X7_refuse zf (-1)).2))), (mS, .inl (G.2.1, 259, .inl zs))]) (v := (some (.int ((f_X7_refuse zf (-1)).1)))) (st1 := [.int ((f_X7_refuse zf (-1)).1)]) (rest := []) (As := [.int (-1)]) [0, 1] 0 7 hx hb hml hown hK (k_X7_refuse l G mO mA mS mI mV mT mR mW mN me mz ma mr zf (-1) vp7_1) (mf_X7_refuse hK.2) (kw_720 hK.2) (kw_11 hK.2) (kw_718 hK.2) ⟨rfl, rfl, Nat.le_of_ble_eq_true rfl, Nat.le_of_ble_eq_true rfl⟩ rfl hP hD hS hA rfl rfl hl (Nat.le_of_ble_eq_true rfl) rfl ⟨Nat.le_of_ble_eq_true rfl, Nat.le_of_ble_eq_true rfl⟩ rfl dX7_knot_27 rfl rfl (rpl_fast (by decide) rfl rfl) rfl rfl rfl (fun H locs hP hD hS => ?_)
    exact hret ((f_X7_refuse zf (-1)).1, (f_X7_refuse zf (-1)).2) dX7_knot_30 rfl hf rfl hP hS
  · have hf := (if_neg c1).symm.trans hf
    refine lv_aload_n hx hb dX7_knot_16 rfl (lv_at hl 0 rfl) ?_
    refine lv_iload_n hx hb dX7_knot_17 rfl (lv_at hl 1 rfl) ?_
    refine lv_iload_n hx hb dX7_knot_18 rfl (lv_at hl 2 rfl) ?_
    refine cl_V (q := (RX7, TX7, 12)) (ws' := [(mO, .inr (7, [.ref mA, .ref mS, .ref mI, .ref mV, .int me, .ref mT, .ref mR, .int (nI mz), .int (nI ma), .ref mW, .int (nI mr), .ref mN])), (mA, .inl (G.2.1, 7, .inl zf)), (mS, .inl (G.2.1, 259, .inl zs))]) (v := (some (.int (f_X7_knotBy zs bb bn wo)))) (st1 := [.int (f_X7_knotBy zs bb bn wo)]) (rest := []) (As := [.int (nI bb), .int wo]) [0, 2] 0 7 hx hb hml hown hK (k_X7_knotBy l G mO mA mS mI mV mT mR mW mN me mz ma mr zs bb bn wo hbb hbn hb2) (mf_X7_knotBy hK.2) (kw_836 hK.2) (kw_24 hK.2) (kw_834 hK.2) ⟨rfl, rfl, Nat.le_of_ble_eq_true rfl, Nat.le_of_ble_eq_true rfl⟩ rfl hP hD hS hA rfl rfl hl (Nat.le_of_ble_eq_true rfl) rfl ⟨Nat.le_of_ble_eq_true rfl, Nat.le_of_ble_eq_true rfl⟩ rfl dX7_knot_19 rfl rfl (rpl_fast (by decide) rfl rfl) rfl rfl rfl (fun H locs hP hD hS => ?_)
    refine lv_goto (tgt := 30) hx hb dX7_knot_22 (by decide) ?_
    exact hret (f_X7_knotBy zs bb bn wo, zf) dX7_knot_30 rfl hf rfl hP hS
def f_X7_knot_A (zf : Nat → Int32) : Int32 × (Nat → Int32) := ((f_X7_refuse zf (-1)).1, (f_X7_refuse zf (-1)).2)
set_option maxHeartbeats 4000000 in
set_option maxRecDepth 100000 in
theorem k_X7_knot_A (l : Launch) (G : wG) (mO : Nat) (mA : Nat) (mS : Nat) (mI : Nat) (mV : Nat) (mT : Nat) (mR : Nat) (mW : Nat) (mN : Nat) (me : Int32) (mz : Nat) (ma : Nat) (mr : Nat) (zf : Nat → Int32) (bo : Int32) (wo : Int32) (hbad : f_X7_isBook bo = 0) : CT l G yX7_knot cX7_knot 3 (some .int) ({ frames := 2, cells := 0, slots := 0, locals := 41 }) [.ref mO, .int bo, .int wo] [(mO, .inr (7, [.ref mA, .ref mS, .ref mI, .ref mV, .int me, .ref mT, .ref mR, .int (nI mz), .int (nI ma), .ref mW, .int (nI mr), .ref mN])), (mA, .inl (G.2.1, 7, .inl zf))] (fun u => [(mO, .inr (7, [.ref mA, .ref mS, .ref mI, .ref mV, .int me, .ref mT, .ref mR, .int (nI mz), .int (nI ma), .ref mW, .int (nI mr), .ref mN])), (mA, .inl (G.2.1, 7, .inl u.2))]) (fun u => some (.int u.1)) (f_X7_knot_A zf) := by
  obtain ⟨R, hf⟩ : ∃ R, f_X7_knot_A zf = R := ⟨_, rfl⟩
  rw [hf]
  refine CT.mkI RX7 (by decide +kernel) rfl (Nat.le_of_ble_eq_true rfl) ?_
  intro p e s m args below meth c A Q ls hx hb hml hown hK hP hD hS hA hret hl
  have hl : lv_has ls 3 [(0, .ref mO), (1, .int bo), (2, .int wo)] := hl
  rw [f_X7_knot_A] at hf
  refine lv_iload_n hx hb dX7_knot_0 rfl (lv_at hl 1 rfl) ?_
  refine cl_S (ws' := [(mO, .inr (7, [.ref mA, .ref mS, .ref mI, .ref mV, .int me, .ref mT, .ref mR, .int (nI mz), .int (nI ma), .ref mW, .int (nI mr), .ref mN])), (mA, .inl (G.2.1, 7, .inl zf))]) (v := (some (.int (f_X7_isBook bo)))) (st1 := [.int (f_X7_isBook bo)]) (rest := []) (As := [.int bo]) [] hx hb hml hown hK (k_X7_isBook l G bo ) (mf_X7_isBook hK.2) (kw_728 hK.2) (kw_727 hK.2) ⟨rfl, rfl, Nat.le_of_ble_eq_true rfl, Nat.le_of_ble_eq_true rfl⟩ rfl hP hD hS hA hl (Nat.le_of_ble_eq_true rfl) rfl ⟨Nat.le_of_ble_eq_true rfl, Nat.le_of_ble_eq_true rfl⟩ rfl dX7_knot_1 rfl rfl rfl rfl rfl rfl (fun H locs hP hD hS => ?_)
  refine lv_if_eq (tgt := 25) hx hb dX7_knot_4 (by decide) (fun _ => ?_) (fun c => absurd hbad c)
  refine lv_aload_n hx hb dX7_knot_25 rfl (lv_at hl 0 rfl) ?_
  refine lv_iconst (v := -1) hx hb dX7_knot_26 (by decide) ?_
  refine cl_V (q := (RX7, TX7, 12)) (ws' := [(mO, .inr (7, [.ref mA, .ref mS, .ref mI, .ref mV, .int me, .ref mT, .ref mR, .int (nI mz), .int (nI ma), .ref mW, .int (nI mr), .ref mN])), (mA, .inl (G.2.1, 7, .inl ((f_X7_refuse zf (-1)).2)))]) (v := (some (.int ((f_X7_refuse zf (-1)).1)))) (st1 := [.int ((f_X7_refuse zf (-1)).1)]) (rest := []) (As := [.int (-1)]) [0, 1] 0 7 hx hb hml hown hK (k_X7_refuse l G mO mA mS mI mV mT mR mW mN me mz ma mr zf (-1) vp7_1) (mf_X7_refuse hK.2) (kw_720 hK.2) (kw_11 hK.2) (kw_718 hK.2) ⟨rfl, rfl, Nat.le_of_ble_eq_true rfl, Nat.le_of_ble_eq_true rfl⟩ rfl hP hD hS hA rfl rfl hl (Nat.le_of_ble_eq_true rfl) rfl ⟨Nat.le_of_ble_eq_true rfl, Nat.le_of_ble_eq_true rfl⟩ rfl dX7_knot_27 rfl rfl (rpl_fast (by decide) rfl rfl) rfl rfl rfl (fun H locs hP hD hS => ?_)
  exact hret ((f_X7_refuse zf (-1)).1, (f_X7_refuse zf (-1)).2) dX7_knot_30 rfl hf rfl hP hS
def f_X7_idle_17 (zf : Nat → Int32) (zs : Nat → Int32) (bb : Nat) (bn : Nat) : Nat → Nat → Int32 → (Int32 × (Nat → Int32))
  | 0, i17, v2_17 => ((v2_17 ^^^ (-1 : Int32)) &&& (4095 : Int32), zf)
  | k17 + 1, i17, v2_17 => f_X7_idle_17 zf zs bb bn k17 (i17 + 1) (v2_17 ||| (f_X7_neededBy zs bb bn (nI i17)))
theorem f_X7_idle_17_z (zf : Nat → Int32) (zs : Nat → Int32) (bb : Nat) (bn : Nat) (i17 : Nat) (v2_17 : Int32) : f_X7_idle_17 zf zs bb bn 0 i17 v2_17 = ((v2_17 ^^^ (-1 : Int32)) &&& (4095 : Int32), zf) := rfl
theorem f_X7_idle_17_s (zf : Nat → Int32) (zs : Nat → Int32) (bb : Nat) (bn : Nat) (k17 : Nat) (i17 : Nat) (v2_17 : Int32) : f_X7_idle_17 zf zs bb bn (k17 + 1) i17 v2_17 = f_X7_idle_17 zf zs bb bn k17 (i17 + 1) (v2_17 ||| (f_X7_neededBy zs bb bn (nI i17))) := rfl
def f_X7_idle (zf : Nat → Int32) (zs : Nat → Int32) (bb : Nat) (bn : Nat) : Int32 × (Nat → Int32) := (f_X7_idle_17 zf zs bb bn 12 0 0)
set_option maxHeartbeats 4000000 in
set_option maxRecDepth 100000 in
theorem k_X7_idle (l : Launch) (G : wG) (mO : Nat) (mA : Nat) (mS : Nat) (mI : Nat) (mV : Nat) (mT : Nat) (mR : Nat) (mW : Nat) (mN : Nat) (me : Int32) (mz : Nat) (ma : Nat) (mr : Nat) (zf : Nat → Int32) (zs : Nat → Int32) (bb : Nat) (bn : Nat) (hbb : bb < 2) (hbn : zs (160 + bb) = nI bn) (hb2 : bn ≤ 20) (hnd : ∀ t : Nat, t < bn → Rg (zs (80 * bb + 4 * t + 2))) (hwd : ∀ t : Nat, t < bn → ∃ w : Nat, w < 12 ∧ zs (80 * bb + 4 * t) = nI w) : CT l G yX7_idle cX7_idle 4 (some .int) ({ frames := 2, cells := 0, slots := 0, locals := 47 }) [.ref mO, .int (nI bb)] [(mO, .inr (7, [.ref mA, .ref mS, .ref mI, .ref mV, .int me, .ref mT, .ref mR, .int (nI mz), .int (nI ma), .ref mW, .int (nI mr), .ref mN])), (mA, .inl (G.2.1, 7, .inl zf)), (mS, .inl (G.2.1, 259, .inl zs))] (fun u => [(mO, .inr (7, [.ref mA, .ref mS, .ref mI, .ref mV, .int me, .ref mT, .ref mR, .int (nI mz), .int (nI ma), .ref mW, .int (nI mr), .ref mN])), (mA, .inl (G.2.1, 7, .inl u.2)), (mS, .inl (G.2.1, 259, .inl zs))]) (fun u => some (.int u.1)) (f_X7_idle zf zs bb bn) := by
  obtain ⟨R, hf⟩ : ∃ R, f_X7_idle zf zs bb bn = R := ⟨_, rfl⟩
  rw [hf]
  refine CT.mkI RX7 (by decide +kernel) rfl (Nat.le_of_ble_eq_true rfl) ?_
  intro p e s m args below meth c A Q ls hx hb hml hown hK hP hD hS hA hret hl
  have hl : lv_has ls 4 [(0, .ref mO), (1, .int (nI bb))] := hl
  rw [f_X7_idle] at hf
  refine lv_iload_n hx hb dX7_idle_0 rfl (lv_at hl 1 rfl) ?_
  refine cl_S (ws' := [(mO, .inr (7, [.ref mA, .ref mS, .ref mI, .ref mV, .int me, .ref mT, .ref mR, .int (nI mz), .int (nI ma), .ref mW, .int (nI mr), .ref mN])), (mA, .inl (G.2.1, 7, .inl zf)), (mS, .inl (G.2.1, 259, .inl zs))]) (v := (some (.int (f_X7_isBook (nI bb))))) (st1 := [.int (f_X7_isBook (nI bb))]) (rest := []) (As := [.int (nI bb)]) [] hx hb hml hown hK (k_X7_isBook l G (nI bb) ) (mf_X7_isBook hK.2) (kw_728 hK.2) (kw_727 hK.2) ⟨rfl, rfl, Nat.le_of_ble_eq_true rfl, Nat.le_of_ble_eq_true rfl⟩ rfl hP hD hS hA hl (Nat.le_of_ble_eq_true rfl) rfl ⟨Nat.le_of_ble_eq_true rfl, Nat.le_of_ble_eq_true rfl⟩ rfl dX7_idle_1 rfl rfl rfl rfl rfl rfl (fun H locs hP hD hS => ?_)
  refine lv_if_ne (tgt := 13) hx hb dX7_idle_4 (by decide) (fun _ => ?_) (fun c => absurd c (isBook7 hbb))
  refine lv_iconst (v := 0) hx hb dX7_idle_13 (by decide) ?_
  refine lv_istore_n (lv' := [(2, .int 0), (0, .ref mO), (1, .int (nI bb))]) hx hb dX7_idle_14 rfl hl (by decide) rfl (fun ls hl => ?_)
  refine lv_iconst (v := 0) hx hb dX7_idle_15 (by decide) ?_
  refine lv_istore_n (lv' := [(3, .int 0), (2, .int 0), (0, .ref mO), (1, .int (nI bb))]) hx hb dX7_idle_16 rfl hl (by decide) rfl (fun ls hl => ?_)
  have L17 : ∀ (k17 : Nat) (i17 : Nat) (v2_17 : Int32), k17 + i17 = 12 → f_X7_idle_17 zf zs bb bn k17 i17 v2_17 = R → ∀ (H : Heap) (locs : List Loc) (ls : Array Slot), va_P G.1 wcl [(mO, .inr (7, [.ref mA, .ref mS, .ref mI, .ref mV, .int me, .ref mT, .ref mR, .int (nI mz), .int (nI ma), .ref mW, .int (nI mr), .ref mN])), (mA, .inl (G.2.1, 7, .inl zf)), (mS, .inl (G.2.1, 259, .inl zs))] H → va_D A [(mO, .inr (7, [.ref mA, .ref mS, .ref mI, .ref mV, .int me, .ref mT, .ref mR, .int (nI mz), .int (nI ma), .ref mW, .int (nI mr), .ref mN])), (mA, .inl (G.2.1, 7, .inl zf)), (mS, .inl (G.2.1, 259, .inl zs))] → va_S A s.heap H locs → lv_has ls 4 [(0, .ref mO), (1, .int (nI bb)), (2, .int v2_17), (3, .int (nI i17))] → W p l e ({ frames := 2, cells := 0, slots := 0, locals := 47 }) s m args below meth c H locs 0 0 Q (F0 m 17 ls []) := by
    intro k17
    induction k17 with
    | zero =>
      intro i17 v2_17 hi17  hf _ _ ls hP hD hS hl
      rw [f_X7_idle_17_z] at hf
      refine lv_iload_n hx hb dX7_idle_17 rfl (lv_at hl 3 rfl) ?_
      refine lv_bipush (v := 12) hx hb dX7_idle_18 (by decide) ?_
      refine lv_icmp_ge (tgt := 38) hx hb dX7_idle_20 (by decide) (fun _ => ?_) (fun c => absurd (ile (a := 12) (b := i17) rfl rfl (by omega) (by omega) (by omega)) c)
      refine lv_iload_n hx hb dX7_idle_38 rfl (lv_at hl 2 rfl) ?_
      refine lv_iconst (v := -1) hx hb dX7_idle_39 (by decide) ?_
      refine lv_ixor hx hb dX7_idle_40 ?_
      refine lv_sipush (v := 4095) hx hb dX7_idle_41 (by decide) ?_
      refine lv_iand hx hb dX7_idle_44 ?_
      exact hret ((v2_17 ^^^ (-1 : Int32)) &&& (4095 : Int32), zf) dX7_idle_45 rfl hf rfl hP hS
    | succ k17 ih17 =>
      intro i17 v2_17 hi17  hf _ _ ls hP hD hS hl
      rw [f_X7_idle_17_s] at hf
      refine lv_iload_n hx hb dX7_idle_17 rfl (lv_at hl 3 rfl) ?_
      refine lv_bipush (v := 12) hx hb dX7_idle_18 (by decide) ?_
      refine lv_icmp_ge (tgt := 38) hx hb dX7_idle_20 (by decide) (fun c => absurd c (inle (a := 12) (b := i17) rfl rfl (by omega) (by omega) (by omega))) (fun _ => ?_)
      refine lv_iload_n hx hb dX7_idle_23 rfl (lv_at hl 2 rfl) ?_
      refine lv_aload_n hx hb dX7_idle_24 rfl (lv_at hl 0 rfl) ?_
      refine lv_iload_n hx hb dX7_idle_25 rfl (lv_at hl 1 rfl) ?_
      refine lv_iload_n hx hb dX7_idle_26 rfl (lv_at hl 3 rfl) ?_
      refine cl_V (q := (RX7, TX7, 12)) (ws' := [(mO, .inr (7, [.ref mA, .ref mS, .ref mI, .ref mV, .int me, .ref mT, .ref mR, .int (nI mz), .int (nI ma), .ref mW, .int (nI mr), .ref mN])), (mA, .inl (G.2.1, 7, .inl zf)), (mS, .inl (G.2.1, 259, .inl zs))]) (v := (some (.int (f_X7_neededBy zs bb bn (nI i17))))) (st1 := [.int (f_X7_neededBy zs bb bn (nI i17)), .int v2_17]) (rest := [.int v2_17]) (As := [.int (nI bb), .int (nI i17)]) [0, 2] 0 7 hx hb hml hown hK (k_X7_neededBy l G mO mA mS mI mV mT mR mW mN me mz ma mr zs bb bn (nI i17) hbb hbn hb2) (mf_X7_neededBy hK.2) (kw_816 hK.2) (kw_22 hK.2) (kw_814 hK.2) ⟨rfl, rfl, Nat.le_of_ble_eq_true rfl, Nat.le_of_ble_eq_true rfl⟩ rfl hP hD hS hA rfl rfl hl (Nat.le_of_ble_eq_true rfl) rfl ⟨Nat.le_of_ble_eq_true rfl, Nat.le_of_ble_eq_true rfl⟩ rfl dX7_idle_27 rfl rfl (rpl_fast (by decide) rfl rfl) rfl rfl rfl (fun H locs hP hD hS => ?_)
      refine lv_ior hx hb dX7_idle_30 ?_
      refine lv_istore_n (lv' := [(2, .int (v2_17 ||| (f_X7_neededBy zs bb bn (nI i17)))), (0, .ref mO), (1, .int (nI bb)), (3, .int (nI i17))]) hx hb dX7_idle_31 rfl hl (by decide) rfl (fun ls hl => ?_)
      refine lv_iinc (v := nI (i17 + 1)) (lv' := [(3, .int (nI (i17 + 1))), (2, .int (v2_17 ||| (f_X7_neededBy zs bb bn (nI i17)))), (0, .ref mO), (1, .int (nI bb))]) hx hb dX7_idle_32 hl (k := 3) rfl (nI_1 i17) (by decide) rfl (fun ls hl => ?_)
      refine lv_goto (tgt := 17) hx hb dX7_idle_35 (by decide) ?_
      exact ih17 (i17 + 1) (v2_17 ||| (f_X7_neededBy zs bb bn (nI i17))) (by omega)  hf _ _ ls hP hD hS (lv_sub hl [2, 3, 1, 0] rfl)
  exact L17 12 0 0 (by omega)  hf _ _ ls hP hD hS (lv_sub hl [2, 3, 1, 0] rfl)
def f_X7_idle_A (zf : Nat → Int32) : Int32 × (Nat → Int32) := ((f_X7_refuse zf (-1)).1, (f_X7_refuse zf (-1)).2)
set_option maxHeartbeats 4000000 in
set_option maxRecDepth 100000 in
theorem k_X7_idle_A (l : Launch) (G : wG) (mO : Nat) (mA : Nat) (mS : Nat) (mI : Nat) (mV : Nat) (mT : Nat) (mR : Nat) (mW : Nat) (mN : Nat) (me : Int32) (mz : Nat) (ma : Nat) (mr : Nat) (zf : Nat → Int32) (bo : Int32) (hbad : f_X7_isBook bo = 0) : CT l G yX7_idle cX7_idle 4 (some .int) ({ frames := 2, cells := 0, slots := 0, locals := 41 }) [.ref mO, .int bo] [(mO, .inr (7, [.ref mA, .ref mS, .ref mI, .ref mV, .int me, .ref mT, .ref mR, .int (nI mz), .int (nI ma), .ref mW, .int (nI mr), .ref mN])), (mA, .inl (G.2.1, 7, .inl zf))] (fun u => [(mO, .inr (7, [.ref mA, .ref mS, .ref mI, .ref mV, .int me, .ref mT, .ref mR, .int (nI mz), .int (nI ma), .ref mW, .int (nI mr), .ref mN])), (mA, .inl (G.2.1, 7, .inl u.2))]) (fun u => some (.int u.1)) (f_X7_idle_A zf) := by
  obtain ⟨R, hf⟩ : ∃ R, f_X7_idle_A zf = R := ⟨_, rfl⟩
  rw [hf]
  refine CT.mkI RX7 (by decide +kernel) rfl (Nat.le_of_ble_eq_true rfl) ?_
  intro p e s m args below meth c A Q ls hx hb hml hown hK hP hD hS hA hret hl
  have hl : lv_has ls 4 [(0, .ref mO), (1, .int bo)] := hl
  rw [f_X7_idle_A] at hf
  refine lv_iload_n hx hb dX7_idle_0 rfl (lv_at hl 1 rfl) ?_
  refine cl_S (ws' := [(mO, .inr (7, [.ref mA, .ref mS, .ref mI, .ref mV, .int me, .ref mT, .ref mR, .int (nI mz), .int (nI ma), .ref mW, .int (nI mr), .ref mN])), (mA, .inl (G.2.1, 7, .inl zf))]) (v := (some (.int (f_X7_isBook bo)))) (st1 := [.int (f_X7_isBook bo)]) (rest := []) (As := [.int bo]) [] hx hb hml hown hK (k_X7_isBook l G bo ) (mf_X7_isBook hK.2) (kw_728 hK.2) (kw_727 hK.2) ⟨rfl, rfl, Nat.le_of_ble_eq_true rfl, Nat.le_of_ble_eq_true rfl⟩ rfl hP hD hS hA hl (Nat.le_of_ble_eq_true rfl) rfl ⟨Nat.le_of_ble_eq_true rfl, Nat.le_of_ble_eq_true rfl⟩ rfl dX7_idle_1 rfl rfl rfl rfl rfl rfl (fun H locs hP hD hS => ?_)
  refine lv_if_ne (tgt := 13) hx hb dX7_idle_4 (by decide) (fun c => absurd hbad c) (fun _ => ?_)
  refine lv_aload_n hx hb dX7_idle_7 rfl (lv_at hl 0 rfl) ?_
  refine lv_iconst (v := -1) hx hb dX7_idle_8 (by decide) ?_
  refine cl_V (q := (RX7, TX7, 12)) (ws' := [(mO, .inr (7, [.ref mA, .ref mS, .ref mI, .ref mV, .int me, .ref mT, .ref mR, .int (nI mz), .int (nI ma), .ref mW, .int (nI mr), .ref mN])), (mA, .inl (G.2.1, 7, .inl ((f_X7_refuse zf (-1)).2)))]) (v := (some (.int ((f_X7_refuse zf (-1)).1)))) (st1 := [.int ((f_X7_refuse zf (-1)).1)]) (rest := []) (As := [.int (-1)]) [0, 1] 0 7 hx hb hml hown hK (k_X7_refuse l G mO mA mS mI mV mT mR mW mN me mz ma mr zf (-1) vp7_1) (mf_X7_refuse hK.2) (kw_720 hK.2) (kw_11 hK.2) (kw_718 hK.2) ⟨rfl, rfl, Nat.le_of_ble_eq_true rfl, Nat.le_of_ble_eq_true rfl⟩ rfl hP hD hS hA rfl rfl hl (Nat.le_of_ble_eq_true rfl) rfl ⟨Nat.le_of_ble_eq_true rfl, Nat.le_of_ble_eq_true rfl⟩ rfl dX7_idle_9 rfl rfl (rpl_fast (by decide) rfl rfl) rfl rfl rfl (fun H locs hP hD hS => ?_)
  exact hret ((f_X7_refuse zf (-1)).1, (f_X7_refuse zf (-1)).2) dX7_idle_12 rfl hf rfl hP hS
def f_X7_knots_17 (zf : Nat → Int32) (zs : Nat → Int32) (bb : Nat) (bn : Nat) : Nat → Nat → Int32 → (Int32 × (Nat → Int32))
  | 0, i17, v2_17 => (v2_17, zf)
  | k17 + 1, i17, v2_17 => (if (f_X7_bits (f_X7_knotBy zs bb bn (nI i17))) ≤ 1 then f_X7_knots_17 zf zs bb bn k17 (i17 + 1) (v2_17 + (0 : Int32)) else (if ((f_X7_knotBy zs bb bn (nI i17)) &&& (((1 : Int32) <<< ((nI i17) &&& 31)) - (1 : Int32))) = 0 then f_X7_knots_17 zf zs bb bn k17 (i17 + 1) (v2_17 + (1 : Int32)) else f_X7_knots_17 zf zs bb bn k17 (i17 + 1) (v2_17 + (0 : Int32))))
theorem f_X7_knots_17_z (zf : Nat → Int32) (zs : Nat → Int32) (bb : Nat) (bn : Nat) (i17 : Nat) (v2_17 : Int32) : f_X7_knots_17 zf zs bb bn 0 i17 v2_17 = (v2_17, zf) := rfl
theorem f_X7_knots_17_s (zf : Nat → Int32) (zs : Nat → Int32) (bb : Nat) (bn : Nat) (k17 : Nat) (i17 : Nat) (v2_17 : Int32) : f_X7_knots_17 zf zs bb bn (k17 + 1) i17 v2_17 = (if (f_X7_bits (f_X7_knotBy zs bb bn (nI i17))) ≤ 1 then f_X7_knots_17 zf zs bb bn k17 (i17 + 1) (v2_17 + (0 : Int32)) else (if ((f_X7_knotBy zs bb bn (nI i17)) &&& (((1 : Int32) <<< ((nI i17) &&& 31)) - (1 : Int32))) = 0 then f_X7_knots_17 zf zs bb bn k17 (i17 + 1) (v2_17 + (1 : Int32)) else f_X7_knots_17 zf zs bb bn k17 (i17 + 1) (v2_17 + (0 : Int32)))) := rfl
def f_X7_knots (zf : Nat → Int32) (zs : Nat → Int32) (bb : Nat) (bn : Nat) : Int32 × (Nat → Int32) := (f_X7_knots_17 zf zs bb bn 12 0 0)
set_option maxHeartbeats 4000000 in
set_option maxRecDepth 100000 in
theorem k_X7_knots (l : Launch) (G : wG) (mO : Nat) (mA : Nat) (mS : Nat) (mI : Nat) (mV : Nat) (mT : Nat) (mR : Nat) (mW : Nat) (mN : Nat) (me : Int32) (mz : Nat) (ma : Nat) (mr : Nat) (zf : Nat → Int32) (zs : Nat → Int32) (bb : Nat) (bn : Nat) (hbb : bb < 2) (hbn : zs (160 + bb) = nI bn) (hb2 : bn ≤ 20) (hnd : ∀ t : Nat, t < bn → Rg (zs (80 * bb + 4 * t + 2))) (hwd : ∀ t : Nat, t < bn → ∃ w : Nat, w < 12 ∧ zs (80 * bb + 4 * t) = nI w) : CT l G yX7_knots cX7_knots 5 (some .int) ({ frames := 4, cells := 0, slots := 0, locals := 97 }) [.ref mO, .int (nI bb)] [(mO, .inr (7, [.ref mA, .ref mS, .ref mI, .ref mV, .int me, .ref mT, .ref mR, .int (nI mz), .int (nI ma), .ref mW, .int (nI mr), .ref mN])), (mA, .inl (G.2.1, 7, .inl zf)), (mS, .inl (G.2.1, 259, .inl zs))] (fun u => [(mO, .inr (7, [.ref mA, .ref mS, .ref mI, .ref mV, .int me, .ref mT, .ref mR, .int (nI mz), .int (nI ma), .ref mW, .int (nI mr), .ref mN])), (mA, .inl (G.2.1, 7, .inl u.2)), (mS, .inl (G.2.1, 259, .inl zs))]) (fun u => some (.int u.1)) (f_X7_knots zf zs bb bn) := by
  obtain ⟨R, hf⟩ : ∃ R, f_X7_knots zf zs bb bn = R := ⟨_, rfl⟩
  rw [hf]
  refine CT.mkI RX7 (by decide +kernel) rfl (Nat.le_of_ble_eq_true rfl) ?_
  intro p e s m args below meth c A Q ls hx hb hml hown hK hP hD hS hA hret hl
  have hl : lv_has ls 5 [(0, .ref mO), (1, .int (nI bb))] := hl
  rw [f_X7_knots] at hf
  refine lv_iload_n hx hb dX7_knots_0 rfl (lv_at hl 1 rfl) ?_
  refine cl_S (ws' := [(mO, .inr (7, [.ref mA, .ref mS, .ref mI, .ref mV, .int me, .ref mT, .ref mR, .int (nI mz), .int (nI ma), .ref mW, .int (nI mr), .ref mN])), (mA, .inl (G.2.1, 7, .inl zf)), (mS, .inl (G.2.1, 259, .inl zs))]) (v := (some (.int (f_X7_isBook (nI bb))))) (st1 := [.int (f_X7_isBook (nI bb))]) (rest := []) (As := [.int (nI bb)]) [] hx hb hml hown hK (k_X7_isBook l G (nI bb) ) (mf_X7_isBook hK.2) (kw_728 hK.2) (kw_727 hK.2) ⟨rfl, rfl, Nat.le_of_ble_eq_true rfl, Nat.le_of_ble_eq_true rfl⟩ rfl hP hD hS hA hl (Nat.le_of_ble_eq_true rfl) rfl ⟨Nat.le_of_ble_eq_true rfl, Nat.le_of_ble_eq_true rfl⟩ rfl dX7_knots_1 rfl rfl rfl rfl rfl rfl (fun H locs hP hD hS => ?_)
  refine lv_if_ne (tgt := 13) hx hb dX7_knots_4 (by decide) (fun _ => ?_) (fun c => absurd c (isBook7 hbb))
  refine lv_iconst (v := 0) hx hb dX7_knots_13 (by decide) ?_
  refine lv_istore_n (lv' := [(2, .int 0), (0, .ref mO), (1, .int (nI bb))]) hx hb dX7_knots_14 rfl hl (by decide) rfl (fun ls hl => ?_)
  refine lv_iconst (v := 0) hx hb dX7_knots_15 (by decide) ?_
  refine lv_istore_n (lv' := [(3, .int 0), (2, .int 0), (0, .ref mO), (1, .int (nI bb))]) hx hb dX7_knots_16 rfl hl (by decide) rfl (fun ls hl => ?_)
  have L17 : ∀ (k17 : Nat) (i17 : Nat) (v2_17 : Int32), k17 + i17 = 12 → f_X7_knots_17 zf zs bb bn k17 i17 v2_17 = R → ∀ (H : Heap) (locs : List Loc) (ls : Array Slot), va_P G.1 wcl [(mO, .inr (7, [.ref mA, .ref mS, .ref mI, .ref mV, .int me, .ref mT, .ref mR, .int (nI mz), .int (nI ma), .ref mW, .int (nI mr), .ref mN])), (mA, .inl (G.2.1, 7, .inl zf)), (mS, .inl (G.2.1, 259, .inl zs))] H → va_D A [(mO, .inr (7, [.ref mA, .ref mS, .ref mI, .ref mV, .int me, .ref mT, .ref mR, .int (nI mz), .int (nI ma), .ref mW, .int (nI mr), .ref mN])), (mA, .inl (G.2.1, 7, .inl zf)), (mS, .inl (G.2.1, 259, .inl zs))] → va_S A s.heap H locs → lv_has ls 5 [(0, .ref mO), (1, .int (nI bb)), (2, .int v2_17), (3, .int (nI i17))] → W p l e ({ frames := 4, cells := 0, slots := 0, locals := 97 }) s m args below meth c H locs 0 0 Q (F0 m 17 ls []) := by
    intro k17
    induction k17 with
    | zero =>
      intro i17 v2_17 hi17  hf _ _ ls hP hD hS hl
      rw [f_X7_knots_17_z] at hf
      refine lv_iload_n hx hb dX7_knots_17 rfl (lv_at hl 3 rfl) ?_
      refine lv_bipush (v := 12) hx hb dX7_knots_18 (by decide) ?_
      refine lv_icmp_ge (tgt := 65) hx hb dX7_knots_20 (by decide) (fun _ => ?_) (fun c => absurd (ile (a := 12) (b := i17) rfl rfl (by omega) (by omega) (by omega)) c)
      refine lv_iload_n hx hb dX7_knots_65 rfl (lv_at hl 2 rfl) ?_
      exact hret (v2_17, zf) dX7_knots_66 rfl hf rfl hP hS
    | succ k17 ih17 =>
      intro i17 v2_17 hi17  hf _ _ ls hP hD hS hl
      rw [f_X7_knots_17_s] at hf
      refine lv_iload_n hx hb dX7_knots_17 rfl (lv_at hl 3 rfl) ?_
      refine lv_bipush (v := 12) hx hb dX7_knots_18 (by decide) ?_
      refine lv_icmp_ge (tgt := 65) hx hb dX7_knots_20 (by decide) (fun c => absurd c (inle (a := 12) (b := i17) rfl rfl (by omega) (by omega) (by omega))) (fun _ => ?_)
      refine lv_aload_n hx hb dX7_knots_23 rfl (lv_at hl 0 rfl) ?_
      refine lv_iload_n hx hb dX7_knots_24 rfl (lv_at hl 1 rfl) ?_
      refine lv_iload_n hx hb dX7_knots_25 rfl (lv_at hl 3 rfl) ?_
      refine cl_V (q := (RX7, TX7, 12)) (ws' := [(mO, .inr (7, [.ref mA, .ref mS, .ref mI, .ref mV, .int me, .ref mT, .ref mR, .int (nI mz), .int (nI ma), .ref mW, .int (nI mr), .ref mN])), (mA, .inl (G.2.1, 7, .inl zf)), (mS, .inl (G.2.1, 259, .inl zs))]) (v := (some (.int (f_X7_knotBy zs bb bn (nI i17))))) (st1 := [.int (f_X7_knotBy zs bb bn (nI i17))]) (rest := []) (As := [.int (nI bb), .int (nI i17)]) [0, 2] 0 7 hx hb hml hown hK (k_X7_knotBy l G mO mA mS mI mV mT mR mW mN me mz ma mr zs bb bn (nI i17) hbb hbn hb2) (mf_X7_knotBy hK.2) (kw_836 hK.2) (kw_24 hK.2) (kw_834 hK.2) ⟨rfl, rfl, Nat.le_of_ble_eq_true rfl, Nat.le_of_ble_eq_true rfl⟩ rfl hP hD hS hA rfl rfl hl (Nat.le_of_ble_eq_true rfl) rfl ⟨Nat.le_of_ble_eq_true rfl, Nat.le_of_ble_eq_true rfl⟩ rfl dX7_knots_26 rfl rfl (rpl_fast (by decide) rfl rfl) rfl rfl rfl (fun H locs hP hD hS => ?_)
      refine lv_istore (lv' := [(4, .int (f_X7_knotBy zs bb bn (nI i17))), (0, .ref mO), (1, .int (nI bb)), (2, .int v2_17), (3, .int (nI i17))]) hx hb dX7_knots_29 hl (by decide) rfl (fun ls hl => ?_)
      refine lv_iload_n hx hb dX7_knots_31 rfl (lv_at hl 3 rfl) ?_
      refine lv_iload hx hb dX7_knots_32 (lv_at hl 0 rfl) ?_
      refine cl_S (ws' := [(mO, .inr (7, [.ref mA, .ref mS, .ref mI, .ref mV, .int me, .ref mT, .ref mR, .int (nI mz), .int (nI ma), .ref mW, .int (nI mr), .ref mN])), (mA, .inl (G.2.1, 7, .inl zf)), (mS, .inl (G.2.1, 259, .inl zs))]) (v := (some (.int (f_X7_bits (f_X7_knotBy zs bb bn (nI i17)))))) (st1 := [.int (f_X7_bits (f_X7_knotBy zs bb bn (nI i17))), .int v2_17]) (rest := [.int v2_17]) (As := [.int (f_X7_knotBy zs bb bn (nI i17))]) [] hx hb hml hown hK (k_X7_bits l G (f_X7_knotBy zs bb bn (nI i17)) (Rg_knotBy (by omega))) (mf_X7_bits hK.2) (kw_792 hK.2) (kw_791 hK.2) ⟨rfl, rfl, Nat.le_of_ble_eq_true rfl, Nat.le_of_ble_eq_true rfl⟩ rfl hP hD hS hA hl (Nat.le_of_ble_eq_true rfl) rfl ⟨Nat.le_of_ble_eq_true rfl, Nat.le_of_ble_eq_true rfl⟩ rfl dX7_knots_34 rfl rfl rfl rfl rfl rfl (fun H locs hP hD hS => ?_)
      refine lv_iconst (v := 1) hx hb dX7_knots_37 (by decide) ?_
      refine lv_icmp_le (tgt := 56) hx hb dX7_knots_38 (by decide) (fun c1 => ?_) (fun c1 => ?_)
      · have hf := (if_pos c1).symm.trans hf
        refine lv_iconst (v := 0) hx hb dX7_knots_56 (by decide) ?_
        refine lv_iadd hx hb dX7_knots_57 ?_
        refine lv_istore_n (lv' := [(2, .int (v2_17 + (0 : Int32))), (4, .int (f_X7_knotBy zs bb bn (nI i17))), (0, .ref mO), (1, .int (nI bb)), (3, .int (nI i17))]) hx hb dX7_knots_58 rfl hl (by decide) rfl (fun ls hl => ?_)
        refine lv_iinc (v := nI (i17 + 1)) (lv' := [(3, .int (nI (i17 + 1))), (2, .int (v2_17 + (0 : Int32))), (4, .int (f_X7_knotBy zs bb bn (nI i17))), (0, .ref mO), (1, .int (nI bb))]) hx hb dX7_knots_59 hl (k := 4) rfl (nI_1 i17) (by decide) rfl (fun ls hl => ?_)
        refine lv_goto (tgt := 17) hx hb dX7_knots_62 (by decide) ?_
        exact ih17 (i17 + 1) (v2_17 + (0 : Int32)) (by omega)  hf _ _ ls hP hD hS (lv_sub hl [3, 4, 1, 0] rfl)
      · have hf := (if_neg c1).symm.trans hf
        refine lv_iload hx hb dX7_knots_41 (lv_at hl 0 rfl) ?_
        refine lv_iconst (v := 1) hx hb dX7_knots_43 (by decide) ?_
        refine lv_iload_n hx hb dX7_knots_44 rfl (lv_at hl 4 rfl) ?_
        refine lv_ishl hx hb dX7_knots_45 ?_
        refine lv_iconst (v := 1) hx hb dX7_knots_46 (by decide) ?_
        refine lv_isub hx hb dX7_knots_47 ?_
        refine lv_iand hx hb dX7_knots_48 ?_
        refine lv_if_ne (tgt := 56) hx hb dX7_knots_49 (by decide) (fun c2 => ?_) (fun c2 => ?_)
        · have hf := (if_neg c2).symm.trans hf
          refine lv_iconst (v := 0) hx hb dX7_knots_56 (by decide) ?_
          refine lv_iadd hx hb dX7_knots_57 ?_
          refine lv_istore_n (lv' := [(2, .int (v2_17 + (0 : Int32))), (4, .int (f_X7_knotBy zs bb bn (nI i17))), (0, .ref mO), (1, .int (nI bb)), (3, .int (nI i17))]) hx hb dX7_knots_58 rfl hl (by decide) rfl (fun ls hl => ?_)
          refine lv_iinc (v := nI (i17 + 1)) (lv' := [(3, .int (nI (i17 + 1))), (2, .int (v2_17 + (0 : Int32))), (4, .int (f_X7_knotBy zs bb bn (nI i17))), (0, .ref mO), (1, .int (nI bb))]) hx hb dX7_knots_59 hl (k := 4) rfl (nI_1 i17) (by decide) rfl (fun ls hl => ?_)
          refine lv_goto (tgt := 17) hx hb dX7_knots_62 (by decide) ?_
          exact ih17 (i17 + 1) (v2_17 + (0 : Int32)) (by omega)  hf _ _ ls hP hD hS (lv_sub hl [3, 4, 1, 0] rfl)
        · have hf := (if_pos c2).symm.trans hf
          refine lv_iconst (v := 1) hx hb dX7_knots_52 (by decide) ?_
          refine lv_goto (tgt := 57) hx hb dX7_knots_53 (by decide) ?_
          refine lv_iadd hx hb dX7_knots_57 ?_
          refine lv_istore_n (lv' := [(2, .int (v2_17 + (1 : Int32))), (4, .int (f_X7_knotBy zs bb bn (nI i17))), (0, .ref mO), (1, .int (nI bb)), (3, .int (nI i17))]) hx hb dX7_knots_58 rfl hl (by decide) rfl (fun ls hl => ?_)
          refine lv_iinc (v := nI (i17 + 1)) (lv' := [(3, .int (nI (i17 + 1))), (2, .int (v2_17 + (1 : Int32))), (4, .int (f_X7_knotBy zs bb bn (nI i17))), (0, .ref mO), (1, .int (nI bb))]) hx hb dX7_knots_59 hl (k := 4) rfl (nI_1 i17) (by decide) rfl (fun ls hl => ?_)
          refine lv_goto (tgt := 17) hx hb dX7_knots_62 (by decide) ?_
          exact ih17 (i17 + 1) (v2_17 + (1 : Int32)) (by omega)  hf _ _ ls hP hD hS (lv_sub hl [3, 4, 1, 0] rfl)
  exact L17 12 0 0 (by omega)  hf _ _ ls hP hD hS (lv_sub hl [2, 3, 1, 0] rfl)
def f_X7_knots_A (zf : Nat → Int32) : Int32 × (Nat → Int32) := ((f_X7_refuse zf (-1)).1, (f_X7_refuse zf (-1)).2)
set_option maxHeartbeats 4000000 in
set_option maxRecDepth 100000 in
theorem k_X7_knots_A (l : Launch) (G : wG) (mO : Nat) (mA : Nat) (mS : Nat) (mI : Nat) (mV : Nat) (mT : Nat) (mR : Nat) (mW : Nat) (mN : Nat) (me : Int32) (mz : Nat) (ma : Nat) (mr : Nat) (zf : Nat → Int32) (bo : Int32) (hbad : f_X7_isBook bo = 0) : CT l G yX7_knots cX7_knots 5 (some .int) ({ frames := 2, cells := 0, slots := 0, locals := 41 }) [.ref mO, .int bo] [(mO, .inr (7, [.ref mA, .ref mS, .ref mI, .ref mV, .int me, .ref mT, .ref mR, .int (nI mz), .int (nI ma), .ref mW, .int (nI mr), .ref mN])), (mA, .inl (G.2.1, 7, .inl zf))] (fun u => [(mO, .inr (7, [.ref mA, .ref mS, .ref mI, .ref mV, .int me, .ref mT, .ref mR, .int (nI mz), .int (nI ma), .ref mW, .int (nI mr), .ref mN])), (mA, .inl (G.2.1, 7, .inl u.2))]) (fun u => some (.int u.1)) (f_X7_knots_A zf) := by
  obtain ⟨R, hf⟩ : ∃ R, f_X7_knots_A zf = R := ⟨_, rfl⟩
  rw [hf]
  refine CT.mkI RX7 (by decide +kernel) rfl (Nat.le_of_ble_eq_true rfl) ?_
  intro p e s m args below meth c A Q ls hx hb hml hown hK hP hD hS hA hret hl
  have hl : lv_has ls 5 [(0, .ref mO), (1, .int bo)] := hl
  rw [f_X7_knots_A] at hf
  refine lv_iload_n hx hb dX7_knots_0 rfl (lv_at hl 1 rfl) ?_
  refine cl_S (ws' := [(mO, .inr (7, [.ref mA, .ref mS, .ref mI, .ref mV, .int me, .ref mT, .ref mR, .int (nI mz), .int (nI ma), .ref mW, .int (nI mr), .ref mN])), (mA, .inl (G.2.1, 7, .inl zf))]) (v := (some (.int (f_X7_isBook bo)))) (st1 := [.int (f_X7_isBook bo)]) (rest := []) (As := [.int bo]) [] hx hb hml hown hK (k_X7_isBook l G bo ) (mf_X7_isBook hK.2) (kw_728 hK.2) (kw_727 hK.2) ⟨rfl, rfl, Nat.le_of_ble_eq_true rfl, Nat.le_of_ble_eq_true rfl⟩ rfl hP hD hS hA hl (Nat.le_of_ble_eq_true rfl) rfl ⟨Nat.le_of_ble_eq_true rfl, Nat.le_of_ble_eq_true rfl⟩ rfl dX7_knots_1 rfl rfl rfl rfl rfl rfl (fun H locs hP hD hS => ?_)
  refine lv_if_ne (tgt := 13) hx hb dX7_knots_4 (by decide) (fun c => absurd hbad c) (fun _ => ?_)
  refine lv_aload_n hx hb dX7_knots_7 rfl (lv_at hl 0 rfl) ?_
  refine lv_iconst (v := -1) hx hb dX7_knots_8 (by decide) ?_
  refine cl_V (q := (RX7, TX7, 12)) (ws' := [(mO, .inr (7, [.ref mA, .ref mS, .ref mI, .ref mV, .int me, .ref mT, .ref mR, .int (nI mz), .int (nI ma), .ref mW, .int (nI mr), .ref mN])), (mA, .inl (G.2.1, 7, .inl ((f_X7_refuse zf (-1)).2)))]) (v := (some (.int ((f_X7_refuse zf (-1)).1)))) (st1 := [.int ((f_X7_refuse zf (-1)).1)]) (rest := []) (As := [.int (-1)]) [0, 1] 0 7 hx hb hml hown hK (k_X7_refuse l G mO mA mS mI mV mT mR mW mN me mz ma mr zf (-1) vp7_1) (mf_X7_refuse hK.2) (kw_720 hK.2) (kw_11 hK.2) (kw_718 hK.2) ⟨rfl, rfl, Nat.le_of_ble_eq_true rfl, Nat.le_of_ble_eq_true rfl⟩ rfl hP hD hS hA rfl rfl hl (Nat.le_of_ble_eq_true rfl) rfl ⟨Nat.le_of_ble_eq_true rfl, Nat.le_of_ble_eq_true rfl⟩ rfl dX7_knots_9 rfl rfl (rpl_fast (by decide) rfl rfl) rfl rfl rfl (fun H locs hP hD hS => ?_)
  exact hret ((f_X7_refuse zf (-1)).1, (f_X7_refuse zf (-1)).2) dX7_knots_12 rfl hf rfl hP hS
def f_X7_fewest (zf : Nat → Int32) (zs : Nat → Int32) (bb : Nat) (bn : Nat) : Int32 × (Nat → Int32) := (f_X7_fewestOf zs bb bn, zf)
set_option maxHeartbeats 4000000 in
set_option maxRecDepth 100000 in
theorem k_X7_fewest (l : Launch) (G : wG) (mO : Nat) (mA : Nat) (mS : Nat) (mI : Nat) (mV : Nat) (mT : Nat) (mR : Nat) (mW : Nat) (mN : Nat) (me : Int32) (mz : Nat) (ma : Nat) (mr : Nat) (zf : Nat → Int32) (zs : Nat → Int32) (bb : Nat) (bn : Nat) (hbb : bb < 2) (hbn : zs (160 + bb) = nI bn) (hb2 : bn ≤ 20) (hnd : ∀ t : Nat, t < bn → Rg (zs (80 * bb + 4 * t + 2))) (hwd : ∀ t : Nat, t < bn → ∃ w : Nat, w < 12 ∧ zs (80 * bb + 4 * t) = nI w) : CT l G yX7_fewest cX7_fewest 2 (some .int) ({ frames := 6, cells := 0, slots := 0, locals := 142 }) [.ref mO, .int (nI bb)] [(mO, .inr (7, [.ref mA, .ref mS, .ref mI, .ref mV, .int me, .ref mT, .ref mR, .int (nI mz), .int (nI ma), .ref mW, .int (nI mr), .ref mN])), (mA, .inl (G.2.1, 7, .inl zf)), (mS, .inl (G.2.1, 259, .inl zs))] (fun u => [(mO, .inr (7, [.ref mA, .ref mS, .ref mI, .ref mV, .int me, .ref mT, .ref mR, .int (nI mz), .int (nI ma), .ref mW, .int (nI mr), .ref mN])), (mA, .inl (G.2.1, 7, .inl u.2)), (mS, .inl (G.2.1, 259, .inl zs))]) (fun u => some (.int u.1)) (f_X7_fewest zf zs bb bn) := by
  obtain ⟨R, hf⟩ : ∃ R, f_X7_fewest zf zs bb bn = R := ⟨_, rfl⟩
  rw [hf]
  refine CT.mkI RX7 (by decide +kernel) rfl (Nat.le_of_ble_eq_true rfl) ?_
  intro p e s m args below meth c A Q ls hx hb hml hown hK hP hD hS hA hret hl
  have hl : lv_has ls 2 [(0, .ref mO), (1, .int (nI bb))] := hl
  rw [f_X7_fewest] at hf
  refine lv_iload_n hx hb dX7_fewest_0 rfl (lv_at hl 1 rfl) ?_
  refine cl_S (ws' := [(mO, .inr (7, [.ref mA, .ref mS, .ref mI, .ref mV, .int me, .ref mT, .ref mR, .int (nI mz), .int (nI ma), .ref mW, .int (nI mr), .ref mN])), (mA, .inl (G.2.1, 7, .inl zf)), (mS, .inl (G.2.1, 259, .inl zs))]) (v := (some (.int (f_X7_isBook (nI bb))))) (st1 := [.int (f_X7_isBook (nI bb))]) (rest := []) (As := [.int (nI bb)]) [] hx hb hml hown hK (k_X7_isBook l G (nI bb) ) (mf_X7_isBook hK.2) (kw_728 hK.2) (kw_727 hK.2) ⟨rfl, rfl, Nat.le_of_ble_eq_true rfl, Nat.le_of_ble_eq_true rfl⟩ rfl hP hD hS hA hl (Nat.le_of_ble_eq_true rfl) rfl ⟨Nat.le_of_ble_eq_true rfl, Nat.le_of_ble_eq_true rfl⟩ rfl dX7_fewest_1 rfl rfl rfl rfl rfl rfl (fun H locs hP hD hS => ?_)
  refine lv_if_eq (tgt := 15) hx hb dX7_fewest_4 (by decide) (fun c => absurd c (isBook7 hbb)) (fun _ => ?_)
  refine lv_aload_n hx hb dX7_fewest_7 rfl (lv_at hl 0 rfl) ?_
  refine lv_iload_n hx hb dX7_fewest_8 rfl (lv_at hl 1 rfl) ?_
  refine cl_V (q := (RX7, TX7, 12)) (ws' := [(mO, .inr (7, [.ref mA, .ref mS, .ref mI, .ref mV, .int me, .ref mT, .ref mR, .int (nI mz), .int (nI ma), .ref mW, .int (nI mr), .ref mN])), (mA, .inl (G.2.1, 7, .inl zf)), (mS, .inl (G.2.1, 259, .inl zs))]) (v := (some (.int (f_X7_fewestOf zs bb bn)))) (st1 := [.int (f_X7_fewestOf zs bb bn)]) (rest := []) (As := [.int (nI bb)]) [0, 2] 0 7 hx hb hml hown hK (k_X7_fewestOf l G mO mA mS mI mV mT mR mW mN me mz ma mr zs bb bn hbb hbn hb2 hnd hwd) (mf_X7_fewestOf hK.2) (kw_848 hK.2) (kw_25 hK.2) (kw_846 hK.2) ⟨rfl, rfl, Nat.le_of_ble_eq_true rfl, Nat.le_of_ble_eq_true rfl⟩ rfl hP hD hS hA rfl rfl hl (Nat.le_of_ble_eq_true rfl) rfl ⟨Nat.le_of_ble_eq_true rfl, Nat.le_of_ble_eq_true rfl⟩ rfl dX7_fewest_9 rfl rfl (rpl_fast (by decide) rfl rfl) rfl rfl rfl (fun H locs hP hD hS => ?_)
  refine lv_goto (tgt := 20) hx hb dX7_fewest_12 (by decide) ?_
  exact hret (f_X7_fewestOf zs bb bn, zf) dX7_fewest_20 rfl hf rfl hP hS
def f_X7_fewest_A (zf : Nat → Int32) : Int32 × (Nat → Int32) := ((f_X7_refuse zf (-1)).1, (f_X7_refuse zf (-1)).2)
set_option maxHeartbeats 4000000 in
set_option maxRecDepth 100000 in
theorem k_X7_fewest_A (l : Launch) (G : wG) (mO : Nat) (mA : Nat) (mS : Nat) (mI : Nat) (mV : Nat) (mT : Nat) (mR : Nat) (mW : Nat) (mN : Nat) (me : Int32) (mz : Nat) (ma : Nat) (mr : Nat) (zf : Nat → Int32) (bo : Int32) (hbad : f_X7_isBook bo = 0) : CT l G yX7_fewest cX7_fewest 2 (some .int) ({ frames := 2, cells := 0, slots := 0, locals := 41 }) [.ref mO, .int bo] [(mO, .inr (7, [.ref mA, .ref mS, .ref mI, .ref mV, .int me, .ref mT, .ref mR, .int (nI mz), .int (nI ma), .ref mW, .int (nI mr), .ref mN])), (mA, .inl (G.2.1, 7, .inl zf))] (fun u => [(mO, .inr (7, [.ref mA, .ref mS, .ref mI, .ref mV, .int me, .ref mT, .ref mR, .int (nI mz), .int (nI ma), .ref mW, .int (nI mr), .ref mN])), (mA, .inl (G.2.1, 7, .inl u.2))]) (fun u => some (.int u.1)) (f_X7_fewest_A zf) := by
  obtain ⟨R, hf⟩ : ∃ R, f_X7_fewest_A zf = R := ⟨_, rfl⟩
  rw [hf]
  refine CT.mkI RX7 (by decide +kernel) rfl (Nat.le_of_ble_eq_true rfl) ?_
  intro p e s m args below meth c A Q ls hx hb hml hown hK hP hD hS hA hret hl
  have hl : lv_has ls 2 [(0, .ref mO), (1, .int bo)] := hl
  rw [f_X7_fewest_A] at hf
  refine lv_iload_n hx hb dX7_fewest_0 rfl (lv_at hl 1 rfl) ?_
  refine cl_S (ws' := [(mO, .inr (7, [.ref mA, .ref mS, .ref mI, .ref mV, .int me, .ref mT, .ref mR, .int (nI mz), .int (nI ma), .ref mW, .int (nI mr), .ref mN])), (mA, .inl (G.2.1, 7, .inl zf))]) (v := (some (.int (f_X7_isBook bo)))) (st1 := [.int (f_X7_isBook bo)]) (rest := []) (As := [.int bo]) [] hx hb hml hown hK (k_X7_isBook l G bo ) (mf_X7_isBook hK.2) (kw_728 hK.2) (kw_727 hK.2) ⟨rfl, rfl, Nat.le_of_ble_eq_true rfl, Nat.le_of_ble_eq_true rfl⟩ rfl hP hD hS hA hl (Nat.le_of_ble_eq_true rfl) rfl ⟨Nat.le_of_ble_eq_true rfl, Nat.le_of_ble_eq_true rfl⟩ rfl dX7_fewest_1 rfl rfl rfl rfl rfl rfl (fun H locs hP hD hS => ?_)
  refine lv_if_eq (tgt := 15) hx hb dX7_fewest_4 (by decide) (fun _ => ?_) (fun c => absurd hbad c)
  refine lv_aload_n hx hb dX7_fewest_15 rfl (lv_at hl 0 rfl) ?_
  refine lv_iconst (v := -1) hx hb dX7_fewest_16 (by decide) ?_
  refine cl_V (q := (RX7, TX7, 12)) (ws' := [(mO, .inr (7, [.ref mA, .ref mS, .ref mI, .ref mV, .int me, .ref mT, .ref mR, .int (nI mz), .int (nI ma), .ref mW, .int (nI mr), .ref mN])), (mA, .inl (G.2.1, 7, .inl ((f_X7_refuse zf (-1)).2)))]) (v := (some (.int ((f_X7_refuse zf (-1)).1)))) (st1 := [.int ((f_X7_refuse zf (-1)).1)]) (rest := []) (As := [.int (-1)]) [0, 1] 0 7 hx hb hml hown hK (k_X7_refuse l G mO mA mS mI mV mT mR mW mN me mz ma mr zf (-1) vp7_1) (mf_X7_refuse hK.2) (kw_720 hK.2) (kw_11 hK.2) (kw_718 hK.2) ⟨rfl, rfl, Nat.le_of_ble_eq_true rfl, Nat.le_of_ble_eq_true rfl⟩ rfl hP hD hS hA rfl rfl hl (Nat.le_of_ble_eq_true rfl) rfl ⟨Nat.le_of_ble_eq_true rfl, Nat.le_of_ble_eq_true rfl⟩ rfl dX7_fewest_17 rfl rfl (rpl_fast (by decide) rfl rfl) rfl rfl rfl (fun H locs hP hD hS => ?_)
  exact hret ((f_X7_refuse zf (-1)).1, (f_X7_refuse zf (-1)).2) dX7_fewest_20 rfl hf rfl hP hS
def f_X7_lightest_19 (zf : Nat → Int32) (zs : Nat → Int32) (bb : Nat) (bn : Nat) : Nat → Nat → Int32 → (Int32 × (Nat → Int32))
  | 0, i19, v2_19 => (v2_19, zf)
  | k19 + 1, i19, v2_19 => (if (f_X7_hardOf zs bb (nI i19)) < (f_X7_hardOf zs bb v2_19) then (if (f_X7_isFoundation zs bb bn (nI i19)) = 0 then f_X7_lightest_19 zf zs bb bn k19 (i19 + 1) v2_19 else f_X7_lightest_19 zf zs bb bn k19 (i19 + 1) (nI i19)) else (if (f_X7_hardOf zs bb (nI i19)) = (f_X7_hardOf zs bb v2_19) then (if (f_X7_bits v2_19) ≤ (f_X7_bits (nI i19)) then f_X7_lightest_19 zf zs bb bn k19 (i19 + 1) v2_19 else (if (f_X7_isFoundation zs bb bn (nI i19)) = 0 then f_X7_lightest_19 zf zs bb bn k19 (i19 + 1) v2_19 else f_X7_lightest_19 zf zs bb bn k19 (i19 + 1) (nI i19))) else f_X7_lightest_19 zf zs bb bn k19 (i19 + 1) v2_19))
theorem f_X7_lightest_19_z (zf : Nat → Int32) (zs : Nat → Int32) (bb : Nat) (bn : Nat) (i19 : Nat) (v2_19 : Int32) : f_X7_lightest_19 zf zs bb bn 0 i19 v2_19 = (v2_19, zf) := rfl
theorem f_X7_lightest_19_s (zf : Nat → Int32) (zs : Nat → Int32) (bb : Nat) (bn : Nat) (k19 : Nat) (i19 : Nat) (v2_19 : Int32) : f_X7_lightest_19 zf zs bb bn (k19 + 1) i19 v2_19 = (if (f_X7_hardOf zs bb (nI i19)) < (f_X7_hardOf zs bb v2_19) then (if (f_X7_isFoundation zs bb bn (nI i19)) = 0 then f_X7_lightest_19 zf zs bb bn k19 (i19 + 1) v2_19 else f_X7_lightest_19 zf zs bb bn k19 (i19 + 1) (nI i19)) else (if (f_X7_hardOf zs bb (nI i19)) = (f_X7_hardOf zs bb v2_19) then (if (f_X7_bits v2_19) ≤ (f_X7_bits (nI i19)) then f_X7_lightest_19 zf zs bb bn k19 (i19 + 1) v2_19 else (if (f_X7_isFoundation zs bb bn (nI i19)) = 0 then f_X7_lightest_19 zf zs bb bn k19 (i19 + 1) v2_19 else f_X7_lightest_19 zf zs bb bn k19 (i19 + 1) (nI i19))) else f_X7_lightest_19 zf zs bb bn k19 (i19 + 1) v2_19)) := rfl
def f_X7_lightest (zf : Nat → Int32) (zs : Nat → Int32) (bb : Nat) (bn : Nat) : Int32 × (Nat → Int32) := (f_X7_lightest_19 zf zs bb bn 4096 0 4095)
set_option maxHeartbeats 4000000 in
set_option maxRecDepth 100000 in
theorem k_X7_lightest (l : Launch) (G : wG) (mO : Nat) (mA : Nat) (mS : Nat) (mI : Nat) (mV : Nat) (mT : Nat) (mR : Nat) (mW : Nat) (mN : Nat) (me : Int32) (mz : Nat) (ma : Nat) (mr : Nat) (zf : Nat → Int32) (zs : Nat → Int32) (bb : Nat) (bn : Nat) (hbb : bb < 2) (hbn : zs (160 + bb) = nI bn) (hb2 : bn ≤ 20) (hnd : ∀ t : Nat, t < bn → Rg (zs (80 * bb + 4 * t + 2))) (hwd : ∀ t : Nat, t < bn → ∃ w : Nat, w < 12 ∧ zs (80 * bb + 4 * t) = nI w) : CT l G yX7_lightest cX7_lightest 6 (some .int) ({ frames := 5, cells := 0, slots := 0, locals := 119 }) [.ref mO, .int (nI bb)] [(mO, .inr (7, [.ref mA, .ref mS, .ref mI, .ref mV, .int me, .ref mT, .ref mR, .int (nI mz), .int (nI ma), .ref mW, .int (nI mr), .ref mN])), (mA, .inl (G.2.1, 7, .inl zf)), (mS, .inl (G.2.1, 259, .inl zs))] (fun u => [(mO, .inr (7, [.ref mA, .ref mS, .ref mI, .ref mV, .int me, .ref mT, .ref mR, .int (nI mz), .int (nI ma), .ref mW, .int (nI mr), .ref mN])), (mA, .inl (G.2.1, 7, .inl u.2)), (mS, .inl (G.2.1, 259, .inl zs))]) (fun u => some (.int u.1)) (f_X7_lightest zf zs bb bn) := by
  obtain ⟨R, hf⟩ : ∃ R, f_X7_lightest zf zs bb bn = R := ⟨_, rfl⟩
  rw [hf]
  refine CT.mkI RX7 (by decide +kernel) rfl (Nat.le_of_ble_eq_true rfl) ?_
  intro p e s m args below meth c A Q ls hx hb hml hown hK hP hD hS hA hret hl
  have hl : lv_has ls 6 [(0, .ref mO), (1, .int (nI bb))] := hl
  rw [f_X7_lightest] at hf
  refine lv_iload_n hx hb dX7_lightest_0 rfl (lv_at hl 1 rfl) ?_
  refine cl_S (ws' := [(mO, .inr (7, [.ref mA, .ref mS, .ref mI, .ref mV, .int me, .ref mT, .ref mR, .int (nI mz), .int (nI ma), .ref mW, .int (nI mr), .ref mN])), (mA, .inl (G.2.1, 7, .inl zf)), (mS, .inl (G.2.1, 259, .inl zs))]) (v := (some (.int (f_X7_isBook (nI bb))))) (st1 := [.int (f_X7_isBook (nI bb))]) (rest := []) (As := [.int (nI bb)]) [] hx hb hml hown hK (k_X7_isBook l G (nI bb) ) (mf_X7_isBook hK.2) (kw_728 hK.2) (kw_727 hK.2) ⟨rfl, rfl, Nat.le_of_ble_eq_true rfl, Nat.le_of_ble_eq_true rfl⟩ rfl hP hD hS hA hl (Nat.le_of_ble_eq_true rfl) rfl ⟨Nat.le_of_ble_eq_true rfl, Nat.le_of_ble_eq_true rfl⟩ rfl dX7_lightest_1 rfl rfl rfl rfl rfl rfl (fun H locs hP hD hS => ?_)
  refine lv_if_ne (tgt := 13) hx hb dX7_lightest_4 (by decide) (fun _ => ?_) (fun c => absurd c (isBook7 hbb))
  refine lv_sipush (v := 4095) hx hb dX7_lightest_13 (by decide) ?_
  refine lv_istore_n (lv' := [(2, .int 4095), (0, .ref mO), (1, .int (nI bb))]) hx hb dX7_lightest_16 rfl hl (by decide) rfl (fun ls hl => ?_)
  refine lv_iconst (v := 0) hx hb dX7_lightest_17 (by decide) ?_
  refine lv_istore_n (lv' := [(3, .int 0), (2, .int 4095), (0, .ref mO), (1, .int (nI bb))]) hx hb dX7_lightest_18 rfl hl (by decide) rfl (fun ls hl => ?_)
  have L19 : ∀ (k19 : Nat) (i19 : Nat) (v2_19 : Int32), k19 + i19 = 4096 → (Rg v2_19) → f_X7_lightest_19 zf zs bb bn k19 i19 v2_19 = R → ∀ (H : Heap) (locs : List Loc) (ls : Array Slot), va_P G.1 wcl [(mO, .inr (7, [.ref mA, .ref mS, .ref mI, .ref mV, .int me, .ref mT, .ref mR, .int (nI mz), .int (nI ma), .ref mW, .int (nI mr), .ref mN])), (mA, .inl (G.2.1, 7, .inl zf)), (mS, .inl (G.2.1, 259, .inl zs))] H → va_D A [(mO, .inr (7, [.ref mA, .ref mS, .ref mI, .ref mV, .int me, .ref mT, .ref mR, .int (nI mz), .int (nI ma), .ref mW, .int (nI mr), .ref mN])), (mA, .inl (G.2.1, 7, .inl zf)), (mS, .inl (G.2.1, 259, .inl zs))] → va_S A s.heap H locs → lv_has ls 6 [(0, .ref mO), (1, .int (nI bb)), (2, .int v2_19), (3, .int (nI i19))] → W p l e ({ frames := 5, cells := 0, slots := 0, locals := 119 }) s m args below meth c H locs 0 0 Q (F0 m 19 ls []) := by
    intro k19
    induction k19 with
    | zero =>
      intro i19 v2_19 hi19 h1 hf _ _ ls hP hD hS hl
      rw [f_X7_lightest_19_z] at hf
      refine lv_iload_n hx hb dX7_lightest_19 rfl (lv_at hl 3 rfl) ?_
      refine lv_sipush (v := 4096) hx hb dX7_lightest_20 (by decide) ?_
      refine lv_icmp_ge (tgt := 84) hx hb dX7_lightest_23 (by decide) (fun _ => ?_) (fun c => absurd (ile (a := 4096) (b := i19) rfl rfl (by omega) (by omega) (by omega)) c)
      refine lv_iload_n hx hb dX7_lightest_84 rfl (lv_at hl 2 rfl) ?_
      exact hret (v2_19, zf) dX7_lightest_85 rfl hf rfl hP hS
    | succ k19 ih19 =>
      intro i19 v2_19 hi19 h1 hf _ _ ls hP hD hS hl
      rw [f_X7_lightest_19_s] at hf
      refine lv_iload_n hx hb dX7_lightest_19 rfl (lv_at hl 3 rfl) ?_
      refine lv_sipush (v := 4096) hx hb dX7_lightest_20 (by decide) ?_
      refine lv_icmp_ge (tgt := 84) hx hb dX7_lightest_23 (by decide) (fun c => absurd c (inle (a := 4096) (b := i19) rfl rfl (by omega) (by omega) (by omega))) (fun _ => ?_)
      refine lv_aload_n hx hb dX7_lightest_26 rfl (lv_at hl 0 rfl) ?_
      refine lv_iload_n hx hb dX7_lightest_27 rfl (lv_at hl 1 rfl) ?_
      refine lv_iload_n hx hb dX7_lightest_28 rfl (lv_at hl 3 rfl) ?_
      refine cl_V (q := (RX7, TX7, 12)) (ws' := [(mO, .inr (7, [.ref mA, .ref mS, .ref mI, .ref mV, .int me, .ref mT, .ref mR, .int (nI mz), .int (nI ma), .ref mW, .int (nI mr), .ref mN])), (mA, .inl (G.2.1, 7, .inl zf)), (mS, .inl (G.2.1, 259, .inl zs))]) (v := (some (.int (f_X7_hardOf zs bb (nI i19))))) (st1 := [.int (f_X7_hardOf zs bb (nI i19))]) (rest := []) (As := [.int (nI bb), .int (nI i19)]) [0, 2] 0 7 hx hb hml hown hK (k_X7_hardOf l G mO mA mS mI mV mT mR mW mN me mz ma mr zs bb (nI i19) hbb) (mf_X7_hardOf hK.2) (kw_860 hK.2) (kw_27 hK.2) (kw_858 hK.2) ⟨rfl, rfl, Nat.le_of_ble_eq_true rfl, Nat.le_of_ble_eq_true rfl⟩ rfl hP hD hS hA rfl rfl hl (Nat.le_of_ble_eq_true rfl) rfl ⟨Nat.le_of_ble_eq_true rfl, Nat.le_of_ble_eq_true rfl⟩ rfl dX7_lightest_29 rfl rfl (rpl_fast (by decide) rfl rfl) rfl rfl rfl (fun H locs hP hD hS => ?_)
      refine lv_istore (lv' := [(4, .int (f_X7_hardOf zs bb (nI i19))), (0, .ref mO), (1, .int (nI bb)), (2, .int v2_19), (3, .int (nI i19))]) hx hb dX7_lightest_32 hl (by decide) rfl (fun ls hl => ?_)
      refine lv_aload_n hx hb dX7_lightest_34 rfl (lv_at hl 1 rfl) ?_
      refine lv_iload_n hx hb dX7_lightest_35 rfl (lv_at hl 2 rfl) ?_
      refine lv_iload_n hx hb dX7_lightest_36 rfl (lv_at hl 3 rfl) ?_
      refine cl_V (q := (RX7, TX7, 12)) (ws' := [(mO, .inr (7, [.ref mA, .ref mS, .ref mI, .ref mV, .int me, .ref mT, .ref mR, .int (nI mz), .int (nI ma), .ref mW, .int (nI mr), .ref mN])), (mA, .inl (G.2.1, 7, .inl zf)), (mS, .inl (G.2.1, 259, .inl zs))]) (v := (some (.int (f_X7_hardOf zs bb v2_19)))) (st1 := [.int (f_X7_hardOf zs bb v2_19)]) (rest := []) (As := [.int (nI bb), .int v2_19]) [0, 2] 0 7 hx hb hml hown hK (k_X7_hardOf l G mO mA mS mI mV mT mR mW mN me mz ma mr zs bb v2_19 hbb) (mf_X7_hardOf hK.2) (kw_860 hK.2) (kw_27 hK.2) (kw_858 hK.2) ⟨rfl, rfl, Nat.le_of_ble_eq_true rfl, Nat.le_of_ble_eq_true rfl⟩ rfl hP hD hS hA rfl rfl hl (Nat.le_of_ble_eq_true rfl) rfl ⟨Nat.le_of_ble_eq_true rfl, Nat.le_of_ble_eq_true rfl⟩ rfl dX7_lightest_37 rfl rfl (rpl_fast (by decide) rfl rfl) rfl rfl rfl (fun H locs hP hD hS => ?_)
      refine lv_istore (lv' := [(5, .int (f_X7_hardOf zs bb v2_19)), (4, .int (f_X7_hardOf zs bb (nI i19))), (0, .ref mO), (1, .int (nI bb)), (2, .int v2_19), (3, .int (nI i19))]) hx hb dX7_lightest_40 hl (by decide) rfl (fun ls hl => ?_)
      refine lv_iload hx hb dX7_lightest_42 (lv_at hl 1 rfl) ?_
      refine lv_iload hx hb dX7_lightest_44 (lv_at hl 0 rfl) ?_
      refine lv_icmp_lt (tgt := 67) hx hb dX7_lightest_46 (by decide) (fun c1 => ?_) (fun c1 => ?_)
      · have hf := (if_pos c1).symm.trans hf
        refine lv_aload_n hx hb dX7_lightest_67 rfl (lv_at hl 2 rfl) ?_
        refine lv_iload_n hx hb dX7_lightest_68 rfl (lv_at hl 3 rfl) ?_
        refine lv_iload_n hx hb dX7_lightest_69 rfl (lv_at hl 5 rfl) ?_
        refine cl_V (q := (RX7, TX7, 12)) (ws' := [(mO, .inr (7, [.ref mA, .ref mS, .ref mI, .ref mV, .int me, .ref mT, .ref mR, .int (nI mz), .int (nI ma), .ref mW, .int (nI mr), .ref mN])), (mA, .inl (G.2.1, 7, .inl zf)), (mS, .inl (G.2.1, 259, .inl zs))]) (v := (some (.int (f_X7_isFoundation zs bb bn (nI i19))))) (st1 := [.int (f_X7_isFoundation zs bb bn (nI i19))]) (rest := []) (As := [.int (nI bb), .int (nI i19)]) [0, 2] 0 7 hx hb hml hown hK (k_X7_isFoundation l G mO mA mS mI mV mT mR mW mN me mz ma mr zs bb bn (nI i19) hbb hbn hb2 hnd hwd (Rg_of (by omega))) (mf_X7_isFoundation hK.2) (kw_852 hK.2) (kw_26 hK.2) (kw_850 hK.2) ⟨rfl, rfl, Nat.le_of_ble_eq_true rfl, Nat.le_of_ble_eq_true rfl⟩ rfl hP hD hS hA rfl rfl hl (Nat.le_of_ble_eq_true rfl) rfl ⟨Nat.le_of_ble_eq_true rfl, Nat.le_of_ble_eq_true rfl⟩ rfl dX7_lightest_70 rfl rfl (rpl_fast (by decide) rfl rfl) rfl rfl rfl (fun H locs hP hD hS => ?_)
        refine lv_if_eq (tgt := 78) hx hb dX7_lightest_73 (by decide) (fun c2 => ?_) (fun c2 => ?_)
        · have hf := (if_pos c2).symm.trans hf
          refine lv_iinc (v := nI (i19 + 1)) (lv' := [(3, .int (nI (i19 + 1))), (5, .int (f_X7_hardOf zs bb v2_19)), (4, .int (f_X7_hardOf zs bb (nI i19))), (0, .ref mO), (1, .int (nI bb)), (2, .int v2_19)]) hx hb dX7_lightest_78 hl (k := 5) rfl (nI_1 i19) (by decide) rfl (fun ls hl => ?_)
          refine lv_goto (tgt := 19) hx hb dX7_lightest_81 (by decide) ?_
          exact ih19 (i19 + 1) v2_19 (by omega) (by first | exact h1 | exact Rg_of (by omega)) hf _ _ ls hP hD hS (lv_sub hl [3, 4, 5, 0] rfl)
        · have hf := (if_neg c2).symm.trans hf
          refine lv_iload_n hx hb dX7_lightest_76 rfl (lv_at hl 5 rfl) ?_
          refine lv_istore_n (lv' := [(2, .int (nI i19)), (5, .int (f_X7_hardOf zs bb v2_19)), (4, .int (f_X7_hardOf zs bb (nI i19))), (0, .ref mO), (1, .int (nI bb)), (3, .int (nI i19))]) hx hb dX7_lightest_77 rfl hl (by decide) rfl (fun ls hl => ?_)
          refine lv_iinc (v := nI (i19 + 1)) (lv' := [(3, .int (nI (i19 + 1))), (2, .int (nI i19)), (5, .int (f_X7_hardOf zs bb v2_19)), (4, .int (f_X7_hardOf zs bb (nI i19))), (0, .ref mO), (1, .int (nI bb))]) hx hb dX7_lightest_78 hl (k := 5) rfl (nI_1 i19) (by decide) rfl (fun ls hl => ?_)
          refine lv_goto (tgt := 19) hx hb dX7_lightest_81 (by decide) ?_
          exact ih19 (i19 + 1) (nI i19) (by omega) (by first | exact h1 | exact Rg_of (by omega)) hf _ _ ls hP hD hS (lv_sub hl [4, 5, 1, 0] rfl)
      · have hf := (if_neg c1).symm.trans hf
        refine lv_iload hx hb dX7_lightest_49 (lv_at hl 1 rfl) ?_
        refine lv_iload hx hb dX7_lightest_51 (lv_at hl 0 rfl) ?_
        refine lv_icmp_ne (tgt := 78) hx hb dX7_lightest_53 (by decide) (fun c3 => ?_) (fun c3 => ?_)
        · have hf := (if_neg c3).symm.trans hf
          refine lv_iinc (v := nI (i19 + 1)) (lv' := [(3, .int (nI (i19 + 1))), (5, .int (f_X7_hardOf zs bb v2_19)), (4, .int (f_X7_hardOf zs bb (nI i19))), (0, .ref mO), (1, .int (nI bb)), (2, .int v2_19)]) hx hb dX7_lightest_78 hl (k := 5) rfl (nI_1 i19) (by decide) rfl (fun ls hl => ?_)
          refine lv_goto (tgt := 19) hx hb dX7_lightest_81 (by decide) ?_
          exact ih19 (i19 + 1) v2_19 (by omega) (by first | exact h1 | exact Rg_of (by omega)) hf _ _ ls hP hD hS (lv_sub hl [3, 4, 5, 0] rfl)
        · have hf := (if_pos c3).symm.trans hf
          refine lv_iload_n hx hb dX7_lightest_56 rfl (lv_at hl 5 rfl) ?_
          refine cl_S (ws' := [(mO, .inr (7, [.ref mA, .ref mS, .ref mI, .ref mV, .int me, .ref mT, .ref mR, .int (nI mz), .int (nI ma), .ref mW, .int (nI mr), .ref mN])), (mA, .inl (G.2.1, 7, .inl zf)), (mS, .inl (G.2.1, 259, .inl zs))]) (v := (some (.int (f_X7_bits (nI i19))))) (st1 := [.int (f_X7_bits (nI i19))]) (rest := []) (As := [.int (nI i19)]) [] hx hb hml hown hK (k_X7_bits l G (nI i19) (Rg_of (by omega))) (mf_X7_bits hK.2) (kw_792 hK.2) (kw_791 hK.2) ⟨rfl, rfl, Nat.le_of_ble_eq_true rfl, Nat.le_of_ble_eq_true rfl⟩ rfl hP hD hS hA hl (Nat.le_of_ble_eq_true rfl) rfl ⟨Nat.le_of_ble_eq_true rfl, Nat.le_of_ble_eq_true rfl⟩ rfl dX7_lightest_57 rfl rfl rfl rfl rfl rfl (fun H locs hP hD hS => ?_)
          refine lv_iload_n hx hb dX7_lightest_60 rfl (lv_at hl 4 rfl) ?_
          refine cl_S (ws' := [(mO, .inr (7, [.ref mA, .ref mS, .ref mI, .ref mV, .int me, .ref mT, .ref mR, .int (nI mz), .int (nI ma), .ref mW, .int (nI mr), .ref mN])), (mA, .inl (G.2.1, 7, .inl zf)), (mS, .inl (G.2.1, 259, .inl zs))]) (v := (some (.int (f_X7_bits v2_19)))) (st1 := [.int (f_X7_bits v2_19), .int (f_X7_bits (nI i19))]) (rest := [.int (f_X7_bits (nI i19))]) (As := [.int v2_19]) [] hx hb hml hown hK (k_X7_bits l G v2_19 h1) (mf_X7_bits hK.2) (kw_792 hK.2) (kw_791 hK.2) ⟨rfl, rfl, Nat.le_of_ble_eq_true rfl, Nat.le_of_ble_eq_true rfl⟩ rfl hP hD hS hA hl (Nat.le_of_ble_eq_true rfl) rfl ⟨Nat.le_of_ble_eq_true rfl, Nat.le_of_ble_eq_true rfl⟩ rfl dX7_lightest_61 rfl rfl rfl rfl rfl rfl (fun H locs hP hD hS => ?_)
          refine lv_icmp_ge (tgt := 78) hx hb dX7_lightest_64 (by decide) (fun c4 => ?_) (fun c4 => ?_)
          · have hf := (if_pos c4).symm.trans hf
            refine lv_iinc (v := nI (i19 + 1)) (lv' := [(3, .int (nI (i19 + 1))), (5, .int (f_X7_hardOf zs bb v2_19)), (4, .int (f_X7_hardOf zs bb (nI i19))), (0, .ref mO), (1, .int (nI bb)), (2, .int v2_19)]) hx hb dX7_lightest_78 hl (k := 5) rfl (nI_1 i19) (by decide) rfl (fun ls hl => ?_)
            refine lv_goto (tgt := 19) hx hb dX7_lightest_81 (by decide) ?_
            exact ih19 (i19 + 1) v2_19 (by omega) (by first | exact h1 | exact Rg_of (by omega)) hf _ _ ls hP hD hS (lv_sub hl [3, 4, 5, 0] rfl)
          · have hf := (if_neg c4).symm.trans hf
            refine lv_aload_n hx hb dX7_lightest_67 rfl (lv_at hl 2 rfl) ?_
            refine lv_iload_n hx hb dX7_lightest_68 rfl (lv_at hl 3 rfl) ?_
            refine lv_iload_n hx hb dX7_lightest_69 rfl (lv_at hl 5 rfl) ?_
            refine cl_V (q := (RX7, TX7, 12)) (ws' := [(mO, .inr (7, [.ref mA, .ref mS, .ref mI, .ref mV, .int me, .ref mT, .ref mR, .int (nI mz), .int (nI ma), .ref mW, .int (nI mr), .ref mN])), (mA, .inl (G.2.1, 7, .inl zf)), (mS, .inl (G.2.1, 259, .inl zs))]) (v := (some (.int (f_X7_isFoundation zs bb bn (nI i19))))) (st1 := [.int (f_X7_isFoundation zs bb bn (nI i19))]) (rest := []) (As := [.int (nI bb), .int (nI i19)]) [0, 2] 0 7 hx hb hml hown hK (k_X7_isFoundation l G mO mA mS mI mV mT mR mW mN me mz ma mr zs bb bn (nI i19) hbb hbn hb2 hnd hwd (Rg_of (by omega))) (mf_X7_isFoundation hK.2) (kw_852 hK.2) (kw_26 hK.2) (kw_850 hK.2) ⟨rfl, rfl, Nat.le_of_ble_eq_true rfl, Nat.le_of_ble_eq_true rfl⟩ rfl hP hD hS hA rfl rfl hl (Nat.le_of_ble_eq_true rfl) rfl ⟨Nat.le_of_ble_eq_true rfl, Nat.le_of_ble_eq_true rfl⟩ rfl dX7_lightest_70 rfl rfl (rpl_fast (by decide) rfl rfl) rfl rfl rfl (fun H locs hP hD hS => ?_)
            refine lv_if_eq (tgt := 78) hx hb dX7_lightest_73 (by decide) (fun c5 => ?_) (fun c5 => ?_)
            · have hf := (if_pos c5).symm.trans hf
              refine lv_iinc (v := nI (i19 + 1)) (lv' := [(3, .int (nI (i19 + 1))), (5, .int (f_X7_hardOf zs bb v2_19)), (4, .int (f_X7_hardOf zs bb (nI i19))), (0, .ref mO), (1, .int (nI bb)), (2, .int v2_19)]) hx hb dX7_lightest_78 hl (k := 5) rfl (nI_1 i19) (by decide) rfl (fun ls hl => ?_)
              refine lv_goto (tgt := 19) hx hb dX7_lightest_81 (by decide) ?_
              exact ih19 (i19 + 1) v2_19 (by omega) (by first | exact h1 | exact Rg_of (by omega)) hf _ _ ls hP hD hS (lv_sub hl [3, 4, 5, 0] rfl)
            · have hf := (if_neg c5).symm.trans hf
              refine lv_iload_n hx hb dX7_lightest_76 rfl (lv_at hl 5 rfl) ?_
              refine lv_istore_n (lv' := [(2, .int (nI i19)), (5, .int (f_X7_hardOf zs bb v2_19)), (4, .int (f_X7_hardOf zs bb (nI i19))), (0, .ref mO), (1, .int (nI bb)), (3, .int (nI i19))]) hx hb dX7_lightest_77 rfl hl (by decide) rfl (fun ls hl => ?_)
              refine lv_iinc (v := nI (i19 + 1)) (lv' := [(3, .int (nI (i19 + 1))), (2, .int (nI i19)), (5, .int (f_X7_hardOf zs bb v2_19)), (4, .int (f_X7_hardOf zs bb (nI i19))), (0, .ref mO), (1, .int (nI bb))]) hx hb dX7_lightest_78 hl (k := 5) rfl (nI_1 i19) (by decide) rfl (fun ls hl => ?_)
              refine lv_goto (tgt := 19) hx hb dX7_lightest_81 (by decide) ?_
              exact ih19 (i19 + 1) (nI i19) (by omega) (by first | exact h1 | exact Rg_of (by omega)) hf _ _ ls hP hD hS (lv_sub hl [4, 5, 1, 0] rfl)
  exact L19 4096 0 4095 (by omega) (Rg_of (j := 4095) (by decide)) hf _ _ ls hP hD hS (lv_sub hl [2, 3, 1, 0] rfl)
def f_X7_lightest_A (zf : Nat → Int32) : Int32 × (Nat → Int32) := ((f_X7_refuse zf (-1)).1, (f_X7_refuse zf (-1)).2)
set_option maxHeartbeats 4000000 in
set_option maxRecDepth 100000 in
theorem k_X7_lightest_A (l : Launch) (G : wG) (mO : Nat) (mA : Nat) (mS : Nat) (mI : Nat) (mV : Nat) (mT : Nat) (mR : Nat) (mW : Nat) (mN : Nat) (me : Int32) (mz : Nat) (ma : Nat) (mr : Nat) (zf : Nat → Int32) (bo : Int32) (hbad : f_X7_isBook bo = 0) : CT l G yX7_lightest cX7_lightest 6 (some .int) ({ frames := 2, cells := 0, slots := 0, locals := 41 }) [.ref mO, .int bo] [(mO, .inr (7, [.ref mA, .ref mS, .ref mI, .ref mV, .int me, .ref mT, .ref mR, .int (nI mz), .int (nI ma), .ref mW, .int (nI mr), .ref mN])), (mA, .inl (G.2.1, 7, .inl zf))] (fun u => [(mO, .inr (7, [.ref mA, .ref mS, .ref mI, .ref mV, .int me, .ref mT, .ref mR, .int (nI mz), .int (nI ma), .ref mW, .int (nI mr), .ref mN])), (mA, .inl (G.2.1, 7, .inl u.2))]) (fun u => some (.int u.1)) (f_X7_lightest_A zf) := by
  obtain ⟨R, hf⟩ : ∃ R, f_X7_lightest_A zf = R := ⟨_, rfl⟩
  rw [hf]
  refine CT.mkI RX7 (by decide +kernel) rfl (Nat.le_of_ble_eq_true rfl) ?_
  intro p e s m args below meth c A Q ls hx hb hml hown hK hP hD hS hA hret hl
  have hl : lv_has ls 6 [(0, .ref mO), (1, .int bo)] := hl
  rw [f_X7_lightest_A] at hf
  refine lv_iload_n hx hb dX7_lightest_0 rfl (lv_at hl 1 rfl) ?_
  refine cl_S (ws' := [(mO, .inr (7, [.ref mA, .ref mS, .ref mI, .ref mV, .int me, .ref mT, .ref mR, .int (nI mz), .int (nI ma), .ref mW, .int (nI mr), .ref mN])), (mA, .inl (G.2.1, 7, .inl zf))]) (v := (some (.int (f_X7_isBook bo)))) (st1 := [.int (f_X7_isBook bo)]) (rest := []) (As := [.int bo]) [] hx hb hml hown hK (k_X7_isBook l G bo ) (mf_X7_isBook hK.2) (kw_728 hK.2) (kw_727 hK.2) ⟨rfl, rfl, Nat.le_of_ble_eq_true rfl, Nat.le_of_ble_eq_true rfl⟩ rfl hP hD hS hA hl (Nat.le_of_ble_eq_true rfl) rfl ⟨Nat.le_of_ble_eq_true rfl, Nat.le_of_ble_eq_true rfl⟩ rfl dX7_lightest_1 rfl rfl rfl rfl rfl rfl (fun H locs hP hD hS => ?_)
  refine lv_if_ne (tgt := 13) hx hb dX7_lightest_4 (by decide) (fun c => absurd hbad c) (fun _ => ?_)
  refine lv_aload_n hx hb dX7_lightest_7 rfl (lv_at hl 0 rfl) ?_
  refine lv_iconst (v := -1) hx hb dX7_lightest_8 (by decide) ?_
  refine cl_V (q := (RX7, TX7, 12)) (ws' := [(mO, .inr (7, [.ref mA, .ref mS, .ref mI, .ref mV, .int me, .ref mT, .ref mR, .int (nI mz), .int (nI ma), .ref mW, .int (nI mr), .ref mN])), (mA, .inl (G.2.1, 7, .inl ((f_X7_refuse zf (-1)).2)))]) (v := (some (.int ((f_X7_refuse zf (-1)).1)))) (st1 := [.int ((f_X7_refuse zf (-1)).1)]) (rest := []) (As := [.int (-1)]) [0, 1] 0 7 hx hb hml hown hK (k_X7_refuse l G mO mA mS mI mV mT mR mW mN me mz ma mr zf (-1) vp7_1) (mf_X7_refuse hK.2) (kw_720 hK.2) (kw_11 hK.2) (kw_718 hK.2) ⟨rfl, rfl, Nat.le_of_ble_eq_true rfl, Nat.le_of_ble_eq_true rfl⟩ rfl hP hD hS hA rfl rfl hl (Nat.le_of_ble_eq_true rfl) rfl ⟨Nat.le_of_ble_eq_true rfl, Nat.le_of_ble_eq_true rfl⟩ rfl dX7_lightest_9 rfl rfl (rpl_fast (by decide) rfl rfl) rfl rfl rfl (fun H locs hP hD hS => ?_)
  exact hret ((f_X7_refuse zf (-1)).1, (f_X7_refuse zf (-1)).2) dX7_lightest_12 rfl hf rfl hP hS
def f_X7_sets_51 (zf : Nat → Int32) (zs : Nat → Int32) (bb : Nat) (bn : Nat) (wh : Int32) : Nat → Nat → Int32 → Int32 → Int32 → (Int32 × (Nat → Int32))
  | 0, i51, v4_51, v5_51, v6_51 => (if wh = 0 then (v4_51, zf) else (if wh = 1 then (v5_51, zf) else (v6_51, zf)))
  | k51 + 1, i51, v4_51, v5_51, v6_51 => (if (f_X7_bits (nI i51)) = (f_X7_bits (f_X7_fewestOf zs bb bn)) then (if (f_X7_isFoundation zs bb bn (nI i51)) = 0 then f_X7_sets_51 zf zs bb bn wh k51 (i51 + 1) v4_51 v5_51 v6_51 else f_X7_sets_51 zf zs bb bn wh k51 (i51 + 1) (v4_51 + 1) (v5_51 &&& (nI i51)) (v6_51 ||| (nI i51))) else f_X7_sets_51 zf zs bb bn wh k51 (i51 + 1) v4_51 v5_51 v6_51)
theorem f_X7_sets_51_z (zf : Nat → Int32) (zs : Nat → Int32) (bb : Nat) (bn : Nat) (wh : Int32) (i51 : Nat) (v4_51 : Int32) (v5_51 : Int32) (v6_51 : Int32) : f_X7_sets_51 zf zs bb bn wh 0 i51 v4_51 v5_51 v6_51 = (if wh = 0 then (v4_51, zf) else (if wh = 1 then (v5_51, zf) else (v6_51, zf))) := rfl
theorem f_X7_sets_51_s (zf : Nat → Int32) (zs : Nat → Int32) (bb : Nat) (bn : Nat) (wh : Int32) (k51 : Nat) (i51 : Nat) (v4_51 : Int32) (v5_51 : Int32) (v6_51 : Int32) : f_X7_sets_51 zf zs bb bn wh (k51 + 1) i51 v4_51 v5_51 v6_51 = (if (f_X7_bits (nI i51)) = (f_X7_bits (f_X7_fewestOf zs bb bn)) then (if (f_X7_isFoundation zs bb bn (nI i51)) = 0 then f_X7_sets_51 zf zs bb bn wh k51 (i51 + 1) v4_51 v5_51 v6_51 else f_X7_sets_51 zf zs bb bn wh k51 (i51 + 1) (v4_51 + 1) (v5_51 &&& (nI i51)) (v6_51 ||| (nI i51))) else f_X7_sets_51 zf zs bb bn wh k51 (i51 + 1) v4_51 v5_51 v6_51) := rfl
def f_X7_sets (zf : Nat → Int32) (zs : Nat → Int32) (bb : Nat) (bn : Nat) (wh : Int32) : Int32 × (Nat → Int32) := (if (f_X7_isIn wh 3) = 0 then ((f_X7_refuse zf (-2)).1, (f_X7_refuse zf (-2)).2) else (f_X7_sets_51 zf zs bb bn wh 4096 0 0 4095 0))
set_option maxHeartbeats 4000000 in
set_option maxRecDepth 100000 in
theorem k_X7_sets (l : Launch) (G : wG) (mO : Nat) (mA : Nat) (mS : Nat) (mI : Nat) (mV : Nat) (mT : Nat) (mR : Nat) (mW : Nat) (mN : Nat) (me : Int32) (mz : Nat) (ma : Nat) (mr : Nat) (zf : Nat → Int32) (zs : Nat → Int32) (bb : Nat) (bn : Nat) (wh : Int32) (hbb : bb < 2) (hbn : zs (160 + bb) = nI bn) (hb2 : bn ≤ 20) (hnd : ∀ t : Nat, t < bn → Rg (zs (80 * bb + 4 * t + 2))) (hwd : ∀ t : Nat, t < bn → ∃ w : Nat, w < 12 ∧ zs (80 * bb + 4 * t) = nI w) : CT l G yX7_sets cX7_sets 8 (some .int) ({ frames := 6, cells := 0, slots := 0, locals := 142 }) [.ref mO, .int (nI bb), .int wh] [(mO, .inr (7, [.ref mA, .ref mS, .ref mI, .ref mV, .int me, .ref mT, .ref mR, .int (nI mz), .int (nI ma), .ref mW, .int (nI mr), .ref mN])), (mA, .inl (G.2.1, 7, .inl zf)), (mS, .inl (G.2.1, 259, .inl zs))] (fun u => [(mO, .inr (7, [.ref mA, .ref mS, .ref mI, .ref mV, .int me, .ref mT, .ref mR, .int (nI mz), .int (nI ma), .ref mW, .int (nI mr), .ref mN])), (mA, .inl (G.2.1, 7, .inl u.2)), (mS, .inl (G.2.1, 259, .inl zs))]) (fun u => some (.int u.1)) (f_X7_sets zf zs bb bn wh) := by
  obtain ⟨R, hf⟩ : ∃ R, f_X7_sets zf zs bb bn wh = R := ⟨_, rfl⟩
  rw [hf]
  refine CT.mkI RX7 (by decide +kernel) rfl (Nat.le_of_ble_eq_true rfl) ?_
  intro p e s m args below meth c A Q ls hx hb hml hown hK hP hD hS hA hret hl
  have hl : lv_has ls 8 [(0, .ref mO), (1, .int (nI bb)), (2, .int wh)] := hl
  rw [f_X7_sets] at hf
  refine lv_iload_n hx hb dX7_sets_0 rfl (lv_at hl 1 rfl) ?_
  refine cl_S (ws' := [(mO, .inr (7, [.ref mA, .ref mS, .ref mI, .ref mV, .int me, .ref mT, .ref mR, .int (nI mz), .int (nI ma), .ref mW, .int (nI mr), .ref mN])), (mA, .inl (G.2.1, 7, .inl zf)), (mS, .inl (G.2.1, 259, .inl zs))]) (v := (some (.int (f_X7_isBook (nI bb))))) (st1 := [.int (f_X7_isBook (nI bb))]) (rest := []) (As := [.int (nI bb)]) [] hx hb hml hown hK (k_X7_isBook l G (nI bb) ) (mf_X7_isBook hK.2) (kw_728 hK.2) (kw_727 hK.2) ⟨rfl, rfl, Nat.le_of_ble_eq_true rfl, Nat.le_of_ble_eq_true rfl⟩ rfl hP hD hS hA hl (Nat.le_of_ble_eq_true rfl) rfl ⟨Nat.le_of_ble_eq_true rfl, Nat.le_of_ble_eq_true rfl⟩ rfl dX7_sets_1 rfl rfl rfl rfl rfl rfl (fun H locs hP hD hS => ?_)
  refine lv_if_ne (tgt := 13) hx hb dX7_sets_4 (by decide) (fun _ => ?_) (fun c => absurd c (isBook7 hbb))
  refine lv_iload_n hx hb dX7_sets_13 rfl (lv_at hl 2 rfl) ?_
  refine lv_iconst (v := 3) hx hb dX7_sets_14 (by decide) ?_
  refine cl_S (ws' := [(mO, .inr (7, [.ref mA, .ref mS, .ref mI, .ref mV, .int me, .ref mT, .ref mR, .int (nI mz), .int (nI ma), .ref mW, .int (nI mr), .ref mN])), (mA, .inl (G.2.1, 7, .inl zf)), (mS, .inl (G.2.1, 259, .inl zs))]) (v := (some (.int (f_X7_isIn wh 3)))) (st1 := [.int (f_X7_isIn wh 3)]) (rest := []) (As := [.int wh, .int 3]) [] hx hb hml hown hK (k_X7_isIn l G wh 3 ) (mf_X7_isIn hK.2) (kw_731 hK.2) (kw_730 hK.2) ⟨rfl, rfl, Nat.le_of_ble_eq_true rfl, Nat.le_of_ble_eq_true rfl⟩ rfl hP hD hS hA hl (Nat.le_of_ble_eq_true rfl) rfl ⟨Nat.le_of_ble_eq_true rfl, Nat.le_of_ble_eq_true rfl⟩ rfl dX7_sets_15 rfl rfl rfl rfl rfl rfl (fun H locs hP hD hS => ?_)
  refine lv_if_ne (tgt := 28) hx hb dX7_sets_18 (by decide) (fun c1 => ?_) (fun c1 => ?_)
  · have hf := (if_neg c1).symm.trans hf
    refine lv_aload_n hx hb dX7_sets_28 rfl (lv_at hl 0 rfl) ?_
    refine lv_iload_n hx hb dX7_sets_29 rfl (lv_at hl 1 rfl) ?_
    refine cl_V (q := (RX7, TX7, 12)) (ws' := [(mO, .inr (7, [.ref mA, .ref mS, .ref mI, .ref mV, .int me, .ref mT, .ref mR, .int (nI mz), .int (nI ma), .ref mW, .int (nI mr), .ref mN])), (mA, .inl (G.2.1, 7, .inl zf)), (mS, .inl (G.2.1, 259, .inl zs))]) (v := (some (.int (f_X7_fewestOf zs bb bn)))) (st1 := [.int (f_X7_fewestOf zs bb bn)]) (rest := []) (As := [.int (nI bb)]) [0, 2] 0 7 hx hb hml hown hK (k_X7_fewestOf l G mO mA mS mI mV mT mR mW mN me mz ma mr zs bb bn hbb hbn hb2 hnd hwd) (mf_X7_fewestOf hK.2) (kw_848 hK.2) (kw_25 hK.2) (kw_846 hK.2) ⟨rfl, rfl, Nat.le_of_ble_eq_true rfl, Nat.le_of_ble_eq_true rfl⟩ rfl hP hD hS hA rfl rfl hl (Nat.le_of_ble_eq_true rfl) rfl ⟨Nat.le_of_ble_eq_true rfl, Nat.le_of_ble_eq_true rfl⟩ rfl dX7_sets_30 rfl rfl (rpl_fast (by decide) rfl rfl) rfl rfl rfl (fun H locs hP hD hS => ?_)
    refine cl_S (ws' := [(mO, .inr (7, [.ref mA, .ref mS, .ref mI, .ref mV, .int me, .ref mT, .ref mR, .int (nI mz), .int (nI ma), .ref mW, .int (nI mr), .ref mN])), (mA, .inl (G.2.1, 7, .inl zf)), (mS, .inl (G.2.1, 259, .inl zs))]) (v := (some (.int (f_X7_bits (f_X7_fewestOf zs bb bn))))) (st1 := [.int (f_X7_bits (f_X7_fewestOf zs bb bn))]) (rest := []) (As := [.int (f_X7_fewestOf zs bb bn)]) [] hx hb hml hown hK (k_X7_bits l G (f_X7_fewestOf zs bb bn) Rg_few) (mf_X7_bits hK.2) (kw_792 hK.2) (kw_791 hK.2) ⟨rfl, rfl, Nat.le_of_ble_eq_true rfl, Nat.le_of_ble_eq_true rfl⟩ rfl hP hD hS hA hl (Nat.le_of_ble_eq_true rfl) rfl ⟨Nat.le_of_ble_eq_true rfl, Nat.le_of_ble_eq_true rfl⟩ rfl dX7_sets_33 rfl rfl rfl rfl rfl rfl (fun H locs hP hD hS => ?_)
    refine lv_istore_n (lv' := [(3, .int (f_X7_bits (f_X7_fewestOf zs bb bn))), (0, .ref mO), (1, .int (nI bb)), (2, .int wh)]) hx hb dX7_sets_36 rfl hl (by decide) rfl (fun ls hl => ?_)
    refine lv_iconst (v := 0) hx hb dX7_sets_37 (by decide) ?_
    refine lv_istore (lv' := [(4, .int 0), (3, .int (f_X7_bits (f_X7_fewestOf zs bb bn))), (0, .ref mO), (1, .int (nI bb)), (2, .int wh)]) hx hb dX7_sets_38 hl (by decide) rfl (fun ls hl => ?_)
    refine lv_sipush (v := 4095) hx hb dX7_sets_40 (by decide) ?_
    refine lv_istore (lv' := [(5, .int 4095), (4, .int 0), (3, .int (f_X7_bits (f_X7_fewestOf zs bb bn))), (0, .ref mO), (1, .int (nI bb)), (2, .int wh)]) hx hb dX7_sets_43 hl (by decide) rfl (fun ls hl => ?_)
    refine lv_iconst (v := 0) hx hb dX7_sets_45 (by decide) ?_
    refine lv_istore (lv' := [(6, .int 0), (5, .int 4095), (4, .int 0), (3, .int (f_X7_bits (f_X7_fewestOf zs bb bn))), (0, .ref mO), (1, .int (nI bb)), (2, .int wh)]) hx hb dX7_sets_46 hl (by decide) rfl (fun ls hl => ?_)
    refine lv_iconst (v := 0) hx hb dX7_sets_48 (by decide) ?_
    refine lv_istore (lv' := [(7, .int 0), (6, .int 0), (5, .int 4095), (4, .int 0), (3, .int (f_X7_bits (f_X7_fewestOf zs bb bn))), (0, .ref mO), (1, .int (nI bb)), (2, .int wh)]) hx hb dX7_sets_49 hl (by decide) rfl (fun ls hl => ?_)
    have L51 : ∀ (k51 : Nat) (i51 : Nat) (v4_51 : Int32) (v5_51 : Int32) (v6_51 : Int32), k51 + i51 = 4096 → f_X7_sets_51 zf zs bb bn wh k51 i51 v4_51 v5_51 v6_51 = R → ∀ (H : Heap) (locs : List Loc) (ls : Array Slot), va_P G.1 wcl [(mO, .inr (7, [.ref mA, .ref mS, .ref mI, .ref mV, .int me, .ref mT, .ref mR, .int (nI mz), .int (nI ma), .ref mW, .int (nI mr), .ref mN])), (mA, .inl (G.2.1, 7, .inl zf)), (mS, .inl (G.2.1, 259, .inl zs))] H → va_D A [(mO, .inr (7, [.ref mA, .ref mS, .ref mI, .ref mV, .int me, .ref mT, .ref mR, .int (nI mz), .int (nI ma), .ref mW, .int (nI mr), .ref mN])), (mA, .inl (G.2.1, 7, .inl zf)), (mS, .inl (G.2.1, 259, .inl zs))] → va_S A s.heap H locs → lv_has ls 8 [(0, .ref mO), (1, .int (nI bb)), (2, .int wh), (3, .int (f_X7_bits (f_X7_fewestOf zs bb bn))), (4, .int v4_51), (5, .int v5_51), (6, .int v6_51), (7, .int (nI i51))] → W p l e ({ frames := 6, cells := 0, slots := 0, locals := 142 }) s m args below meth c H locs 0 0 Q (F0 m 51 ls []) := by
      intro k51
      induction k51 with
      | zero =>
        intro i51 v4_51 v5_51 v6_51 hi51  hf _ _ ls hP hD hS hl
        rw [f_X7_sets_51_z] at hf
        refine lv_iload hx hb dX7_sets_51 (lv_at hl 7 rfl) ?_
        refine lv_sipush (v := 4096) hx hb dX7_sets_53 (by decide) ?_
        refine lv_icmp_ge (tgt := 104) hx hb dX7_sets_56 (by decide) (fun _ => ?_) (fun c => absurd (ile (a := 4096) (b := i51) rfl rfl (by omega) (by omega) (by omega)) c)
        refine lv_iload_n hx hb dX7_sets_104 rfl (lv_at hl 2 rfl) ?_
        refine lv_if_ne (tgt := 113) hx hb dX7_sets_105 (by decide) (fun c2 => ?_) (fun c2 => ?_)
        · have hf := (if_neg c2).symm.trans hf
          refine lv_iload_n hx hb dX7_sets_113 rfl (lv_at hl 2 rfl) ?_
          refine lv_iconst (v := 1) hx hb dX7_sets_114 (by decide) ?_
          refine lv_icmp_ne (tgt := 123) hx hb dX7_sets_115 (by decide) (fun c3 => ?_) (fun c3 => ?_)
          · have hf := (if_neg c3).symm.trans hf
            refine lv_iload hx hb dX7_sets_123 (lv_at hl 6 rfl) ?_
            exact hret (v6_51, zf) dX7_sets_125 rfl hf rfl hP hS
          · have hf := (if_pos c3).symm.trans hf
            refine lv_iload hx hb dX7_sets_118 (lv_at hl 5 rfl) ?_
            refine lv_goto (tgt := 125) hx hb dX7_sets_120 (by decide) ?_
            exact hret (v5_51, zf) dX7_sets_125 rfl hf rfl hP hS
        · have hf := (if_pos c2).symm.trans hf
          refine lv_iload hx hb dX7_sets_108 (lv_at hl 4 rfl) ?_
          refine lv_goto (tgt := 125) hx hb dX7_sets_110 (by decide) ?_
          exact hret (v4_51, zf) dX7_sets_125 rfl hf rfl hP hS
      | succ k51 ih51 =>
        intro i51 v4_51 v5_51 v6_51 hi51  hf _ _ ls hP hD hS hl
        rw [f_X7_sets_51_s] at hf
        refine lv_iload hx hb dX7_sets_51 (lv_at hl 7 rfl) ?_
        refine lv_sipush (v := 4096) hx hb dX7_sets_53 (by decide) ?_
        refine lv_icmp_ge (tgt := 104) hx hb dX7_sets_56 (by decide) (fun c => absurd c (inle (a := 4096) (b := i51) rfl rfl (by omega) (by omega) (by omega))) (fun _ => ?_)
        refine lv_iload hx hb dX7_sets_59 (lv_at hl 7 rfl) ?_
        refine cl_S (ws' := [(mO, .inr (7, [.ref mA, .ref mS, .ref mI, .ref mV, .int me, .ref mT, .ref mR, .int (nI mz), .int (nI ma), .ref mW, .int (nI mr), .ref mN])), (mA, .inl (G.2.1, 7, .inl zf)), (mS, .inl (G.2.1, 259, .inl zs))]) (v := (some (.int (f_X7_bits (nI i51))))) (st1 := [.int (f_X7_bits (nI i51))]) (rest := []) (As := [.int (nI i51)]) [] hx hb hml hown hK (k_X7_bits l G (nI i51) (Rg_of (by omega))) (mf_X7_bits hK.2) (kw_792 hK.2) (kw_791 hK.2) ⟨rfl, rfl, Nat.le_of_ble_eq_true rfl, Nat.le_of_ble_eq_true rfl⟩ rfl hP hD hS hA hl (Nat.le_of_ble_eq_true rfl) rfl ⟨Nat.le_of_ble_eq_true rfl, Nat.le_of_ble_eq_true rfl⟩ rfl dX7_sets_61 rfl rfl rfl rfl rfl rfl (fun H locs hP hD hS => ?_)
        refine lv_iload_n hx hb dX7_sets_64 rfl (lv_at hl 3 rfl) ?_
        refine lv_icmp_ne (tgt := 98) hx hb dX7_sets_65 (by decide) (fun c4 => ?_) (fun c4 => ?_)
        · have hf := (if_neg c4).symm.trans hf
          refine lv_iinc (v := nI (i51 + 1)) (lv' := [(7, .int (nI (i51 + 1))), (0, .ref mO), (1, .int (nI bb)), (2, .int wh), (3, .int (f_X7_bits (f_X7_fewestOf zs bb bn))), (4, .int v4_51), (5, .int v5_51), (6, .int v6_51)]) hx hb dX7_sets_98 hl (k := 7) rfl (nI_1 i51) (by decide) rfl (fun ls hl => ?_)
          refine lv_goto (tgt := 51) hx hb dX7_sets_101 (by decide) ?_
          exact ih51 (i51 + 1) v4_51 v5_51 v6_51 (by omega)  hf _ _ ls hP hD hS (lv_sub hl [1, 2, 3, 4, 5, 6, 7, 0] rfl)
        · have hf := (if_pos c4).symm.trans hf
          refine lv_aload_n hx hb dX7_sets_68 rfl (lv_at hl 0 rfl) ?_
          refine lv_iload_n hx hb dX7_sets_69 rfl (lv_at hl 1 rfl) ?_
          refine lv_iload hx hb dX7_sets_70 (lv_at hl 7 rfl) ?_
          refine cl_V (q := (RX7, TX7, 12)) (ws' := [(mO, .inr (7, [.ref mA, .ref mS, .ref mI, .ref mV, .int me, .ref mT, .ref mR, .int (nI mz), .int (nI ma), .ref mW, .int (nI mr), .ref mN])), (mA, .inl (G.2.1, 7, .inl zf)), (mS, .inl (G.2.1, 259, .inl zs))]) (v := (some (.int (f_X7_isFoundation zs bb bn (nI i51))))) (st1 := [.int (f_X7_isFoundation zs bb bn (nI i51))]) (rest := []) (As := [.int (nI bb), .int (nI i51)]) [0, 2] 0 7 hx hb hml hown hK (k_X7_isFoundation l G mO mA mS mI mV mT mR mW mN me mz ma mr zs bb bn (nI i51) hbb hbn hb2 hnd hwd (Rg_of (by omega))) (mf_X7_isFoundation hK.2) (kw_852 hK.2) (kw_26 hK.2) (kw_850 hK.2) ⟨rfl, rfl, Nat.le_of_ble_eq_true rfl, Nat.le_of_ble_eq_true rfl⟩ rfl hP hD hS hA rfl rfl hl (Nat.le_of_ble_eq_true rfl) rfl ⟨Nat.le_of_ble_eq_true rfl, Nat.le_of_ble_eq_true rfl⟩ rfl dX7_sets_72 rfl rfl (rpl_fast (by decide) rfl rfl) rfl rfl rfl (fun H locs hP hD hS => ?_)
          refine lv_if_ne (tgt := 81) hx hb dX7_sets_75 (by decide) (fun c5 => ?_) (fun c5 => ?_)
          · have hf := (if_neg c5).symm.trans hf
            refine lv_iinc (v := v4_51 + 1) (lv' := [(4, .int (v4_51 + 1)), (0, .ref mO), (1, .int (nI bb)), (2, .int wh), (3, .int (f_X7_bits (f_X7_fewestOf zs bb bn))), (5, .int v5_51), (6, .int v6_51), (7, .int (nI i51))]) hx hb dX7_sets_81 hl (k := 4) rfl rfl (by decide) rfl (fun ls hl => ?_)
            refine lv_iload hx hb dX7_sets_84 (lv_at hl 5 rfl) ?_
            refine lv_iload hx hb dX7_sets_86 (lv_at hl 7 rfl) ?_
            refine lv_iand hx hb dX7_sets_88 ?_
            refine lv_istore (lv' := [(5, .int (v5_51 &&& (nI i51))), (4, .int (v4_51 + 1)), (0, .ref mO), (1, .int (nI bb)), (2, .int wh), (3, .int (f_X7_bits (f_X7_fewestOf zs bb bn))), (6, .int v6_51), (7, .int (nI i51))]) hx hb dX7_sets_89 hl (by decide) rfl (fun ls hl => ?_)
            refine lv_iload hx hb dX7_sets_91 (lv_at hl 6 rfl) ?_
            refine lv_iload hx hb dX7_sets_93 (lv_at hl 7 rfl) ?_
            refine lv_ior hx hb dX7_sets_95 ?_
            refine lv_istore (lv' := [(6, .int (v6_51 ||| (nI i51))), (5, .int (v5_51 &&& (nI i51))), (4, .int (v4_51 + 1)), (0, .ref mO), (1, .int (nI bb)), (2, .int wh), (3, .int (f_X7_bits (f_X7_fewestOf zs bb bn))), (7, .int (nI i51))]) hx hb dX7_sets_96 hl (by decide) rfl (fun ls hl => ?_)
            refine lv_iinc (v := nI (i51 + 1)) (lv' := [(7, .int (nI (i51 + 1))), (6, .int (v6_51 ||| (nI i51))), (5, .int (v5_51 &&& (nI i51))), (4, .int (v4_51 + 1)), (0, .ref mO), (1, .int (nI bb)), (2, .int wh), (3, .int (f_X7_bits (f_X7_fewestOf zs bb bn)))]) hx hb dX7_sets_98 hl (k := 7) rfl (nI_1 i51) (by decide) rfl (fun ls hl => ?_)
            refine lv_goto (tgt := 51) hx hb dX7_sets_101 (by decide) ?_
            exact ih51 (i51 + 1) (v4_51 + 1) (v5_51 &&& (nI i51)) (v6_51 ||| (nI i51)) (by omega)  hf _ _ ls hP hD hS (lv_sub hl [4, 5, 6, 7, 3, 2, 1, 0] rfl)
          · have hf := (if_pos c5).symm.trans hf
            refine lv_goto (tgt := 98) hx hb dX7_sets_78 (by decide) ?_
            refine lv_iinc (v := nI (i51 + 1)) (lv' := [(7, .int (nI (i51 + 1))), (0, .ref mO), (1, .int (nI bb)), (2, .int wh), (3, .int (f_X7_bits (f_X7_fewestOf zs bb bn))), (4, .int v4_51), (5, .int v5_51), (6, .int v6_51)]) hx hb dX7_sets_98 hl (k := 7) rfl (nI_1 i51) (by decide) rfl (fun ls hl => ?_)
            refine lv_goto (tgt := 51) hx hb dX7_sets_101 (by decide) ?_
            exact ih51 (i51 + 1) v4_51 v5_51 v6_51 (by omega)  hf _ _ ls hP hD hS (lv_sub hl [1, 2, 3, 4, 5, 6, 7, 0] rfl)
    exact L51 4096 0 0 4095 0 (by omega)  hf _ _ ls hP hD hS (lv_sub hl [5, 6, 7, 4, 3, 2, 1, 0] rfl)
  · have hf := (if_pos c1).symm.trans hf
    refine lv_aload_n hx hb dX7_sets_21 rfl (lv_at hl 0 rfl) ?_
    refine lv_bipush (v := -2) hx hb dX7_sets_22 (by decide) ?_
    refine cl_V (q := (RX7, TX7, 12)) (ws' := [(mO, .inr (7, [.ref mA, .ref mS, .ref mI, .ref mV, .int me, .ref mT, .ref mR, .int (nI mz), .int (nI ma), .ref mW, .int (nI mr), .ref mN])), (mA, .inl (G.2.1, 7, .inl ((f_X7_refuse zf (-2)).2))), (mS, .inl (G.2.1, 259, .inl zs))]) (v := (some (.int ((f_X7_refuse zf (-2)).1)))) (st1 := [.int ((f_X7_refuse zf (-2)).1)]) (rest := []) (As := [.int (-2)]) [0, 1] 0 7 hx hb hml hown hK (k_X7_refuse l G mO mA mS mI mV mT mR mW mN me mz ma mr zf (-2) vp7_2) (mf_X7_refuse hK.2) (kw_720 hK.2) (kw_11 hK.2) (kw_718 hK.2) ⟨rfl, rfl, Nat.le_of_ble_eq_true rfl, Nat.le_of_ble_eq_true rfl⟩ rfl hP hD hS hA rfl rfl hl (Nat.le_of_ble_eq_true rfl) rfl ⟨Nat.le_of_ble_eq_true rfl, Nat.le_of_ble_eq_true rfl⟩ rfl dX7_sets_24 rfl rfl (rpl_fast (by decide) rfl rfl) rfl rfl rfl (fun H locs hP hD hS => ?_)
    exact hret ((f_X7_refuse zf (-2)).1, (f_X7_refuse zf (-2)).2) dX7_sets_27 rfl hf rfl hP hS
def f_X7_sets_A (zf : Nat → Int32) : Int32 × (Nat → Int32) := ((f_X7_refuse zf (-1)).1, (f_X7_refuse zf (-1)).2)
set_option maxHeartbeats 4000000 in
set_option maxRecDepth 100000 in
theorem k_X7_sets_A (l : Launch) (G : wG) (mO : Nat) (mA : Nat) (mS : Nat) (mI : Nat) (mV : Nat) (mT : Nat) (mR : Nat) (mW : Nat) (mN : Nat) (me : Int32) (mz : Nat) (ma : Nat) (mr : Nat) (zf : Nat → Int32) (bo : Int32) (wh : Int32) (hbad : f_X7_isBook bo = 0) : CT l G yX7_sets cX7_sets 8 (some .int) ({ frames := 2, cells := 0, slots := 0, locals := 41 }) [.ref mO, .int bo, .int wh] [(mO, .inr (7, [.ref mA, .ref mS, .ref mI, .ref mV, .int me, .ref mT, .ref mR, .int (nI mz), .int (nI ma), .ref mW, .int (nI mr), .ref mN])), (mA, .inl (G.2.1, 7, .inl zf))] (fun u => [(mO, .inr (7, [.ref mA, .ref mS, .ref mI, .ref mV, .int me, .ref mT, .ref mR, .int (nI mz), .int (nI ma), .ref mW, .int (nI mr), .ref mN])), (mA, .inl (G.2.1, 7, .inl u.2))]) (fun u => some (.int u.1)) (f_X7_sets_A zf) := by
  obtain ⟨R, hf⟩ : ∃ R, f_X7_sets_A zf = R := ⟨_, rfl⟩
  rw [hf]
  refine CT.mkI RX7 (by decide +kernel) rfl (Nat.le_of_ble_eq_true rfl) ?_
  intro p e s m args below meth c A Q ls hx hb hml hown hK hP hD hS hA hret hl
  have hl : lv_has ls 8 [(0, .ref mO), (1, .int bo), (2, .int wh)] := hl
  rw [f_X7_sets_A] at hf
  refine lv_iload_n hx hb dX7_sets_0 rfl (lv_at hl 1 rfl) ?_
  refine cl_S (ws' := [(mO, .inr (7, [.ref mA, .ref mS, .ref mI, .ref mV, .int me, .ref mT, .ref mR, .int (nI mz), .int (nI ma), .ref mW, .int (nI mr), .ref mN])), (mA, .inl (G.2.1, 7, .inl zf))]) (v := (some (.int (f_X7_isBook bo)))) (st1 := [.int (f_X7_isBook bo)]) (rest := []) (As := [.int bo]) [] hx hb hml hown hK (k_X7_isBook l G bo ) (mf_X7_isBook hK.2) (kw_728 hK.2) (kw_727 hK.2) ⟨rfl, rfl, Nat.le_of_ble_eq_true rfl, Nat.le_of_ble_eq_true rfl⟩ rfl hP hD hS hA hl (Nat.le_of_ble_eq_true rfl) rfl ⟨Nat.le_of_ble_eq_true rfl, Nat.le_of_ble_eq_true rfl⟩ rfl dX7_sets_1 rfl rfl rfl rfl rfl rfl (fun H locs hP hD hS => ?_)
  refine lv_if_ne (tgt := 13) hx hb dX7_sets_4 (by decide) (fun c => absurd hbad c) (fun _ => ?_)
  refine lv_aload_n hx hb dX7_sets_7 rfl (lv_at hl 0 rfl) ?_
  refine lv_iconst (v := -1) hx hb dX7_sets_8 (by decide) ?_
  refine cl_V (q := (RX7, TX7, 12)) (ws' := [(mO, .inr (7, [.ref mA, .ref mS, .ref mI, .ref mV, .int me, .ref mT, .ref mR, .int (nI mz), .int (nI ma), .ref mW, .int (nI mr), .ref mN])), (mA, .inl (G.2.1, 7, .inl ((f_X7_refuse zf (-1)).2)))]) (v := (some (.int ((f_X7_refuse zf (-1)).1)))) (st1 := [.int ((f_X7_refuse zf (-1)).1)]) (rest := []) (As := [.int (-1)]) [0, 1] 0 7 hx hb hml hown hK (k_X7_refuse l G mO mA mS mI mV mT mR mW mN me mz ma mr zf (-1) vp7_1) (mf_X7_refuse hK.2) (kw_720 hK.2) (kw_11 hK.2) (kw_718 hK.2) ⟨rfl, rfl, Nat.le_of_ble_eq_true rfl, Nat.le_of_ble_eq_true rfl⟩ rfl hP hD hS hA rfl rfl hl (Nat.le_of_ble_eq_true rfl) rfl ⟨Nat.le_of_ble_eq_true rfl, Nat.le_of_ble_eq_true rfl⟩ rfl dX7_sets_9 rfl rfl (rpl_fast (by decide) rfl rfl) rfl rfl rfl (fun H locs hP hD hS => ?_)
  exact hret ((f_X7_refuse zf (-1)).1, (f_X7_refuse zf (-1)).2) dX7_sets_12 rfl hf rfl hP hS
def f_X7_learnt (zf : Nat → Int32) (zs : Nat → Int32) (bb : Nat) (bn : Nat) (kn : Int32) : Int32 × (Nat → Int32) := (if (f_X7_isIn kn 4096) = 0 then ((f_X7_refuse zf (-1)).1, (f_X7_refuse zf (-1)).2) else (f_X7_learntBy zs bb bn kn, zf))
set_option maxHeartbeats 4000000 in
set_option maxRecDepth 100000 in
theorem k_X7_learnt (l : Launch) (G : wG) (mO : Nat) (mA : Nat) (mS : Nat) (mI : Nat) (mV : Nat) (mT : Nat) (mR : Nat) (mW : Nat) (mN : Nat) (me : Int32) (mz : Nat) (ma : Nat) (mr : Nat) (zf : Nat → Int32) (zs : Nat → Int32) (bb : Nat) (bn : Nat) (kn : Int32) (hbb : bb < 2) (hbn : zs (160 + bb) = nI bn) (hb2 : bn ≤ 20) (hnd : ∀ t : Nat, t < bn → Rg (zs (80 * bb + 4 * t + 2))) (hwd : ∀ t : Nat, t < bn → ∃ w : Nat, w < 12 ∧ zs (80 * bb + 4 * t) = nI w) : CT l G yX7_learnt cX7_learnt 3 (some .int) ({ frames := 4, cells := 0, slots := 0, locals := 97 }) [.ref mO, .int (nI bb), .int kn] [(mO, .inr (7, [.ref mA, .ref mS, .ref mI, .ref mV, .int me, .ref mT, .ref mR, .int (nI mz), .int (nI ma), .ref mW, .int (nI mr), .ref mN])), (mA, .inl (G.2.1, 7, .inl zf)), (mS, .inl (G.2.1, 259, .inl zs))] (fun u => [(mO, .inr (7, [.ref mA, .ref mS, .ref mI, .ref mV, .int me, .ref mT, .ref mR, .int (nI mz), .int (nI ma), .ref mW, .int (nI mr), .ref mN])), (mA, .inl (G.2.1, 7, .inl u.2)), (mS, .inl (G.2.1, 259, .inl zs))]) (fun u => some (.int u.1)) (f_X7_learnt zf zs bb bn kn) := by
  obtain ⟨R, hf⟩ : ∃ R, f_X7_learnt zf zs bb bn kn = R := ⟨_, rfl⟩
  rw [hf]
  refine CT.mkI RX7 (by decide +kernel) rfl (Nat.le_of_ble_eq_true rfl) ?_
  intro p e s m args below meth c A Q ls hx hb hml hown hK hP hD hS hA hret hl
  have hl : lv_has ls 3 [(0, .ref mO), (1, .int (nI bb)), (2, .int kn)] := hl
  rw [f_X7_learnt] at hf
  refine lv_iload_n hx hb dX7_learnt_0 rfl (lv_at hl 1 rfl) ?_
  refine cl_S (ws' := [(mO, .inr (7, [.ref mA, .ref mS, .ref mI, .ref mV, .int me, .ref mT, .ref mR, .int (nI mz), .int (nI ma), .ref mW, .int (nI mr), .ref mN])), (mA, .inl (G.2.1, 7, .inl zf)), (mS, .inl (G.2.1, 259, .inl zs))]) (v := (some (.int (f_X7_isBook (nI bb))))) (st1 := [.int (f_X7_isBook (nI bb))]) (rest := []) (As := [.int (nI bb)]) [] hx hb hml hown hK (k_X7_isBook l G (nI bb) ) (mf_X7_isBook hK.2) (kw_728 hK.2) (kw_727 hK.2) ⟨rfl, rfl, Nat.le_of_ble_eq_true rfl, Nat.le_of_ble_eq_true rfl⟩ rfl hP hD hS hA hl (Nat.le_of_ble_eq_true rfl) rfl ⟨Nat.le_of_ble_eq_true rfl, Nat.le_of_ble_eq_true rfl⟩ rfl dX7_learnt_1 rfl rfl rfl rfl rfl rfl (fun H locs hP hD hS => ?_)
  refine lv_if_eq (tgt := 26) hx hb dX7_learnt_4 (by decide) (fun c => absurd c (isBook7 hbb)) (fun _ => ?_)
  refine lv_iload_n hx hb dX7_learnt_7 rfl (lv_at hl 2 rfl) ?_
  refine lv_sipush (v := 4096) hx hb dX7_learnt_8 (by decide) ?_
  refine cl_S (ws' := [(mO, .inr (7, [.ref mA, .ref mS, .ref mI, .ref mV, .int me, .ref mT, .ref mR, .int (nI mz), .int (nI ma), .ref mW, .int (nI mr), .ref mN])), (mA, .inl (G.2.1, 7, .inl zf)), (mS, .inl (G.2.1, 259, .inl zs))]) (v := (some (.int (f_X7_isIn kn 4096)))) (st1 := [.int (f_X7_isIn kn 4096)]) (rest := []) (As := [.int kn, .int 4096]) [] hx hb hml hown hK (k_X7_isIn l G kn 4096 ) (mf_X7_isIn hK.2) (kw_731 hK.2) (kw_730 hK.2) ⟨rfl, rfl, Nat.le_of_ble_eq_true rfl, Nat.le_of_ble_eq_true rfl⟩ rfl hP hD hS hA hl (Nat.le_of_ble_eq_true rfl) rfl ⟨Nat.le_of_ble_eq_true rfl, Nat.le_of_ble_eq_true rfl⟩ rfl dX7_learnt_11 rfl rfl rfl rfl rfl rfl (fun H locs hP hD hS => ?_)
  refine lv_if_eq (tgt := 26) hx hb dX7_learnt_14 (by decide) (fun c1 => ?_) (fun c1 => ?_)
  · have hf := (if_pos c1).symm.trans hf
    refine lv_aload_n hx hb dX7_learnt_26 rfl (lv_at hl 0 rfl) ?_
    refine lv_iconst (v := -1) hx hb dX7_learnt_27 (by decide) ?_
    refine cl_V (q := (RX7, TX7, 12)) (ws' := [(mO, .inr (7, [.ref mA, .ref mS, .ref mI, .ref mV, .int me, .ref mT, .ref mR, .int (nI mz), .int (nI ma), .ref mW, .int (nI mr), .ref mN])), (mA, .inl (G.2.1, 7, .inl ((f_X7_refuse zf (-1)).2))), (mS, .inl (G.2.1, 259, .inl zs))]) (v := (some (.int ((f_X7_refuse zf (-1)).1)))) (st1 := [.int ((f_X7_refuse zf (-1)).1)]) (rest := []) (As := [.int (-1)]) [0, 1] 0 7 hx hb hml hown hK (k_X7_refuse l G mO mA mS mI mV mT mR mW mN me mz ma mr zf (-1) vp7_1) (mf_X7_refuse hK.2) (kw_720 hK.2) (kw_11 hK.2) (kw_718 hK.2) ⟨rfl, rfl, Nat.le_of_ble_eq_true rfl, Nat.le_of_ble_eq_true rfl⟩ rfl hP hD hS hA rfl rfl hl (Nat.le_of_ble_eq_true rfl) rfl ⟨Nat.le_of_ble_eq_true rfl, Nat.le_of_ble_eq_true rfl⟩ rfl dX7_learnt_28 rfl rfl (rpl_fast (by decide) rfl rfl) rfl rfl rfl (fun H locs hP hD hS => ?_)
    exact hret ((f_X7_refuse zf (-1)).1, (f_X7_refuse zf (-1)).2) dX7_learnt_31 rfl hf rfl hP hS
  · have hf := (if_neg c1).symm.trans hf
    refine lv_aload_n hx hb dX7_learnt_17 rfl (lv_at hl 0 rfl) ?_
    refine lv_iload_n hx hb dX7_learnt_18 rfl (lv_at hl 1 rfl) ?_
    refine lv_iload_n hx hb dX7_learnt_19 rfl (lv_at hl 2 rfl) ?_
    refine cl_V (q := (RX7, TX7, 12)) (ws' := [(mO, .inr (7, [.ref mA, .ref mS, .ref mI, .ref mV, .int me, .ref mT, .ref mR, .int (nI mz), .int (nI ma), .ref mW, .int (nI mr), .ref mN])), (mA, .inl (G.2.1, 7, .inl zf)), (mS, .inl (G.2.1, 259, .inl zs))]) (v := (some (.int (f_X7_learntBy zs bb bn kn)))) (st1 := [.int (f_X7_learntBy zs bb bn kn)]) (rest := []) (As := [.int (nI bb), .int kn]) [0, 2] 0 7 hx hb hml hown hK (k_X7_learntBy l G mO mA mS mI mV mT mR mW mN me mz ma mr zs bb bn kn hbb hbn hb2 hnd hwd (isIn_Rg (by assumption))) (mf_X7_learntBy hK.2) (kw_800 hK.2) (kw_21 hK.2) (kw_798 hK.2) ⟨rfl, rfl, Nat.le_of_ble_eq_true rfl, Nat.le_of_ble_eq_true rfl⟩ rfl hP hD hS hA rfl rfl hl (Nat.le_of_ble_eq_true rfl) rfl ⟨Nat.le_of_ble_eq_true rfl, Nat.le_of_ble_eq_true rfl⟩ rfl dX7_learnt_20 rfl rfl (rpl_fast (by decide) rfl rfl) rfl rfl rfl (fun H locs hP hD hS => ?_)
    refine lv_goto (tgt := 31) hx hb dX7_learnt_23 (by decide) ?_
    exact hret (f_X7_learntBy zs bb bn kn, zf) dX7_learnt_31 rfl hf rfl hP hS
def f_X7_learnt_A (zf : Nat → Int32) : Int32 × (Nat → Int32) := ((f_X7_refuse zf (-1)).1, (f_X7_refuse zf (-1)).2)
set_option maxHeartbeats 4000000 in
set_option maxRecDepth 100000 in
theorem k_X7_learnt_A (l : Launch) (G : wG) (mO : Nat) (mA : Nat) (mS : Nat) (mI : Nat) (mV : Nat) (mT : Nat) (mR : Nat) (mW : Nat) (mN : Nat) (me : Int32) (mz : Nat) (ma : Nat) (mr : Nat) (zf : Nat → Int32) (bo : Int32) (kn : Int32) (hbad : f_X7_isBook bo = 0) : CT l G yX7_learnt cX7_learnt 3 (some .int) ({ frames := 2, cells := 0, slots := 0, locals := 41 }) [.ref mO, .int bo, .int kn] [(mO, .inr (7, [.ref mA, .ref mS, .ref mI, .ref mV, .int me, .ref mT, .ref mR, .int (nI mz), .int (nI ma), .ref mW, .int (nI mr), .ref mN])), (mA, .inl (G.2.1, 7, .inl zf))] (fun u => [(mO, .inr (7, [.ref mA, .ref mS, .ref mI, .ref mV, .int me, .ref mT, .ref mR, .int (nI mz), .int (nI ma), .ref mW, .int (nI mr), .ref mN])), (mA, .inl (G.2.1, 7, .inl u.2))]) (fun u => some (.int u.1)) (f_X7_learnt_A zf) := by
  obtain ⟨R, hf⟩ : ∃ R, f_X7_learnt_A zf = R := ⟨_, rfl⟩
  rw [hf]
  refine CT.mkI RX7 (by decide +kernel) rfl (Nat.le_of_ble_eq_true rfl) ?_
  intro p e s m args below meth c A Q ls hx hb hml hown hK hP hD hS hA hret hl
  have hl : lv_has ls 3 [(0, .ref mO), (1, .int bo), (2, .int kn)] := hl
  rw [f_X7_learnt_A] at hf
  refine lv_iload_n hx hb dX7_learnt_0 rfl (lv_at hl 1 rfl) ?_
  refine cl_S (ws' := [(mO, .inr (7, [.ref mA, .ref mS, .ref mI, .ref mV, .int me, .ref mT, .ref mR, .int (nI mz), .int (nI ma), .ref mW, .int (nI mr), .ref mN])), (mA, .inl (G.2.1, 7, .inl zf))]) (v := (some (.int (f_X7_isBook bo)))) (st1 := [.int (f_X7_isBook bo)]) (rest := []) (As := [.int bo]) [] hx hb hml hown hK (k_X7_isBook l G bo ) (mf_X7_isBook hK.2) (kw_728 hK.2) (kw_727 hK.2) ⟨rfl, rfl, Nat.le_of_ble_eq_true rfl, Nat.le_of_ble_eq_true rfl⟩ rfl hP hD hS hA hl (Nat.le_of_ble_eq_true rfl) rfl ⟨Nat.le_of_ble_eq_true rfl, Nat.le_of_ble_eq_true rfl⟩ rfl dX7_learnt_1 rfl rfl rfl rfl rfl rfl (fun H locs hP hD hS => ?_)
  refine lv_if_eq (tgt := 26) hx hb dX7_learnt_4 (by decide) (fun _ => ?_) (fun c => absurd hbad c)
  refine lv_aload_n hx hb dX7_learnt_26 rfl (lv_at hl 0 rfl) ?_
  refine lv_iconst (v := -1) hx hb dX7_learnt_27 (by decide) ?_
  refine cl_V (q := (RX7, TX7, 12)) (ws' := [(mO, .inr (7, [.ref mA, .ref mS, .ref mI, .ref mV, .int me, .ref mT, .ref mR, .int (nI mz), .int (nI ma), .ref mW, .int (nI mr), .ref mN])), (mA, .inl (G.2.1, 7, .inl ((f_X7_refuse zf (-1)).2)))]) (v := (some (.int ((f_X7_refuse zf (-1)).1)))) (st1 := [.int ((f_X7_refuse zf (-1)).1)]) (rest := []) (As := [.int (-1)]) [0, 1] 0 7 hx hb hml hown hK (k_X7_refuse l G mO mA mS mI mV mT mR mW mN me mz ma mr zf (-1) vp7_1) (mf_X7_refuse hK.2) (kw_720 hK.2) (kw_11 hK.2) (kw_718 hK.2) ⟨rfl, rfl, Nat.le_of_ble_eq_true rfl, Nat.le_of_ble_eq_true rfl⟩ rfl hP hD hS hA rfl rfl hl (Nat.le_of_ble_eq_true rfl) rfl ⟨Nat.le_of_ble_eq_true rfl, Nat.le_of_ble_eq_true rfl⟩ rfl dX7_learnt_28 rfl rfl (rpl_fast (by decide) rfl rfl) rfl rfl rfl (fun H locs hP hD hS => ?_)
  exact hret ((f_X7_refuse zf (-1)).1, (f_X7_refuse zf (-1)).2) dX7_learnt_31 rfl hf rfl hP hS
def f_X7_depth_38 (zf : Nat → Int32) (zs : Nat → Int32) (bb : Nat) (bn : Nat) (wo : Int32) : Nat → Nat → Int32 → (Int32 × (Nat → Int32))
  | 0, i38, v4_38 => ((-9), zf)
  | k38 + 1, i38, v4_38 => (if ((v4_38 >>> (wo &&& 31)) &&& (1 : Int32)) = 1 then (nI i38, zf) else f_X7_depth_38 zf zs bb bn wo k38 (i38 + 1) (f_X7_next zs bb bn v4_38))
theorem f_X7_depth_38_z (zf : Nat → Int32) (zs : Nat → Int32) (bb : Nat) (bn : Nat) (wo : Int32) (i38 : Nat) (v4_38 : Int32) : f_X7_depth_38 zf zs bb bn wo 0 i38 v4_38 = ((-9), zf) := rfl
theorem f_X7_depth_38_s (zf : Nat → Int32) (zs : Nat → Int32) (bb : Nat) (bn : Nat) (wo : Int32) (k38 : Nat) (i38 : Nat) (v4_38 : Int32) : f_X7_depth_38 zf zs bb bn wo (k38 + 1) i38 v4_38 = (if ((v4_38 >>> (wo &&& 31)) &&& (1 : Int32)) = 1 then (nI i38, zf) else f_X7_depth_38 zf zs bb bn wo k38 (i38 + 1) (f_X7_next zs bb bn v4_38)) := rfl
def f_X7_depth (zf : Nat → Int32) (zs : Nat → Int32) (bb : Nat) (bn : Nat) (kn : Int32) (wo : Int32) : Int32 × (Nat → Int32) := (if (f_X7_isIn kn 4096) = 0 then ((f_X7_refuse zf (-1)).1, (f_X7_refuse zf (-1)).2) else (if (f_X7_isIn wo 12) = 0 then ((f_X7_refuse zf (-1)).1, (f_X7_refuse zf (-1)).2) else (f_X7_depth_38 zf zs bb bn wo 13 0 kn)))
set_option maxHeartbeats 4000000 in
set_option maxRecDepth 100000 in
theorem k_X7_depth (l : Launch) (G : wG) (mO : Nat) (mA : Nat) (mS : Nat) (mI : Nat) (mV : Nat) (mT : Nat) (mR : Nat) (mW : Nat) (mN : Nat) (me : Int32) (mz : Nat) (ma : Nat) (mr : Nat) (zf : Nat → Int32) (zs : Nat → Int32) (bb : Nat) (bn : Nat) (kn : Int32) (wo : Int32) (hbb : bb < 2) (hbn : zs (160 + bb) = nI bn) (hb2 : bn ≤ 20) (hnd : ∀ t : Nat, t < bn → Rg (zs (80 * bb + 4 * t + 2))) (hwd : ∀ t : Nat, t < bn → ∃ w : Nat, w < 12 ∧ zs (80 * bb + 4 * t) = nI w) : CT l G yX7_depth cX7_depth 6 (some .int) ({ frames := 3, cells := 0, slots := 0, locals := 73 }) [.ref mO, .int (nI bb), .int kn, .int wo] [(mO, .inr (7, [.ref mA, .ref mS, .ref mI, .ref mV, .int me, .ref mT, .ref mR, .int (nI mz), .int (nI ma), .ref mW, .int (nI mr), .ref mN])), (mA, .inl (G.2.1, 7, .inl zf)), (mS, .inl (G.2.1, 259, .inl zs))] (fun u => [(mO, .inr (7, [.ref mA, .ref mS, .ref mI, .ref mV, .int me, .ref mT, .ref mR, .int (nI mz), .int (nI ma), .ref mW, .int (nI mr), .ref mN])), (mA, .inl (G.2.1, 7, .inl u.2)), (mS, .inl (G.2.1, 259, .inl zs))]) (fun u => some (.int u.1)) (f_X7_depth zf zs bb bn kn wo) := by
  obtain ⟨R, hf⟩ : ∃ R, f_X7_depth zf zs bb bn kn wo = R := ⟨_, rfl⟩
  rw [hf]
  refine CT.mkI RX7 (by decide +kernel) rfl (Nat.le_of_ble_eq_true rfl) ?_
  intro p e s m args below meth c A Q ls hx hb hml hown hK hP hD hS hA hret hl
  have hl : lv_has ls 6 [(0, .ref mO), (1, .int (nI bb)), (2, .int kn), (3, .int wo)] := hl
  rw [f_X7_depth] at hf
  refine lv_iload_n hx hb dX7_depth_0 rfl (lv_at hl 1 rfl) ?_
  refine cl_S (ws' := [(mO, .inr (7, [.ref mA, .ref mS, .ref mI, .ref mV, .int me, .ref mT, .ref mR, .int (nI mz), .int (nI ma), .ref mW, .int (nI mr), .ref mN])), (mA, .inl (G.2.1, 7, .inl zf)), (mS, .inl (G.2.1, 259, .inl zs))]) (v := (some (.int (f_X7_isBook (nI bb))))) (st1 := [.int (f_X7_isBook (nI bb))]) (rest := []) (As := [.int (nI bb)]) [] hx hb hml hown hK (k_X7_isBook l G (nI bb) ) (mf_X7_isBook hK.2) (kw_728 hK.2) (kw_727 hK.2) ⟨rfl, rfl, Nat.le_of_ble_eq_true rfl, Nat.le_of_ble_eq_true rfl⟩ rfl hP hD hS hA hl (Nat.le_of_ble_eq_true rfl) rfl ⟨Nat.le_of_ble_eq_true rfl, Nat.le_of_ble_eq_true rfl⟩ rfl dX7_depth_1 rfl rfl rfl rfl rfl rfl (fun H locs hP hD hS => ?_)
  refine lv_if_eq (tgt := 26) hx hb dX7_depth_4 (by decide) (fun c => absurd c (isBook7 hbb)) (fun _ => ?_)
  refine lv_iload_n hx hb dX7_depth_7 rfl (lv_at hl 2 rfl) ?_
  refine lv_sipush (v := 4096) hx hb dX7_depth_8 (by decide) ?_
  refine cl_S (ws' := [(mO, .inr (7, [.ref mA, .ref mS, .ref mI, .ref mV, .int me, .ref mT, .ref mR, .int (nI mz), .int (nI ma), .ref mW, .int (nI mr), .ref mN])), (mA, .inl (G.2.1, 7, .inl zf)), (mS, .inl (G.2.1, 259, .inl zs))]) (v := (some (.int (f_X7_isIn kn 4096)))) (st1 := [.int (f_X7_isIn kn 4096)]) (rest := []) (As := [.int kn, .int 4096]) [] hx hb hml hown hK (k_X7_isIn l G kn 4096 ) (mf_X7_isIn hK.2) (kw_731 hK.2) (kw_730 hK.2) ⟨rfl, rfl, Nat.le_of_ble_eq_true rfl, Nat.le_of_ble_eq_true rfl⟩ rfl hP hD hS hA hl (Nat.le_of_ble_eq_true rfl) rfl ⟨Nat.le_of_ble_eq_true rfl, Nat.le_of_ble_eq_true rfl⟩ rfl dX7_depth_11 rfl rfl rfl rfl rfl rfl (fun H locs hP hD hS => ?_)
  refine lv_if_eq (tgt := 26) hx hb dX7_depth_14 (by decide) (fun c1 => ?_) (fun c1 => ?_)
  · have hf := (if_pos c1).symm.trans hf
    refine lv_aload_n hx hb dX7_depth_26 rfl (lv_at hl 0 rfl) ?_
    refine lv_iconst (v := -1) hx hb dX7_depth_27 (by decide) ?_
    refine cl_V (q := (RX7, TX7, 12)) (ws' := [(mO, .inr (7, [.ref mA, .ref mS, .ref mI, .ref mV, .int me, .ref mT, .ref mR, .int (nI mz), .int (nI ma), .ref mW, .int (nI mr), .ref mN])), (mA, .inl (G.2.1, 7, .inl ((f_X7_refuse zf (-1)).2))), (mS, .inl (G.2.1, 259, .inl zs))]) (v := (some (.int ((f_X7_refuse zf (-1)).1)))) (st1 := [.int ((f_X7_refuse zf (-1)).1)]) (rest := []) (As := [.int (-1)]) [0, 1] 0 7 hx hb hml hown hK (k_X7_refuse l G mO mA mS mI mV mT mR mW mN me mz ma mr zf (-1) vp7_1) (mf_X7_refuse hK.2) (kw_720 hK.2) (kw_11 hK.2) (kw_718 hK.2) ⟨rfl, rfl, Nat.le_of_ble_eq_true rfl, Nat.le_of_ble_eq_true rfl⟩ rfl hP hD hS hA rfl rfl hl (Nat.le_of_ble_eq_true rfl) rfl ⟨Nat.le_of_ble_eq_true rfl, Nat.le_of_ble_eq_true rfl⟩ rfl dX7_depth_28 rfl rfl (rpl_fast (by decide) rfl rfl) rfl rfl rfl (fun H locs hP hD hS => ?_)
    exact hret ((f_X7_refuse zf (-1)).1, (f_X7_refuse zf (-1)).2) dX7_depth_31 rfl hf rfl hP hS
  · have hf := (if_neg c1).symm.trans hf
    refine lv_iload_n hx hb dX7_depth_17 rfl (lv_at hl 3 rfl) ?_
    refine lv_bipush (v := 12) hx hb dX7_depth_18 (by decide) ?_
    refine cl_S (ws' := [(mO, .inr (7, [.ref mA, .ref mS, .ref mI, .ref mV, .int me, .ref mT, .ref mR, .int (nI mz), .int (nI ma), .ref mW, .int (nI mr), .ref mN])), (mA, .inl (G.2.1, 7, .inl zf)), (mS, .inl (G.2.1, 259, .inl zs))]) (v := (some (.int (f_X7_isIn wo 12)))) (st1 := [.int (f_X7_isIn wo 12)]) (rest := []) (As := [.int wo, .int 12]) [] hx hb hml hown hK (k_X7_isIn l G wo 12 ) (mf_X7_isIn hK.2) (kw_731 hK.2) (kw_730 hK.2) ⟨rfl, rfl, Nat.le_of_ble_eq_true rfl, Nat.le_of_ble_eq_true rfl⟩ rfl hP hD hS hA hl (Nat.le_of_ble_eq_true rfl) rfl ⟨Nat.le_of_ble_eq_true rfl, Nat.le_of_ble_eq_true rfl⟩ rfl dX7_depth_20 rfl rfl rfl rfl rfl rfl (fun H locs hP hD hS => ?_)
    refine lv_if_ne (tgt := 32) hx hb dX7_depth_23 (by decide) (fun c2 => ?_) (fun c2 => ?_)
    · have hf := (if_neg c2).symm.trans hf
      refine lv_iload_n hx hb dX7_depth_32 rfl (lv_at hl 2 rfl) ?_
      refine lv_istore (lv' := [(4, .int kn), (0, .ref mO), (1, .int (nI bb)), (2, .int kn), (3, .int wo)]) hx hb dX7_depth_33 hl (by decide) rfl (fun ls hl => ?_)
      refine lv_iconst (v := 0) hx hb dX7_depth_35 (by decide) ?_
      refine lv_istore (lv' := [(5, .int 0), (4, .int kn), (0, .ref mO), (1, .int (nI bb)), (2, .int kn), (3, .int wo)]) hx hb dX7_depth_36 hl (by decide) rfl (fun ls hl => ?_)
      have L38 : ∀ (k38 : Nat) (i38 : Nat) (v4_38 : Int32), k38 + i38 = 13 → f_X7_depth_38 zf zs bb bn wo k38 i38 v4_38 = R → ∀ (H : Heap) (locs : List Loc) (ls : Array Slot), va_P G.1 wcl [(mO, .inr (7, [.ref mA, .ref mS, .ref mI, .ref mV, .int me, .ref mT, .ref mR, .int (nI mz), .int (nI ma), .ref mW, .int (nI mr), .ref mN])), (mA, .inl (G.2.1, 7, .inl zf)), (mS, .inl (G.2.1, 259, .inl zs))] H → va_D A [(mO, .inr (7, [.ref mA, .ref mS, .ref mI, .ref mV, .int me, .ref mT, .ref mR, .int (nI mz), .int (nI ma), .ref mW, .int (nI mr), .ref mN])), (mA, .inl (G.2.1, 7, .inl zf)), (mS, .inl (G.2.1, 259, .inl zs))] → va_S A s.heap H locs → lv_has ls 6 [(0, .ref mO), (1, .int (nI bb)), (3, .int wo), (4, .int v4_38), (5, .int (nI i38))] → W p l e ({ frames := 3, cells := 0, slots := 0, locals := 73 }) s m args below meth c H locs 0 0 Q (F0 m 38 ls []) := by
        intro k38
        induction k38 with
        | zero =>
          intro i38 v4_38 hi38  hf _ _ ls hP hD hS hl
          rw [f_X7_depth_38_z] at hf
          refine lv_iload hx hb dX7_depth_38 (lv_at hl 4 rfl) ?_
          refine lv_bipush (v := 13) hx hb dX7_depth_40 (by decide) ?_
          refine lv_icmp_ge (tgt := 73) hx hb dX7_depth_42 (by decide) (fun _ => ?_) (fun c => absurd (ile (a := 13) (b := i38) rfl rfl (by omega) (by omega) (by omega)) c)
          refine lv_bipush (v := -9) hx hb dX7_depth_73 (by decide) ?_
          exact hret ((-9), zf) dX7_depth_75 rfl hf rfl hP hS
        | succ k38 ih38 =>
          intro i38 v4_38 hi38  hf _ _ ls hP hD hS hl
          rw [f_X7_depth_38_s] at hf
          refine lv_iload hx hb dX7_depth_38 (lv_at hl 4 rfl) ?_
          refine lv_bipush (v := 13) hx hb dX7_depth_40 (by decide) ?_
          refine lv_icmp_ge (tgt := 73) hx hb dX7_depth_42 (by decide) (fun c => absurd c (inle (a := 13) (b := i38) rfl rfl (by omega) (by omega) (by omega))) (fun _ => ?_)
          refine lv_iload hx hb dX7_depth_45 (lv_at hl 3 rfl) ?_
          refine lv_iload_n hx hb dX7_depth_47 rfl (lv_at hl 2 rfl) ?_
          refine lv_ishr hx hb dX7_depth_48 ?_
          refine lv_iconst (v := 1) hx hb dX7_depth_49 (by decide) ?_
          refine lv_iand hx hb dX7_depth_50 ?_
          refine lv_iconst (v := 1) hx hb dX7_depth_51 (by decide) ?_
          refine lv_icmp_ne (tgt := 58) hx hb dX7_depth_52 (by decide) (fun c3 => ?_) (fun c3 => ?_)
          · have hf := (if_neg c3).symm.trans hf
            refine lv_aload_n hx hb dX7_depth_58 rfl (lv_at hl 0 rfl) ?_
            refine lv_iload_n hx hb dX7_depth_59 rfl (lv_at hl 1 rfl) ?_
            refine lv_iload hx hb dX7_depth_60 (lv_at hl 3 rfl) ?_
            refine cl_V (q := (RX7, TX7, 12)) (ws' := [(mO, .inr (7, [.ref mA, .ref mS, .ref mI, .ref mV, .int me, .ref mT, .ref mR, .int (nI mz), .int (nI ma), .ref mW, .int (nI mr), .ref mN])), (mA, .inl (G.2.1, 7, .inl zf)), (mS, .inl (G.2.1, 259, .inl zs))]) (v := (some (.int (f_X7_next zs bb bn v4_38)))) (st1 := [.int (f_X7_next zs bb bn v4_38)]) (rest := []) (As := [.int (nI bb), .int v4_38]) [0, 2] 0 7 hx hb hml hown hK (k_X7_next l G mO mA mS mI mV mT mR mW mN me mz ma mr zs bb bn v4_38 hbb hbn hb2 hnd) (mf_X7_next hK.2) (kw_785 hK.2) (kw_19 hK.2) (kw_783 hK.2) ⟨rfl, rfl, Nat.le_of_ble_eq_true rfl, Nat.le_of_ble_eq_true rfl⟩ rfl hP hD hS hA rfl rfl hl (Nat.le_of_ble_eq_true rfl) rfl ⟨Nat.le_of_ble_eq_true rfl, Nat.le_of_ble_eq_true rfl⟩ rfl dX7_depth_62 rfl rfl (rpl_fast (by decide) rfl rfl) rfl rfl rfl (fun H locs hP hD hS => ?_)
            refine lv_istore (lv' := [(4, .int (f_X7_next zs bb bn v4_38)), (0, .ref mO), (1, .int (nI bb)), (3, .int wo), (5, .int (nI i38))]) hx hb dX7_depth_65 hl (by decide) rfl (fun ls hl => ?_)
            refine lv_iinc (v := nI (i38 + 1)) (lv' := [(5, .int (nI (i38 + 1))), (4, .int (f_X7_next zs bb bn v4_38)), (0, .ref mO), (1, .int (nI bb)), (3, .int wo)]) hx hb dX7_depth_67 hl (k := 4) rfl (nI_1 i38) (by decide) rfl (fun ls hl => ?_)
            refine lv_goto (tgt := 38) hx hb dX7_depth_70 (by decide) ?_
            exact ih38 (i38 + 1) (f_X7_next zs bb bn v4_38) (by omega)  hf _ _ ls hP hD hS (lv_sub hl [2, 3, 4, 1, 0] rfl)
          · have hf := (if_pos c3).symm.trans hf
            refine lv_iload hx hb dX7_depth_55 (lv_at hl 4 rfl) ?_
            exact hret (nI i38, zf) dX7_depth_57 rfl hf rfl hP hS
      exact L38 13 0 kn (by omega)  hf _ _ ls hP hD hS (lv_sub hl [2, 3, 5, 1, 0] rfl)
    · have hf := (if_pos c2).symm.trans hf
      refine lv_aload_n hx hb dX7_depth_26 rfl (lv_at hl 0 rfl) ?_
      refine lv_iconst (v := -1) hx hb dX7_depth_27 (by decide) ?_
      refine cl_V (q := (RX7, TX7, 12)) (ws' := [(mO, .inr (7, [.ref mA, .ref mS, .ref mI, .ref mV, .int me, .ref mT, .ref mR, .int (nI mz), .int (nI ma), .ref mW, .int (nI mr), .ref mN])), (mA, .inl (G.2.1, 7, .inl ((f_X7_refuse zf (-1)).2))), (mS, .inl (G.2.1, 259, .inl zs))]) (v := (some (.int ((f_X7_refuse zf (-1)).1)))) (st1 := [.int ((f_X7_refuse zf (-1)).1)]) (rest := []) (As := [.int (-1)]) [0, 1] 0 7 hx hb hml hown hK (k_X7_refuse l G mO mA mS mI mV mT mR mW mN me mz ma mr zf (-1) vp7_1) (mf_X7_refuse hK.2) (kw_720 hK.2) (kw_11 hK.2) (kw_718 hK.2) ⟨rfl, rfl, Nat.le_of_ble_eq_true rfl, Nat.le_of_ble_eq_true rfl⟩ rfl hP hD hS hA rfl rfl hl (Nat.le_of_ble_eq_true rfl) rfl ⟨Nat.le_of_ble_eq_true rfl, Nat.le_of_ble_eq_true rfl⟩ rfl dX7_depth_28 rfl rfl (rpl_fast (by decide) rfl rfl) rfl rfl rfl (fun H locs hP hD hS => ?_)
      exact hret ((f_X7_refuse zf (-1)).1, (f_X7_refuse zf (-1)).2) dX7_depth_31 rfl hf rfl hP hS
def f_X7_depth_A (zf : Nat → Int32) : Int32 × (Nat → Int32) := ((f_X7_refuse zf (-1)).1, (f_X7_refuse zf (-1)).2)
set_option maxHeartbeats 4000000 in
set_option maxRecDepth 100000 in
theorem k_X7_depth_A (l : Launch) (G : wG) (mO : Nat) (mA : Nat) (mS : Nat) (mI : Nat) (mV : Nat) (mT : Nat) (mR : Nat) (mW : Nat) (mN : Nat) (me : Int32) (mz : Nat) (ma : Nat) (mr : Nat) (zf : Nat → Int32) (bo : Int32) (kn : Int32) (wo : Int32) (hbad : f_X7_isBook bo = 0) : CT l G yX7_depth cX7_depth 6 (some .int) ({ frames := 2, cells := 0, slots := 0, locals := 41 }) [.ref mO, .int bo, .int kn, .int wo] [(mO, .inr (7, [.ref mA, .ref mS, .ref mI, .ref mV, .int me, .ref mT, .ref mR, .int (nI mz), .int (nI ma), .ref mW, .int (nI mr), .ref mN])), (mA, .inl (G.2.1, 7, .inl zf))] (fun u => [(mO, .inr (7, [.ref mA, .ref mS, .ref mI, .ref mV, .int me, .ref mT, .ref mR, .int (nI mz), .int (nI ma), .ref mW, .int (nI mr), .ref mN])), (mA, .inl (G.2.1, 7, .inl u.2))]) (fun u => some (.int u.1)) (f_X7_depth_A zf) := by
  obtain ⟨R, hf⟩ : ∃ R, f_X7_depth_A zf = R := ⟨_, rfl⟩
  rw [hf]
  refine CT.mkI RX7 (by decide +kernel) rfl (Nat.le_of_ble_eq_true rfl) ?_
  intro p e s m args below meth c A Q ls hx hb hml hown hK hP hD hS hA hret hl
  have hl : lv_has ls 6 [(0, .ref mO), (1, .int bo), (2, .int kn), (3, .int wo)] := hl
  rw [f_X7_depth_A] at hf
  refine lv_iload_n hx hb dX7_depth_0 rfl (lv_at hl 1 rfl) ?_
  refine cl_S (ws' := [(mO, .inr (7, [.ref mA, .ref mS, .ref mI, .ref mV, .int me, .ref mT, .ref mR, .int (nI mz), .int (nI ma), .ref mW, .int (nI mr), .ref mN])), (mA, .inl (G.2.1, 7, .inl zf))]) (v := (some (.int (f_X7_isBook bo)))) (st1 := [.int (f_X7_isBook bo)]) (rest := []) (As := [.int bo]) [] hx hb hml hown hK (k_X7_isBook l G bo ) (mf_X7_isBook hK.2) (kw_728 hK.2) (kw_727 hK.2) ⟨rfl, rfl, Nat.le_of_ble_eq_true rfl, Nat.le_of_ble_eq_true rfl⟩ rfl hP hD hS hA hl (Nat.le_of_ble_eq_true rfl) rfl ⟨Nat.le_of_ble_eq_true rfl, Nat.le_of_ble_eq_true rfl⟩ rfl dX7_depth_1 rfl rfl rfl rfl rfl rfl (fun H locs hP hD hS => ?_)
  refine lv_if_eq (tgt := 26) hx hb dX7_depth_4 (by decide) (fun _ => ?_) (fun c => absurd hbad c)
  refine lv_aload_n hx hb dX7_depth_26 rfl (lv_at hl 0 rfl) ?_
  refine lv_iconst (v := -1) hx hb dX7_depth_27 (by decide) ?_
  refine cl_V (q := (RX7, TX7, 12)) (ws' := [(mO, .inr (7, [.ref mA, .ref mS, .ref mI, .ref mV, .int me, .ref mT, .ref mR, .int (nI mz), .int (nI ma), .ref mW, .int (nI mr), .ref mN])), (mA, .inl (G.2.1, 7, .inl ((f_X7_refuse zf (-1)).2)))]) (v := (some (.int ((f_X7_refuse zf (-1)).1)))) (st1 := [.int ((f_X7_refuse zf (-1)).1)]) (rest := []) (As := [.int (-1)]) [0, 1] 0 7 hx hb hml hown hK (k_X7_refuse l G mO mA mS mI mV mT mR mW mN me mz ma mr zf (-1) vp7_1) (mf_X7_refuse hK.2) (kw_720 hK.2) (kw_11 hK.2) (kw_718 hK.2) ⟨rfl, rfl, Nat.le_of_ble_eq_true rfl, Nat.le_of_ble_eq_true rfl⟩ rfl hP hD hS hA rfl rfl hl (Nat.le_of_ble_eq_true rfl) rfl ⟨Nat.le_of_ble_eq_true rfl, Nat.le_of_ble_eq_true rfl⟩ rfl dX7_depth_28 rfl rfl (rpl_fast (by decide) rfl rfl) rfl rfl rfl (fun H locs hP hD hS => ?_)
  exact hret ((f_X7_refuse zf (-1)).1, (f_X7_refuse zf (-1)).2) dX7_depth_31 rfl hf rfl hP hS
def f_X7_judge_39 (zf : Nat → Int32) (zs : Nat → Int32) (zw : Nat → Int32) (bb : Nat) (bn : Nat) : Nat → Nat → Int32 → (Int32 × (Nat → Int32) × Nat)
  | 0, i39, v4_39 => ((-9), zf, 0)
  | k39 + 1, i39, v4_39 => (if (f_X7_isIn (zw i39) 12) = 0 then (nI i39, zf, 0) else (if ((v4_39 >>> ((zw i39) &&& 31)) &&& (1 : Int32)) = 1 then (nI i39, zf, 0) else (if (((f_X7_next zs bb bn v4_39) >>> ((zw i39) &&& 31)) &&& (1 : Int32)) = 0 then (nI i39, zf, 0) else f_X7_judge_39 zf zs zw bb bn k39 (i39 + 1) (v4_39 ||| ((1 : Int32) <<< ((zw i39) &&& 31))))))
theorem f_X7_judge_39_z (zf : Nat → Int32) (zs : Nat → Int32) (zw : Nat → Int32) (bb : Nat) (bn : Nat) (i39 : Nat) (v4_39 : Int32) : f_X7_judge_39 zf zs zw bb bn 0 i39 v4_39 = ((-9), zf, 0) := rfl
theorem f_X7_judge_39_s (zf : Nat → Int32) (zs : Nat → Int32) (zw : Nat → Int32) (bb : Nat) (bn : Nat) (k39 : Nat) (i39 : Nat) (v4_39 : Int32) : f_X7_judge_39 zf zs zw bb bn (k39 + 1) i39 v4_39 = (if (f_X7_isIn (zw i39) 12) = 0 then (nI i39, zf, 0) else (if ((v4_39 >>> ((zw i39) &&& 31)) &&& (1 : Int32)) = 1 then (nI i39, zf, 0) else (if (((f_X7_next zs bb bn v4_39) >>> ((zw i39) &&& 31)) &&& (1 : Int32)) = 0 then (nI i39, zf, 0) else f_X7_judge_39 zf zs zw bb bn k39 (i39 + 1) (v4_39 ||| ((1 : Int32) <<< ((zw i39) &&& 31)))))) := rfl
def f_X7_judge (mr : Nat) (zf : Nat → Int32) (zs : Nat → Int32) (zw : Nat → Int32) (bb : Nat) (bn : Nat) (kn : Int32) : Int32 × (Nat → Int32) × Nat := (if (f_X7_isIn kn 4096) = 0 then ((f_X7_refuse zf (-1)).1, (f_X7_refuse zf (-1)).2, mr) else (f_X7_judge_39 zf zs zw bb bn mr 0 kn))
set_option maxHeartbeats 4000000 in
set_option maxRecDepth 100000 in
theorem k_X7_judge (l : Launch) (G : wG) (mO : Nat) (mA : Nat) (mS : Nat) (mI : Nat) (mV : Nat) (mT : Nat) (mR : Nat) (mW : Nat) (mN : Nat) (me : Int32) (mz : Nat) (ma : Nat) (mr : Nat) (zf : Nat → Int32) (zs : Nat → Int32) (zw : Nat → Int32) (bb : Nat) (bn : Nat) (kn : Int32) (hbb : bb < 2) (hbn : zs (160 + bb) = nI bn) (hb2 : bn ≤ 20) (hnd : ∀ t : Nat, t < bn → Rg (zs (80 * bb + 4 * t + 2))) (hwd : ∀ t : Nat, t < bn → ∃ w : Nat, w < 12 ∧ zs (80 * bb + 4 * t) = nI w) (hmr : mr ≤ 24) : CT l G yX7_judge cX7_judge 7 (some .int) ({ frames := 3, cells := 0, slots := 0, locals := 73 }) [.ref mO, .int (nI bb), .int kn] [(mO, .inr (7, [.ref mA, .ref mS, .ref mI, .ref mV, .int me, .ref mT, .ref mR, .int (nI mz), .int (nI ma), .ref mW, .int (nI mr), .ref mN])), (mA, .inl (G.2.1, 7, .inl zf)), (mS, .inl (G.2.1, 259, .inl zs)), (mW, .inl (G.2.1, 24, .inl zw))] (fun u => [(mO, .inr (7, [.ref mA, .ref mS, .ref mI, .ref mV, .int me, .ref mT, .ref mR, .int (nI mz), .int (nI ma), .ref mW, .int (nI u.2.2), .ref mN])), (mA, .inl (G.2.1, 7, .inl u.2.1)), (mS, .inl (G.2.1, 259, .inl zs)), (mW, .inl (G.2.1, 24, .inl zw))]) (fun u => some (.int u.1)) (f_X7_judge mr zf zs zw bb bn kn) := by
  obtain ⟨R, hf⟩ : ∃ R, f_X7_judge mr zf zs zw bb bn kn = R := ⟨_, rfl⟩
  rw [hf]
  refine CT.mkI RX7 (by decide +kernel) rfl (Nat.le_of_ble_eq_true rfl) ?_
  intro p e s m args below meth c A Q ls hx hb hml hown hK hP hD hS hA hret hl
  have hl : lv_has ls 7 [(0, .ref mO), (1, .int (nI bb)), (2, .int kn)] := hl
  rw [f_X7_judge] at hf
  refine lv_iload_n hx hb dX7_judge_0 rfl (lv_at hl 1 rfl) ?_
  refine cl_S (ws' := [(mO, .inr (7, [.ref mA, .ref mS, .ref mI, .ref mV, .int me, .ref mT, .ref mR, .int (nI mz), .int (nI ma), .ref mW, .int (nI mr), .ref mN])), (mA, .inl (G.2.1, 7, .inl zf)), (mS, .inl (G.2.1, 259, .inl zs)), (mW, .inl (G.2.1, 24, .inl zw))]) (v := (some (.int (f_X7_isBook (nI bb))))) (st1 := [.int (f_X7_isBook (nI bb))]) (rest := []) (As := [.int (nI bb)]) [] hx hb hml hown hK (k_X7_isBook l G (nI bb) ) (mf_X7_isBook hK.2) (kw_728 hK.2) (kw_727 hK.2) ⟨rfl, rfl, Nat.le_of_ble_eq_true rfl, Nat.le_of_ble_eq_true rfl⟩ rfl hP hD hS hA hl (Nat.le_of_ble_eq_true rfl) rfl ⟨Nat.le_of_ble_eq_true rfl, Nat.le_of_ble_eq_true rfl⟩ rfl dX7_judge_1 rfl rfl rfl rfl rfl rfl (fun H locs hP hD hS => ?_)
  refine lv_if_eq (tgt := 17) hx hb dX7_judge_4 (by decide) (fun c => absurd c (isBook7 hbb)) (fun _ => ?_)
  refine lv_iload_n hx hb dX7_judge_7 rfl (lv_at hl 2 rfl) ?_
  refine lv_sipush (v := 4096) hx hb dX7_judge_8 (by decide) ?_
  refine cl_S (ws' := [(mO, .inr (7, [.ref mA, .ref mS, .ref mI, .ref mV, .int me, .ref mT, .ref mR, .int (nI mz), .int (nI ma), .ref mW, .int (nI mr), .ref mN])), (mA, .inl (G.2.1, 7, .inl zf)), (mS, .inl (G.2.1, 259, .inl zs)), (mW, .inl (G.2.1, 24, .inl zw))]) (v := (some (.int (f_X7_isIn kn 4096)))) (st1 := [.int (f_X7_isIn kn 4096)]) (rest := []) (As := [.int kn, .int 4096]) [] hx hb hml hown hK (k_X7_isIn l G kn 4096 ) (mf_X7_isIn hK.2) (kw_731 hK.2) (kw_730 hK.2) ⟨rfl, rfl, Nat.le_of_ble_eq_true rfl, Nat.le_of_ble_eq_true rfl⟩ rfl hP hD hS hA hl (Nat.le_of_ble_eq_true rfl) rfl ⟨Nat.le_of_ble_eq_true rfl, Nat.le_of_ble_eq_true rfl⟩ rfl dX7_judge_11 rfl rfl rfl rfl rfl rfl (fun H locs hP hD hS => ?_)
  refine lv_if_ne (tgt := 23) hx hb dX7_judge_14 (by decide) (fun c1 => ?_) (fun c1 => ?_)
  · have hf := (if_neg c1).symm.trans hf
    refine lv_aload_n hx hb dX7_judge_23 rfl (lv_at hl 0 rfl) ?_
    refine va_get (D := G.1) (ci := 7) (v := .int (nI mr)) (C := RX7) (T := TX7) (N := 12) hx hb (ku_X7 hK.2) (fun _ h9 => h9) hown hK.1 hP 0 rfl rfl 10 (by decide) (kw_687 hK.2) (fun _ h9 => h9) rfl dX7_judge_24 ?_
    refine lv_istore_n (lv' := [(3, .int (nI mr)), (0, .ref mO), (1, .int (nI bb)), (2, .int kn)]) hx hb dX7_judge_27 rfl hl (by decide) rfl (fun ls hl => ?_)
    refine lv_aload_n hx hb dX7_judge_28 rfl (lv_at hl 1 rfl) ?_
    refine lv_iconst (v := 0) hx hb dX7_judge_29 (by decide) ?_
    refine va_put (D := G.1) (ci := 7) (v := .int 0) (ty := .int) (C := RX7) (T := TX7) (N := 12) hx hb (ku_X7 hK.2) (fun _ h9 => h9) tyX7 tyX7_ok nmX7 hown hK.1 hP hD hS 0 rfl rfl 10 (by decide) (kw_687 hK.2) (fun _ h9 => h9) rfl (by decide +kernel) rfl rfl (Nat.le_of_ble_eq_true rfl) dX7_judge_30 (fun H locs hP hD hS => ?_)
    have hP : va_P G.1 wcl [(mO, .inr (7, [.ref mA, .ref mS, .ref mI, .ref mV, .int me, .ref mT, .ref mR, .int (nI mz), .int (nI ma), .ref mW, .int 0, .ref mN])), (mA, .inl (G.2.1, 7, .inl zf)), (mS, .inl (G.2.1, 259, .inl zs)), (mW, .inl (G.2.1, 24, .inl zw))] H := hP
    have hD : va_D A [(mO, .inr (7, [.ref mA, .ref mS, .ref mI, .ref mV, .int me, .ref mT, .ref mR, .int (nI mz), .int (nI ma), .ref mW, .int 0, .ref mN])), (mA, .inl (G.2.1, 7, .inl zf)), (mS, .inl (G.2.1, 259, .inl zs)), (mW, .inl (G.2.1, 24, .inl zw))] := hD
    refine lv_iload_n hx hb dX7_judge_33 rfl (lv_at hl 3 rfl) ?_
    refine lv_istore (lv' := [(4, .int kn), (3, .int (nI mr)), (0, .ref mO), (1, .int (nI bb)), (2, .int kn)]) hx hb dX7_judge_34 hl (by decide) rfl (fun ls hl => ?_)
    refine lv_iconst (v := 0) hx hb dX7_judge_36 (by decide) ?_
    refine lv_istore (lv' := [(5, .int 0), (4, .int kn), (3, .int (nI mr)), (0, .ref mO), (1, .int (nI bb)), (2, .int kn)]) hx hb dX7_judge_37 hl (by decide) rfl (fun ls hl => ?_)
    have L39 : ∀ (k39 : Nat) (i39 : Nat) (v4_39 : Int32), k39 + i39 = mr → f_X7_judge_39 zf zs zw bb bn k39 i39 v4_39 = R → ∀ (H : Heap) (locs : List Loc) (ls : Array Slot), va_P G.1 wcl [(mO, .inr (7, [.ref mA, .ref mS, .ref mI, .ref mV, .int me, .ref mT, .ref mR, .int (nI mz), .int (nI ma), .ref mW, .int 0, .ref mN])), (mA, .inl (G.2.1, 7, .inl zf)), (mS, .inl (G.2.1, 259, .inl zs)), (mW, .inl (G.2.1, 24, .inl zw))] H → va_D A [(mO, .inr (7, [.ref mA, .ref mS, .ref mI, .ref mV, .int me, .ref mT, .ref mR, .int (nI mz), .int (nI ma), .ref mW, .int 0, .ref mN])), (mA, .inl (G.2.1, 7, .inl zf)), (mS, .inl (G.2.1, 259, .inl zs)), (mW, .inl (G.2.1, 24, .inl zw))] → va_S A s.heap H locs → lv_has ls 7 [(0, .ref mO), (1, .int (nI bb)), (3, .int (nI mr)), (4, .int v4_39), (5, .int (nI i39))] → W p l e ({ frames := 3, cells := 0, slots := 0, locals := 73 }) s m args below meth c H locs 0 0 Q (F0 m 39 ls []) := by
      intro k39
      induction k39 with
      | zero =>
        intro i39 v4_39 hi39  hf _ _ ls hP hD hS hl
        rw [f_X7_judge_39_z] at hf
        refine lv_iload hx hb dX7_judge_39 (lv_at hl 4 rfl) ?_
        refine lv_iload_n hx hb dX7_judge_41 rfl (lv_at hl 2 rfl) ?_
        refine lv_icmp_ge (tgt := 108) hx hb dX7_judge_42 (by decide) (fun _ => ?_) (fun c => absurd (ile (a := mr) (b := i39) rfl rfl (by omega) (by omega) (by omega)) c)
        refine lv_bipush (v := -9) hx hb dX7_judge_108 (by decide) ?_
        exact hret ((-9), zf, 0) dX7_judge_110 rfl hf rfl hP hS
      | succ k39 ih39 =>
        intro i39 v4_39 hi39  hf _ _ ls hP hD hS hl
        rw [f_X7_judge_39_s] at hf
        refine lv_iload hx hb dX7_judge_39 (lv_at hl 4 rfl) ?_
        refine lv_iload_n hx hb dX7_judge_41 rfl (lv_at hl 2 rfl) ?_
        refine lv_icmp_ge (tgt := 108) hx hb dX7_judge_42 (by decide) (fun c => absurd c (inle (a := mr) (b := i39) rfl rfl (by omega) (by omega) (by omega))) (fun _ => ?_)
        refine lv_aload_n hx hb dX7_judge_45 rfl (lv_at hl 0 rfl) ?_
        refine va_get (D := G.1) (ci := 7) (v := .ref mW) (C := RX7) (T := TX7) (N := 12) hx hb (ku_X7 hK.2) (fun _ h9 => h9) hown hK.1 hP 0 rfl rfl 9 (by decide) (kw_686 hK.2) (fun _ h9 => h9) rfl dX7_judge_46 ?_
        refine lv_iload hx hb dX7_judge_49 (lv_at hl 4 rfl) ?_
        refine ww_ild (j := i39) hx hb hK.1 hP 3 0 rfl rfl (by omega) (by omega) dX7_judge_51 ?_
        refine lv_istore (lv' := [(6, .int (zw i39)), (0, .ref mO), (1, .int (nI bb)), (3, .int (nI mr)), (4, .int v4_39), (5, .int (nI i39))]) hx hb dX7_judge_52 hl (by decide) rfl (fun ls hl => ?_)
        refine lv_iload hx hb dX7_judge_54 (lv_at hl 0 rfl) ?_
        refine lv_bipush (v := 12) hx hb dX7_judge_56 (by decide) ?_
        refine cl_S (ws' := [(mO, .inr (7, [.ref mA, .ref mS, .ref mI, .ref mV, .int me, .ref mT, .ref mR, .int (nI mz), .int (nI ma), .ref mW, .int 0, .ref mN])), (mA, .inl (G.2.1, 7, .inl zf)), (mS, .inl (G.2.1, 259, .inl zs)), (mW, .inl (G.2.1, 24, .inl zw))]) (v := (some (.int (f_X7_isIn (zw i39) 12)))) (st1 := [.int (f_X7_isIn (zw i39) 12)]) (rest := []) (As := [.int (zw i39), .int 12]) [] hx hb hml hown hK (k_X7_isIn l G (zw i39) 12 ) (mf_X7_isIn hK.2) (kw_731 hK.2) (kw_730 hK.2) ⟨rfl, rfl, Nat.le_of_ble_eq_true rfl, Nat.le_of_ble_eq_true rfl⟩ rfl hP hD hS hA hl (Nat.le_of_ble_eq_true rfl) rfl ⟨Nat.le_of_ble_eq_true rfl, Nat.le_of_ble_eq_true rfl⟩ rfl dX7_judge_58 rfl rfl rfl rfl rfl rfl (fun H locs hP hD hS => ?_)
        refine lv_if_eq (tgt := 90) hx hb dX7_judge_61 (by decide) (fun c2 => ?_) (fun c2 => ?_)
        · have hf := (if_pos c2).symm.trans hf
          refine lv_iload hx hb dX7_judge_90 (lv_at hl 5 rfl) ?_
          exact hret (nI i39, zf, 0) dX7_judge_92 rfl hf rfl hP hS
        · have hf := (if_neg c2).symm.trans hf
          refine lv_iload hx hb dX7_judge_64 (lv_at hl 4 rfl) ?_
          refine lv_iload hx hb dX7_judge_66 (lv_at hl 0 rfl) ?_
          refine lv_ishr hx hb dX7_judge_68 ?_
          refine lv_iconst (v := 1) hx hb dX7_judge_69 (by decide) ?_
          refine lv_iand hx hb dX7_judge_70 ?_
          refine lv_iconst (v := 1) hx hb dX7_judge_71 (by decide) ?_
          refine lv_icmp_eq (tgt := 90) hx hb dX7_judge_72 (by decide) (fun c3 => ?_) (fun c3 => ?_)
          · have hf := (if_pos c3).symm.trans hf
            refine lv_iload hx hb dX7_judge_90 (lv_at hl 5 rfl) ?_
            exact hret (nI i39, zf, 0) dX7_judge_92 rfl hf rfl hP hS
          · have hf := (if_neg c3).symm.trans hf
            refine lv_aload_n hx hb dX7_judge_75 rfl (lv_at hl 1 rfl) ?_
            refine lv_iload_n hx hb dX7_judge_76 rfl (lv_at hl 2 rfl) ?_
            refine lv_iload hx hb dX7_judge_77 (lv_at hl 4 rfl) ?_
            refine cl_V (q := (RX7, TX7, 12)) (ws' := [(mO, .inr (7, [.ref mA, .ref mS, .ref mI, .ref mV, .int me, .ref mT, .ref mR, .int (nI mz), .int (nI ma), .ref mW, .int 0, .ref mN])), (mA, .inl (G.2.1, 7, .inl zf)), (mS, .inl (G.2.1, 259, .inl zs)), (mW, .inl (G.2.1, 24, .inl zw))]) (v := (some (.int (f_X7_next zs bb bn v4_39)))) (st1 := [.int (f_X7_next zs bb bn v4_39)]) (rest := []) (As := [.int (nI bb), .int v4_39]) [0, 2] 0 7 hx hb hml hown hK (k_X7_next l G mO mA mS mI mV mT mR mW mN me mz ma 0 zs bb bn v4_39 hbb hbn hb2 hnd) (mf_X7_next hK.2) (kw_785 hK.2) (kw_19 hK.2) (kw_783 hK.2) ⟨rfl, rfl, Nat.le_of_ble_eq_true rfl, Nat.le_of_ble_eq_true rfl⟩ rfl hP hD hS hA rfl rfl hl (Nat.le_of_ble_eq_true rfl) rfl ⟨Nat.le_of_ble_eq_true rfl, Nat.le_of_ble_eq_true rfl⟩ rfl dX7_judge_79 rfl rfl (rpl_fast (by decide) rfl rfl) rfl rfl rfl (fun H locs hP hD hS => ?_)
            refine lv_iload hx hb dX7_judge_82 (lv_at hl 0 rfl) ?_
            refine lv_ishr hx hb dX7_judge_84 ?_
            refine lv_iconst (v := 1) hx hb dX7_judge_85 (by decide) ?_
            refine lv_iand hx hb dX7_judge_86 ?_
            refine lv_if_ne (tgt := 93) hx hb dX7_judge_87 (by decide) (fun c4 => ?_) (fun c4 => ?_)
            · have hf := (if_neg c4).symm.trans hf
              refine lv_iload hx hb dX7_judge_93 (lv_at hl 4 rfl) ?_
              refine lv_iconst (v := 1) hx hb dX7_judge_95 (by decide) ?_
              refine lv_iload hx hb dX7_judge_96 (lv_at hl 0 rfl) ?_
              refine lv_ishl hx hb dX7_judge_98 ?_
              refine lv_ior hx hb dX7_judge_99 ?_
              refine lv_istore (lv' := [(4, .int (v4_39 ||| ((1 : Int32) <<< ((zw i39) &&& 31)))), (6, .int (zw i39)), (0, .ref mO), (1, .int (nI bb)), (3, .int (nI mr)), (5, .int (nI i39))]) hx hb dX7_judge_100 hl (by decide) rfl (fun ls hl => ?_)
              refine lv_iinc (v := nI (i39 + 1)) (lv' := [(5, .int (nI (i39 + 1))), (4, .int (v4_39 ||| ((1 : Int32) <<< ((zw i39) &&& 31)))), (6, .int (zw i39)), (0, .ref mO), (1, .int (nI bb)), (3, .int (nI mr))]) hx hb dX7_judge_102 hl (k := 5) rfl (nI_1 i39) (by decide) rfl (fun ls hl => ?_)
              refine lv_goto (tgt := 39) hx hb dX7_judge_105 (by decide) ?_
              exact ih39 (i39 + 1) (v4_39 ||| ((1 : Int32) <<< ((zw i39) &&& 31))) (by omega)  hf _ _ ls hP hD hS (lv_sub hl [3, 4, 5, 1, 0] rfl)
            · have hf := (if_pos c4).symm.trans hf
              refine lv_iload hx hb dX7_judge_90 (lv_at hl 5 rfl) ?_
              exact hret (nI i39, zf, 0) dX7_judge_92 rfl hf rfl hP hS
    exact L39 mr 0 kn (by omega)  hf _ _ ls hP hD hS (lv_sub hl [3, 4, 2, 1, 0] rfl)
  · have hf := (if_pos c1).symm.trans hf
    refine lv_aload_n hx hb dX7_judge_17 rfl (lv_at hl 0 rfl) ?_
    refine lv_iconst (v := -1) hx hb dX7_judge_18 (by decide) ?_
    refine cl_V (q := (RX7, TX7, 12)) (ws' := [(mO, .inr (7, [.ref mA, .ref mS, .ref mI, .ref mV, .int me, .ref mT, .ref mR, .int (nI mz), .int (nI ma), .ref mW, .int (nI mr), .ref mN])), (mA, .inl (G.2.1, 7, .inl ((f_X7_refuse zf (-1)).2))), (mS, .inl (G.2.1, 259, .inl zs)), (mW, .inl (G.2.1, 24, .inl zw))]) (v := (some (.int ((f_X7_refuse zf (-1)).1)))) (st1 := [.int ((f_X7_refuse zf (-1)).1)]) (rest := []) (As := [.int (-1)]) [0, 1] 0 7 hx hb hml hown hK (k_X7_refuse l G mO mA mS mI mV mT mR mW mN me mz ma mr zf (-1) vp7_1) (mf_X7_refuse hK.2) (kw_720 hK.2) (kw_11 hK.2) (kw_718 hK.2) ⟨rfl, rfl, Nat.le_of_ble_eq_true rfl, Nat.le_of_ble_eq_true rfl⟩ rfl hP hD hS hA rfl rfl hl (Nat.le_of_ble_eq_true rfl) rfl ⟨Nat.le_of_ble_eq_true rfl, Nat.le_of_ble_eq_true rfl⟩ rfl dX7_judge_19 rfl rfl (rpl_fast (by decide) rfl rfl) rfl rfl rfl (fun H locs hP hD hS => ?_)
    exact hret ((f_X7_refuse zf (-1)).1, (f_X7_refuse zf (-1)).2, mr) dX7_judge_22 rfl hf rfl hP hS
def f_X7_judge_A (zf : Nat → Int32) : Int32 × (Nat → Int32) := ((f_X7_refuse zf (-1)).1, (f_X7_refuse zf (-1)).2)
set_option maxHeartbeats 4000000 in
set_option maxRecDepth 100000 in
theorem k_X7_judge_A (l : Launch) (G : wG) (mO : Nat) (mA : Nat) (mS : Nat) (mI : Nat) (mV : Nat) (mT : Nat) (mR : Nat) (mW : Nat) (mN : Nat) (me : Int32) (mz : Nat) (ma : Nat) (mr : Nat) (zf : Nat → Int32) (bo : Int32) (kn : Int32) (hbad : f_X7_isBook bo = 0) : CT l G yX7_judge cX7_judge 7 (some .int) ({ frames := 2, cells := 0, slots := 0, locals := 41 }) [.ref mO, .int bo, .int kn] [(mO, .inr (7, [.ref mA, .ref mS, .ref mI, .ref mV, .int me, .ref mT, .ref mR, .int (nI mz), .int (nI ma), .ref mW, .int (nI mr), .ref mN])), (mA, .inl (G.2.1, 7, .inl zf))] (fun u => [(mO, .inr (7, [.ref mA, .ref mS, .ref mI, .ref mV, .int me, .ref mT, .ref mR, .int (nI mz), .int (nI ma), .ref mW, .int (nI mr), .ref mN])), (mA, .inl (G.2.1, 7, .inl u.2))]) (fun u => some (.int u.1)) (f_X7_judge_A zf) := by
  obtain ⟨R, hf⟩ : ∃ R, f_X7_judge_A zf = R := ⟨_, rfl⟩
  rw [hf]
  refine CT.mkI RX7 (by decide +kernel) rfl (Nat.le_of_ble_eq_true rfl) ?_
  intro p e s m args below meth c A Q ls hx hb hml hown hK hP hD hS hA hret hl
  have hl : lv_has ls 7 [(0, .ref mO), (1, .int bo), (2, .int kn)] := hl
  rw [f_X7_judge_A] at hf
  refine lv_iload_n hx hb dX7_judge_0 rfl (lv_at hl 1 rfl) ?_
  refine cl_S (ws' := [(mO, .inr (7, [.ref mA, .ref mS, .ref mI, .ref mV, .int me, .ref mT, .ref mR, .int (nI mz), .int (nI ma), .ref mW, .int (nI mr), .ref mN])), (mA, .inl (G.2.1, 7, .inl zf))]) (v := (some (.int (f_X7_isBook bo)))) (st1 := [.int (f_X7_isBook bo)]) (rest := []) (As := [.int bo]) [] hx hb hml hown hK (k_X7_isBook l G bo ) (mf_X7_isBook hK.2) (kw_728 hK.2) (kw_727 hK.2) ⟨rfl, rfl, Nat.le_of_ble_eq_true rfl, Nat.le_of_ble_eq_true rfl⟩ rfl hP hD hS hA hl (Nat.le_of_ble_eq_true rfl) rfl ⟨Nat.le_of_ble_eq_true rfl, Nat.le_of_ble_eq_true rfl⟩ rfl dX7_judge_1 rfl rfl rfl rfl rfl rfl (fun H locs hP hD hS => ?_)
  refine lv_if_eq (tgt := 17) hx hb dX7_judge_4 (by decide) (fun _ => ?_) (fun c => absurd hbad c)
  refine lv_aload_n hx hb dX7_judge_17 rfl (lv_at hl 0 rfl) ?_
  refine lv_iconst (v := -1) hx hb dX7_judge_18 (by decide) ?_
  refine cl_V (q := (RX7, TX7, 12)) (ws' := [(mO, .inr (7, [.ref mA, .ref mS, .ref mI, .ref mV, .int me, .ref mT, .ref mR, .int (nI mz), .int (nI ma), .ref mW, .int (nI mr), .ref mN])), (mA, .inl (G.2.1, 7, .inl ((f_X7_refuse zf (-1)).2)))]) (v := (some (.int ((f_X7_refuse zf (-1)).1)))) (st1 := [.int ((f_X7_refuse zf (-1)).1)]) (rest := []) (As := [.int (-1)]) [0, 1] 0 7 hx hb hml hown hK (k_X7_refuse l G mO mA mS mI mV mT mR mW mN me mz ma mr zf (-1) vp7_1) (mf_X7_refuse hK.2) (kw_720 hK.2) (kw_11 hK.2) (kw_718 hK.2) ⟨rfl, rfl, Nat.le_of_ble_eq_true rfl, Nat.le_of_ble_eq_true rfl⟩ rfl hP hD hS hA rfl rfl hl (Nat.le_of_ble_eq_true rfl) rfl ⟨Nat.le_of_ble_eq_true rfl, Nat.le_of_ble_eq_true rfl⟩ rfl dX7_judge_19 rfl rfl (rpl_fast (by decide) rfl rfl) rfl rfl rfl (fun H locs hP hD hS => ?_)
  exact hret ((f_X7_refuse zf (-1)).1, (f_X7_refuse zf (-1)).2) dX7_judge_22 rfl hf rfl hP hS
def f_X7_word (zf : Nat → Int32) (zs : Nat → Int32) (bb : Nat) (wo : Int32) (wh : Int32) (vv : Int32) : Int32 × (Nat → Int32) × (Nat → Int32) := (if (f_X7_isIn wo 12) = 0 then ((f_X7_refuse zf (-1)).1, (f_X7_refuse zf (-1)).2, zs) else (if (f_X7_isIn wh 2) = 0 then ((f_X7_refuse zf (-2)).1, (f_X7_refuse zf (-2)).2, zs) else (if (f_X7_within vv 0 99) = 0 then (if wh = 0 then (zs ((nI (162 + (12 * bb))) + wo).toNatClampNeg, zf, upd zs ((nI (162 + (12 * bb))) + wo).toNatClampNeg vv) else (zs ((nI (186 + (12 * bb))) + wo).toNatClampNeg, zf, upd zs ((nI (186 + (12 * bb))) + wo).toNatClampNeg vv)) else ((f_X7_refuse zf (f_X7_within vv 0 99)).1, (f_X7_refuse zf (f_X7_within vv 0 99)).2, zs))))
set_option maxHeartbeats 4000000 in
set_option maxRecDepth 100000 in
theorem k_X7_word (l : Launch) (G : wG) (mO : Nat) (mA : Nat) (mS : Nat) (mI : Nat) (mV : Nat) (mT : Nat) (mR : Nat) (mW : Nat) (mN : Nat) (me : Int32) (mz : Nat) (ma : Nat) (mr : Nat) (zf : Nat → Int32) (zs : Nat → Int32) (bb : Nat) (bn : Nat) (wo : Int32) (wh : Int32) (vv : Int32) (hbb : bb < 2) (hbn : zs (160 + bb) = nI bn) (hb2 : bn ≤ 20) (hnd : ∀ t : Nat, t < bn → Rg (zs (80 * bb + 4 * t + 2))) (hwd : ∀ t : Nat, t < bn → ∃ w : Nat, w < 12 ∧ zs (80 * bb + 4 * t) = nI w) : CT l G yX7_word cX7_word 8 (some .int) ({ frames := 2, cells := 0, slots := 0, locals := 41 }) [.ref mO, .int (nI bb), .int wo, .int wh, .int vv] [(mO, .inr (7, [.ref mA, .ref mS, .ref mI, .ref mV, .int me, .ref mT, .ref mR, .int (nI mz), .int (nI ma), .ref mW, .int (nI mr), .ref mN])), (mA, .inl (G.2.1, 7, .inl zf)), (mS, .inl (G.2.1, 259, .inl zs))] (fun u => [(mO, .inr (7, [.ref mA, .ref mS, .ref mI, .ref mV, .int me, .ref mT, .ref mR, .int (nI mz), .int (nI ma), .ref mW, .int (nI mr), .ref mN])), (mA, .inl (G.2.1, 7, .inl u.2.1)), (mS, .inl (G.2.1, 259, .inl u.2.2))]) (fun u => some (.int u.1)) (f_X7_word zf zs bb wo wh vv) := by
  obtain ⟨R, hf⟩ : ∃ R, f_X7_word zf zs bb wo wh vv = R := ⟨_, rfl⟩
  rw [hf]
  refine CT.mkI RX7 (by decide +kernel) rfl (Nat.le_of_ble_eq_true rfl) ?_
  intro p e s m args below meth c A Q ls hx hb hml hown hK hP hD hS hA hret hl
  have hl : lv_has ls 8 [(0, .ref mO), (1, .int (nI bb)), (2, .int wo), (3, .int wh), (4, .int vv)] := hl
  rw [f_X7_word] at hf
  refine lv_iload_n hx hb dX7_word_0 rfl (lv_at hl 1 rfl) ?_
  refine cl_S (ws' := [(mO, .inr (7, [.ref mA, .ref mS, .ref mI, .ref mV, .int me, .ref mT, .ref mR, .int (nI mz), .int (nI ma), .ref mW, .int (nI mr), .ref mN])), (mA, .inl (G.2.1, 7, .inl zf)), (mS, .inl (G.2.1, 259, .inl zs))]) (v := (some (.int (f_X7_isBook (nI bb))))) (st1 := [.int (f_X7_isBook (nI bb))]) (rest := []) (As := [.int (nI bb)]) [] hx hb hml hown hK (k_X7_isBook l G (nI bb) ) (mf_X7_isBook hK.2) (kw_728 hK.2) (kw_727 hK.2) ⟨rfl, rfl, Nat.le_of_ble_eq_true rfl, Nat.le_of_ble_eq_true rfl⟩ rfl hP hD hS hA hl (Nat.le_of_ble_eq_true rfl) rfl ⟨Nat.le_of_ble_eq_true rfl, Nat.le_of_ble_eq_true rfl⟩ rfl dX7_word_1 rfl rfl rfl rfl rfl rfl (fun H locs hP hD hS => ?_)
  refine lv_if_eq (tgt := 16) hx hb dX7_word_4 (by decide) (fun c => absurd c (isBook7 hbb)) (fun _ => ?_)
  refine lv_iload_n hx hb dX7_word_7 rfl (lv_at hl 2 rfl) ?_
  refine lv_bipush (v := 12) hx hb dX7_word_8 (by decide) ?_
  refine cl_S (ws' := [(mO, .inr (7, [.ref mA, .ref mS, .ref mI, .ref mV, .int me, .ref mT, .ref mR, .int (nI mz), .int (nI ma), .ref mW, .int (nI mr), .ref mN])), (mA, .inl (G.2.1, 7, .inl zf)), (mS, .inl (G.2.1, 259, .inl zs))]) (v := (some (.int (f_X7_isIn wo 12)))) (st1 := [.int (f_X7_isIn wo 12)]) (rest := []) (As := [.int wo, .int 12]) [] hx hb hml hown hK (k_X7_isIn l G wo 12 ) (mf_X7_isIn hK.2) (kw_731 hK.2) (kw_730 hK.2) ⟨rfl, rfl, Nat.le_of_ble_eq_true rfl, Nat.le_of_ble_eq_true rfl⟩ rfl hP hD hS hA hl (Nat.le_of_ble_eq_true rfl) rfl ⟨Nat.le_of_ble_eq_true rfl, Nat.le_of_ble_eq_true rfl⟩ rfl dX7_word_10 rfl rfl rfl rfl rfl rfl (fun H locs hP hD hS => ?_)
  refine lv_if_ne (tgt := 22) hx hb dX7_word_13 (by decide) (fun c1 => ?_) (fun c1 => ?_)
  · have hf := (if_neg c1).symm.trans hf
    refine lv_iload_n hx hb dX7_word_22 rfl (lv_at hl 3 rfl) ?_
    refine lv_iconst (v := 2) hx hb dX7_word_23 (by decide) ?_
    refine cl_S (ws' := [(mO, .inr (7, [.ref mA, .ref mS, .ref mI, .ref mV, .int me, .ref mT, .ref mR, .int (nI mz), .int (nI ma), .ref mW, .int (nI mr), .ref mN])), (mA, .inl (G.2.1, 7, .inl zf)), (mS, .inl (G.2.1, 259, .inl zs))]) (v := (some (.int (f_X7_isIn wh 2)))) (st1 := [.int (f_X7_isIn wh 2)]) (rest := []) (As := [.int wh, .int 2]) [] hx hb hml hown hK (k_X7_isIn l G wh 2 ) (mf_X7_isIn hK.2) (kw_731 hK.2) (kw_730 hK.2) ⟨rfl, rfl, Nat.le_of_ble_eq_true rfl, Nat.le_of_ble_eq_true rfl⟩ rfl hP hD hS hA hl (Nat.le_of_ble_eq_true rfl) rfl ⟨Nat.le_of_ble_eq_true rfl, Nat.le_of_ble_eq_true rfl⟩ rfl dX7_word_24 rfl rfl rfl rfl rfl rfl (fun H locs hP hD hS => ?_)
    refine lv_if_ne (tgt := 37) hx hb dX7_word_27 (by decide) (fun c2 => ?_) (fun c2 => ?_)
    · have hf := (if_neg c2).symm.trans hf
      refine lv_iload hx hb dX7_word_37 (lv_at hl 4 rfl) ?_
      refine lv_iconst (v := 0) hx hb dX7_word_39 (by decide) ?_
      refine lv_bipush (v := 99) hx hb dX7_word_40 (by decide) ?_
      refine cl_S (ws' := [(mO, .inr (7, [.ref mA, .ref mS, .ref mI, .ref mV, .int me, .ref mT, .ref mR, .int (nI mz), .int (nI ma), .ref mW, .int (nI mr), .ref mN])), (mA, .inl (G.2.1, 7, .inl zf)), (mS, .inl (G.2.1, 259, .inl zs))]) (v := (some (.int (f_X7_within vv 0 99)))) (st1 := [.int (f_X7_within vv 0 99)]) (rest := []) (As := [.int vv, .int 0, .int 99]) [] hx hb hml hown hK (k_X7_within l G vv 0 99 ) (mf_X7_within hK.2) (kw_773 hK.2) (kw_772 hK.2) ⟨rfl, rfl, Nat.le_of_ble_eq_true rfl, Nat.le_of_ble_eq_true rfl⟩ rfl hP hD hS hA hl (Nat.le_of_ble_eq_true rfl) rfl ⟨Nat.le_of_ble_eq_true rfl, Nat.le_of_ble_eq_true rfl⟩ rfl dX7_word_42 rfl rfl rfl rfl rfl rfl (fun H locs hP hD hS => ?_)
      refine lv_istore (lv' := [(5, .int (f_X7_within vv 0 99)), (0, .ref mO), (1, .int (nI bb)), (2, .int wo), (3, .int wh), (4, .int vv)]) hx hb dX7_word_45 hl (by decide) rfl (fun ls hl => ?_)
      refine lv_iload hx hb dX7_word_47 (lv_at hl 0 rfl) ?_
      refine lv_if_eq (tgt := 59) hx hb dX7_word_49 (by decide) (fun c3 => ?_) (fun c3 => ?_)
      · have hf := (if_pos c3).symm.trans hf
        have qw : vp_in wo 12 := isIn_12 (by assumption)
        refine lv_iload_n hx hb dX7_word_59 rfl (lv_at hl 4 rfl) ?_
        refine lv_if_ne (tgt := 69) hx hb dX7_word_60 (by decide) (fun c4 => ?_) (fun c4 => ?_)
        · have hf := (if_neg c4).symm.trans hf
          refine lv_sipush (v := 186) hx hb dX7_word_69 (by decide) ?_
          refine lv_bipush (v := 12) hx hb dX7_word_72 (by decide) ?_
          refine lv_iload_n hx hb dX7_word_74 rfl (lv_at hl 2 rfl) ?_
          refine lv_imul hx hb dX7_word_75 ?_
          refine ww_e (nI_mulE (a := 12) (b := bb) rfl rfl) ?_
          refine lv_iadd hx hb dX7_word_76 ?_
          refine ww_e (nI_addE (a := 186) (b := 12 * bb) rfl rfl) ?_
          refine lv_iload_n hx hb dX7_word_77 rfl (lv_at hl 3 rfl) ?_
          refine lv_iadd hx hb dX7_word_78 ?_
          refine lv_istore (lv' := [(6, .int ((nI (186 + (12 * bb))) + wo)), (5, .int (f_X7_within vv 0 99)), (0, .ref mO), (1, .int (nI bb)), (2, .int wo), (3, .int wh), (4, .int vv)]) hx hb dX7_word_79 hl (by decide) rfl (fun ls hl => ?_)
          refine lv_aload_n hx hb dX7_word_81 rfl (lv_at hl 2 rfl) ?_
          refine va_get (D := G.1) (ci := 7) (v := .ref mS) (C := RX7) (T := TX7) (N := 12) hx hb (ku_X7 hK.2) (fun _ h9 => h9) hown hK.1 hP 0 rfl rfl 1 (by decide) (kw_678 hK.2) (fun _ h9 => h9) rfl dX7_word_82 ?_
          refine lv_iload hx hb dX7_word_85 (lv_at hl 0 rfl) ?_
          refine va_iald hx hb hK.1 hP 2 0 rfl rfl (ix_add qw (by omega) (by decide)) dX7_word_87 ?_
          refine lv_istore (lv' := [(7, .int (zs ((nI (186 + (12 * bb))) + wo).toNatClampNeg)), (6, .int ((nI (186 + (12 * bb))) + wo)), (5, .int (f_X7_within vv 0 99)), (0, .ref mO), (1, .int (nI bb)), (2, .int wo), (3, .int wh), (4, .int vv)]) hx hb dX7_word_88 hl (by decide) rfl (fun ls hl => ?_)
          refine lv_aload_n hx hb dX7_word_90 rfl (lv_at hl 3 rfl) ?_
          refine va_get (D := G.1) (ci := 7) (v := .ref mS) (C := RX7) (T := TX7) (N := 12) hx hb (ku_X7 hK.2) (fun _ h9 => h9) hown hK.1 hP 0 rfl rfl 1 (by decide) (kw_678 hK.2) (fun _ h9 => h9) rfl dX7_word_91 ?_
          refine lv_iload hx hb dX7_word_94 (lv_at hl 1 rfl) ?_
          refine lv_iload hx hb dX7_word_96 (lv_at hl 7 rfl) ?_
          refine va_iast hx hb hK.1 hP hD hS 2 0 rfl rfl (ix_add qw (by omega) (by decide)) dX7_word_98 (fun H locs hP hD hS => ?_)
          have hP : va_P G.1 wcl [(mO, .inr (7, [.ref mA, .ref mS, .ref mI, .ref mV, .int me, .ref mT, .ref mR, .int (nI mz), .int (nI ma), .ref mW, .int (nI mr), .ref mN])), (mA, .inl (G.2.1, 7, .inl zf)), (mS, .inl (G.2.1, 259, .inl (upd zs ((nI (186 + (12 * bb))) + wo).toNatClampNeg vv)))] H := hP
          have hD : va_D A [(mO, .inr (7, [.ref mA, .ref mS, .ref mI, .ref mV, .int me, .ref mT, .ref mR, .int (nI mz), .int (nI ma), .ref mW, .int (nI mr), .ref mN])), (mA, .inl (G.2.1, 7, .inl zf)), (mS, .inl (G.2.1, 259, .inl (upd zs ((nI (186 + (12 * bb))) + wo).toNatClampNeg vv)))] := hD
          refine lv_iload hx hb dX7_word_99 (lv_at hl 0 rfl) ?_
          exact hret (zs ((nI (186 + (12 * bb))) + wo).toNatClampNeg, zf, upd zs ((nI (186 + (12 * bb))) + wo).toNatClampNeg vv) dX7_word_101 rfl hf rfl hP hS
        · have hf := (if_pos c4).symm.trans hf
          refine lv_sipush (v := 162) hx hb dX7_word_63 (by decide) ?_
          refine lv_goto (tgt := 72) hx hb dX7_word_66 (by decide) ?_
          refine lv_bipush (v := 12) hx hb dX7_word_72 (by decide) ?_
          refine lv_iload_n hx hb dX7_word_74 rfl (lv_at hl 2 rfl) ?_
          refine lv_imul hx hb dX7_word_75 ?_
          refine ww_e (nI_mulE (a := 12) (b := bb) rfl rfl) ?_
          refine lv_iadd hx hb dX7_word_76 ?_
          refine ww_e (nI_addE (a := 162) (b := 12 * bb) rfl rfl) ?_
          refine lv_iload_n hx hb dX7_word_77 rfl (lv_at hl 3 rfl) ?_
          refine lv_iadd hx hb dX7_word_78 ?_
          refine lv_istore (lv' := [(6, .int ((nI (162 + (12 * bb))) + wo)), (5, .int (f_X7_within vv 0 99)), (0, .ref mO), (1, .int (nI bb)), (2, .int wo), (3, .int wh), (4, .int vv)]) hx hb dX7_word_79 hl (by decide) rfl (fun ls hl => ?_)
          refine lv_aload_n hx hb dX7_word_81 rfl (lv_at hl 2 rfl) ?_
          refine va_get (D := G.1) (ci := 7) (v := .ref mS) (C := RX7) (T := TX7) (N := 12) hx hb (ku_X7 hK.2) (fun _ h9 => h9) hown hK.1 hP 0 rfl rfl 1 (by decide) (kw_678 hK.2) (fun _ h9 => h9) rfl dX7_word_82 ?_
          refine lv_iload hx hb dX7_word_85 (lv_at hl 0 rfl) ?_
          refine va_iald hx hb hK.1 hP 2 0 rfl rfl (ix_add qw (by omega) (by decide)) dX7_word_87 ?_
          refine lv_istore (lv' := [(7, .int (zs ((nI (162 + (12 * bb))) + wo).toNatClampNeg)), (6, .int ((nI (162 + (12 * bb))) + wo)), (5, .int (f_X7_within vv 0 99)), (0, .ref mO), (1, .int (nI bb)), (2, .int wo), (3, .int wh), (4, .int vv)]) hx hb dX7_word_88 hl (by decide) rfl (fun ls hl => ?_)
          refine lv_aload_n hx hb dX7_word_90 rfl (lv_at hl 3 rfl) ?_
          refine va_get (D := G.1) (ci := 7) (v := .ref mS) (C := RX7) (T := TX7) (N := 12) hx hb (ku_X7 hK.2) (fun _ h9 => h9) hown hK.1 hP 0 rfl rfl 1 (by decide) (kw_678 hK.2) (fun _ h9 => h9) rfl dX7_word_91 ?_
          refine lv_iload hx hb dX7_word_94 (lv_at hl 1 rfl) ?_
          refine lv_iload hx hb dX7_word_96 (lv_at hl 7 rfl) ?_
          refine va_iast hx hb hK.1 hP hD hS 2 0 rfl rfl (ix_add qw (by omega) (by decide)) dX7_word_98 (fun H locs hP hD hS => ?_)
          have hP : va_P G.1 wcl [(mO, .inr (7, [.ref mA, .ref mS, .ref mI, .ref mV, .int me, .ref mT, .ref mR, .int (nI mz), .int (nI ma), .ref mW, .int (nI mr), .ref mN])), (mA, .inl (G.2.1, 7, .inl zf)), (mS, .inl (G.2.1, 259, .inl (upd zs ((nI (162 + (12 * bb))) + wo).toNatClampNeg vv)))] H := hP
          have hD : va_D A [(mO, .inr (7, [.ref mA, .ref mS, .ref mI, .ref mV, .int me, .ref mT, .ref mR, .int (nI mz), .int (nI ma), .ref mW, .int (nI mr), .ref mN])), (mA, .inl (G.2.1, 7, .inl zf)), (mS, .inl (G.2.1, 259, .inl (upd zs ((nI (162 + (12 * bb))) + wo).toNatClampNeg vv)))] := hD
          refine lv_iload hx hb dX7_word_99 (lv_at hl 0 rfl) ?_
          exact hret (zs ((nI (162 + (12 * bb))) + wo).toNatClampNeg, zf, upd zs ((nI (162 + (12 * bb))) + wo).toNatClampNeg vv) dX7_word_101 rfl hf rfl hP hS
      · have hf := (if_neg c3).symm.trans hf
        refine lv_aload_n hx hb dX7_word_52 rfl (lv_at hl 1 rfl) ?_
        refine lv_iload hx hb dX7_word_53 (lv_at hl 0 rfl) ?_
        refine cl_V (q := (RX7, TX7, 12)) (ws' := [(mO, .inr (7, [.ref mA, .ref mS, .ref mI, .ref mV, .int me, .ref mT, .ref mR, .int (nI mz), .int (nI ma), .ref mW, .int (nI mr), .ref mN])), (mA, .inl (G.2.1, 7, .inl ((f_X7_refuse zf (f_X7_within vv 0 99)).2))), (mS, .inl (G.2.1, 259, .inl zs))]) (v := (some (.int ((f_X7_refuse zf (f_X7_within vv 0 99)).1)))) (st1 := [.int ((f_X7_refuse zf (f_X7_within vv 0 99)).1)]) (rest := []) (As := [.int (f_X7_within vv 0 99)]) [0, 1] 0 7 hx hb hml hown hK (k_X7_refuse l G mO mA mS mI mV mT mR mW mN me mz ma mr zf (f_X7_within vv 0 99) (vp7_w _ _ _)) (mf_X7_refuse hK.2) (kw_720 hK.2) (kw_11 hK.2) (kw_718 hK.2) ⟨rfl, rfl, Nat.le_of_ble_eq_true rfl, Nat.le_of_ble_eq_true rfl⟩ rfl hP hD hS hA rfl rfl hl (Nat.le_of_ble_eq_true rfl) rfl ⟨Nat.le_of_ble_eq_true rfl, Nat.le_of_ble_eq_true rfl⟩ rfl dX7_word_55 rfl rfl (rpl_fast (by decide) rfl rfl) rfl rfl rfl (fun H locs hP hD hS => ?_)
        exact hret ((f_X7_refuse zf (f_X7_within vv 0 99)).1, (f_X7_refuse zf (f_X7_within vv 0 99)).2, zs) dX7_word_58 rfl hf rfl hP hS
    · have hf := (if_pos c2).symm.trans hf
      refine lv_aload_n hx hb dX7_word_30 rfl (lv_at hl 0 rfl) ?_
      refine lv_bipush (v := -2) hx hb dX7_word_31 (by decide) ?_
      refine cl_V (q := (RX7, TX7, 12)) (ws' := [(mO, .inr (7, [.ref mA, .ref mS, .ref mI, .ref mV, .int me, .ref mT, .ref mR, .int (nI mz), .int (nI ma), .ref mW, .int (nI mr), .ref mN])), (mA, .inl (G.2.1, 7, .inl ((f_X7_refuse zf (-2)).2))), (mS, .inl (G.2.1, 259, .inl zs))]) (v := (some (.int ((f_X7_refuse zf (-2)).1)))) (st1 := [.int ((f_X7_refuse zf (-2)).1)]) (rest := []) (As := [.int (-2)]) [0, 1] 0 7 hx hb hml hown hK (k_X7_refuse l G mO mA mS mI mV mT mR mW mN me mz ma mr zf (-2) vp7_2) (mf_X7_refuse hK.2) (kw_720 hK.2) (kw_11 hK.2) (kw_718 hK.2) ⟨rfl, rfl, Nat.le_of_ble_eq_true rfl, Nat.le_of_ble_eq_true rfl⟩ rfl hP hD hS hA rfl rfl hl (Nat.le_of_ble_eq_true rfl) rfl ⟨Nat.le_of_ble_eq_true rfl, Nat.le_of_ble_eq_true rfl⟩ rfl dX7_word_33 rfl rfl (rpl_fast (by decide) rfl rfl) rfl rfl rfl (fun H locs hP hD hS => ?_)
      exact hret ((f_X7_refuse zf (-2)).1, (f_X7_refuse zf (-2)).2, zs) dX7_word_36 rfl hf rfl hP hS
  · have hf := (if_pos c1).symm.trans hf
    refine lv_aload_n hx hb dX7_word_16 rfl (lv_at hl 0 rfl) ?_
    refine lv_iconst (v := -1) hx hb dX7_word_17 (by decide) ?_
    refine cl_V (q := (RX7, TX7, 12)) (ws' := [(mO, .inr (7, [.ref mA, .ref mS, .ref mI, .ref mV, .int me, .ref mT, .ref mR, .int (nI mz), .int (nI ma), .ref mW, .int (nI mr), .ref mN])), (mA, .inl (G.2.1, 7, .inl ((f_X7_refuse zf (-1)).2))), (mS, .inl (G.2.1, 259, .inl zs))]) (v := (some (.int ((f_X7_refuse zf (-1)).1)))) (st1 := [.int ((f_X7_refuse zf (-1)).1)]) (rest := []) (As := [.int (-1)]) [0, 1] 0 7 hx hb hml hown hK (k_X7_refuse l G mO mA mS mI mV mT mR mW mN me mz ma mr zf (-1) vp7_1) (mf_X7_refuse hK.2) (kw_720 hK.2) (kw_11 hK.2) (kw_718 hK.2) ⟨rfl, rfl, Nat.le_of_ble_eq_true rfl, Nat.le_of_ble_eq_true rfl⟩ rfl hP hD hS hA rfl rfl hl (Nat.le_of_ble_eq_true rfl) rfl ⟨Nat.le_of_ble_eq_true rfl, Nat.le_of_ble_eq_true rfl⟩ rfl dX7_word_18 rfl rfl (rpl_fast (by decide) rfl rfl) rfl rfl rfl (fun H locs hP hD hS => ?_)
    exact hret ((f_X7_refuse zf (-1)).1, (f_X7_refuse zf (-1)).2, zs) dX7_word_21 rfl hf rfl hP hS
def f_X7_word_A (zf : Nat → Int32) : Int32 × (Nat → Int32) := ((f_X7_refuse zf (-1)).1, (f_X7_refuse zf (-1)).2)
set_option maxHeartbeats 4000000 in
set_option maxRecDepth 100000 in
theorem k_X7_word_A (l : Launch) (G : wG) (mO : Nat) (mA : Nat) (mS : Nat) (mI : Nat) (mV : Nat) (mT : Nat) (mR : Nat) (mW : Nat) (mN : Nat) (me : Int32) (mz : Nat) (ma : Nat) (mr : Nat) (zf : Nat → Int32) (bo : Int32) (wo : Int32) (wh : Int32) (vv : Int32) (hbad : f_X7_isBook bo = 0) : CT l G yX7_word cX7_word 8 (some .int) ({ frames := 2, cells := 0, slots := 0, locals := 41 }) [.ref mO, .int bo, .int wo, .int wh, .int vv] [(mO, .inr (7, [.ref mA, .ref mS, .ref mI, .ref mV, .int me, .ref mT, .ref mR, .int (nI mz), .int (nI ma), .ref mW, .int (nI mr), .ref mN])), (mA, .inl (G.2.1, 7, .inl zf))] (fun u => [(mO, .inr (7, [.ref mA, .ref mS, .ref mI, .ref mV, .int me, .ref mT, .ref mR, .int (nI mz), .int (nI ma), .ref mW, .int (nI mr), .ref mN])), (mA, .inl (G.2.1, 7, .inl u.2))]) (fun u => some (.int u.1)) (f_X7_word_A zf) := by
  obtain ⟨R, hf⟩ : ∃ R, f_X7_word_A zf = R := ⟨_, rfl⟩
  rw [hf]
  refine CT.mkI RX7 (by decide +kernel) rfl (Nat.le_of_ble_eq_true rfl) ?_
  intro p e s m args below meth c A Q ls hx hb hml hown hK hP hD hS hA hret hl
  have hl : lv_has ls 8 [(0, .ref mO), (1, .int bo), (2, .int wo), (3, .int wh), (4, .int vv)] := hl
  rw [f_X7_word_A] at hf
  refine lv_iload_n hx hb dX7_word_0 rfl (lv_at hl 1 rfl) ?_
  refine cl_S (ws' := [(mO, .inr (7, [.ref mA, .ref mS, .ref mI, .ref mV, .int me, .ref mT, .ref mR, .int (nI mz), .int (nI ma), .ref mW, .int (nI mr), .ref mN])), (mA, .inl (G.2.1, 7, .inl zf))]) (v := (some (.int (f_X7_isBook bo)))) (st1 := [.int (f_X7_isBook bo)]) (rest := []) (As := [.int bo]) [] hx hb hml hown hK (k_X7_isBook l G bo ) (mf_X7_isBook hK.2) (kw_728 hK.2) (kw_727 hK.2) ⟨rfl, rfl, Nat.le_of_ble_eq_true rfl, Nat.le_of_ble_eq_true rfl⟩ rfl hP hD hS hA hl (Nat.le_of_ble_eq_true rfl) rfl ⟨Nat.le_of_ble_eq_true rfl, Nat.le_of_ble_eq_true rfl⟩ rfl dX7_word_1 rfl rfl rfl rfl rfl rfl (fun H locs hP hD hS => ?_)
  refine lv_if_eq (tgt := 16) hx hb dX7_word_4 (by decide) (fun _ => ?_) (fun c => absurd hbad c)
  refine lv_aload_n hx hb dX7_word_16 rfl (lv_at hl 0 rfl) ?_
  refine lv_iconst (v := -1) hx hb dX7_word_17 (by decide) ?_
  refine cl_V (q := (RX7, TX7, 12)) (ws' := [(mO, .inr (7, [.ref mA, .ref mS, .ref mI, .ref mV, .int me, .ref mT, .ref mR, .int (nI mz), .int (nI ma), .ref mW, .int (nI mr), .ref mN])), (mA, .inl (G.2.1, 7, .inl ((f_X7_refuse zf (-1)).2)))]) (v := (some (.int ((f_X7_refuse zf (-1)).1)))) (st1 := [.int ((f_X7_refuse zf (-1)).1)]) (rest := []) (As := [.int (-1)]) [0, 1] 0 7 hx hb hml hown hK (k_X7_refuse l G mO mA mS mI mV mT mR mW mN me mz ma mr zf (-1) vp7_1) (mf_X7_refuse hK.2) (kw_720 hK.2) (kw_11 hK.2) (kw_718 hK.2) ⟨rfl, rfl, Nat.le_of_ble_eq_true rfl, Nat.le_of_ble_eq_true rfl⟩ rfl hP hD hS hA rfl rfl hl (Nat.le_of_ble_eq_true rfl) rfl ⟨Nat.le_of_ble_eq_true rfl, Nat.le_of_ble_eq_true rfl⟩ rfl dX7_word_18 rfl rfl (rpl_fast (by decide) rfl rfl) rfl rfl rfl (fun H locs hP hD hS => ?_)
  exact hret ((f_X7_refuse zf (-1)).1, (f_X7_refuse zf (-1)).2) dX7_word_21 rfl hf rfl hP hS
def f_X7_all (zf : Nat → Int32) (zs : Nat → Int32) (bb : Nat) (wo : Int32) (iz : Int32) : Int32 × (Nat → Int32) × (Nat → Int32) := (if (f_X7_isIn wo 12) = 0 then ((f_X7_refuse zf (-1)).1, (f_X7_refuse zf (-1)).2, zs) else (if (zs ((nI (210 + (12 * bb))) + wo).toNatClampNeg) = 1 then (if iz = 0 then (if (1 : Int32) = iz then (0, zf, upd zs ((nI (210 + (12 * bb))) + wo).toNatClampNeg 0) else (1, zf, upd zs ((nI (210 + (12 * bb))) + wo).toNatClampNeg 0)) else (if (1 : Int32) = iz then (0, zf, upd zs ((nI (210 + (12 * bb))) + wo).toNatClampNeg 1) else (1, zf, upd zs ((nI (210 + (12 * bb))) + wo).toNatClampNeg 1))) else (if iz = 0 then (if (0 : Int32) = iz then (0, zf, upd zs ((nI (210 + (12 * bb))) + wo).toNatClampNeg 0) else (1, zf, upd zs ((nI (210 + (12 * bb))) + wo).toNatClampNeg 0)) else (if (0 : Int32) = iz then (0, zf, upd zs ((nI (210 + (12 * bb))) + wo).toNatClampNeg 1) else (1, zf, upd zs ((nI (210 + (12 * bb))) + wo).toNatClampNeg 1)))))
set_option maxHeartbeats 4000000 in
set_option maxRecDepth 100000 in
theorem k_X7_all (l : Launch) (G : wG) (mO : Nat) (mA : Nat) (mS : Nat) (mI : Nat) (mV : Nat) (mT : Nat) (mR : Nat) (mW : Nat) (mN : Nat) (me : Int32) (mz : Nat) (ma : Nat) (mr : Nat) (zf : Nat → Int32) (zs : Nat → Int32) (bb : Nat) (bn : Nat) (wo : Int32) (iz : Int32) (hbb : bb < 2) (hbn : zs (160 + bb) = nI bn) (hb2 : bn ≤ 20) (hnd : ∀ t : Nat, t < bn → Rg (zs (80 * bb + 4 * t + 2))) (hwd : ∀ t : Nat, t < bn → ∃ w : Nat, w < 12 ∧ zs (80 * bb + 4 * t) = nI w) : CT l G yX7_all cX7_all 6 (some .int) ({ frames := 2, cells := 0, slots := 0, locals := 41 }) [.ref mO, .int (nI bb), .int wo, .int iz] [(mO, .inr (7, [.ref mA, .ref mS, .ref mI, .ref mV, .int me, .ref mT, .ref mR, .int (nI mz), .int (nI ma), .ref mW, .int (nI mr), .ref mN])), (mA, .inl (G.2.1, 7, .inl zf)), (mS, .inl (G.2.1, 259, .inl zs))] (fun u => [(mO, .inr (7, [.ref mA, .ref mS, .ref mI, .ref mV, .int me, .ref mT, .ref mR, .int (nI mz), .int (nI ma), .ref mW, .int (nI mr), .ref mN])), (mA, .inl (G.2.1, 7, .inl u.2.1)), (mS, .inl (G.2.1, 259, .inl u.2.2))]) (fun u => some (.int u.1)) (f_X7_all zf zs bb wo iz) := by
  obtain ⟨R, hf⟩ : ∃ R, f_X7_all zf zs bb wo iz = R := ⟨_, rfl⟩
  rw [hf]
  refine CT.mkI RX7 (by decide +kernel) rfl (Nat.le_of_ble_eq_true rfl) ?_
  intro p e s m args below meth c A Q ls hx hb hml hown hK hP hD hS hA hret hl
  have hl : lv_has ls 6 [(0, .ref mO), (1, .int (nI bb)), (2, .int wo), (3, .int iz)] := hl
  rw [f_X7_all] at hf
  refine lv_iload_n hx hb dX7_all_0 rfl (lv_at hl 1 rfl) ?_
  refine cl_S (ws' := [(mO, .inr (7, [.ref mA, .ref mS, .ref mI, .ref mV, .int me, .ref mT, .ref mR, .int (nI mz), .int (nI ma), .ref mW, .int (nI mr), .ref mN])), (mA, .inl (G.2.1, 7, .inl zf)), (mS, .inl (G.2.1, 259, .inl zs))]) (v := (some (.int (f_X7_isBook (nI bb))))) (st1 := [.int (f_X7_isBook (nI bb))]) (rest := []) (As := [.int (nI bb)]) [] hx hb hml hown hK (k_X7_isBook l G (nI bb) ) (mf_X7_isBook hK.2) (kw_728 hK.2) (kw_727 hK.2) ⟨rfl, rfl, Nat.le_of_ble_eq_true rfl, Nat.le_of_ble_eq_true rfl⟩ rfl hP hD hS hA hl (Nat.le_of_ble_eq_true rfl) rfl ⟨Nat.le_of_ble_eq_true rfl, Nat.le_of_ble_eq_true rfl⟩ rfl dX7_all_1 rfl rfl rfl rfl rfl rfl (fun H locs hP hD hS => ?_)
  refine lv_if_eq (tgt := 16) hx hb dX7_all_4 (by decide) (fun c => absurd c (isBook7 hbb)) (fun _ => ?_)
  refine lv_iload_n hx hb dX7_all_7 rfl (lv_at hl 2 rfl) ?_
  refine lv_bipush (v := 12) hx hb dX7_all_8 (by decide) ?_
  refine cl_S (ws' := [(mO, .inr (7, [.ref mA, .ref mS, .ref mI, .ref mV, .int me, .ref mT, .ref mR, .int (nI mz), .int (nI ma), .ref mW, .int (nI mr), .ref mN])), (mA, .inl (G.2.1, 7, .inl zf)), (mS, .inl (G.2.1, 259, .inl zs))]) (v := (some (.int (f_X7_isIn wo 12)))) (st1 := [.int (f_X7_isIn wo 12)]) (rest := []) (As := [.int wo, .int 12]) [] hx hb hml hown hK (k_X7_isIn l G wo 12 ) (mf_X7_isIn hK.2) (kw_731 hK.2) (kw_730 hK.2) ⟨rfl, rfl, Nat.le_of_ble_eq_true rfl, Nat.le_of_ble_eq_true rfl⟩ rfl hP hD hS hA hl (Nat.le_of_ble_eq_true rfl) rfl ⟨Nat.le_of_ble_eq_true rfl, Nat.le_of_ble_eq_true rfl⟩ rfl dX7_all_10 rfl rfl rfl rfl rfl rfl (fun H locs hP hD hS => ?_)
  refine lv_if_ne (tgt := 22) hx hb dX7_all_13 (by decide) (fun c1 => ?_) (fun c1 => ?_)
  · have hf := (if_neg c1).symm.trans hf
    have qw : vp_in wo 12 := isIn_12 (by assumption)
    refine lv_sipush (v := 210) hx hb dX7_all_22 (by decide) ?_
    refine lv_bipush (v := 12) hx hb dX7_all_25 (by decide) ?_
    refine lv_iload_n hx hb dX7_all_27 rfl (lv_at hl 1 rfl) ?_
    refine lv_imul hx hb dX7_all_28 ?_
    refine ww_e (nI_mulE (a := 12) (b := bb) rfl rfl) ?_
    refine lv_iadd hx hb dX7_all_29 ?_
    refine ww_e (nI_addE (a := 210) (b := 12 * bb) rfl rfl) ?_
    refine lv_iload_n hx hb dX7_all_30 rfl (lv_at hl 2 rfl) ?_
    refine lv_iadd hx hb dX7_all_31 ?_
    refine lv_istore (lv' := [(4, .int ((nI (210 + (12 * bb))) + wo)), (0, .ref mO), (1, .int (nI bb)), (2, .int wo), (3, .int iz)]) hx hb dX7_all_32 hl (by decide) rfl (fun ls hl => ?_)
    refine lv_aload_n hx hb dX7_all_34 rfl (lv_at hl 1 rfl) ?_
    refine va_get (D := G.1) (ci := 7) (v := .ref mS) (C := RX7) (T := TX7) (N := 12) hx hb (ku_X7 hK.2) (fun _ h9 => h9) hown hK.1 hP 0 rfl rfl 1 (by decide) (kw_678 hK.2) (fun _ h9 => h9) rfl dX7_all_35 ?_
    refine lv_iload hx hb dX7_all_38 (lv_at hl 0 rfl) ?_
    refine va_iald hx hb hK.1 hP 2 0 rfl rfl (ix_add qw (by omega) (by decide)) dX7_all_40 ?_
    refine lv_iconst (v := 1) hx hb dX7_all_41 (by decide) ?_
    refine lv_icmp_ne (tgt := 49) hx hb dX7_all_42 (by decide) (fun c2 => ?_) (fun c2 => ?_)
    · have hf := (if_neg c2).symm.trans hf
      refine lv_iconst (v := 0) hx hb dX7_all_49 (by decide) ?_
      refine lv_istore (lv' := [(5, .int 0), (4, .int ((nI (210 + (12 * bb))) + wo)), (0, .ref mO), (1, .int (nI bb)), (2, .int wo), (3, .int iz)]) hx hb dX7_all_50 hl (by decide) rfl (fun ls hl => ?_)
      refine lv_aload_n hx hb dX7_all_52 rfl (lv_at hl 2 rfl) ?_
      refine va_get (D := G.1) (ci := 7) (v := .ref mS) (C := RX7) (T := TX7) (N := 12) hx hb (ku_X7 hK.2) (fun _ h9 => h9) hown hK.1 hP 0 rfl rfl 1 (by decide) (kw_678 hK.2) (fun _ h9 => h9) rfl dX7_all_53 ?_
      refine lv_iload hx hb dX7_all_56 (lv_at hl 1 rfl) ?_
      refine lv_iload_n hx hb dX7_all_58 rfl (lv_at hl 5 rfl) ?_
      refine lv_if_eq (tgt := 66) hx hb dX7_all_59 (by decide) (fun c3 => ?_) (fun c3 => ?_)
      · have hf := (if_pos c3).symm.trans hf
        refine lv_iconst (v := 0) hx hb dX7_all_66 (by decide) ?_
        refine va_iast hx hb hK.1 hP hD hS 2 0 rfl rfl (ix_add qw (by omega) (by decide)) dX7_all_67 (fun H locs hP hD hS => ?_)
        have hP : va_P G.1 wcl [(mO, .inr (7, [.ref mA, .ref mS, .ref mI, .ref mV, .int me, .ref mT, .ref mR, .int (nI mz), .int (nI ma), .ref mW, .int (nI mr), .ref mN])), (mA, .inl (G.2.1, 7, .inl zf)), (mS, .inl (G.2.1, 259, .inl (upd zs ((nI (210 + (12 * bb))) + wo).toNatClampNeg 0)))] H := hP
        have hD : va_D A [(mO, .inr (7, [.ref mA, .ref mS, .ref mI, .ref mV, .int me, .ref mT, .ref mR, .int (nI mz), .int (nI ma), .ref mW, .int (nI mr), .ref mN])), (mA, .inl (G.2.1, 7, .inl zf)), (mS, .inl (G.2.1, 259, .inl (upd zs ((nI (210 + (12 * bb))) + wo).toNatClampNeg 0)))] := hD
        refine lv_iload hx hb dX7_all_68 (lv_at hl 0 rfl) ?_
        refine lv_iload_n hx hb dX7_all_70 rfl (lv_at hl 5 rfl) ?_
        refine lv_icmp_ne (tgt := 78) hx hb dX7_all_71 (by decide) (fun c4 => ?_) (fun c4 => ?_)
        · have hf := (if_neg c4).symm.trans hf
          refine lv_iconst (v := 1) hx hb dX7_all_78 (by decide) ?_
          exact hret (1, zf, upd zs ((nI (210 + (12 * bb))) + wo).toNatClampNeg 0) dX7_all_79 rfl hf rfl hP hS
        · have hf := (if_pos c4).symm.trans hf
          refine lv_iconst (v := 0) hx hb dX7_all_74 (by decide) ?_
          refine lv_goto (tgt := 79) hx hb dX7_all_75 (by decide) ?_
          exact hret (0, zf, upd zs ((nI (210 + (12 * bb))) + wo).toNatClampNeg 0) dX7_all_79 rfl hf rfl hP hS
      · have hf := (if_neg c3).symm.trans hf
        refine lv_iconst (v := 1) hx hb dX7_all_62 (by decide) ?_
        refine lv_goto (tgt := 67) hx hb dX7_all_63 (by decide) ?_
        refine va_iast hx hb hK.1 hP hD hS 2 0 rfl rfl (ix_add qw (by omega) (by decide)) dX7_all_67 (fun H locs hP hD hS => ?_)
        have hP : va_P G.1 wcl [(mO, .inr (7, [.ref mA, .ref mS, .ref mI, .ref mV, .int me, .ref mT, .ref mR, .int (nI mz), .int (nI ma), .ref mW, .int (nI mr), .ref mN])), (mA, .inl (G.2.1, 7, .inl zf)), (mS, .inl (G.2.1, 259, .inl (upd zs ((nI (210 + (12 * bb))) + wo).toNatClampNeg 1)))] H := hP
        have hD : va_D A [(mO, .inr (7, [.ref mA, .ref mS, .ref mI, .ref mV, .int me, .ref mT, .ref mR, .int (nI mz), .int (nI ma), .ref mW, .int (nI mr), .ref mN])), (mA, .inl (G.2.1, 7, .inl zf)), (mS, .inl (G.2.1, 259, .inl (upd zs ((nI (210 + (12 * bb))) + wo).toNatClampNeg 1)))] := hD
        refine lv_iload hx hb dX7_all_68 (lv_at hl 0 rfl) ?_
        refine lv_iload_n hx hb dX7_all_70 rfl (lv_at hl 5 rfl) ?_
        refine lv_icmp_ne (tgt := 78) hx hb dX7_all_71 (by decide) (fun c5 => ?_) (fun c5 => ?_)
        · have hf := (if_neg c5).symm.trans hf
          refine lv_iconst (v := 1) hx hb dX7_all_78 (by decide) ?_
          exact hret (1, zf, upd zs ((nI (210 + (12 * bb))) + wo).toNatClampNeg 1) dX7_all_79 rfl hf rfl hP hS
        · have hf := (if_pos c5).symm.trans hf
          refine lv_iconst (v := 0) hx hb dX7_all_74 (by decide) ?_
          refine lv_goto (tgt := 79) hx hb dX7_all_75 (by decide) ?_
          exact hret (0, zf, upd zs ((nI (210 + (12 * bb))) + wo).toNatClampNeg 1) dX7_all_79 rfl hf rfl hP hS
    · have hf := (if_pos c2).symm.trans hf
      refine lv_iconst (v := 1) hx hb dX7_all_45 (by decide) ?_
      refine lv_goto (tgt := 50) hx hb dX7_all_46 (by decide) ?_
      refine lv_istore (lv' := [(5, .int 1), (4, .int ((nI (210 + (12 * bb))) + wo)), (0, .ref mO), (1, .int (nI bb)), (2, .int wo), (3, .int iz)]) hx hb dX7_all_50 hl (by decide) rfl (fun ls hl => ?_)
      refine lv_aload_n hx hb dX7_all_52 rfl (lv_at hl 2 rfl) ?_
      refine va_get (D := G.1) (ci := 7) (v := .ref mS) (C := RX7) (T := TX7) (N := 12) hx hb (ku_X7 hK.2) (fun _ h9 => h9) hown hK.1 hP 0 rfl rfl 1 (by decide) (kw_678 hK.2) (fun _ h9 => h9) rfl dX7_all_53 ?_
      refine lv_iload hx hb dX7_all_56 (lv_at hl 1 rfl) ?_
      refine lv_iload_n hx hb dX7_all_58 rfl (lv_at hl 5 rfl) ?_
      refine lv_if_eq (tgt := 66) hx hb dX7_all_59 (by decide) (fun c6 => ?_) (fun c6 => ?_)
      · have hf := (if_pos c6).symm.trans hf
        refine lv_iconst (v := 0) hx hb dX7_all_66 (by decide) ?_
        refine va_iast hx hb hK.1 hP hD hS 2 0 rfl rfl (ix_add qw (by omega) (by decide)) dX7_all_67 (fun H locs hP hD hS => ?_)
        have hP : va_P G.1 wcl [(mO, .inr (7, [.ref mA, .ref mS, .ref mI, .ref mV, .int me, .ref mT, .ref mR, .int (nI mz), .int (nI ma), .ref mW, .int (nI mr), .ref mN])), (mA, .inl (G.2.1, 7, .inl zf)), (mS, .inl (G.2.1, 259, .inl (upd zs ((nI (210 + (12 * bb))) + wo).toNatClampNeg 0)))] H := hP
        have hD : va_D A [(mO, .inr (7, [.ref mA, .ref mS, .ref mI, .ref mV, .int me, .ref mT, .ref mR, .int (nI mz), .int (nI ma), .ref mW, .int (nI mr), .ref mN])), (mA, .inl (G.2.1, 7, .inl zf)), (mS, .inl (G.2.1, 259, .inl (upd zs ((nI (210 + (12 * bb))) + wo).toNatClampNeg 0)))] := hD
        refine lv_iload hx hb dX7_all_68 (lv_at hl 0 rfl) ?_
        refine lv_iload_n hx hb dX7_all_70 rfl (lv_at hl 5 rfl) ?_
        refine lv_icmp_ne (tgt := 78) hx hb dX7_all_71 (by decide) (fun c7 => ?_) (fun c7 => ?_)
        · have hf := (if_neg c7).symm.trans hf
          refine lv_iconst (v := 1) hx hb dX7_all_78 (by decide) ?_
          exact hret (1, zf, upd zs ((nI (210 + (12 * bb))) + wo).toNatClampNeg 0) dX7_all_79 rfl hf rfl hP hS
        · have hf := (if_pos c7).symm.trans hf
          refine lv_iconst (v := 0) hx hb dX7_all_74 (by decide) ?_
          refine lv_goto (tgt := 79) hx hb dX7_all_75 (by decide) ?_
          exact hret (0, zf, upd zs ((nI (210 + (12 * bb))) + wo).toNatClampNeg 0) dX7_all_79 rfl hf rfl hP hS
      · have hf := (if_neg c6).symm.trans hf
        refine lv_iconst (v := 1) hx hb dX7_all_62 (by decide) ?_
        refine lv_goto (tgt := 67) hx hb dX7_all_63 (by decide) ?_
        refine va_iast hx hb hK.1 hP hD hS 2 0 rfl rfl (ix_add qw (by omega) (by decide)) dX7_all_67 (fun H locs hP hD hS => ?_)
        have hP : va_P G.1 wcl [(mO, .inr (7, [.ref mA, .ref mS, .ref mI, .ref mV, .int me, .ref mT, .ref mR, .int (nI mz), .int (nI ma), .ref mW, .int (nI mr), .ref mN])), (mA, .inl (G.2.1, 7, .inl zf)), (mS, .inl (G.2.1, 259, .inl (upd zs ((nI (210 + (12 * bb))) + wo).toNatClampNeg 1)))] H := hP
        have hD : va_D A [(mO, .inr (7, [.ref mA, .ref mS, .ref mI, .ref mV, .int me, .ref mT, .ref mR, .int (nI mz), .int (nI ma), .ref mW, .int (nI mr), .ref mN])), (mA, .inl (G.2.1, 7, .inl zf)), (mS, .inl (G.2.1, 259, .inl (upd zs ((nI (210 + (12 * bb))) + wo).toNatClampNeg 1)))] := hD
        refine lv_iload hx hb dX7_all_68 (lv_at hl 0 rfl) ?_
        refine lv_iload_n hx hb dX7_all_70 rfl (lv_at hl 5 rfl) ?_
        refine lv_icmp_ne (tgt := 78) hx hb dX7_all_71 (by decide) (fun c8 => ?_) (fun c8 => ?_)
        · have hf := (if_neg c8).symm.trans hf
          refine lv_iconst (v := 1) hx hb dX7_all_78 (by decide) ?_
          exact hret (1, zf, upd zs ((nI (210 + (12 * bb))) + wo).toNatClampNeg 1) dX7_all_79 rfl hf rfl hP hS
        · have hf := (if_pos c8).symm.trans hf
          refine lv_iconst (v := 0) hx hb dX7_all_74 (by decide) ?_
          refine lv_goto (tgt := 79) hx hb dX7_all_75 (by decide) ?_
          exact hret (0, zf, upd zs ((nI (210 + (12 * bb))) + wo).toNatClampNeg 1) dX7_all_79 rfl hf rfl hP hS
  · have hf := (if_pos c1).symm.trans hf
    refine lv_aload_n hx hb dX7_all_16 rfl (lv_at hl 0 rfl) ?_
    refine lv_iconst (v := -1) hx hb dX7_all_17 (by decide) ?_
    refine cl_V (q := (RX7, TX7, 12)) (ws' := [(mO, .inr (7, [.ref mA, .ref mS, .ref mI, .ref mV, .int me, .ref mT, .ref mR, .int (nI mz), .int (nI ma), .ref mW, .int (nI mr), .ref mN])), (mA, .inl (G.2.1, 7, .inl ((f_X7_refuse zf (-1)).2))), (mS, .inl (G.2.1, 259, .inl zs))]) (v := (some (.int ((f_X7_refuse zf (-1)).1)))) (st1 := [.int ((f_X7_refuse zf (-1)).1)]) (rest := []) (As := [.int (-1)]) [0, 1] 0 7 hx hb hml hown hK (k_X7_refuse l G mO mA mS mI mV mT mR mW mN me mz ma mr zf (-1) vp7_1) (mf_X7_refuse hK.2) (kw_720 hK.2) (kw_11 hK.2) (kw_718 hK.2) ⟨rfl, rfl, Nat.le_of_ble_eq_true rfl, Nat.le_of_ble_eq_true rfl⟩ rfl hP hD hS hA rfl rfl hl (Nat.le_of_ble_eq_true rfl) rfl ⟨Nat.le_of_ble_eq_true rfl, Nat.le_of_ble_eq_true rfl⟩ rfl dX7_all_18 rfl rfl (rpl_fast (by decide) rfl rfl) rfl rfl rfl (fun H locs hP hD hS => ?_)
    exact hret ((f_X7_refuse zf (-1)).1, (f_X7_refuse zf (-1)).2, zs) dX7_all_21 rfl hf rfl hP hS
def f_X7_all_A (zf : Nat → Int32) : Int32 × (Nat → Int32) := ((f_X7_refuse zf (-1)).1, (f_X7_refuse zf (-1)).2)
set_option maxHeartbeats 4000000 in
set_option maxRecDepth 100000 in
theorem k_X7_all_A (l : Launch) (G : wG) (mO : Nat) (mA : Nat) (mS : Nat) (mI : Nat) (mV : Nat) (mT : Nat) (mR : Nat) (mW : Nat) (mN : Nat) (me : Int32) (mz : Nat) (ma : Nat) (mr : Nat) (zf : Nat → Int32) (bo : Int32) (wo : Int32) (iz : Int32) (hbad : f_X7_isBook bo = 0) : CT l G yX7_all cX7_all 6 (some .int) ({ frames := 2, cells := 0, slots := 0, locals := 41 }) [.ref mO, .int bo, .int wo, .int iz] [(mO, .inr (7, [.ref mA, .ref mS, .ref mI, .ref mV, .int me, .ref mT, .ref mR, .int (nI mz), .int (nI ma), .ref mW, .int (nI mr), .ref mN])), (mA, .inl (G.2.1, 7, .inl zf))] (fun u => [(mO, .inr (7, [.ref mA, .ref mS, .ref mI, .ref mV, .int me, .ref mT, .ref mR, .int (nI mz), .int (nI ma), .ref mW, .int (nI mr), .ref mN])), (mA, .inl (G.2.1, 7, .inl u.2))]) (fun u => some (.int u.1)) (f_X7_all_A zf) := by
  obtain ⟨R, hf⟩ : ∃ R, f_X7_all_A zf = R := ⟨_, rfl⟩
  rw [hf]
  refine CT.mkI RX7 (by decide +kernel) rfl (Nat.le_of_ble_eq_true rfl) ?_
  intro p e s m args below meth c A Q ls hx hb hml hown hK hP hD hS hA hret hl
  have hl : lv_has ls 6 [(0, .ref mO), (1, .int bo), (2, .int wo), (3, .int iz)] := hl
  rw [f_X7_all_A] at hf
  refine lv_iload_n hx hb dX7_all_0 rfl (lv_at hl 1 rfl) ?_
  refine cl_S (ws' := [(mO, .inr (7, [.ref mA, .ref mS, .ref mI, .ref mV, .int me, .ref mT, .ref mR, .int (nI mz), .int (nI ma), .ref mW, .int (nI mr), .ref mN])), (mA, .inl (G.2.1, 7, .inl zf))]) (v := (some (.int (f_X7_isBook bo)))) (st1 := [.int (f_X7_isBook bo)]) (rest := []) (As := [.int bo]) [] hx hb hml hown hK (k_X7_isBook l G bo ) (mf_X7_isBook hK.2) (kw_728 hK.2) (kw_727 hK.2) ⟨rfl, rfl, Nat.le_of_ble_eq_true rfl, Nat.le_of_ble_eq_true rfl⟩ rfl hP hD hS hA hl (Nat.le_of_ble_eq_true rfl) rfl ⟨Nat.le_of_ble_eq_true rfl, Nat.le_of_ble_eq_true rfl⟩ rfl dX7_all_1 rfl rfl rfl rfl rfl rfl (fun H locs hP hD hS => ?_)
  refine lv_if_eq (tgt := 16) hx hb dX7_all_4 (by decide) (fun _ => ?_) (fun c => absurd hbad c)
  refine lv_aload_n hx hb dX7_all_16 rfl (lv_at hl 0 rfl) ?_
  refine lv_iconst (v := -1) hx hb dX7_all_17 (by decide) ?_
  refine cl_V (q := (RX7, TX7, 12)) (ws' := [(mO, .inr (7, [.ref mA, .ref mS, .ref mI, .ref mV, .int me, .ref mT, .ref mR, .int (nI mz), .int (nI ma), .ref mW, .int (nI mr), .ref mN])), (mA, .inl (G.2.1, 7, .inl ((f_X7_refuse zf (-1)).2)))]) (v := (some (.int ((f_X7_refuse zf (-1)).1)))) (st1 := [.int ((f_X7_refuse zf (-1)).1)]) (rest := []) (As := [.int (-1)]) [0, 1] 0 7 hx hb hml hown hK (k_X7_refuse l G mO mA mS mI mV mT mR mW mN me mz ma mr zf (-1) vp7_1) (mf_X7_refuse hK.2) (kw_720 hK.2) (kw_11 hK.2) (kw_718 hK.2) ⟨rfl, rfl, Nat.le_of_ble_eq_true rfl, Nat.le_of_ble_eq_true rfl⟩ rfl hP hD hS hA rfl rfl hl (Nat.le_of_ble_eq_true rfl) rfl ⟨Nat.le_of_ble_eq_true rfl, Nat.le_of_ble_eq_true rfl⟩ rfl dX7_all_18 rfl rfl (rpl_fast (by decide) rfl rfl) rfl rfl rfl (fun H locs hP hD hS => ?_)
  exact hret ((f_X7_refuse zf (-1)).1, (f_X7_refuse zf (-1)).2) dX7_all_21 rfl hf rfl hP hS
