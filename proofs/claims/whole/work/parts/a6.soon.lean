def f_X7_findSoonest_34 (zs : Nat → Int32) (bb : Nat) (bn : Nat) (v2_8 : Int32) : Nat → Nat → Int32 → Int32
  | 0, i34, v5_34 => v5_34
  | k34 + 1, i34, v5_34 => (if ((((f_X7_next zs bb bn v2_8) &&& (v2_8 ^^^ (-1 : Int32))) >>> ((nI i34) &&& 31)) &&& (1 : Int32)) = 1 then (if v5_34 < 0 then f_X7_findSoonest_34 zs bb bn v2_8 k34 (i34 + 1) (nI i34) else (if (zs (186 + (12 * bb) + i34)) ≤ (zs ((nI (186 + (12 * bb))) + v5_34).toNatClampNeg) then f_X7_findSoonest_34 zs bb bn v2_8 k34 (i34 + 1) v5_34 else f_X7_findSoonest_34 zs bb bn v2_8 k34 (i34 + 1) (nI i34))) else f_X7_findSoonest_34 zs bb bn v2_8 k34 (i34 + 1) v5_34)
theorem f_X7_findSoonest_34_z (zs : Nat → Int32) (bb : Nat) (bn : Nat) (v2_8 : Int32) (i34 : Nat) (v5_34 : Int32) : f_X7_findSoonest_34 zs bb bn v2_8 0 i34 v5_34 = v5_34 := rfl
theorem f_X7_findSoonest_34_s (zs : Nat → Int32) (bb : Nat) (bn : Nat) (v2_8 : Int32) (k34 : Nat) (i34 : Nat) (v5_34 : Int32) : f_X7_findSoonest_34 zs bb bn v2_8 (k34 + 1) i34 v5_34 = (if ((((f_X7_next zs bb bn v2_8) &&& (v2_8 ^^^ (-1 : Int32))) >>> ((nI i34) &&& 31)) &&& (1 : Int32)) = 1 then (if v5_34 < 0 then f_X7_findSoonest_34 zs bb bn v2_8 k34 (i34 + 1) (nI i34) else (if (zs (186 + (12 * bb) + i34)) ≤ (zs ((nI (186 + (12 * bb))) + v5_34).toNatClampNeg) then f_X7_findSoonest_34 zs bb bn v2_8 k34 (i34 + 1) v5_34 else f_X7_findSoonest_34 zs bb bn v2_8 k34 (i34 + 1) (nI i34))) else f_X7_findSoonest_34 zs bb bn v2_8 k34 (i34 + 1) v5_34) := rfl
def f_X7_findSoonest_8 (zs : Nat → Int32) (bb : Nat) (bn : Nat) : Nat → Int32 → Nat → (Nat → Int32) → (Int32 × (Nat → Int32))
  | 0, _, _, _ => default
  | k8 + 1, v2_8, v3_8, n8 => (if v2_8 = 4095 then (nI v3_8, n8) else f_X7_findSoonest_8 zs bb bn k8 (v2_8 ||| ((1 : Int32) <<< ((f_X7_findSoonest_34 zs bb bn v2_8 12 0 (-9)) &&& 31))) (v3_8 + 1) (upd n8 v3_8 (f_X7_findSoonest_34 zs bb bn v2_8 12 0 (-9))))
theorem f_X7_findSoonest_8_z (zs : Nat → Int32) (bb : Nat) (bn : Nat) (v2_8 : Int32) (v3_8 : Nat) (n8 : Nat → Int32) : f_X7_findSoonest_8 zs bb bn 0 v2_8 v3_8 n8 = default := rfl
theorem f_X7_findSoonest_8_s (zs : Nat → Int32) (bb : Nat) (bn : Nat) (k8 : Nat) (v2_8 : Int32) (v3_8 : Nat) (n8 : Nat → Int32) : f_X7_findSoonest_8 zs bb bn (k8 + 1) v2_8 v3_8 n8 = (if v2_8 = 4095 then (nI v3_8, n8) else f_X7_findSoonest_8 zs bb bn k8 (v2_8 ||| ((1 : Int32) <<< ((f_X7_findSoonest_34 zs bb bn v2_8 12 0 (-9)) &&& 31))) (v3_8 + 1) (upd n8 v3_8 (f_X7_findSoonest_34 zs bb bn v2_8 12 0 (-9)))) := rfl
def f_X7_findSoonest (zs : Nat → Int32) (zn : Nat → Int32) (bb : Nat) (bn : Nat) : Int32 × (Nat → Int32) := (f_X7_findSoonest_8 zs bb bn 13 (f_X7_fewestOf zs bb bn) 0 zn)
theorem pc_lt12 {a : Int32} (ha : Rg a) (h : ¬ a = 4095) : pc a < 12 := Nat.lt_of_not_le (fun q => h (pc_12 ha q))
theorem lf_F {xn : Nat} {xw xk xm xf : Nat → Int32} {xB v : Int32} {q : Nat} (hB : BB xn xw xk xm xf xB) (h1 : Rg v) (h2 : f_X0_learntFrom xn xw xk xm xf xB v = 4095) (hq : q < 12) : f_X0_learntFrom xn xw xk xm xf xB (v ||| ((1 : Int32) <<< (nI q &&& 31))) = 4095 := by
  have hR := Rg_or h1 (Rg_bit hq)
  have h3 := lf_mono hB h1 hR (sub_or_l _ _)
  rw [h2] at h3
  exact pu_sub_a (lf_rg hB hR) Rg_4095 (sub_4095 _) h3
theorem pc_addb {v : Int32} {q : Nat} (h1 : Rg v) (hq : q < 12) (hf : bt v q = false) : pc (v ||| ((1 : Int32) <<< (nI q &&& 31))) = pc v + 1 := by
  rw [pc_dis (fun w hw e => by
    rw [bt_bit hq]
    refine decide_eq_false (fun z => ?_)
    subst z
    rw [hf] at e
    cases e), pc_bit hq]
theorem bt_can {zs : Nat → Int32} {b xn : Nat} {xw xk xm xf : Nat → Int32} {xB : Int32} {xh xt : Nat → Int32} (h : RB zs b xn xw xk xm xf xB xh xt) {v : Int32} (hv : Rg v) : f_X7_next zs b xn v &&& (v ^^^ (-1 : Int32)) = f_X0_taughtNext xn xw xk xm xf xB v := by
  rw [pu_next h hv]
  refine Rg_ext (Rg_and (Rg_or hv (tn_rg h.2.1 v))) (tn_rg h.2.1 v) (fun w hw => ?_)
  rw [bt_and, bt_or, bt_xm1 _ (by omega)]
  cases e : bt (f_X0_taughtNext xn xw xk xm xf xB v) w
  · cases bt v w <;> rfl
  · rw [tn_dis h.2.1 hv hw e]; rfl
/-- of the words that can be learnt the one met most: both loops -/
theorem fs_34 {zs : Nat → Int32} {b xn : Nat} {xw xk xm xf : Nat → Int32} {xB : Int32} {xh xt : Nat → Int32} (h : RB zs b xn xw xk xm xf xB xh xt) {v : Int32} (hv : Rg v) : ∀ (k i : Nat) (be bm : Int32), k + i = 12 → ((be = -9 ∧ bm = -1 ∧ ∀ w : Nat, w < i → bt (f_X0_taughtNext xn xw xk xm xf xB v) w = false) ∨ ∃ q : Nat, q < 12 ∧ be = nI q ∧ bm = xt q ∧ bt (f_X0_taughtNext xn xw xk xm xf xB v) q = true) → f_X7_findSoonest_34 zs b xn v k i be = f_X0_metMostAfter_15 xn xw xk xm xf xB xt v k i be bm ∧ ((f_X0_metMostAfter_15 xn xw xk xm xf xB xt v k i be bm = -9 ∧ f_X0_taughtNext xn xw xk xm xf xB v = 0) ∨ ∃ q : Nat, q < 12 ∧ f_X0_metMostAfter_15 xn xw xk xm xf xB xt v k i be bm = nI q ∧ bt (f_X0_taughtNext xn xw xk xm xf xB v) q = true) := by
  have hT := tn_rg h.2.1 v
  intro k
  induction k with
  | zero =>
    intro i be bm hk hJ
    have hi : i = 12 := by omega
    subst hi
    rw [f_X7_findSoonest_34_z, f_X0_metMostAfter_15_z]
    refine ⟨rfl, ?_⟩
    rcases hJ with ⟨e1, e2, e3⟩ | ⟨q, hq, e1, e2, e3⟩
    · exact Or.inl ⟨e1, Rg_ext hT Rg_0 (fun w hw => by rw [bt_0]; exact e3 w hw)⟩
    · exact Or.inr ⟨q, hq, e1, e3⟩
  | succ k ih =>
    intro i be bm hk hJ
    have hi : i < 12 := by omega
    obtain ⟨m1, x1, hx1, ex1⟩ := h.2.2.2.2.2.2 i hi
    rw [f_X7_findSoonest_34_s, f_X0_metMostAfter_15_s, bt_can h hv, shr_1 hT hi, has_bt hT hi]
    by_cases q : bt (f_X0_taughtNext xn xw xk xm xf xB v) i = true
    · rw [if_pos q, if_pos rfl, if_neg (show ¬ (1 : Int32) = 0 by decide)]
      have hnew := ih (i + 1) (nI i) (xt i) (by omega) (Or.inr ⟨i, hi, rfl, rfl, q⟩)
      rcases hJ with ⟨e1, e2, e3⟩ | ⟨r, hr, e1, e2, e3⟩
      · have c0 : be < 0 := by rw [e1]; decide
        have c1 : ¬ xt i ≤ bm := by
          rw [ex1, e2]
          intro z
          have z2 := Int32.le_iff_toInt_le.mp z
          rw [nI_toInt (by omega)] at z2
          have z3 : (-1 : Int32).toInt = -1 := by decide
          omega
        rw [if_pos c0, if_neg c1]
        exact hnew
      · obtain ⟨m2, x2, hx2, ex2⟩ := h.2.2.2.2.2.2 r hr
        have c0 : ¬ be < 0 := by rw [e1]; exact nI_pos (by omega)
        have ei : (nI (186 + (12 * b)) + be).toNatClampNeg = 186 + 12 * b + r := by
          have hb2 := h.1
          rw [e1, nI_add, nI_clamp (by omega)]
        rw [if_neg c0, ei, m1, m2, e2]
        by_cases c1 : xt i ≤ xt r
        · rw [if_pos c1, if_pos c1]
          exact ih (i + 1) be (xt r) (by omega) (Or.inr ⟨r, hr, e1, rfl, e3⟩)
        · rw [if_neg c1, if_neg c1]
          exact hnew
    · rw [if_neg q, if_neg (by decide), if_pos rfl]
      refine ih (i + 1) be bm (by omega) (hJ.imp (fun ⟨e1, e2, e3⟩ => ⟨e1, e2, fun w hw => ?_⟩) id)
      rcases Nat.lt_or_ge w i with c | c
      · exact e3 w c
      · have e : w = i := by omega
        subst e
        exact Bool.eq_false_iff.mpr q
theorem mm_eq {zs : Nat → Int32} {b xn : Nat} {xw xk xm xf : Nat → Int32} {xB : Int32} {xh xt : Nat → Int32} (h : RB zs b xn xw xk xm xf xB xh xt) {v : Int32} (hv : Rg v) : f_X7_findSoonest_34 zs b xn v 12 0 (-9) = f_X0_metMostAfter xn xw xk xm xf xB xt v ∧ ((f_X0_metMostAfter xn xw xk xm xf xB xt v = -9 ∧ f_X0_taughtNext xn xw xk xm xf xB v = 0) ∨ ∃ q : Nat, q < 12 ∧ f_X0_metMostAfter xn xw xk xm xf xB xt v = nI q ∧ bt (f_X0_taughtNext xn xw xk xm xf xB v) q = true) := fs_34 h hv 12 0 (-9) (-1) rfl (Or.inl ⟨rfl, rfl, fun w hw => absurd hw (Nat.not_lt_zero _)⟩)
theorem fs_best {zs : Nat → Int32} {b xn : Nat} {xw xk xm xf : Nat → Int32} {xB : Int32} {xh xt : Nat → Int32} (h : RB zs b xn xw xk xm xf xB xh xt) {v bst : Int32} (hv : Rg v) (hF : f_X0_learntFrom xn xw xk xm xf xB v = 4095) (hne : ¬ v = 4095) (hb : f_X7_findSoonest_34 zs b xn v 12 0 (-9) = bst) : ∃ q : Nat, q < 12 ∧ bst = nI q ∧ bt (f_X0_taughtNext xn xw xk xm xf xB v) q = true := by
  obtain ⟨e1, e2⟩ := mm_eq h hv
  rw [e1] at hb
  rcases e2 with ⟨e2, e3⟩ | ⟨q, hq, e2, e3⟩
  · rw [lf_self h.2.1 hv e3] at hF
    exact absurd hF hne
  · exact ⟨q, hq, by rw [← hb, e2], e3⟩
set_option maxHeartbeats 4000000 in
set_option maxRecDepth 100000 in
theorem k_X7_findSoonest (l : Launch) (G : wG) (mO : Nat) (mA : Nat) (mS : Nat) (mI : Nat) (mV : Nat) (mT : Nat) (mR : Nat) (mW : Nat) (mN : Nat) (me : Int32) (mz : Nat) (ma : Nat) (mr : Nat) (zs : Nat → Int32) (zn : Nat → Int32) (bb : Nat) (bn : Nat) (xw : Nat → Int32) (xk : Nat → Int32) (xm : Nat → Int32) (xf : Nat → Int32) (xB : Int32) (xh : Nat → Int32) (xt : Nat → Int32) (hbb : bb < 2) (hbn : zs (160 + bb) = nI bn) (hb2 : bn ≤ 20) (hnd : ∀ t : Nat, t < bn → Rg (zs (80 * bb + 4 * t + 2))) (hwd : ∀ t : Nat, t < bn → ∃ w : Nat, w < 12 ∧ zs (80 * bb + 4 * t) = nI w) (hR : RB zs bb bn xw xk xm xf xB xh xt) : CT l G yX7_findSoonest cX7_findSoonest 7 (some .int) ({ frames := 6, cells := 0, slots := 0, locals := 142 }) [.ref mO, .int (nI bb)] [(mO, .inr (7, [.ref mA, .ref mS, .ref mI, .ref mV, .int me, .ref mT, .ref mR, .int (nI mz), .int (nI ma), .ref mW, .int (nI mr), .ref mN])), (mS, .inl (G.2.1, 259, .inl zs)), (mN, .inl (G.2.1, 12, .inl zn))] (fun u => [(mO, .inr (7, [.ref mA, .ref mS, .ref mI, .ref mV, .int me, .ref mT, .ref mR, .int (nI mz), .int (nI ma), .ref mW, .int (nI mr), .ref mN])), (mS, .inl (G.2.1, 259, .inl zs)), (mN, .inl (G.2.1, 12, .inl u.2))]) (fun u => some (.int u.1)) (f_X7_findSoonest zs zn bb bn) := by
  obtain ⟨R, hf⟩ : ∃ R, f_X7_findSoonest zs zn bb bn = R := ⟨_, rfl⟩
  rw [hf]
  refine CT.mkI RX7 (by decide +kernel) rfl (Nat.le_of_ble_eq_true rfl) ?_
  intro p e s m args below meth c A Q ls hx hb hml hown hK hP hD hS hA hret hl
  have hl : lv_has ls 7 [(0, .ref mO), (1, .int (nI bb))] := hl
  rw [f_X7_findSoonest] at hf
  refine lv_aload_n hx hb dX7_findSoonest_0 rfl (lv_at hl 0 rfl) ?_
  refine lv_iload_n hx hb dX7_findSoonest_1 rfl (lv_at hl 1 rfl) ?_
  refine cl_V (q := (RX7, TX7, 12)) (ws' := [(mO, .inr (7, [.ref mA, .ref mS, .ref mI, .ref mV, .int me, .ref mT, .ref mR, .int (nI mz), .int (nI ma), .ref mW, .int (nI mr), .ref mN])), (mS, .inl (G.2.1, 259, .inl zs)), (mN, .inl (G.2.1, 12, .inl zn))]) (v := (some (.int (f_X7_fewestOf zs bb bn)))) (st1 := [.int (f_X7_fewestOf zs bb bn)]) (rest := []) (As := [.int (nI bb)]) [0, 1] 0 7 hx hb hml hown hK (k_X7_fewestOf l G mO mA mS mI mV mT mR mW mN me mz ma mr zs bb bn hbb hbn hb2 hnd hwd) (mf_X7_fewestOf hK.2) (kw_848 hK.2) (kw_25 hK.2) (kw_846 hK.2) ⟨rfl, rfl, Nat.le_of_ble_eq_true rfl, Nat.le_of_ble_eq_true rfl⟩ rfl hP hD hS hA rfl rfl hl (Nat.le_of_ble_eq_true rfl) rfl ⟨Nat.le_of_ble_eq_true rfl, Nat.le_of_ble_eq_true rfl⟩ rfl dX7_findSoonest_2 rfl rfl (rpl_fast (by decide) rfl rfl) rfl rfl rfl (fun H locs hP hD hS => ?_)
  refine lv_istore_n (lv' := [(2, .int (f_X7_fewestOf zs bb bn)), (0, .ref mO), (1, .int (nI bb))]) hx hb dX7_findSoonest_5 rfl hl (by decide) rfl (fun ls hl => ?_)
  refine lv_iconst (v := 0) hx hb dX7_findSoonest_6 (by decide) ?_
  refine lv_istore_n (lv' := [(3, .int 0), (2, .int (f_X7_fewestOf zs bb bn)), (0, .ref mO), (1, .int (nI bb))]) hx hb dX7_findSoonest_7 rfl hl (by decide) rfl (fun ls hl => ?_)
  have L8 : ∀ (k8 : Nat) (v2_8 : Int32) (v3_8 : Nat) (n8 : Nat → Int32), (Rg v2_8) → (f_X0_learntFrom bn xw xk xm xf xB v2_8 = 4095) → (v3_8 + k8 = 13) → (v3_8 ≤ pc v2_8) → f_X7_findSoonest_8 zs bb bn k8 v2_8 v3_8 n8 = R → ∀ (H : Heap) (locs : List Loc) (ls : Array Slot), va_P G.1 wcl [(mO, .inr (7, [.ref mA, .ref mS, .ref mI, .ref mV, .int me, .ref mT, .ref mR, .int (nI mz), .int (nI ma), .ref mW, .int (nI mr), .ref mN])), (mS, .inl (G.2.1, 259, .inl zs)), (mN, .inl (G.2.1, 12, .inl n8))] H → va_D A [(mO, .inr (7, [.ref mA, .ref mS, .ref mI, .ref mV, .int me, .ref mT, .ref mR, .int (nI mz), .int (nI ma), .ref mW, .int (nI mr), .ref mN])), (mS, .inl (G.2.1, 259, .inl zs)), (mN, .inl (G.2.1, 12, .inl n8))] → va_S A s.heap H locs → lv_has ls 7 [(0, .ref mO), (1, .int (nI bb)), (2, .int v2_8), (3, .int (nI v3_8))] → W p l e ({ frames := 6, cells := 0, slots := 0, locals := 142 }) s m args below meth c H locs 0 0 Q (F0 m 8 ls []) := by
    intro k8
    induction k8 with
    | zero =>
      intro v2_8 v3_8 n8  h1 h2 h3 h4 hf _ _ ls hP hD hS hl
      exact absurd h4 (by have := pc_le12 v2_8; omega)
    | succ k8 ih8 =>
      intro v2_8 v3_8 n8  h1 h2 h3 h4 hf _ _ ls hP hD hS hl
      rw [f_X7_findSoonest_8_s] at hf
      refine lv_iload_n hx hb dX7_findSoonest_8 rfl (lv_at hl 2 rfl) ?_
      refine lv_sipush (v := 4095) hx hb dX7_findSoonest_9 (by decide) ?_
      refine lv_icmp_eq (tgt := 123) hx hb dX7_findSoonest_12 (by decide) (fun c1 => ?_) (fun c1 => ?_)
      · have hf := (if_pos c1).symm.trans hf
        refine lv_iload_n hx hb dX7_findSoonest_123 rfl (lv_at hl 3 rfl) ?_
        exact hret (nI v3_8, n8) dX7_findSoonest_124 rfl hf rfl hP hS
      · have hf := (if_neg c1).symm.trans hf
        have hp8 : pc v2_8 < 12 := pc_lt12 h1 (by assumption)
        refine lv_aload_n hx hb dX7_findSoonest_15 rfl (lv_at hl 0 rfl) ?_
        refine lv_iload_n hx hb dX7_findSoonest_16 rfl (lv_at hl 1 rfl) ?_
        refine lv_iload_n hx hb dX7_findSoonest_17 rfl (lv_at hl 2 rfl) ?_
        refine cl_V (q := (RX7, TX7, 12)) (ws' := [(mO, .inr (7, [.ref mA, .ref mS, .ref mI, .ref mV, .int me, .ref mT, .ref mR, .int (nI mz), .int (nI ma), .ref mW, .int (nI mr), .ref mN])), (mS, .inl (G.2.1, 259, .inl zs)), (mN, .inl (G.2.1, 12, .inl n8))]) (v := (some (.int (f_X7_next zs bb bn v2_8)))) (st1 := [.int (f_X7_next zs bb bn v2_8)]) (rest := []) (As := [.int (nI bb), .int v2_8]) [0, 1] 0 7 hx hb hml hown hK (k_X7_next l G mO mA mS mI mV mT mR mW mN me mz ma mr zs bb bn v2_8 hbb hbn hb2 hnd) (mf_X7_next hK.2) (kw_785 hK.2) (kw_19 hK.2) (kw_783 hK.2) ⟨rfl, rfl, Nat.le_of_ble_eq_true rfl, Nat.le_of_ble_eq_true rfl⟩ rfl hP hD hS hA rfl rfl hl (Nat.le_of_ble_eq_true rfl) rfl ⟨Nat.le_of_ble_eq_true rfl, Nat.le_of_ble_eq_true rfl⟩ rfl dX7_findSoonest_18 rfl rfl (rpl_fast (by decide) rfl rfl) rfl rfl rfl (fun H locs hP hD hS => ?_)
        refine lv_iload_n hx hb dX7_findSoonest_21 rfl (lv_at hl 2 rfl) ?_
        refine lv_iconst (v := -1) hx hb dX7_findSoonest_22 (by decide) ?_
        refine lv_ixor hx hb dX7_findSoonest_23 ?_
        refine lv_iand hx hb dX7_findSoonest_24 ?_
        refine lv_istore (lv' := [(4, .int ((f_X7_next zs bb bn v2_8) &&& (v2_8 ^^^ (-1 : Int32)))), (0, .ref mO), (1, .int (nI bb)), (2, .int v2_8), (3, .int (nI v3_8))]) hx hb dX7_findSoonest_25 hl (by decide) rfl (fun ls hl => ?_)
        refine lv_bipush (v := -9) hx hb dX7_findSoonest_27 (by decide) ?_
        refine lv_istore (lv' := [(5, .int (-9)), (4, .int ((f_X7_next zs bb bn v2_8) &&& (v2_8 ^^^ (-1 : Int32)))), (0, .ref mO), (1, .int (nI bb)), (2, .int v2_8), (3, .int (nI v3_8))]) hx hb dX7_findSoonest_29 hl (by decide) rfl (fun ls hl => ?_)
        refine lv_iconst (v := 0) hx hb dX7_findSoonest_31 (by decide) ?_
        refine lv_istore (lv' := [(6, .int 0), (5, .int (-9)), (4, .int ((f_X7_next zs bb bn v2_8) &&& (v2_8 ^^^ (-1 : Int32)))), (0, .ref mO), (1, .int (nI bb)), (2, .int v2_8), (3, .int (nI v3_8))]) hx hb dX7_findSoonest_32 hl (by decide) rfl (fun ls hl => ?_)
        obtain ⟨bst, hbst⟩ : ∃ r : Int32, f_X7_findSoonest_34 zs bb bn v2_8 12 0 (-9) = r := ⟨_, rfl⟩
        (try rw [hbst] at hf)
        have X34 : ∀ (H : Heap) (locs : List Loc) (ls : Array Slot), va_P G.1 wcl [(mO, .inr (7, [.ref mA, .ref mS, .ref mI, .ref mV, .int me, .ref mT, .ref mR, .int (nI mz), .int (nI ma), .ref mW, .int (nI mr), .ref mN])), (mS, .inl (G.2.1, 259, .inl zs)), (mN, .inl (G.2.1, 12, .inl n8))] H → va_D A [(mO, .inr (7, [.ref mA, .ref mS, .ref mI, .ref mV, .int me, .ref mT, .ref mR, .int (nI mz), .int (nI ma), .ref mW, .int (nI mr), .ref mN])), (mS, .inl (G.2.1, 259, .inl zs)), (mN, .inl (G.2.1, 12, .inl n8))] → va_S A s.heap H locs → lv_has ls 7 [(0, .ref mO), (1, .int (nI bb)), (2, .int v2_8), (3, .int (nI v3_8)), (5, .int bst)] → W p l e ({ frames := 6, cells := 0, slots := 0, locals := 142 }) s m args below meth c H locs 0 0 Q (F0 m 102 ls []) := by
          intro H locs ls hP hD hS hl
          obtain ⟨q, hq, hqe, hqn⟩ := fs_best hR h1 h2 (by assumption) hbst
          refine lv_aload_n hx hb dX7_findSoonest_102 rfl (lv_at hl 0 rfl) ?_
          refine va_get (D := G.1) (ci := 7) (v := .ref mN) (C := RX7) (T := TX7) (N := 12) hx hb (ku_X7 hK.2) (fun _ h9 => h9) hown hK.1 hP 0 rfl rfl 11 (by decide) (kw_688 hK.2) (fun _ h9 => h9) rfl dX7_findSoonest_103 ?_
          refine lv_iload_n hx hb dX7_findSoonest_106 rfl (lv_at hl 3 rfl) ?_
          refine lv_iload hx hb dX7_findSoonest_107 (lv_at hl 4 rfl) ?_
          refine ww_ist (j := v3_8) hx hb hK.1 hP hD hS 2 0 rfl rfl (by omega) (by omega) dX7_findSoonest_109 (fun H locs hP hD hS => ?_)
          have hP : va_P G.1 wcl [(mO, .inr (7, [.ref mA, .ref mS, .ref mI, .ref mV, .int me, .ref mT, .ref mR, .int (nI mz), .int (nI ma), .ref mW, .int (nI mr), .ref mN])), (mS, .inl (G.2.1, 259, .inl zs)), (mN, .inl (G.2.1, 12, .inl (upd n8 v3_8 bst)))] H := hP
          have hD : va_D A [(mO, .inr (7, [.ref mA, .ref mS, .ref mI, .ref mV, .int me, .ref mT, .ref mR, .int (nI mz), .int (nI ma), .ref mW, .int (nI mr), .ref mN])), (mS, .inl (G.2.1, 259, .inl zs)), (mN, .inl (G.2.1, 12, .inl (upd n8 v3_8 bst)))] := hD
          refine lv_iinc (v := nI (v3_8 + 1)) (lv' := [(3, .int (nI (v3_8 + 1))), (0, .ref mO), (1, .int (nI bb)), (2, .int v2_8), (5, .int bst)]) hx hb dX7_findSoonest_110 hl (k := 3) rfl (nI_1 v3_8) (by decide) rfl (fun ls hl => ?_)
          refine lv_iload_n hx hb dX7_findSoonest_113 rfl (lv_at hl 3 rfl) ?_
          refine lv_iconst (v := 1) hx hb dX7_findSoonest_114 (by decide) ?_
          refine lv_iload hx hb dX7_findSoonest_115 (lv_at hl 4 rfl) ?_
          refine lv_ishl hx hb dX7_findSoonest_117 ?_
          refine lv_ior hx hb dX7_findSoonest_118 ?_
          refine lv_istore_n (lv' := [(2, .int (v2_8 ||| ((1 : Int32) <<< (bst &&& 31)))), (3, .int (nI (v3_8 + 1))), (0, .ref mO), (1, .int (nI bb)), (5, .int bst)]) hx hb dX7_findSoonest_119 rfl hl (by decide) rfl (fun ls hl => ?_)
          refine lv_goto (tgt := 8) hx hb dX7_findSoonest_120 (by decide) ?_
          exact ih8 (v2_8 ||| ((1 : Int32) <<< (bst &&& 31))) (v3_8 + 1) (upd n8 v3_8 bst)  (by rw [hqe]; exact Rg_or h1 (Rg_bit hq)) (by rw [hqe]; exact lf_F hR.2.1 h1 h2 hq) (by omega) (by rw [hqe]; have := pc_addb h1 hq (tn_dis hR.2.1 h1 hq hqn); omega) hf _ _ ls hP hD hS (lv_sub hl [2, 3, 0, 1] rfl)
        have L34 : ∀ (k34 : Nat) (i34 : Nat) (v5_34 : Int32), k34 + i34 = 12 → (v5_34 < 0 ∨ vp_in v5_34 12) → f_X7_findSoonest_34 zs bb bn v2_8 k34 i34 v5_34 = bst → ∀ (H : Heap) (locs : List Loc) (ls : Array Slot), va_P G.1 wcl [(mO, .inr (7, [.ref mA, .ref mS, .ref mI, .ref mV, .int me, .ref mT, .ref mR, .int (nI mz), .int (nI ma), .ref mW, .int (nI mr), .ref mN])), (mS, .inl (G.2.1, 259, .inl zs)), (mN, .inl (G.2.1, 12, .inl n8))] H → va_D A [(mO, .inr (7, [.ref mA, .ref mS, .ref mI, .ref mV, .int me, .ref mT, .ref mR, .int (nI mz), .int (nI ma), .ref mW, .int (nI mr), .ref mN])), (mS, .inl (G.2.1, 259, .inl zs)), (mN, .inl (G.2.1, 12, .inl n8))] → va_S A s.heap H locs → lv_has ls 7 [(0, .ref mO), (1, .int (nI bb)), (2, .int v2_8), (3, .int (nI v3_8)), (4, .int ((f_X7_next zs bb bn v2_8) &&& (v2_8 ^^^ (-1 : Int32)))), (5, .int v5_34), (6, .int (nI i34))] → W p l e ({ frames := 6, cells := 0, slots := 0, locals := 142 }) s m args below meth c H locs 0 0 Q (F0 m 34 ls []) := by
          intro k34
          induction k34 with
          | zero =>
            intro i34 v5_34 hi34 hb5 hf _ _ ls hP hD hS hl
            rw [f_X7_findSoonest_34_z] at hf
            refine lv_iload hx hb dX7_findSoonest_34 (lv_at hl 6 rfl) ?_
            refine lv_bipush (v := 12) hx hb dX7_findSoonest_36 (by decide) ?_
            refine lv_icmp_ge (tgt := 102) hx hb dX7_findSoonest_38 (by decide) (fun _ => ?_) (fun c => absurd (ile (a := 12) (b := i34) rfl rfl (by omega) (by omega) (by omega)) c)
            exact X34 _ _ ls (by first | exact hP | (rw [← hf]; exact hP)) (by first | exact hD | (rw [← hf]; exact hD)) hS (by first | exact (lv_sub hl [0, 1, 2, 3, 5] rfl) | (rw [← hf]; exact (lv_sub hl [0, 1, 2, 3, 5] rfl)))
          | succ k34 ih34 =>
            intro i34 v5_34 hi34 hb5 hf _ _ ls hP hD hS hl
            rw [f_X7_findSoonest_34_s] at hf
            refine lv_iload hx hb dX7_findSoonest_34 (lv_at hl 6 rfl) ?_
            refine lv_bipush (v := 12) hx hb dX7_findSoonest_36 (by decide) ?_
            refine lv_icmp_ge (tgt := 102) hx hb dX7_findSoonest_38 (by decide) (fun c => absurd c (inle (a := 12) (b := i34) rfl rfl (by omega) (by omega) (by omega))) (fun _ => ?_)
            refine lv_iload hx hb dX7_findSoonest_41 (lv_at hl 4 rfl) ?_
            refine lv_iload hx hb dX7_findSoonest_43 (lv_at hl 6 rfl) ?_
            refine lv_ishr hx hb dX7_findSoonest_45 ?_
            refine lv_iconst (v := 1) hx hb dX7_findSoonest_46 (by decide) ?_
            refine lv_iand hx hb dX7_findSoonest_47 ?_
            refine lv_iconst (v := 1) hx hb dX7_findSoonest_48 (by decide) ?_
            refine lv_icmp_ne (tgt := 96) hx hb dX7_findSoonest_49 (by decide) (fun c2 => ?_) (fun c2 => ?_)
            · have hf := (if_neg c2).symm.trans hf
              refine lv_iinc (v := nI (i34 + 1)) (lv' := [(6, .int (nI (i34 + 1))), (0, .ref mO), (1, .int (nI bb)), (2, .int v2_8), (3, .int (nI v3_8)), (4, .int ((f_X7_next zs bb bn v2_8) &&& (v2_8 ^^^ (-1 : Int32)))), (5, .int v5_34)]) hx hb dX7_findSoonest_96 hl (k := 6) rfl (nI_1 i34) (by decide) rfl (fun ls hl => ?_)
              refine lv_goto (tgt := 34) hx hb dX7_findSoonest_99 (by decide) ?_
              exact ih34 (i34 + 1) v5_34 (by omega) (by first | exact hb5 | exact Or.inr (vp_in_nI (by omega) (by decide))) hf _ _ ls hP hD hS (lv_sub hl [1, 2, 3, 4, 5, 6, 0] rfl)
            · have hf := (if_pos c2).symm.trans hf
              refine lv_iload hx hb dX7_findSoonest_52 (lv_at hl 5 rfl) ?_
              refine lv_if_lt (tgt := 92) hx hb dX7_findSoonest_54 (by decide) (fun c3 => ?_) (fun c3 => ?_)
              · have hf := (if_pos c3).symm.trans hf
                refine lv_iload hx hb dX7_findSoonest_92 (lv_at hl 6 rfl) ?_
                refine lv_istore (lv' := [(5, .int (nI i34)), (0, .ref mO), (1, .int (nI bb)), (2, .int v2_8), (3, .int (nI v3_8)), (4, .int ((f_X7_next zs bb bn v2_8) &&& (v2_8 ^^^ (-1 : Int32)))), (6, .int (nI i34))]) hx hb dX7_findSoonest_94 hl (by decide) rfl (fun ls hl => ?_)
                refine lv_iinc (v := nI (i34 + 1)) (lv' := [(6, .int (nI (i34 + 1))), (5, .int (nI i34)), (0, .ref mO), (1, .int (nI bb)), (2, .int v2_8), (3, .int (nI v3_8)), (4, .int ((f_X7_next zs bb bn v2_8) &&& (v2_8 ^^^ (-1 : Int32))))]) hx hb dX7_findSoonest_96 hl (k := 6) rfl (nI_1 i34) (by decide) rfl (fun ls hl => ?_)
                refine lv_goto (tgt := 34) hx hb dX7_findSoonest_99 (by decide) ?_
                exact ih34 (i34 + 1) (nI i34) (by omega) (by first | exact hb5 | exact Or.inr (vp_in_nI (by omega) (by decide))) hf _ _ ls hP hD hS (lv_sub hl [2, 3, 4, 5, 6, 1, 0] rfl)
              · have hf := (if_neg c3).symm.trans hf
                refine lv_aload_n hx hb dX7_findSoonest_57 rfl (lv_at hl 0 rfl) ?_
                refine va_get (D := G.1) (ci := 7) (v := .ref mS) (C := RX7) (T := TX7) (N := 12) hx hb (ku_X7 hK.2) (fun _ h9 => h9) hown hK.1 hP 0 rfl rfl 1 (by decide) (kw_678 hK.2) (fun _ h9 => h9) rfl dX7_findSoonest_58 ?_
                refine lv_sipush (v := 186) hx hb dX7_findSoonest_61 (by decide) ?_
                refine lv_bipush (v := 12) hx hb dX7_findSoonest_64 (by decide) ?_
                refine lv_iload_n hx hb dX7_findSoonest_66 rfl (lv_at hl 1 rfl) ?_
                refine lv_imul hx hb dX7_findSoonest_67 ?_
                refine ww_e (nI_mulE (a := 12) (b := bb) rfl rfl) ?_
                refine lv_iadd hx hb dX7_findSoonest_68 ?_
                refine ww_e (nI_addE (a := 186) (b := 12 * bb) rfl rfl) ?_
                refine lv_iload hx hb dX7_findSoonest_69 (lv_at hl 6 rfl) ?_
                refine lv_iadd hx hb dX7_findSoonest_71 ?_
                refine ww_e (nI_addE (a := 186 + (12 * bb)) (b := i34) rfl rfl) ?_
                refine ww_ild (j := 186 + (12 * bb) + i34) hx hb hK.1 hP 1 0 rfl rfl (by omega) (by omega) dX7_findSoonest_72 ?_
                refine lv_aload_n hx hb dX7_findSoonest_73 rfl (lv_at hl 0 rfl) ?_
                refine va_get (D := G.1) (ci := 7) (v := .ref mS) (C := RX7) (T := TX7) (N := 12) hx hb (ku_X7 hK.2) (fun _ h9 => h9) hown hK.1 hP 0 rfl rfl 1 (by decide) (kw_678 hK.2) (fun _ h9 => h9) rfl dX7_findSoonest_74 ?_
                refine lv_sipush (v := 186) hx hb dX7_findSoonest_77 (by decide) ?_
                refine lv_bipush (v := 12) hx hb dX7_findSoonest_80 (by decide) ?_
                refine lv_iload_n hx hb dX7_findSoonest_82 rfl (lv_at hl 1 rfl) ?_
                refine lv_imul hx hb dX7_findSoonest_83 ?_
                refine ww_e (nI_mulE (a := 12) (b := bb) rfl rfl) ?_
                refine lv_iadd hx hb dX7_findSoonest_84 ?_
                refine ww_e (nI_addE (a := 186) (b := 12 * bb) rfl rfl) ?_
                refine lv_iload hx hb dX7_findSoonest_85 (lv_at hl 5 rfl) ?_
                refine lv_iadd hx hb dX7_findSoonest_87 ?_
                refine va_iald hx hb hK.1 hP 1 0 rfl rfl (ix_add (hb5.resolve_left (by assumption)) (by omega) (by decide)) dX7_findSoonest_88 ?_
                refine lv_icmp_le (tgt := 96) hx hb dX7_findSoonest_89 (by decide) (fun c4 => ?_) (fun c4 => ?_)
                · have hf := (if_pos c4).symm.trans hf
                  refine lv_iinc (v := nI (i34 + 1)) (lv' := [(6, .int (nI (i34 + 1))), (0, .ref mO), (1, .int (nI bb)), (2, .int v2_8), (3, .int (nI v3_8)), (4, .int ((f_X7_next zs bb bn v2_8) &&& (v2_8 ^^^ (-1 : Int32)))), (5, .int v5_34)]) hx hb dX7_findSoonest_96 hl (k := 6) rfl (nI_1 i34) (by decide) rfl (fun ls hl => ?_)
                  refine lv_goto (tgt := 34) hx hb dX7_findSoonest_99 (by decide) ?_
                  exact ih34 (i34 + 1) v5_34 (by omega) (by first | exact hb5 | exact Or.inr (vp_in_nI (by omega) (by decide))) hf _ _ ls hP hD hS (lv_sub hl [1, 2, 3, 4, 5, 6, 0] rfl)
                · have hf := (if_neg c4).symm.trans hf
                  refine lv_iload hx hb dX7_findSoonest_92 (lv_at hl 6 rfl) ?_
                  refine lv_istore (lv' := [(5, .int (nI i34)), (0, .ref mO), (1, .int (nI bb)), (2, .int v2_8), (3, .int (nI v3_8)), (4, .int ((f_X7_next zs bb bn v2_8) &&& (v2_8 ^^^ (-1 : Int32)))), (6, .int (nI i34))]) hx hb dX7_findSoonest_94 hl (by decide) rfl (fun ls hl => ?_)
                  refine lv_iinc (v := nI (i34 + 1)) (lv' := [(6, .int (nI (i34 + 1))), (5, .int (nI i34)), (0, .ref mO), (1, .int (nI bb)), (2, .int v2_8), (3, .int (nI v3_8)), (4, .int ((f_X7_next zs bb bn v2_8) &&& (v2_8 ^^^ (-1 : Int32))))]) hx hb dX7_findSoonest_96 hl (k := 6) rfl (nI_1 i34) (by decide) rfl (fun ls hl => ?_)
                  refine lv_goto (tgt := 34) hx hb dX7_findSoonest_99 (by decide) ?_
                  exact ih34 (i34 + 1) (nI i34) (by omega) (by first | exact hb5 | exact Or.inr (vp_in_nI (by omega) (by decide))) hf _ _ ls hP hD hS (lv_sub hl [2, 3, 4, 5, 6, 1, 0] rfl)
        exact L34 12 0 (-9) (by omega) (Or.inl (by decide)) hbst _ _ ls hP hD hS (lv_sub hl [3, 4, 5, 6, 2, 1, 0] rfl)
  exact L8 13 (f_X7_fewestOf zs bb bn) 0 zn  Rg_few (few_F hR).2 (by omega) (Nat.zero_le _) hf _ _ ls hP hD hS (lv_sub hl [2, 3, 1, 0] rfl)
