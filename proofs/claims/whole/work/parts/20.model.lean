theorem Rg_shr {x : Int32} (h : Rg x) (hx : ¬ x ≤ 0) : Rg (x >>> ((1 : Int32) &&& 31)) ∧ (x >>> ((1 : Int32) &&& 31)).toNatClampNeg < x.toNatClampNeg := by
  obtain ⟨j, hj, rfl⟩ := Rg_nI h
  have h0 : 0 < j := by
    rcases Nat.eq_zero_or_pos j with e | e
    · subst e; exact absurd (by decide) hx
    · exact e
  rw [pk_shrN (by omega) _ 1 (by decide), nI_clamp (by omega), nI_clamp (by omega)]
  exact ⟨Rg_of (by omega), by omega⟩
theorem vp_in_c7 {v : Int32} (h1 : ¬ v ≤ 0) (h2 : ¬ nI 7 ≤ v) : vp_in v 7 := by
  refine vp_in_c (by decide) (fun h => h1 ?_) h2
  exact Int32.le_of_lt h
def f_X7_bits_4  : Nat → Int32 → Int32 → Int32
  | 0, _, _ => default
  | k4 + 1, v1_4, v2_4 => (if v2_4 ≤ 0 then v1_4 else f_X7_bits_4 k4 (v1_4 + (v2_4 &&& (1 : Int32))) (v2_4 >>> ((1 : Int32) &&& 31)))
theorem f_X7_bits_4_z  (v1_4 : Int32) (v2_4 : Int32) : f_X7_bits_4 0 v1_4 v2_4 = default := rfl
theorem f_X7_bits_4_s  (k4 : Nat) (v1_4 : Int32) (v2_4 : Int32) : f_X7_bits_4 (k4 + 1) v1_4 v2_4 = (if v2_4 ≤ 0 then v1_4 else f_X7_bits_4 k4 (v1_4 + (v2_4 &&& (1 : Int32))) (v2_4 >>> ((1 : Int32) &&& 31))) := rfl
def f_X7_bits (bx : Int32) : Int32 := (f_X7_bits_4 4096 0 bx)
set_option maxHeartbeats 4000000 in
set_option maxRecDepth 100000 in
theorem k_X7_bits (l : Launch) (G : wG) (bx : Int32) (hbx : Rg bx) : CT l G yX7_bits cX7_bits 3 (some .int) ({ frames := 0, cells := 0, slots := 0, locals := 0 }) [.int bx] [] (fun _ => []) (fun u => some (.int u)) (f_X7_bits bx) := by
  obtain ⟨R, hf⟩ : ∃ R, f_X7_bits bx = R := ⟨_, rfl⟩
  rw [hf]
  refine CT.mkI RX7 (by decide +kernel) rfl (Nat.le_of_ble_eq_true rfl) ?_
  intro p e s m args below meth c A Q ls hx hb hml hown hK hP hD hS hA hret hl
  have hl : lv_has ls 3 [(0, .int bx)] := hl
  rw [f_X7_bits] at hf
  refine lv_iconst (v := 0) hx hb dX7_bits_0 (by decide) ?_
  refine lv_istore_n (lv' := [(1, .int 0), (0, .int bx)]) hx hb dX7_bits_1 rfl hl (by decide) rfl (fun ls hl => ?_)
  refine lv_iload_n hx hb dX7_bits_2 rfl (lv_at hl 1 rfl) ?_
  refine lv_istore_n (lv' := [(2, .int bx), (1, .int 0), (0, .int bx)]) hx hb dX7_bits_3 rfl hl (by decide) rfl (fun ls hl => ?_)
  have L4 : ∀ (k4 : Nat) (v1_4 : Int32) (v2_4 : Int32), (Rg v2_4) → (v2_4.toNatClampNeg < k4) → f_X7_bits_4 k4 v1_4 v2_4 = R → ∀ (H : Heap) (locs : List Loc) (ls : Array Slot), va_P G.1 wcl [] H → va_D A [] → va_S A s.heap H locs → lv_has ls 3 [(1, .int v1_4), (2, .int v2_4)] → W p l e ({ frames := 0, cells := 0, slots := 0, locals := 0 }) s m args below meth c H locs 0 0 Q (F0 m 4 ls []) := by
    intro k4
    induction k4 with
    | zero =>
      intro v1_4 v2_4  h1 h2 hf _ _ ls hP hD hS hl
      exact absurd h2 (Nat.not_lt_zero _)
    | succ k4 ih4 =>
      intro v1_4 v2_4  h1 h2 hf _ _ ls hP hD hS hl
      rw [f_X7_bits_4_s] at hf
      refine lv_iload_n hx hb dX7_bits_4 rfl (lv_at hl 1 rfl) ?_
      refine lv_if_le (tgt := 21) hx hb dX7_bits_5 (by decide) (fun c1 => ?_) (fun c1 => ?_)
      · have hf := (if_pos c1).symm.trans hf
        refine lv_iload_n hx hb dX7_bits_21 rfl (lv_at hl 0 rfl) ?_
        exact hret v1_4 dX7_bits_22 rfl hf rfl hP hS
      · have hf := (if_neg c1).symm.trans hf
        refine lv_iload_n hx hb dX7_bits_8 rfl (lv_at hl 0 rfl) ?_
        refine lv_iload_n hx hb dX7_bits_9 rfl (lv_at hl 1 rfl) ?_
        refine lv_iconst (v := 1) hx hb dX7_bits_10 (by decide) ?_
        refine lv_iand hx hb dX7_bits_11 ?_
        refine lv_iadd hx hb dX7_bits_12 ?_
        refine lv_istore_n (lv' := [(1, .int (v1_4 + (v2_4 &&& (1 : Int32)))), (2, .int v2_4)]) hx hb dX7_bits_13 rfl hl (by decide) rfl (fun ls hl => ?_)
        refine lv_iload_n hx hb dX7_bits_14 rfl (lv_at hl 1 rfl) ?_
        refine lv_iconst (v := 1) hx hb dX7_bits_15 (by decide) ?_
        refine lv_ishr hx hb dX7_bits_16 ?_
        refine lv_istore_n (lv' := [(2, .int (v2_4 >>> ((1 : Int32) &&& 31))), (1, .int (v1_4 + (v2_4 &&& (1 : Int32))))]) hx hb dX7_bits_17 rfl hl (by decide) rfl (fun ls hl => ?_)
        refine lv_goto (tgt := 4) hx hb dX7_bits_18 (by decide) ?_
        exact ih4 (v1_4 + (v2_4 &&& (1 : Int32))) (v2_4 >>> ((1 : Int32) &&& 31))  (Rg_shr h1 (by assumption)).1 (Nat.lt_of_lt_of_le (Rg_shr h1 (by assumption)).2 (Nat.le_of_lt_succ h2)) hf _ _ ls hP hD hS (lv_sub hl [1, 0] rfl)
  exact L4 4096 0 bx  hbx (clamp_lt hbx) hf _ _ ls hP hD hS (lv_sub hl [1, 0] rfl)
def f_X7_isIn (vx : Int32) (nx : Int32) : Int32 := (if vx < 0 then 0 else (if nx ≤ vx then 0 else 1))
set_option maxHeartbeats 4000000 in
set_option maxRecDepth 100000 in
theorem k_X7_isIn (l : Launch) (G : wG) (vx : Int32) (nx : Int32)  : CT l G yX7_isIn cX7_isIn 2 (some .boolean) ({ frames := 0, cells := 0, slots := 0, locals := 0 }) [.int vx, .int nx] [] (fun _ => []) (fun u => some (.int u)) (f_X7_isIn vx nx) := by
  obtain ⟨R, hf⟩ : ∃ R, f_X7_isIn vx nx = R := ⟨_, rfl⟩
  rw [hf]
  refine CT.mkI RX7 (by decide +kernel) rfl (Nat.le_of_ble_eq_true rfl) ?_
  intro p e s m args below meth c A Q ls hx hb hml hown hK hP hD hS hA hret hl
  have hl : lv_has ls 2 [(0, .int vx), (1, .int nx)] := hl
  rw [f_X7_isIn] at hf
  refine lv_iload_n hx hb dX7_isIn_0 rfl (lv_at hl 0 rfl) ?_
  refine lv_if_lt (tgt := 13) hx hb dX7_isIn_1 (by decide) (fun c1 => ?_) (fun c1 => ?_)
  · have hf := (if_pos c1).symm.trans hf
    refine lv_iconst (v := 0) hx hb dX7_isIn_13 (by decide) ?_
    exact hret 0 dX7_isIn_14 rfl hf rfl hP hS
  · have hf := (if_neg c1).symm.trans hf
    refine lv_iload_n hx hb dX7_isIn_4 rfl (lv_at hl 0 rfl) ?_
    refine lv_iload_n hx hb dX7_isIn_5 rfl (lv_at hl 1 rfl) ?_
    refine lv_icmp_ge (tgt := 13) hx hb dX7_isIn_6 (by decide) (fun c2 => ?_) (fun c2 => ?_)
    · have hf := (if_pos c2).symm.trans hf
      refine lv_iconst (v := 0) hx hb dX7_isIn_13 (by decide) ?_
      exact hret 0 dX7_isIn_14 rfl hf rfl hP hS
    · have hf := (if_neg c2).symm.trans hf
      refine lv_iconst (v := 1) hx hb dX7_isIn_9 (by decide) ?_
      refine lv_goto (tgt := 14) hx hb dX7_isIn_10 (by decide) ?_
      exact hret 1 dX7_isIn_14 rfl hf rfl hP hS
def f_X7_within (vx : Int32) (lx : Int32) (gx : Int32) : Int32 := (if lx ≤ vx then (if vx ≤ gx then 0 else (-6)) else (-4))
set_option maxHeartbeats 4000000 in
set_option maxRecDepth 100000 in
theorem k_X7_within (l : Launch) (G : wG) (vx : Int32) (lx : Int32) (gx : Int32)  : CT l G yX7_within cX7_within 3 (some .int) ({ frames := 0, cells := 0, slots := 0, locals := 0 }) [.int vx, .int lx, .int gx] [] (fun _ => []) (fun u => some (.int u)) (f_X7_within vx lx gx) := by
  obtain ⟨R, hf⟩ : ∃ R, f_X7_within vx lx gx = R := ⟨_, rfl⟩
  rw [hf]
  refine CT.mkI RX7 (by decide +kernel) rfl (Nat.le_of_ble_eq_true rfl) ?_
  intro p e s m args below meth c A Q ls hx hb hml hown hK hP hD hS hA hret hl
  have hl : lv_has ls 3 [(0, .int vx), (1, .int lx), (2, .int gx)] := hl
  rw [f_X7_within] at hf
  refine lv_iload_n hx hb dX7_within_0 rfl (lv_at hl 0 rfl) ?_
  refine lv_iload_n hx hb dX7_within_1 rfl (lv_at hl 1 rfl) ?_
  refine lv_icmp_ge (tgt := 10) hx hb dX7_within_2 (by decide) (fun c1 => ?_) (fun c1 => ?_)
  · have hf := (if_pos c1).symm.trans hf
    refine lv_iload_n hx hb dX7_within_10 rfl (lv_at hl 0 rfl) ?_
    refine lv_iload_n hx hb dX7_within_11 rfl (lv_at hl 2 rfl) ?_
    refine lv_icmp_le (tgt := 20) hx hb dX7_within_12 (by decide) (fun c2 => ?_) (fun c2 => ?_)
    · have hf := (if_pos c2).symm.trans hf
      refine lv_iconst (v := 0) hx hb dX7_within_20 (by decide) ?_
      exact hret 0 dX7_within_21 rfl hf rfl hP hS
    · have hf := (if_neg c2).symm.trans hf
      refine lv_bipush (v := -6) hx hb dX7_within_15 (by decide) ?_
      refine lv_goto (tgt := 21) hx hb dX7_within_17 (by decide) ?_
      exact hret (-6) dX7_within_21 rfl hf rfl hP hS
  · have hf := (if_neg c1).symm.trans hf
    refine lv_bipush (v := -4) hx hb dX7_within_5 (by decide) ?_
    refine lv_goto (tgt := 21) hx hb dX7_within_7 (by decide) ?_
    exact hret (-4) dX7_within_21 rfl hf rfl hP hS
def f_X7_isBook (bo : Int32) : Int32 := f_X7_isIn bo 2
set_option maxHeartbeats 4000000 in
set_option maxRecDepth 100000 in
theorem k_X7_isBook (l : Launch) (G : wG) (bo : Int32)  : CT l G yX7_isBook cX7_isBook 1 (some .boolean) ({ frames := 1, cells := 0, slots := 0, locals := 21 }) [.int bo] [] (fun _ => []) (fun u => some (.int u)) (f_X7_isBook bo) := by
  obtain ⟨R, hf⟩ : ∃ R, f_X7_isBook bo = R := ⟨_, rfl⟩
  rw [hf]
  refine CT.mkI RX7 (by decide +kernel) rfl (Nat.le_of_ble_eq_true rfl) ?_
  intro p e s m args below meth c A Q ls hx hb hml hown hK hP hD hS hA hret hl
  have hl : lv_has ls 1 [(0, .int bo)] := hl
  rw [f_X7_isBook] at hf
  refine lv_iload_n hx hb dX7_isBook_0 rfl (lv_at hl 0 rfl) ?_
  refine lv_iconst (v := 2) hx hb dX7_isBook_1 (by decide) ?_
  refine cl_S (ws' := []) (v := (some (.int (f_X7_isIn bo 2)))) (st1 := [.int (f_X7_isIn bo 2)]) (rest := []) (As := [.int bo, .int 2]) [] hx hb hml hown hK (k_X7_isIn l G bo 2 ) (mf_X7_isIn hK.2) (kw_731 hK.2) (kw_730 hK.2) ⟨rfl, rfl, Nat.le_of_ble_eq_true rfl, Nat.le_of_ble_eq_true rfl⟩ rfl hP hD hS hA hl (Nat.le_of_ble_eq_true rfl) rfl ⟨Nat.le_of_ble_eq_true rfl, Nat.le_of_ble_eq_true rfl⟩ rfl dX7_isBook_2 rfl rfl rfl rfl rfl rfl (fun H locs hP hD hS => ?_)
  exact hret (f_X7_isIn bo 2) dX7_isBook_5 (by unfold f_X7_isIn; split <;> first | rfl | (split <;> rfl)) hf rfl hP hS
def f_X7_refuse (zf : Nat → Int32) (co : Int32) : Int32 × (Nat → Int32) := (co, upd zf (-co).toNatClampNeg ((zf (-co).toNatClampNeg) + (1 : Int32)))
set_option maxHeartbeats 4000000 in
set_option maxRecDepth 100000 in
theorem k_X7_refuse (l : Launch) (G : wG) (mO : Nat) (mA : Nat) (mS : Nat) (mI : Nat) (mV : Nat) (mT : Nat) (mR : Nat) (mW : Nat) (mN : Nat) (me : Int32) (mz : Nat) (ma : Nat) (mr : Nat) (zf : Nat → Int32) (co : Int32) (hco : vp_in (-co) 7) : CT l G yX7_refuse cX7_refuse 2 (some .int) ({ frames := 0, cells := 0, slots := 0, locals := 0 }) [.ref mO, .int co] [(mO, .inr (7, [.ref mA, .ref mS, .ref mI, .ref mV, .int me, .ref mT, .ref mR, .int (nI mz), .int (nI ma), .ref mW, .int (nI mr), .ref mN])), (mA, .inl (G.2.1, 7, .inl zf))] (fun u => [(mO, .inr (7, [.ref mA, .ref mS, .ref mI, .ref mV, .int me, .ref mT, .ref mR, .int (nI mz), .int (nI ma), .ref mW, .int (nI mr), .ref mN])), (mA, .inl (G.2.1, 7, .inl u.2))]) (fun u => some (.int u.1)) (f_X7_refuse zf co) := by
  obtain ⟨R, hf⟩ : ∃ R, f_X7_refuse zf co = R := ⟨_, rfl⟩
  rw [hf]
  refine CT.mkI RX7 (by decide +kernel) rfl (Nat.le_of_ble_eq_true rfl) ?_
  intro p e s m args below meth c A Q ls hx hb hml hown hK hP hD hS hA hret hl
  have hl : lv_has ls 2 [(0, .ref mO), (1, .int co)] := hl
  rw [f_X7_refuse] at hf
  refine lv_aload_n hx hb dX7_refuse_0 rfl (lv_at hl 0 rfl) ?_
  refine va_get (D := G.1) (ci := 7) (v := .ref mA) (C := RX7) (T := TX7) (N := 12) hx hb (ku_X7 hK.2) (fun _ h9 => h9) hown hK.1 hP 0 rfl rfl 0 (by decide) (kw_677 hK.2) (fun _ h9 => h9) rfl dX7_refuse_1 ?_
  refine lv_iload_n hx hb dX7_refuse_4 rfl (lv_at hl 1 rfl) ?_
  refine lv_ineg hx hb dX7_refuse_5 ?_
  refine lv_dup2_11 hx hb dX7_refuse_6 rfl rfl ?_
  refine va_iald hx hb hK.1 hP 1 0 rfl rfl hco dX7_refuse_7 ?_
  refine lv_iconst (v := 1) hx hb dX7_refuse_8 (by decide) ?_
  refine lv_iadd hx hb dX7_refuse_9 ?_
  refine va_iast hx hb hK.1 hP hD hS 1 0 rfl rfl hco dX7_refuse_10 (fun H locs hP hD hS => ?_)
  have hP : va_P G.1 wcl [(mO, .inr (7, [.ref mA, .ref mS, .ref mI, .ref mV, .int me, .ref mT, .ref mR, .int (nI mz), .int (nI ma), .ref mW, .int (nI mr), .ref mN])), (mA, .inl (G.2.1, 7, .inl (upd zf (-co).toNatClampNeg ((zf (-co).toNatClampNeg) + (1 : Int32)))))] H := hP
  have hD : va_D A [(mO, .inr (7, [.ref mA, .ref mS, .ref mI, .ref mV, .int me, .ref mT, .ref mR, .int (nI mz), .int (nI ma), .ref mW, .int (nI mr), .ref mN])), (mA, .inl (G.2.1, 7, .inl (upd zf (-co).toNatClampNeg ((zf (-co).toNatClampNeg) + (1 : Int32)))))] := hD
  refine lv_iload_n hx hb dX7_refuse_11 rfl (lv_at hl 1 rfl) ?_
  exact hret (co, upd zf (-co).toNatClampNeg ((zf (-co).toNatClampNeg) + (1 : Int32))) dX7_refuse_12 rfl hf rfl hP hS
def f_X7_get (zs : Nat → Int32) (bb : Nat) (tt : Nat) (kk : Nat) : Int32 := zs (80 * bb + (4 * tt) + kk)
set_option maxHeartbeats 4000000 in
set_option maxRecDepth 100000 in
theorem k_X7_get (l : Launch) (G : wG) (mO : Nat) (mA : Nat) (mS : Nat) (mI : Nat) (mV : Nat) (mT : Nat) (mR : Nat) (mW : Nat) (mN : Nat) (me : Int32) (mz : Nat) (ma : Nat) (mr : Nat) (zs : Nat → Int32) (bb : Nat) (tt : Nat) (kk : Nat) (hbb : bb < 2) (htt : tt < 20) (hkk : kk < 4) : CT l G yX7_get cX7_get 4 (some .int) ({ frames := 0, cells := 0, slots := 0, locals := 0 }) [.ref mO, .int (nI bb), .int (nI tt), .int (nI kk)] [(mO, .inr (7, [.ref mA, .ref mS, .ref mI, .ref mV, .int me, .ref mT, .ref mR, .int (nI mz), .int (nI ma), .ref mW, .int (nI mr), .ref mN])), (mS, .inl (G.2.1, 259, .inl zs))] (fun _ => [(mO, .inr (7, [.ref mA, .ref mS, .ref mI, .ref mV, .int me, .ref mT, .ref mR, .int (nI mz), .int (nI ma), .ref mW, .int (nI mr), .ref mN])), (mS, .inl (G.2.1, 259, .inl zs))]) (fun u => some (.int u)) (f_X7_get zs bb tt kk) := by
  obtain ⟨R, hf⟩ : ∃ R, f_X7_get zs bb tt kk = R := ⟨_, rfl⟩
  rw [hf]
  refine CT.mkI RX7 (by decide +kernel) rfl (Nat.le_of_ble_eq_true rfl) ?_
  intro p e s m args below meth c A Q ls hx hb hml hown hK hP hD hS hA hret hl
  have hl : lv_has ls 4 [(0, .ref mO), (1, .int (nI bb)), (2, .int (nI tt)), (3, .int (nI kk))] := hl
  rw [f_X7_get] at hf
  refine lv_aload_n hx hb dX7_get_0 rfl (lv_at hl 0 rfl) ?_
  refine va_get (D := G.1) (ci := 7) (v := .ref mS) (C := RX7) (T := TX7) (N := 12) hx hb (ku_X7 hK.2) (fun _ h9 => h9) hown hK.1 hP 0 rfl rfl 1 (by decide) (kw_678 hK.2) (fun _ h9 => h9) rfl dX7_get_1 ?_
  refine lv_bipush (v := 80) hx hb dX7_get_4 (by decide) ?_
  refine lv_iload_n hx hb dX7_get_6 rfl (lv_at hl 1 rfl) ?_
  refine lv_imul hx hb dX7_get_7 ?_
  refine ww_e (nI_mulE (a := 80) (b := bb) rfl rfl) ?_
  refine lv_iconst (v := 4) hx hb dX7_get_8 (by decide) ?_
  refine lv_iload_n hx hb dX7_get_9 rfl (lv_at hl 2 rfl) ?_
  refine lv_imul hx hb dX7_get_10 ?_
  refine ww_e (nI_mulE (a := 4) (b := tt) rfl rfl) ?_
  refine lv_iadd hx hb dX7_get_11 ?_
  refine ww_e (nI_addE (a := 80 * bb) (b := 4 * tt) rfl rfl) ?_
  refine lv_iload_n hx hb dX7_get_12 rfl (lv_at hl 3 rfl) ?_
  refine lv_iadd hx hb dX7_get_13 ?_
  refine ww_e (nI_addE (a := 80 * bb + (4 * tt)) (b := kk) rfl rfl) ?_
  refine ww_ild (j := 80 * bb + (4 * tt) + kk) hx hb hK.1 hP 1 0 rfl rfl (by omega) (by omega) dX7_get_14 ?_
  exact hret (zs (80 * bb + (4 * tt) + kk)) dX7_get_15 rfl hf rfl hP hS
def f_X7_kindOf (co : Int32) : Int32 := (if co = 87 then 0 else (if co = 80 then 1 else (if co = 75 then 2 else (if co = 76 then 3 else (if co = 83 then 4 else (if co = 82 then 5 else (-9)))))))
set_option maxHeartbeats 4000000 in
set_option maxRecDepth 100000 in
theorem k_X7_kindOf (l : Launch) (G : wG) (co : Int32)  : CT l G yX7_kindOf cX7_kindOf 1 (some .int) ({ frames := 0, cells := 0, slots := 0, locals := 0 }) [.int co] [] (fun _ => []) (fun u => some (.int u)) (f_X7_kindOf co) := by
  obtain ⟨R, hf⟩ : ∃ R, f_X7_kindOf co = R := ⟨_, rfl⟩
  rw [hf]
  refine CT.mkI RX7 (by decide +kernel) rfl (Nat.le_of_ble_eq_true rfl) ?_
  intro p e s m args below meth c A Q ls hx hb hml hown hK hP hD hS hA hret hl
  have hl : lv_has ls 1 [(0, .int co)] := hl
  rw [f_X7_kindOf] at hf
  refine lv_iload_n hx hb dX7_kindOf_0 rfl (lv_at hl 0 rfl) ?_
  refine lv_bipush (v := 87) hx hb dX7_kindOf_1 (by decide) ?_
  refine lv_icmp_ne (tgt := 10) hx hb dX7_kindOf_3 (by decide) (fun c1 => ?_) (fun c1 => ?_)
  · have hf := (if_neg c1).symm.trans hf
    refine lv_iload_n hx hb dX7_kindOf_10 rfl (lv_at hl 0 rfl) ?_
    refine lv_bipush (v := 80) hx hb dX7_kindOf_11 (by decide) ?_
    refine lv_icmp_ne (tgt := 20) hx hb dX7_kindOf_13 (by decide) (fun c2 => ?_) (fun c2 => ?_)
    · have hf := (if_neg c2).symm.trans hf
      refine lv_iload_n hx hb dX7_kindOf_20 rfl (lv_at hl 0 rfl) ?_
      refine lv_bipush (v := 75) hx hb dX7_kindOf_21 (by decide) ?_
      refine lv_icmp_ne (tgt := 30) hx hb dX7_kindOf_23 (by decide) (fun c3 => ?_) (fun c3 => ?_)
      · have hf := (if_neg c3).symm.trans hf
        refine lv_iload_n hx hb dX7_kindOf_30 rfl (lv_at hl 0 rfl) ?_
        refine lv_bipush (v := 76) hx hb dX7_kindOf_31 (by decide) ?_
        refine lv_icmp_ne (tgt := 40) hx hb dX7_kindOf_33 (by decide) (fun c4 => ?_) (fun c4 => ?_)
        · have hf := (if_neg c4).symm.trans hf
          refine lv_iload_n hx hb dX7_kindOf_40 rfl (lv_at hl 0 rfl) ?_
          refine lv_bipush (v := 83) hx hb dX7_kindOf_41 (by decide) ?_
          refine lv_icmp_ne (tgt := 50) hx hb dX7_kindOf_43 (by decide) (fun c5 => ?_) (fun c5 => ?_)
          · have hf := (if_neg c5).symm.trans hf
            refine lv_iload_n hx hb dX7_kindOf_50 rfl (lv_at hl 0 rfl) ?_
            refine lv_bipush (v := 82) hx hb dX7_kindOf_51 (by decide) ?_
            refine lv_icmp_ne (tgt := 60) hx hb dX7_kindOf_53 (by decide) (fun c6 => ?_) (fun c6 => ?_)
            · have hf := (if_neg c6).symm.trans hf
              refine lv_bipush (v := -9) hx hb dX7_kindOf_60 (by decide) ?_
              exact hret (-9) dX7_kindOf_62 rfl hf rfl hP hS
            · have hf := (if_pos c6).symm.trans hf
              refine lv_iconst (v := 5) hx hb dX7_kindOf_56 (by decide) ?_
              refine lv_goto (tgt := 62) hx hb dX7_kindOf_57 (by decide) ?_
              exact hret 5 dX7_kindOf_62 rfl hf rfl hP hS
          · have hf := (if_pos c5).symm.trans hf
            refine lv_iconst (v := 4) hx hb dX7_kindOf_46 (by decide) ?_
            refine lv_goto (tgt := 62) hx hb dX7_kindOf_47 (by decide) ?_
            exact hret 4 dX7_kindOf_62 rfl hf rfl hP hS
        · have hf := (if_pos c4).symm.trans hf
          refine lv_iconst (v := 3) hx hb dX7_kindOf_36 (by decide) ?_
          refine lv_goto (tgt := 62) hx hb dX7_kindOf_37 (by decide) ?_
          exact hret 3 dX7_kindOf_62 rfl hf rfl hP hS
      · have hf := (if_pos c3).symm.trans hf
        refine lv_iconst (v := 2) hx hb dX7_kindOf_26 (by decide) ?_
        refine lv_goto (tgt := 62) hx hb dX7_kindOf_27 (by decide) ?_
        exact hret 2 dX7_kindOf_62 rfl hf rfl hP hS
    · have hf := (if_pos c2).symm.trans hf
      refine lv_iconst (v := 1) hx hb dX7_kindOf_16 (by decide) ?_
      refine lv_goto (tgt := 62) hx hb dX7_kindOf_17 (by decide) ?_
      exact hret 1 dX7_kindOf_62 rfl hf rfl hP hS
  · have hf := (if_pos c1).symm.trans hf
    refine lv_iconst (v := 0) hx hb dX7_kindOf_6 (by decide) ?_
    refine lv_goto (tgt := 62) hx hb dX7_kindOf_7 (by decide) ?_
    exact hret 0 dX7_kindOf_62 rfl hf rfl hP hS
def f_X7_tellingsOf_5 (zs : Nat → Int32) (bb : Nat) (wo : Int32) : Nat → Nat → Int32 → Int32
  | 0, i5, v3_5 => v3_5
  | k5 + 1, i5, v3_5 => (if (f_X7_get zs bb i5 0) = wo then f_X7_tellingsOf_5 zs bb wo k5 (i5 + 1) (v3_5 + (1 : Int32)) else f_X7_tellingsOf_5 zs bb wo k5 (i5 + 1) (v3_5 + (0 : Int32)))
theorem f_X7_tellingsOf_5_z (zs : Nat → Int32) (bb : Nat) (wo : Int32) (i5 : Nat) (v3_5 : Int32) : f_X7_tellingsOf_5 zs bb wo 0 i5 v3_5 = v3_5 := rfl
theorem f_X7_tellingsOf_5_s (zs : Nat → Int32) (bb : Nat) (wo : Int32) (k5 : Nat) (i5 : Nat) (v3_5 : Int32) : f_X7_tellingsOf_5 zs bb wo (k5 + 1) i5 v3_5 = (if (f_X7_get zs bb i5 0) = wo then f_X7_tellingsOf_5 zs bb wo k5 (i5 + 1) (v3_5 + (1 : Int32)) else f_X7_tellingsOf_5 zs bb wo k5 (i5 + 1) (v3_5 + (0 : Int32))) := rfl
def f_X7_tellingsOf (zs : Nat → Int32) (bb : Nat) (bn : Nat) (wo : Int32) : Int32 := (f_X7_tellingsOf_5 zs bb wo bn 0 0)
set_option maxHeartbeats 4000000 in
set_option maxRecDepth 100000 in
theorem k_X7_tellingsOf (l : Launch) (G : wG) (mO : Nat) (mA : Nat) (mS : Nat) (mI : Nat) (mV : Nat) (mT : Nat) (mR : Nat) (mW : Nat) (mN : Nat) (me : Int32) (mz : Nat) (ma : Nat) (mr : Nat) (zs : Nat → Int32) (bb : Nat) (bn : Nat) (wo : Int32) (hbb : bb < 2) (hbn : zs (160 + bb) = nI bn) (hb2 : bn ≤ 20) : CT l G yX7_tellingsOf cX7_tellingsOf 5 (some .int) ({ frames := 1, cells := 0, slots := 0, locals := 23 }) [.ref mO, .int (nI bb), .int wo] [(mO, .inr (7, [.ref mA, .ref mS, .ref mI, .ref mV, .int me, .ref mT, .ref mR, .int (nI mz), .int (nI ma), .ref mW, .int (nI mr), .ref mN])), (mS, .inl (G.2.1, 259, .inl zs))] (fun _ => [(mO, .inr (7, [.ref mA, .ref mS, .ref mI, .ref mV, .int me, .ref mT, .ref mR, .int (nI mz), .int (nI ma), .ref mW, .int (nI mr), .ref mN])), (mS, .inl (G.2.1, 259, .inl zs))]) (fun u => some (.int u)) (f_X7_tellingsOf zs bb bn wo) := by
  obtain ⟨R, hf⟩ : ∃ R, f_X7_tellingsOf zs bb bn wo = R := ⟨_, rfl⟩
  rw [hf]
  refine CT.mkI RX7 (by decide +kernel) rfl (Nat.le_of_ble_eq_true rfl) ?_
  intro p e s m args below meth c A Q ls hx hb hml hown hK hP hD hS hA hret hl
  have hl : lv_has ls 5 [(0, .ref mO), (1, .int (nI bb)), (2, .int wo)] := hl
  rw [f_X7_tellingsOf] at hf
  refine lv_iconst (v := 0) hx hb dX7_tellingsOf_0 (by decide) ?_
  refine lv_istore_n (lv' := [(3, .int 0), (0, .ref mO), (1, .int (nI bb)), (2, .int wo)]) hx hb dX7_tellingsOf_1 rfl hl (by decide) rfl (fun ls hl => ?_)
  refine lv_iconst (v := 0) hx hb dX7_tellingsOf_2 (by decide) ?_
  refine lv_istore (lv' := [(4, .int 0), (3, .int 0), (0, .ref mO), (1, .int (nI bb)), (2, .int wo)]) hx hb dX7_tellingsOf_3 hl (by decide) rfl (fun ls hl => ?_)
  have L5 : ∀ (k5 : Nat) (i5 : Nat) (v3_5 : Int32), k5 + i5 = bn → f_X7_tellingsOf_5 zs bb wo k5 i5 v3_5 = R → ∀ (H : Heap) (locs : List Loc) (ls : Array Slot), va_P G.1 wcl [(mO, .inr (7, [.ref mA, .ref mS, .ref mI, .ref mV, .int me, .ref mT, .ref mR, .int (nI mz), .int (nI ma), .ref mW, .int (nI mr), .ref mN])), (mS, .inl (G.2.1, 259, .inl zs))] H → va_D A [(mO, .inr (7, [.ref mA, .ref mS, .ref mI, .ref mV, .int me, .ref mT, .ref mR, .int (nI mz), .int (nI ma), .ref mW, .int (nI mr), .ref mN])), (mS, .inl (G.2.1, 259, .inl zs))] → va_S A s.heap H locs → lv_has ls 5 [(0, .ref mO), (1, .int (nI bb)), (2, .int wo), (3, .int v3_5), (4, .int (nI i5))] → W p l e ({ frames := 1, cells := 0, slots := 0, locals := 23 }) s m args below meth c H locs 0 0 Q (F0 m 5 ls []) := by
    intro k5
    induction k5 with
    | zero =>
      intro i5 v3_5 hi5  hf _ _ ls hP hD hS hl
      rw [f_X7_tellingsOf_5_z] at hf
      refine lv_iload hx hb dX7_tellingsOf_5 (lv_at hl 4 rfl) ?_
      refine lv_aload_n hx hb dX7_tellingsOf_7 rfl (lv_at hl 0 rfl) ?_
      refine va_get (D := G.1) (ci := 7) (v := .ref mS) (C := RX7) (T := TX7) (N := 12) hx hb (ku_X7 hK.2) (fun _ h9 => h9) hown hK.1 hP 0 rfl rfl 1 (by decide) (kw_678 hK.2) (fun _ h9 => h9) rfl dX7_tellingsOf_8 ?_
      refine lv_sipush (v := 160) hx hb dX7_tellingsOf_11 (by decide) ?_
      refine lv_iload_n hx hb dX7_tellingsOf_14 rfl (lv_at hl 1 rfl) ?_
      refine lv_iadd hx hb dX7_tellingsOf_15 ?_
      refine ww_e (nI_addE (a := 160) (b := bb) rfl rfl) ?_
      refine ww_ild (j := 160 + bb) hx hb hK.1 hP 1 0 rfl rfl (by omega) (by omega) dX7_tellingsOf_16 ?_
      refine ww_e hbn ?_
      refine lv_icmp_ge (tgt := 46) hx hb dX7_tellingsOf_17 (by decide) (fun _ => ?_) (fun c => absurd (ile (a := bn) (b := i5) rfl rfl (by omega) (by omega) (by omega)) c)
      refine lv_iload_n hx hb dX7_tellingsOf_46 rfl (lv_at hl 3 rfl) ?_
      exact hret v3_5 dX7_tellingsOf_47 rfl hf rfl hP hS
    | succ k5 ih5 =>
      intro i5 v3_5 hi5  hf _ _ ls hP hD hS hl
      rw [f_X7_tellingsOf_5_s] at hf
      refine lv_iload hx hb dX7_tellingsOf_5 (lv_at hl 4 rfl) ?_
      refine lv_aload_n hx hb dX7_tellingsOf_7 rfl (lv_at hl 0 rfl) ?_
      refine va_get (D := G.1) (ci := 7) (v := .ref mS) (C := RX7) (T := TX7) (N := 12) hx hb (ku_X7 hK.2) (fun _ h9 => h9) hown hK.1 hP 0 rfl rfl 1 (by decide) (kw_678 hK.2) (fun _ h9 => h9) rfl dX7_tellingsOf_8 ?_
      refine lv_sipush (v := 160) hx hb dX7_tellingsOf_11 (by decide) ?_
      refine lv_iload_n hx hb dX7_tellingsOf_14 rfl (lv_at hl 1 rfl) ?_
      refine lv_iadd hx hb dX7_tellingsOf_15 ?_
      refine ww_e (nI_addE (a := 160) (b := bb) rfl rfl) ?_
      refine ww_ild (j := 160 + bb) hx hb hK.1 hP 1 0 rfl rfl (by omega) (by omega) dX7_tellingsOf_16 ?_
      refine ww_e hbn ?_
      refine lv_icmp_ge (tgt := 46) hx hb dX7_tellingsOf_17 (by decide) (fun c => absurd c (inle (a := bn) (b := i5) rfl rfl (by omega) (by omega) (by omega))) (fun _ => ?_)
      refine lv_iload_n hx hb dX7_tellingsOf_20 rfl (lv_at hl 3 rfl) ?_
      refine lv_aload_n hx hb dX7_tellingsOf_21 rfl (lv_at hl 0 rfl) ?_
      refine lv_iload_n hx hb dX7_tellingsOf_22 rfl (lv_at hl 1 rfl) ?_
      refine lv_iload hx hb dX7_tellingsOf_23 (lv_at hl 4 rfl) ?_
      refine lv_iconst (v := 0) hx hb dX7_tellingsOf_25 (by decide) ?_
      refine cl_V (q := (RX7, TX7, 12)) (ws' := [(mO, .inr (7, [.ref mA, .ref mS, .ref mI, .ref mV, .int me, .ref mT, .ref mR, .int (nI mz), .int (nI ma), .ref mW, .int (nI mr), .ref mN])), (mS, .inl (G.2.1, 259, .inl zs))]) (v := (some (.int (f_X7_get zs bb i5 0)))) (st1 := [.int (f_X7_get zs bb i5 0), .int v3_5]) (rest := [.int v3_5]) (As := [.int (nI bb), .int (nI i5), .int 0]) [0, 1] 0 7 hx hb hml hown hK (k_X7_get l G mO mA mS mI mV mT mR mW mN me mz ma mr zs bb i5 0 hbb (by omega) (by omega)) (mf_X7_get hK.2) (kw_758 hK.2) (kw_17 hK.2) (kw_756 hK.2) ⟨rfl, rfl, Nat.le_of_ble_eq_true rfl, Nat.le_of_ble_eq_true rfl⟩ rfl hP hD hS hA rfl rfl hl (Nat.le_of_ble_eq_true rfl) rfl ⟨Nat.le_of_ble_eq_true rfl, Nat.le_of_ble_eq_true rfl⟩ rfl dX7_tellingsOf_26 rfl rfl (rpl_fast (by decide) rfl rfl) rfl rfl rfl (fun H locs hP hD hS => ?_)
      refine lv_iload_n hx hb dX7_tellingsOf_29 rfl (lv_at hl 2 rfl) ?_
      refine lv_icmp_ne (tgt := 37) hx hb dX7_tellingsOf_30 (by decide) (fun c1 => ?_) (fun c1 => ?_)
      · have hf := (if_neg c1).symm.trans hf
        refine lv_iconst (v := 0) hx hb dX7_tellingsOf_37 (by decide) ?_
        refine lv_iadd hx hb dX7_tellingsOf_38 ?_
        refine lv_istore_n (lv' := [(3, .int (v3_5 + (0 : Int32))), (0, .ref mO), (1, .int (nI bb)), (2, .int wo), (4, .int (nI i5))]) hx hb dX7_tellingsOf_39 rfl hl (by decide) rfl (fun ls hl => ?_)
        refine lv_iinc (v := nI (i5 + 1)) (lv' := [(4, .int (nI (i5 + 1))), (3, .int (v3_5 + (0 : Int32))), (0, .ref mO), (1, .int (nI bb)), (2, .int wo)]) hx hb dX7_tellingsOf_40 hl (k := 4) rfl (nI_1 i5) (by decide) rfl (fun ls hl => ?_)
        refine lv_goto (tgt := 5) hx hb dX7_tellingsOf_43 (by decide) ?_
        exact ih5 (i5 + 1) (v3_5 + (0 : Int32)) (by omega)  hf _ _ ls hP hD hS (lv_sub hl [2, 3, 4, 1, 0] rfl)
      · have hf := (if_pos c1).symm.trans hf
        refine lv_iconst (v := 1) hx hb dX7_tellingsOf_33 (by decide) ?_
        refine lv_goto (tgt := 38) hx hb dX7_tellingsOf_34 (by decide) ?_
        refine lv_iadd hx hb dX7_tellingsOf_38 ?_
        refine lv_istore_n (lv' := [(3, .int (v3_5 + (1 : Int32))), (0, .ref mO), (1, .int (nI bb)), (2, .int wo), (4, .int (nI i5))]) hx hb dX7_tellingsOf_39 rfl hl (by decide) rfl (fun ls hl => ?_)
        refine lv_iinc (v := nI (i5 + 1)) (lv' := [(4, .int (nI (i5 + 1))), (3, .int (v3_5 + (1 : Int32))), (0, .ref mO), (1, .int (nI bb)), (2, .int wo)]) hx hb dX7_tellingsOf_40 hl (k := 4) rfl (nI_1 i5) (by decide) rfl (fun ls hl => ?_)
        refine lv_goto (tgt := 5) hx hb dX7_tellingsOf_43 (by decide) ?_
        exact ih5 (i5 + 1) (v3_5 + (1 : Int32)) (by omega)  hf _ _ ls hP hD hS (lv_sub hl [2, 3, 4, 1, 0] rfl)
  exact L5 bn 0 0 (by omega)  hf _ _ ls hP hD hS (lv_sub hl [2, 3, 4, 1, 0] rfl)
def f_X7_teaches (zs : Nat → Int32) (bb : Nat) (tt : Nat) (s0 : Int32) : Int32 := (if (f_X7_get zs bb tt 1) = 0 then (if (f_X7_bits ((f_X7_get zs bb tt 2) &&& s0)) = (f_X7_bits (f_X7_get zs bb tt 2)) then 1 else 0) else (if (f_X7_get zs bb tt 1) = 1 then (if ((2 : Int32) * (f_X7_bits ((f_X7_get zs bb tt 2) &&& s0))) ≤ (f_X7_bits (f_X7_get zs bb tt 2)) then 0 else 1) else (if (f_X7_get zs bb tt 1) = 2 then (if ((s0 >>> ((f_X7_get zs bb tt 3) &&& 31)) &&& (1 : Int32)) = 1 then (if (1 : Int32) < (f_X7_bits ((f_X7_get zs bb tt 2) &&& s0)) then 1 else (if (f_X7_bits (f_X7_get zs bb tt 2)) = 1 then 1 else 0)) else 0) else (if (f_X7_get zs bb tt 1) = 3 then (if (f_X7_bits ((f_X7_get zs bb tt 2) &&& s0)) ≤ 0 then 0 else 1) else (if (f_X7_get zs bb tt 1) = 4 then 1 else 0)))))
set_option maxHeartbeats 4000000 in
set_option maxRecDepth 100000 in
theorem k_X7_teaches (l : Launch) (G : wG) (mO : Nat) (mA : Nat) (mS : Nat) (mI : Nat) (mV : Nat) (mT : Nat) (mR : Nat) (mW : Nat) (mN : Nat) (me : Int32) (mz : Nat) (ma : Nat) (mr : Nat) (zs : Nat → Int32) (bb : Nat) (tt : Nat) (s0 : Int32) (hbb : bb < 2) (htt : tt < 20) (hnd : Rg (zs (80 * bb + 4 * tt + 2))) : CT l G yX7_teaches cX7_teaches 6 (some .boolean) ({ frames := 1, cells := 0, slots := 0, locals := 23 }) [.ref mO, .int (nI bb), .int (nI tt), .int s0] [(mO, .inr (7, [.ref mA, .ref mS, .ref mI, .ref mV, .int me, .ref mT, .ref mR, .int (nI mz), .int (nI ma), .ref mW, .int (nI mr), .ref mN])), (mS, .inl (G.2.1, 259, .inl zs))] (fun _ => [(mO, .inr (7, [.ref mA, .ref mS, .ref mI, .ref mV, .int me, .ref mT, .ref mR, .int (nI mz), .int (nI ma), .ref mW, .int (nI mr), .ref mN])), (mS, .inl (G.2.1, 259, .inl zs))]) (fun u => some (.int u)) (f_X7_teaches zs bb tt s0) := by
  obtain ⟨R, hf⟩ : ∃ R, f_X7_teaches zs bb tt s0 = R := ⟨_, rfl⟩
  rw [hf]
  refine CT.mkI RX7 (by decide +kernel) rfl (Nat.le_of_ble_eq_true rfl) ?_
  intro p e s m args below meth c A Q ls hx hb hml hown hK hP hD hS hA hret hl
  have hl : lv_has ls 6 [(0, .ref mO), (1, .int (nI bb)), (2, .int (nI tt)), (3, .int s0)] := hl
  rw [f_X7_teaches] at hf
  refine lv_aload_n hx hb dX7_teaches_0 rfl (lv_at hl 0 rfl) ?_
  refine lv_iload_n hx hb dX7_teaches_1 rfl (lv_at hl 1 rfl) ?_
  refine lv_iload_n hx hb dX7_teaches_2 rfl (lv_at hl 2 rfl) ?_
  refine lv_iconst (v := 2) hx hb dX7_teaches_3 (by decide) ?_
  refine cl_V (q := (RX7, TX7, 12)) (ws' := [(mO, .inr (7, [.ref mA, .ref mS, .ref mI, .ref mV, .int me, .ref mT, .ref mR, .int (nI mz), .int (nI ma), .ref mW, .int (nI mr), .ref mN])), (mS, .inl (G.2.1, 259, .inl zs))]) (v := (some (.int (f_X7_get zs bb tt 2)))) (st1 := [.int (f_X7_get zs bb tt 2)]) (rest := []) (As := [.int (nI bb), .int (nI tt), .int 2]) [0, 1] 0 7 hx hb hml hown hK (k_X7_get l G mO mA mS mI mV mT mR mW mN me mz ma mr zs bb tt 2 hbb htt (by omega)) (mf_X7_get hK.2) (kw_758 hK.2) (kw_17 hK.2) (kw_756 hK.2) ⟨rfl, rfl, Nat.le_of_ble_eq_true rfl, Nat.le_of_ble_eq_true rfl⟩ rfl hP hD hS hA rfl rfl hl (Nat.le_of_ble_eq_true rfl) rfl ⟨Nat.le_of_ble_eq_true rfl, Nat.le_of_ble_eq_true rfl⟩ rfl dX7_teaches_4 rfl rfl (rpl_fast (by decide) rfl rfl) rfl rfl rfl (fun H locs hP hD hS => ?_)
  refine lv_istore (lv' := [(4, .int (f_X7_get zs bb tt 2)), (0, .ref mO), (1, .int (nI bb)), (2, .int (nI tt)), (3, .int s0)]) hx hb dX7_teaches_7 hl (by decide) rfl (fun ls hl => ?_)
  refine lv_iload hx hb dX7_teaches_9 (lv_at hl 0 rfl) ?_
  refine lv_iload_n hx hb dX7_teaches_11 rfl (lv_at hl 4 rfl) ?_
  refine lv_iand hx hb dX7_teaches_12 ?_
  refine cl_S (ws' := [(mO, .inr (7, [.ref mA, .ref mS, .ref mI, .ref mV, .int me, .ref mT, .ref mR, .int (nI mz), .int (nI ma), .ref mW, .int (nI mr), .ref mN])), (mS, .inl (G.2.1, 259, .inl zs))]) (v := (some (.int (f_X7_bits ((f_X7_get zs bb tt 2) &&& s0))))) (st1 := [.int (f_X7_bits ((f_X7_get zs bb tt 2) &&& s0))]) (rest := []) (As := [.int ((f_X7_get zs bb tt 2) &&& s0)]) [] hx hb hml hown hK (k_X7_bits l G ((f_X7_get zs bb tt 2) &&& s0) (by first | exact hnd | exact Rg_and hnd)) (mf_X7_bits hK.2) (kw_792 hK.2) (kw_791 hK.2) ⟨rfl, rfl, Nat.le_of_ble_eq_true rfl, Nat.le_of_ble_eq_true rfl⟩ rfl hP hD hS hA hl (Nat.le_of_ble_eq_true rfl) rfl ⟨Nat.le_of_ble_eq_true rfl, Nat.le_of_ble_eq_true rfl⟩ rfl dX7_teaches_13 rfl rfl rfl rfl rfl rfl (fun H locs hP hD hS => ?_)
  refine lv_istore (lv' := [(5, .int (f_X7_bits ((f_X7_get zs bb tt 2) &&& s0))), (4, .int (f_X7_get zs bb tt 2)), (0, .ref mO), (1, .int (nI bb)), (2, .int (nI tt)), (3, .int s0)]) hx hb dX7_teaches_16 hl (by decide) rfl (fun ls hl => ?_)
  refine lv_aload_n hx hb dX7_teaches_18 rfl (lv_at hl 2 rfl) ?_
  refine lv_iload_n hx hb dX7_teaches_19 rfl (lv_at hl 3 rfl) ?_
  refine lv_iload_n hx hb dX7_teaches_20 rfl (lv_at hl 4 rfl) ?_
  refine lv_iconst (v := 1) hx hb dX7_teaches_21 (by decide) ?_
  refine cl_V (q := (RX7, TX7, 12)) (ws' := [(mO, .inr (7, [.ref mA, .ref mS, .ref mI, .ref mV, .int me, .ref mT, .ref mR, .int (nI mz), .int (nI ma), .ref mW, .int (nI mr), .ref mN])), (mS, .inl (G.2.1, 259, .inl zs))]) (v := (some (.int (f_X7_get zs bb tt 1)))) (st1 := [.int (f_X7_get zs bb tt 1)]) (rest := []) (As := [.int (nI bb), .int (nI tt), .int 1]) [0, 1] 0 7 hx hb hml hown hK (k_X7_get l G mO mA mS mI mV mT mR mW mN me mz ma mr zs bb tt 1 hbb htt (by omega)) (mf_X7_get hK.2) (kw_758 hK.2) (kw_17 hK.2) (kw_756 hK.2) ⟨rfl, rfl, Nat.le_of_ble_eq_true rfl, Nat.le_of_ble_eq_true rfl⟩ rfl hP hD hS hA rfl rfl hl (Nat.le_of_ble_eq_true rfl) rfl ⟨Nat.le_of_ble_eq_true rfl, Nat.le_of_ble_eq_true rfl⟩ rfl dX7_teaches_22 rfl rfl (rpl_fast (by decide) rfl rfl) rfl rfl rfl (fun H locs hP hD hS => ?_)
  by_cases c1 : (f_X7_get zs bb tt 1) = 0
  · have hf := (if_pos c1).symm.trans hf
    refine ww_tsw (tgt := 60) hx hb c1 dX7_teaches_25 (by decide) (by decide) rfl (by decide) ?_
    refine lv_iload hx hb dX7_teaches_60 (lv_at hl 0 rfl) ?_
    refine lv_iload hx hb dX7_teaches_62 (lv_at hl 1 rfl) ?_
    refine cl_S (ws' := [(mO, .inr (7, [.ref mA, .ref mS, .ref mI, .ref mV, .int me, .ref mT, .ref mR, .int (nI mz), .int (nI ma), .ref mW, .int (nI mr), .ref mN])), (mS, .inl (G.2.1, 259, .inl zs))]) (v := (some (.int (f_X7_bits (f_X7_get zs bb tt 2))))) (st1 := [.int (f_X7_bits (f_X7_get zs bb tt 2)), .int (f_X7_bits ((f_X7_get zs bb tt 2) &&& s0))]) (rest := [.int (f_X7_bits ((f_X7_get zs bb tt 2) &&& s0))]) (As := [.int (f_X7_get zs bb tt 2)]) [] hx hb hml hown hK (k_X7_bits l G (f_X7_get zs bb tt 2) (by first | exact hnd | exact Rg_and hnd)) (mf_X7_bits hK.2) (kw_792 hK.2) (kw_791 hK.2) ⟨rfl, rfl, Nat.le_of_ble_eq_true rfl, Nat.le_of_ble_eq_true rfl⟩ rfl hP hD hS hA hl (Nat.le_of_ble_eq_true rfl) rfl ⟨Nat.le_of_ble_eq_true rfl, Nat.le_of_ble_eq_true rfl⟩ rfl dX7_teaches_64 rfl rfl rfl rfl rfl rfl (fun H locs hP hD hS => ?_)
    refine lv_icmp_ne (tgt := 74) hx hb dX7_teaches_67 (by decide) (fun c2 => ?_) (fun c2 => ?_)
    · have hf := (if_neg c2).symm.trans hf
      refine lv_iconst (v := 0) hx hb dX7_teaches_74 (by decide) ?_
      exact hret 0 dX7_teaches_75 rfl hf rfl hP hS
    · have hf := (if_pos c2).symm.trans hf
      refine lv_iconst (v := 1) hx hb dX7_teaches_70 (by decide) ?_
      refine lv_goto (tgt := 75) hx hb dX7_teaches_71 (by decide) ?_
      exact hret 1 dX7_teaches_75 rfl hf rfl hP hS
  · have hf := (if_neg c1).symm.trans hf
    by_cases c3 : (f_X7_get zs bb tt 1) = 1
    · have hf := (if_pos c3).symm.trans hf
      refine ww_tsw (tgt := 76) hx hb c3 dX7_teaches_25 (by decide) (by decide) rfl (by decide) ?_
      refine lv_iconst (v := 2) hx hb dX7_teaches_76 (by decide) ?_
      refine lv_iload hx hb dX7_teaches_77 (lv_at hl 0 rfl) ?_
      refine lv_imul hx hb dX7_teaches_79 ?_
      refine lv_iload hx hb dX7_teaches_80 (lv_at hl 1 rfl) ?_
      refine cl_S (ws' := [(mO, .inr (7, [.ref mA, .ref mS, .ref mI, .ref mV, .int me, .ref mT, .ref mR, .int (nI mz), .int (nI ma), .ref mW, .int (nI mr), .ref mN])), (mS, .inl (G.2.1, 259, .inl zs))]) (v := (some (.int (f_X7_bits (f_X7_get zs bb tt 2))))) (st1 := [.int (f_X7_bits (f_X7_get zs bb tt 2)), .int ((2 : Int32) * (f_X7_bits ((f_X7_get zs bb tt 2) &&& s0)))]) (rest := [.int ((2 : Int32) * (f_X7_bits ((f_X7_get zs bb tt 2) &&& s0)))]) (As := [.int (f_X7_get zs bb tt 2)]) [] hx hb hml hown hK (k_X7_bits l G (f_X7_get zs bb tt 2) (by first | exact hnd | exact Rg_and hnd)) (mf_X7_bits hK.2) (kw_792 hK.2) (kw_791 hK.2) ⟨rfl, rfl, Nat.le_of_ble_eq_true rfl, Nat.le_of_ble_eq_true rfl⟩ rfl hP hD hS hA hl (Nat.le_of_ble_eq_true rfl) rfl ⟨Nat.le_of_ble_eq_true rfl, Nat.le_of_ble_eq_true rfl⟩ rfl dX7_teaches_82 rfl rfl rfl rfl rfl rfl (fun H locs hP hD hS => ?_)
      refine lv_icmp_le (tgt := 92) hx hb dX7_teaches_85 (by decide) (fun c4 => ?_) (fun c4 => ?_)
      · have hf := (if_pos c4).symm.trans hf
        refine lv_iconst (v := 0) hx hb dX7_teaches_92 (by decide) ?_
        exact hret 0 dX7_teaches_93 rfl hf rfl hP hS
      · have hf := (if_neg c4).symm.trans hf
        refine lv_iconst (v := 1) hx hb dX7_teaches_88 (by decide) ?_
        refine lv_goto (tgt := 93) hx hb dX7_teaches_89 (by decide) ?_
        exact hret 1 dX7_teaches_93 rfl hf rfl hP hS
    · have hf := (if_neg c3).symm.trans hf
      by_cases c5 : (f_X7_get zs bb tt 1) = 2
      · have hf := (if_pos c5).symm.trans hf
        refine ww_tsw (tgt := 94) hx hb c5 dX7_teaches_25 (by decide) (by decide) rfl (by decide) ?_
        refine lv_iload_n hx hb dX7_teaches_94 rfl (lv_at hl 5 rfl) ?_
        refine lv_aload_n hx hb dX7_teaches_95 rfl (lv_at hl 2 rfl) ?_
        refine lv_iload_n hx hb dX7_teaches_96 rfl (lv_at hl 3 rfl) ?_
        refine lv_iload_n hx hb dX7_teaches_97 rfl (lv_at hl 4 rfl) ?_
        refine lv_iconst (v := 3) hx hb dX7_teaches_98 (by decide) ?_
        refine cl_V (q := (RX7, TX7, 12)) (ws' := [(mO, .inr (7, [.ref mA, .ref mS, .ref mI, .ref mV, .int me, .ref mT, .ref mR, .int (nI mz), .int (nI ma), .ref mW, .int (nI mr), .ref mN])), (mS, .inl (G.2.1, 259, .inl zs))]) (v := (some (.int (f_X7_get zs bb tt 3)))) (st1 := [.int (f_X7_get zs bb tt 3), .int s0]) (rest := [.int s0]) (As := [.int (nI bb), .int (nI tt), .int 3]) [0, 1] 0 7 hx hb hml hown hK (k_X7_get l G mO mA mS mI mV mT mR mW mN me mz ma mr zs bb tt 3 hbb htt (by omega)) (mf_X7_get hK.2) (kw_758 hK.2) (kw_17 hK.2) (kw_756 hK.2) ⟨rfl, rfl, Nat.le_of_ble_eq_true rfl, Nat.le_of_ble_eq_true rfl⟩ rfl hP hD hS hA rfl rfl hl (Nat.le_of_ble_eq_true rfl) rfl ⟨Nat.le_of_ble_eq_true rfl, Nat.le_of_ble_eq_true rfl⟩ rfl dX7_teaches_99 rfl rfl (rpl_fast (by decide) rfl rfl) rfl rfl rfl (fun H locs hP hD hS => ?_)
        refine lv_ishr hx hb dX7_teaches_102 ?_
        refine lv_iconst (v := 1) hx hb dX7_teaches_103 (by decide) ?_
        refine lv_iand hx hb dX7_teaches_104 ?_
        refine lv_iconst (v := 1) hx hb dX7_teaches_105 (by decide) ?_
        refine lv_icmp_ne (tgt := 128) hx hb dX7_teaches_106 (by decide) (fun c6 => ?_) (fun c6 => ?_)
        · have hf := (if_neg c6).symm.trans hf
          refine lv_iconst (v := 0) hx hb dX7_teaches_128 (by decide) ?_
          exact hret 0 dX7_teaches_129 rfl hf rfl hP hS
        · have hf := (if_pos c6).symm.trans hf
          refine lv_iload hx hb dX7_teaches_109 (lv_at hl 0 rfl) ?_
          refine lv_iconst (v := 1) hx hb dX7_teaches_111 (by decide) ?_
          refine lv_icmp_gt (tgt := 124) hx hb dX7_teaches_112 (by decide) (fun c7 => ?_) (fun c7 => ?_)
          · have hf := (if_pos c7).symm.trans hf
            refine lv_iconst (v := 1) hx hb dX7_teaches_124 (by decide) ?_
            refine lv_goto (tgt := 129) hx hb dX7_teaches_125 (by decide) ?_
            exact hret 1 dX7_teaches_129 rfl hf rfl hP hS
          · have hf := (if_neg c7).symm.trans hf
            refine lv_iload hx hb dX7_teaches_115 (lv_at hl 1 rfl) ?_
            refine cl_S (ws' := [(mO, .inr (7, [.ref mA, .ref mS, .ref mI, .ref mV, .int me, .ref mT, .ref mR, .int (nI mz), .int (nI ma), .ref mW, .int (nI mr), .ref mN])), (mS, .inl (G.2.1, 259, .inl zs))]) (v := (some (.int (f_X7_bits (f_X7_get zs bb tt 2))))) (st1 := [.int (f_X7_bits (f_X7_get zs bb tt 2))]) (rest := []) (As := [.int (f_X7_get zs bb tt 2)]) [] hx hb hml hown hK (k_X7_bits l G (f_X7_get zs bb tt 2) (by first | exact hnd | exact Rg_and hnd)) (mf_X7_bits hK.2) (kw_792 hK.2) (kw_791 hK.2) ⟨rfl, rfl, Nat.le_of_ble_eq_true rfl, Nat.le_of_ble_eq_true rfl⟩ rfl hP hD hS hA hl (Nat.le_of_ble_eq_true rfl) rfl ⟨Nat.le_of_ble_eq_true rfl, Nat.le_of_ble_eq_true rfl⟩ rfl dX7_teaches_117 rfl rfl rfl rfl rfl rfl (fun H locs hP hD hS => ?_)
            refine lv_iconst (v := 1) hx hb dX7_teaches_120 (by decide) ?_
            refine lv_icmp_ne (tgt := 128) hx hb dX7_teaches_121 (by decide) (fun c8 => ?_) (fun c8 => ?_)
            · have hf := (if_neg c8).symm.trans hf
              refine lv_iconst (v := 0) hx hb dX7_teaches_128 (by decide) ?_
              exact hret 0 dX7_teaches_129 rfl hf rfl hP hS
            · have hf := (if_pos c8).symm.trans hf
              refine lv_iconst (v := 1) hx hb dX7_teaches_124 (by decide) ?_
              refine lv_goto (tgt := 129) hx hb dX7_teaches_125 (by decide) ?_
              exact hret 1 dX7_teaches_129 rfl hf rfl hP hS
      · have hf := (if_neg c5).symm.trans hf
        by_cases c9 : (f_X7_get zs bb tt 1) = 3
        · have hf := (if_pos c9).symm.trans hf
          refine ww_tsw (tgt := 130) hx hb c9 dX7_teaches_25 (by decide) (by decide) rfl (by decide) ?_
          refine lv_iload hx hb dX7_teaches_130 (lv_at hl 0 rfl) ?_
          refine lv_if_le (tgt := 139) hx hb dX7_teaches_132 (by decide) (fun c10 => ?_) (fun c10 => ?_)
          · have hf := (if_pos c10).symm.trans hf
            refine lv_iconst (v := 0) hx hb dX7_teaches_139 (by decide) ?_
            exact hret 0 dX7_teaches_140 rfl hf rfl hP hS
          · have hf := (if_neg c10).symm.trans hf
            refine lv_iconst (v := 1) hx hb dX7_teaches_135 (by decide) ?_
            refine lv_goto (tgt := 140) hx hb dX7_teaches_136 (by decide) ?_
            exact hret 1 dX7_teaches_140 rfl hf rfl hP hS
        · have hf := (if_neg c9).symm.trans hf
          by_cases c11 : (f_X7_get zs bb tt 1) = 4
          · have hf := (if_pos c11).symm.trans hf
            refine ww_tsw (tgt := 141) hx hb c11 dX7_teaches_25 (by decide) (by decide) rfl (by decide) ?_
            refine lv_iconst (v := 1) hx hb dX7_teaches_141 (by decide) ?_
            exact hret 1 dX7_teaches_142 rfl hf rfl hP hS
          · have hf := (if_neg c11).symm.trans hf
            refine lv_tableOut (tgt := 143) hx hb dX7_teaches_25 (ts_out 4 (by decide) (fun j hj => ?_)) (by decide) ?_
            · match j, hj with
              | 0, _ => exact c1
              | 1, _ => exact c3
              | 2, _ => exact c5
              | 3, _ => exact c9
              | 4, _ => exact c11
              | j + 5, hj => exact absurd hj (by omega)
            refine lv_iconst (v := 0) hx hb dX7_teaches_143 (by decide) ?_
            exact hret 0 dX7_teaches_144 rfl hf rfl hP hS
def f_X7_neededBy_5 (zs : Nat → Int32) (bb : Nat) (wo : Int32) : Nat → Nat → Int32 → Int32
  | 0, i5, v3_5 => v3_5
  | k5 + 1, i5, v3_5 => (if (f_X7_get zs bb i5 0) = wo then f_X7_neededBy_5 zs bb wo k5 (i5 + 1) (v3_5 ||| (f_X7_get zs bb i5 2)) else f_X7_neededBy_5 zs bb wo k5 (i5 + 1) (v3_5 ||| (0 : Int32)))
theorem f_X7_neededBy_5_z (zs : Nat → Int32) (bb : Nat) (wo : Int32) (i5 : Nat) (v3_5 : Int32) : f_X7_neededBy_5 zs bb wo 0 i5 v3_5 = v3_5 := rfl
theorem f_X7_neededBy_5_s (zs : Nat → Int32) (bb : Nat) (wo : Int32) (k5 : Nat) (i5 : Nat) (v3_5 : Int32) : f_X7_neededBy_5 zs bb wo (k5 + 1) i5 v3_5 = (if (f_X7_get zs bb i5 0) = wo then f_X7_neededBy_5 zs bb wo k5 (i5 + 1) (v3_5 ||| (f_X7_get zs bb i5 2)) else f_X7_neededBy_5 zs bb wo k5 (i5 + 1) (v3_5 ||| (0 : Int32))) := rfl
def f_X7_neededBy (zs : Nat → Int32) (bb : Nat) (bn : Nat) (wo : Int32) : Int32 := (f_X7_neededBy_5 zs bb wo bn 0 0)
set_option maxHeartbeats 4000000 in
set_option maxRecDepth 100000 in
theorem k_X7_neededBy (l : Launch) (G : wG) (mO : Nat) (mA : Nat) (mS : Nat) (mI : Nat) (mV : Nat) (mT : Nat) (mR : Nat) (mW : Nat) (mN : Nat) (me : Int32) (mz : Nat) (ma : Nat) (mr : Nat) (zs : Nat → Int32) (bb : Nat) (bn : Nat) (wo : Int32) (hbb : bb < 2) (hbn : zs (160 + bb) = nI bn) (hb2 : bn ≤ 20) : CT l G yX7_neededBy cX7_neededBy 5 (some .int) ({ frames := 1, cells := 0, slots := 0, locals := 23 }) [.ref mO, .int (nI bb), .int wo] [(mO, .inr (7, [.ref mA, .ref mS, .ref mI, .ref mV, .int me, .ref mT, .ref mR, .int (nI mz), .int (nI ma), .ref mW, .int (nI mr), .ref mN])), (mS, .inl (G.2.1, 259, .inl zs))] (fun _ => [(mO, .inr (7, [.ref mA, .ref mS, .ref mI, .ref mV, .int me, .ref mT, .ref mR, .int (nI mz), .int (nI ma), .ref mW, .int (nI mr), .ref mN])), (mS, .inl (G.2.1, 259, .inl zs))]) (fun u => some (.int u)) (f_X7_neededBy zs bb bn wo) := by
  obtain ⟨R, hf⟩ : ∃ R, f_X7_neededBy zs bb bn wo = R := ⟨_, rfl⟩
  rw [hf]
  refine CT.mkI RX7 (by decide +kernel) rfl (Nat.le_of_ble_eq_true rfl) ?_
  intro p e s m args below meth c A Q ls hx hb hml hown hK hP hD hS hA hret hl
  have hl : lv_has ls 5 [(0, .ref mO), (1, .int (nI bb)), (2, .int wo)] := hl
  rw [f_X7_neededBy] at hf
  refine lv_iconst (v := 0) hx hb dX7_neededBy_0 (by decide) ?_
  refine lv_istore_n (lv' := [(3, .int 0), (0, .ref mO), (1, .int (nI bb)), (2, .int wo)]) hx hb dX7_neededBy_1 rfl hl (by decide) rfl (fun ls hl => ?_)
  refine lv_iconst (v := 0) hx hb dX7_neededBy_2 (by decide) ?_
  refine lv_istore (lv' := [(4, .int 0), (3, .int 0), (0, .ref mO), (1, .int (nI bb)), (2, .int wo)]) hx hb dX7_neededBy_3 hl (by decide) rfl (fun ls hl => ?_)
  have L5 : ∀ (k5 : Nat) (i5 : Nat) (v3_5 : Int32), k5 + i5 = bn → f_X7_neededBy_5 zs bb wo k5 i5 v3_5 = R → ∀ (H : Heap) (locs : List Loc) (ls : Array Slot), va_P G.1 wcl [(mO, .inr (7, [.ref mA, .ref mS, .ref mI, .ref mV, .int me, .ref mT, .ref mR, .int (nI mz), .int (nI ma), .ref mW, .int (nI mr), .ref mN])), (mS, .inl (G.2.1, 259, .inl zs))] H → va_D A [(mO, .inr (7, [.ref mA, .ref mS, .ref mI, .ref mV, .int me, .ref mT, .ref mR, .int (nI mz), .int (nI ma), .ref mW, .int (nI mr), .ref mN])), (mS, .inl (G.2.1, 259, .inl zs))] → va_S A s.heap H locs → lv_has ls 5 [(0, .ref mO), (1, .int (nI bb)), (2, .int wo), (3, .int v3_5), (4, .int (nI i5))] → W p l e ({ frames := 1, cells := 0, slots := 0, locals := 23 }) s m args below meth c H locs 0 0 Q (F0 m 5 ls []) := by
    intro k5
    induction k5 with
    | zero =>
      intro i5 v3_5 hi5  hf _ _ ls hP hD hS hl
      rw [f_X7_neededBy_5_z] at hf
      refine lv_iload hx hb dX7_neededBy_5 (lv_at hl 4 rfl) ?_
      refine lv_aload_n hx hb dX7_neededBy_7 rfl (lv_at hl 0 rfl) ?_
      refine va_get (D := G.1) (ci := 7) (v := .ref mS) (C := RX7) (T := TX7) (N := 12) hx hb (ku_X7 hK.2) (fun _ h9 => h9) hown hK.1 hP 0 rfl rfl 1 (by decide) (kw_678 hK.2) (fun _ h9 => h9) rfl dX7_neededBy_8 ?_
      refine lv_sipush (v := 160) hx hb dX7_neededBy_11 (by decide) ?_
      refine lv_iload_n hx hb dX7_neededBy_14 rfl (lv_at hl 1 rfl) ?_
      refine lv_iadd hx hb dX7_neededBy_15 ?_
      refine ww_e (nI_addE (a := 160) (b := bb) rfl rfl) ?_
      refine ww_ild (j := 160 + bb) hx hb hK.1 hP 1 0 rfl rfl (by omega) (by omega) dX7_neededBy_16 ?_
      refine ww_e hbn ?_
      refine lv_icmp_ge (tgt := 53) hx hb dX7_neededBy_17 (by decide) (fun _ => ?_) (fun c => absurd (ile (a := bn) (b := i5) rfl rfl (by omega) (by omega) (by omega)) c)
      refine lv_iload_n hx hb dX7_neededBy_53 rfl (lv_at hl 3 rfl) ?_
      exact hret v3_5 dX7_neededBy_54 rfl hf rfl hP hS
    | succ k5 ih5 =>
      intro i5 v3_5 hi5  hf _ _ ls hP hD hS hl
      rw [f_X7_neededBy_5_s] at hf
      refine lv_iload hx hb dX7_neededBy_5 (lv_at hl 4 rfl) ?_
      refine lv_aload_n hx hb dX7_neededBy_7 rfl (lv_at hl 0 rfl) ?_
      refine va_get (D := G.1) (ci := 7) (v := .ref mS) (C := RX7) (T := TX7) (N := 12) hx hb (ku_X7 hK.2) (fun _ h9 => h9) hown hK.1 hP 0 rfl rfl 1 (by decide) (kw_678 hK.2) (fun _ h9 => h9) rfl dX7_neededBy_8 ?_
      refine lv_sipush (v := 160) hx hb dX7_neededBy_11 (by decide) ?_
      refine lv_iload_n hx hb dX7_neededBy_14 rfl (lv_at hl 1 rfl) ?_
      refine lv_iadd hx hb dX7_neededBy_15 ?_
      refine ww_e (nI_addE (a := 160) (b := bb) rfl rfl) ?_
      refine ww_ild (j := 160 + bb) hx hb hK.1 hP 1 0 rfl rfl (by omega) (by omega) dX7_neededBy_16 ?_
      refine ww_e hbn ?_
      refine lv_icmp_ge (tgt := 53) hx hb dX7_neededBy_17 (by decide) (fun c => absurd c (inle (a := bn) (b := i5) rfl rfl (by omega) (by omega) (by omega))) (fun _ => ?_)
      refine lv_iload_n hx hb dX7_neededBy_20 rfl (lv_at hl 3 rfl) ?_
      refine lv_aload_n hx hb dX7_neededBy_21 rfl (lv_at hl 0 rfl) ?_
      refine lv_iload_n hx hb dX7_neededBy_22 rfl (lv_at hl 1 rfl) ?_
      refine lv_iload hx hb dX7_neededBy_23 (lv_at hl 4 rfl) ?_
      refine lv_iconst (v := 0) hx hb dX7_neededBy_25 (by decide) ?_
      refine cl_V (q := (RX7, TX7, 12)) (ws' := [(mO, .inr (7, [.ref mA, .ref mS, .ref mI, .ref mV, .int me, .ref mT, .ref mR, .int (nI mz), .int (nI ma), .ref mW, .int (nI mr), .ref mN])), (mS, .inl (G.2.1, 259, .inl zs))]) (v := (some (.int (f_X7_get zs bb i5 0)))) (st1 := [.int (f_X7_get zs bb i5 0), .int v3_5]) (rest := [.int v3_5]) (As := [.int (nI bb), .int (nI i5), .int 0]) [0, 1] 0 7 hx hb hml hown hK (k_X7_get l G mO mA mS mI mV mT mR mW mN me mz ma mr zs bb i5 0 hbb (by omega) (by omega)) (mf_X7_get hK.2) (kw_758 hK.2) (kw_17 hK.2) (kw_756 hK.2) ⟨rfl, rfl, Nat.le_of_ble_eq_true rfl, Nat.le_of_ble_eq_true rfl⟩ rfl hP hD hS hA rfl rfl hl (Nat.le_of_ble_eq_true rfl) rfl ⟨Nat.le_of_ble_eq_true rfl, Nat.le_of_ble_eq_true rfl⟩ rfl dX7_neededBy_26 rfl rfl (rpl_fast (by decide) rfl rfl) rfl rfl rfl (fun H locs hP hD hS => ?_)
      refine lv_iload_n hx hb dX7_neededBy_29 rfl (lv_at hl 2 rfl) ?_
      refine lv_icmp_ne (tgt := 44) hx hb dX7_neededBy_30 (by decide) (fun c1 => ?_) (fun c1 => ?_)
      · have hf := (if_neg c1).symm.trans hf
        refine lv_iconst (v := 0) hx hb dX7_neededBy_44 (by decide) ?_
        refine lv_ior hx hb dX7_neededBy_45 ?_
        refine lv_istore_n (lv' := [(3, .int (v3_5 ||| (0 : Int32))), (0, .ref mO), (1, .int (nI bb)), (2, .int wo), (4, .int (nI i5))]) hx hb dX7_neededBy_46 rfl hl (by decide) rfl (fun ls hl => ?_)
        refine lv_iinc (v := nI (i5 + 1)) (lv' := [(4, .int (nI (i5 + 1))), (3, .int (v3_5 ||| (0 : Int32))), (0, .ref mO), (1, .int (nI bb)), (2, .int wo)]) hx hb dX7_neededBy_47 hl (k := 4) rfl (nI_1 i5) (by decide) rfl (fun ls hl => ?_)
        refine lv_goto (tgt := 5) hx hb dX7_neededBy_50 (by decide) ?_
        exact ih5 (i5 + 1) (v3_5 ||| (0 : Int32)) (by omega)  hf _ _ ls hP hD hS (lv_sub hl [2, 3, 4, 1, 0] rfl)
      · have hf := (if_pos c1).symm.trans hf
        refine lv_aload_n hx hb dX7_neededBy_33 rfl (lv_at hl 0 rfl) ?_
        refine lv_iload_n hx hb dX7_neededBy_34 rfl (lv_at hl 1 rfl) ?_
        refine lv_iload hx hb dX7_neededBy_35 (lv_at hl 4 rfl) ?_
        refine lv_iconst (v := 2) hx hb dX7_neededBy_37 (by decide) ?_
        refine cl_V (q := (RX7, TX7, 12)) (ws' := [(mO, .inr (7, [.ref mA, .ref mS, .ref mI, .ref mV, .int me, .ref mT, .ref mR, .int (nI mz), .int (nI ma), .ref mW, .int (nI mr), .ref mN])), (mS, .inl (G.2.1, 259, .inl zs))]) (v := (some (.int (f_X7_get zs bb i5 2)))) (st1 := [.int (f_X7_get zs bb i5 2), .int v3_5]) (rest := [.int v3_5]) (As := [.int (nI bb), .int (nI i5), .int 2]) [0, 1] 0 7 hx hb hml hown hK (k_X7_get l G mO mA mS mI mV mT mR mW mN me mz ma mr zs bb i5 2 hbb (by omega) (by omega)) (mf_X7_get hK.2) (kw_758 hK.2) (kw_17 hK.2) (kw_756 hK.2) ⟨rfl, rfl, Nat.le_of_ble_eq_true rfl, Nat.le_of_ble_eq_true rfl⟩ rfl hP hD hS hA rfl rfl hl (Nat.le_of_ble_eq_true rfl) rfl ⟨Nat.le_of_ble_eq_true rfl, Nat.le_of_ble_eq_true rfl⟩ rfl dX7_neededBy_38 rfl rfl (rpl_fast (by decide) rfl rfl) rfl rfl rfl (fun H locs hP hD hS => ?_)
        refine lv_goto (tgt := 45) hx hb dX7_neededBy_41 (by decide) ?_
        refine lv_ior hx hb dX7_neededBy_45 ?_
        refine lv_istore_n (lv' := [(3, .int (v3_5 ||| (f_X7_get zs bb i5 2))), (0, .ref mO), (1, .int (nI bb)), (2, .int wo), (4, .int (nI i5))]) hx hb dX7_neededBy_46 rfl hl (by decide) rfl (fun ls hl => ?_)
        refine lv_iinc (v := nI (i5 + 1)) (lv' := [(4, .int (nI (i5 + 1))), (3, .int (v3_5 ||| (f_X7_get zs bb i5 2))), (0, .ref mO), (1, .int (nI bb)), (2, .int wo)]) hx hb dX7_neededBy_47 hl (k := 4) rfl (nI_1 i5) (by decide) rfl (fun ls hl => ?_)
        refine lv_goto (tgt := 5) hx hb dX7_neededBy_50 (by decide) ?_
        exact ih5 (i5 + 1) (v3_5 ||| (f_X7_get zs bb i5 2)) (by omega)  hf _ _ ls hP hD hS (lv_sub hl [2, 3, 4, 1, 0] rfl)
  exact L5 bn 0 0 (by omega)  hf _ _ ls hP hD hS (lv_sub hl [2, 3, 4, 1, 0] rfl)
