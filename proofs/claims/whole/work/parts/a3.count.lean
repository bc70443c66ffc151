theorem rix16 {x : Int32} (h1 : ¬ x ≤ 10) (h2 : ¬ (16 : Int32) < x) : vp_in (x - 10) 7 := rix h1 (fun h => h2 (Int32.lt_of_lt_of_le (by decide) h))
def f_X6_count_0 (xn : Nat) : Int32 := nI xn
set_option maxHeartbeats 4000000 in
set_option maxRecDepth 100000 in
theorem k_X6_count_0 (l : Launch) (G : wG) (WO : Nat) (SN : Nat) (ST : Nat) (tO : Nat) (rA : Nat) (fA : Nat) (YO : Nat) (FO : Nat) (we : Int32) (rz : Nat) (yO : Nat) (cC : Nat) (xO : Nat) (xo : Nat) (xH : Nat) (xM : Nat) (xa : Nat) (xb : Nat) (xc : Nat) (xd : Nat) (xB : Int32) (xn : Nat)  : CT l G yX6_count cX6_count 2 (some .int) ({ frames := 1, cells := 0, slots := 0, locals := 21 }) [.ref WO, .int 0] [(WO, .inr (6, [.ref SN, .ref ST, .int we, .ref tO, .ref rA, .int (nI rz), .ref fA, .ref YO, .ref FO])), (SN, .inr (3, [.ref xO, .ref yO, .ref cC])), (xO, .inr (0, [.ref xo, .ref xH, .ref xM, .int xB])), (xo, .inr (5, [.ref xa, .ref xb, .ref xc, .ref xd, .int (nI xn)]))] (fun _ => [(WO, .inr (6, [.ref SN, .ref ST, .int we, .ref tO, .ref rA, .int (nI rz), .ref fA, .ref YO, .ref FO])), (SN, .inr (3, [.ref xO, .ref yO, .ref cC])), (xO, .inr (0, [.ref xo, .ref xH, .ref xM, .int xB])), (xo, .inr (5, [.ref xa, .ref xb, .ref xc, .ref xd, .int (nI xn)]))]) (fun u => some (.int u)) (f_X6_count_0 xn) := by
  obtain ⟨R, hf⟩ : ∃ R, f_X6_count_0 xn = R := ⟨_, rfl⟩
  rw [hf]
  refine CT.mkI RX6 (by decide +kernel) rfl (Nat.le_of_ble_eq_true rfl) ?_
  intro p e s m args below meth c A Q ls hx hb hml hown hK hP hD hS hA hret hl
  have hl : lv_has ls 2 [(0, .ref WO), (1, .int 0)] := hl
  rw [f_X6_count_0] at hf
  refine lv_iload_n hx hb dX6_count_0 rfl (lv_at hl 1 rfl) ?_
  refine ww_tsw (w := 0) (tgt := 36) hx hb rfl dX6_count_1 (by decide) (by decide) rfl (by decide) ?_
  refine lv_aload_n hx hb dX6_count_36 rfl (lv_at hl 0 rfl) ?_
  refine va_get (D := G.1) (ci := 6) (v := .ref SN) (C := RX6) (T := TX6) (N := 9) hx hb (ku_X6 hK.2) (fun _ h9 => h9) hown hK.1 hP 0 rfl rfl 0 (by decide) (kw_223 hK.2) (fun _ h9 => h9) rfl dX6_count_37 ?_
  refine lv_iload_n hx hb dX6_count_40 rfl (lv_at hl 1 rfl) ?_
  refine cl_V (q := (RX3, TX3, 3)) (ws' := [(WO, .inr (6, [.ref SN, .ref ST, .int we, .ref tO, .ref rA, .int (nI rz), .ref fA, .ref YO, .ref FO])), (SN, .inr (3, [.ref xO, .ref yO, .ref cC])), (xO, .inr (0, [.ref xo, .ref xH, .ref xM, .int xB])), (xo, .inr (5, [.ref xa, .ref xb, .ref xc, .ref xd, .int (nI xn)]))]) (v := (some (.ref xO))) (st1 := [.ref xO]) (rest := []) (As := [.int 0]) [1] 1 3 hx hb hml hown hK (k_X3_bookAt_0 l G SN xO yO cC ) (mf_X3_bookAt hK.2) (kw_271 hK.2) (kw_272 hK.2) (kw_270 hK.2) ⟨rfl, rfl, Nat.le_of_ble_eq_true rfl, Nat.le_of_ble_eq_true rfl⟩ rfl hP hD hS hA rfl rfl hl (Nat.le_of_ble_eq_true rfl) rfl ⟨Nat.le_of_ble_eq_true rfl, Nat.le_of_ble_eq_true rfl⟩ rfl dX6_count_41 rfl rfl (rpl_fast (by decide) rfl rfl) rfl rfl rfl (fun H locs hP hD hS => ?_)
  refine va_getN (D := G.1) (ci := 0) (v := .ref xo) (C := RX0) (T := TX0) (N := 4) hx hb (ku_X0 hK.2) (fun _ h9 => h9) hown hK.1 hP 2 rfl rfl 0 (by decide) (kw_106 hK.2) (fun _ h9 => h9) rfl dX6_count_44 ?_
  refine va_getN (D := G.1) (ci := 5) (v := .int (nI xn)) (C := RX5) (T := TX5) (N := 5) hx hb (ku_X5 hK.2) (fun _ h9 => h9) hown hK.1 hP 3 rfl rfl 4 (by decide) (kw_91 hK.2) (fun _ h9 => h9) rfl dX6_count_47 ?_
  exact hret (nI xn) dX6_count_50 rfl hf rfl hP hS
def f_X6_count_1 (xn : Nat) : Int32 := nI xn
set_option maxHeartbeats 4000000 in
set_option maxRecDepth 100000 in
theorem k_X6_count_1 (l : Launch) (G : wG) (WO : Nat) (SN : Nat) (ST : Nat) (tO : Nat) (rA : Nat) (fA : Nat) (YO : Nat) (FO : Nat) (we : Int32) (rz : Nat) (yO : Nat) (cC : Nat) (xO : Nat) (xo : Nat) (xH : Nat) (xM : Nat) (xa : Nat) (xb : Nat) (xc : Nat) (xd : Nat) (xB : Int32) (xn : Nat)  : CT l G yX6_count cX6_count 2 (some .int) ({ frames := 1, cells := 0, slots := 0, locals := 21 }) [.ref WO, .int 1] [(WO, .inr (6, [.ref SN, .ref ST, .int we, .ref tO, .ref rA, .int (nI rz), .ref fA, .ref YO, .ref FO])), (SN, .inr (3, [.ref yO, .ref xO, .ref cC])), (xO, .inr (0, [.ref xo, .ref xH, .ref xM, .int xB])), (xo, .inr (5, [.ref xa, .ref xb, .ref xc, .ref xd, .int (nI xn)]))] (fun _ => [(WO, .inr (6, [.ref SN, .ref ST, .int we, .ref tO, .ref rA, .int (nI rz), .ref fA, .ref YO, .ref FO])), (SN, .inr (3, [.ref yO, .ref xO, .ref cC])), (xO, .inr (0, [.ref xo, .ref xH, .ref xM, .int xB])), (xo, .inr (5, [.ref xa, .ref xb, .ref xc, .ref xd, .int (nI xn)]))]) (fun u => some (.int u)) (f_X6_count_1 xn) := by
  obtain ⟨R, hf⟩ : ∃ R, f_X6_count_1 xn = R := ⟨_, rfl⟩
  rw [hf]
  refine CT.mkI RX6 (by decide +kernel) rfl (Nat.le_of_ble_eq_true rfl) ?_
  intro p e s m args below meth c A Q ls hx hb hml hown hK hP hD hS hA hret hl
  have hl : lv_has ls 2 [(0, .ref WO), (1, .int 1)] := hl
  rw [f_X6_count_1] at hf
  refine lv_iload_n hx hb dX6_count_0 rfl (lv_at hl 1 rfl) ?_
  refine ww_tsw (w := 1) (tgt := 36) hx hb rfl dX6_count_1 (by decide) (by decide) rfl (by decide) ?_
  refine lv_aload_n hx hb dX6_count_36 rfl (lv_at hl 0 rfl) ?_
  refine va_get (D := G.1) (ci := 6) (v := .ref SN) (C := RX6) (T := TX6) (N := 9) hx hb (ku_X6 hK.2) (fun _ h9 => h9) hown hK.1 hP 0 rfl rfl 0 (by decide) (kw_223 hK.2) (fun _ h9 => h9) rfl dX6_count_37 ?_
  refine lv_iload_n hx hb dX6_count_40 rfl (lv_at hl 1 rfl) ?_
  refine cl_V (q := (RX3, TX3, 3)) (ws' := [(WO, .inr (6, [.ref SN, .ref ST, .int we, .ref tO, .ref rA, .int (nI rz), .ref fA, .ref YO, .ref FO])), (SN, .inr (3, [.ref yO, .ref xO, .ref cC])), (xO, .inr (0, [.ref xo, .ref xH, .ref xM, .int xB])), (xo, .inr (5, [.ref xa, .ref xb, .ref xc, .ref xd, .int (nI xn)]))]) (v := (some (.ref xO))) (st1 := [.ref xO]) (rest := []) (As := [.int 1]) [1] 1 3 hx hb hml hown hK (k_X3_bookAt_1 l G SN yO xO cC ) (mf_X3_bookAt hK.2) (kw_271 hK.2) (kw_272 hK.2) (kw_270 hK.2) ⟨rfl, rfl, Nat.le_of_ble_eq_true rfl, Nat.le_of_ble_eq_true rfl⟩ rfl hP hD hS hA rfl rfl hl (Nat.le_of_ble_eq_true rfl) rfl ⟨Nat.le_of_ble_eq_true rfl, Nat.le_of_ble_eq_true rfl⟩ rfl dX6_count_41 rfl rfl (rpl_fast (by decide) rfl rfl) rfl rfl rfl (fun H locs hP hD hS => ?_)
  refine va_getN (D := G.1) (ci := 0) (v := .ref xo) (C := RX0) (T := TX0) (N := 4) hx hb (ku_X0 hK.2) (fun _ h9 => h9) hown hK.1 hP 2 rfl rfl 0 (by decide) (kw_106 hK.2) (fun _ h9 => h9) rfl dX6_count_44 ?_
  refine va_getN (D := G.1) (ci := 5) (v := .int (nI xn)) (C := RX5) (T := TX5) (N := 5) hx hb (ku_X5 hK.2) (fun _ h9 => h9) hown hK.1 hP 3 rfl rfl 4 (by decide) (kw_91 hK.2) (fun _ h9 => h9) rfl dX6_count_47 ?_
  exact hret (nI xn) dX6_count_50 rfl hf rfl hP hS
def f_X6_count (rz : Nat) (ff : Nat → Int32) (cn : Nat) (tz : Nat) (wh : Int32) : Int32 := (if wh = 2 then nI cn else (if wh = 3 then nI tz else (if wh = 4 then nI rz else (if wh ≤ 10 then (-9) else (if (16 : Int32) < wh then (-9) else ff (wh - (10 : Int32)).toNatClampNeg)))))
set_option maxHeartbeats 4000000 in
set_option maxRecDepth 100000 in
theorem k_X6_count (l : Launch) (G : wG) (WO : Nat) (SN : Nat) (ST : Nat) (tO : Nat) (rA : Nat) (fA : Nat) (YO : Nat) (FO : Nat) (we : Int32) (rz : Nat) (s0 : Nat) (s1 : Nat) (cC : Nat) (ff : Nat → Int32) (co : Nat) (cU : Nat) (cV : Nat) (ca : Nat) (cb : Nat) (cc : Nat) (cd : Nat) (cn : Nat) (tA : Nat) (tz : Nat) (tw : Int32) (tk : Int32) (tm : Int32) (tf : Int32) (wh : Int32) (h0 : ¬ wh = 0) (h1 : ¬ wh = 1) : CT l G yX6_count cX6_count 2 (some .int) ({ frames := 0, cells := 0, slots := 0, locals := 0 }) [.ref WO, .int wh] [(WO, .inr (6, [.ref SN, .ref ST, .int we, .ref tO, .ref rA, .int (nI rz), .ref fA, .ref YO, .ref FO])), (fA, .inl (G.2.1, 7, .inl ff)), (SN, .inr (3, [.ref s0, .ref s1, .ref cC])), (cC, .inr (1, [.ref co, .ref cU, .ref cV])), (co, .inr (5, [.ref ca, .ref cb, .ref cc, .ref cd, .int (nI cn)])), (tO, .inr (4, [.ref tA, .int (nI tz), .int tw, .int tk, .int tm, .int tf]))] (fun _ => [(WO, .inr (6, [.ref SN, .ref ST, .int we, .ref tO, .ref rA, .int (nI rz), .ref fA, .ref YO, .ref FO])), (fA, .inl (G.2.1, 7, .inl ff)), (SN, .inr (3, [.ref s0, .ref s1, .ref cC])), (cC, .inr (1, [.ref co, .ref cU, .ref cV])), (co, .inr (5, [.ref ca, .ref cb, .ref cc, .ref cd, .int (nI cn)])), (tO, .inr (4, [.ref tA, .int (nI tz), .int tw, .int tk, .int tm, .int tf]))]) (fun u => some (.int u)) (f_X6_count rz ff cn tz wh) := by
  obtain ⟨R, hf⟩ : ∃ R, f_X6_count rz ff cn tz wh = R := ⟨_, rfl⟩
  rw [hf]
  refine CT.mkI RX6 (by decide +kernel) rfl (Nat.le_of_ble_eq_true rfl) ?_
  intro p e s m args below meth c A Q ls hx hb hml hown hK hP hD hS hA hret hl
  have hl : lv_has ls 2 [(0, .ref WO), (1, .int wh)] := hl
  rw [f_X6_count] at hf
  refine lv_iload_n hx hb dX6_count_0 rfl (lv_at hl 1 rfl) ?_
  by_cases c1 : wh = 2
  · have hf := (if_pos c1).symm.trans hf
    refine ww_tsw (tgt := 51) hx hb c1 dX6_count_1 (by decide) (by decide) rfl (by decide) ?_
    refine lv_aload_n hx hb dX6_count_51 rfl (lv_at hl 0 rfl) ?_
    refine va_get (D := G.1) (ci := 6) (v := .ref SN) (C := RX6) (T := TX6) (N := 9) hx hb (ku_X6 hK.2) (fun _ h9 => h9) hown hK.1 hP 0 rfl rfl 0 (by decide) (kw_223 hK.2) (fun _ h9 => h9) rfl dX6_count_52 ?_
    refine va_getN (D := G.1) (ci := 3) (v := .ref cC) (C := RX3) (T := TX3) (N := 3) hx hb (ku_X3 hK.2) (fun _ h9 => h9) hown hK.1 hP 2 rfl rfl 2 (by decide) (kw_145 hK.2) (fun _ h9 => h9) rfl dX6_count_55 ?_
    refine va_getN (D := G.1) (ci := 1) (v := .ref co) (C := RX1) (T := TX1) (N := 3) hx hb (ku_X1 hK.2) (fun _ h9 => h9) hown hK.1 hP 3 rfl rfl 0 (by decide) (kw_132 hK.2) (fun _ h9 => h9) rfl dX6_count_58 ?_
    refine va_getN (D := G.1) (ci := 5) (v := .int (nI cn)) (C := RX5) (T := TX5) (N := 5) hx hb (ku_X5 hK.2) (fun _ h9 => h9) hown hK.1 hP 4 rfl rfl 4 (by decide) (kw_91 hK.2) (fun _ h9 => h9) rfl dX6_count_61 ?_
    exact hret (nI cn) dX6_count_64 rfl hf rfl hP hS
  · have hf := (if_neg c1).symm.trans hf
    by_cases c2 : wh = 3
    · have hf := (if_pos c2).symm.trans hf
      refine ww_tsw (tgt := 65) hx hb c2 dX6_count_1 (by decide) (by decide) rfl (by decide) ?_
      refine lv_aload_n hx hb dX6_count_65 rfl (lv_at hl 0 rfl) ?_
      refine va_get (D := G.1) (ci := 6) (v := .ref tO) (C := RX6) (T := TX6) (N := 9) hx hb (ku_X6 hK.2) (fun _ h9 => h9) hown hK.1 hP 0 rfl rfl 3 (by decide) (kw_226 hK.2) (fun _ h9 => h9) rfl dX6_count_66 ?_
      refine va_getN (D := G.1) (ci := 4) (v := .int (nI tz)) (C := RX4) (T := TX4) (N := 6) hx hb (ku_X4 hK.2) (fun _ h9 => h9) hown hK.1 hP 5 rfl rfl 1 (by decide) (kw_161 hK.2) (fun _ h9 => h9) rfl dX6_count_69 ?_
      exact hret (nI tz) dX6_count_72 rfl hf rfl hP hS
    · have hf := (if_neg c2).symm.trans hf
      by_cases c3 : wh = 4
      · have hf := (if_pos c3).symm.trans hf
        refine ww_tsw (tgt := 73) hx hb c3 dX6_count_1 (by decide) (by decide) rfl (by decide) ?_
        refine lv_aload_n hx hb dX6_count_73 rfl (lv_at hl 0 rfl) ?_
        refine va_get (D := G.1) (ci := 6) (v := .int (nI rz)) (C := RX6) (T := TX6) (N := 9) hx hb (ku_X6 hK.2) (fun _ h9 => h9) hown hK.1 hP 0 rfl rfl 5 (by decide) (kw_228 hK.2) (fun _ h9 => h9) rfl dX6_count_74 ?_
        exact hret (nI rz) dX6_count_77 rfl hf rfl hP hS
      · have hf := (if_neg c3).symm.trans hf
        refine lv_tableOut (tgt := 78) hx hb dX6_count_1 (ts_out 4 (by decide) (fun j hj => ?_)) (by decide) ?_
        · match j, hj with
          | 0, _ => exact h0
          | 1, _ => exact h1
          | 2, _ => exact c1
          | 3, _ => exact c2
          | 4, _ => exact c3
          | j + 5, hj => exact absurd hj (by omega)
        refine lv_iload_n hx hb dX6_count_78 rfl (lv_at hl 1 rfl) ?_
        refine lv_bipush (v := 10) hx hb dX6_count_79 (by decide) ?_
        refine lv_icmp_le (tgt := 102) hx hb dX6_count_81 (by decide) (fun c4 => ?_) (fun c4 => ?_)
        · have hf := (if_pos c4).symm.trans hf
          refine lv_bipush (v := -9) hx hb dX6_count_102 (by decide) ?_
          exact hret (-9) dX6_count_104 rfl hf rfl hP hS
        · have hf := (if_neg c4).symm.trans hf
          refine lv_iload_n hx hb dX6_count_84 rfl (lv_at hl 1 rfl) ?_
          refine lv_bipush (v := 16) hx hb dX6_count_85 (by decide) ?_
          refine lv_icmp_gt (tgt := 102) hx hb dX6_count_87 (by decide) (fun c5 => ?_) (fun c5 => ?_)
          · have hf := (if_pos c5).symm.trans hf
            refine lv_bipush (v := -9) hx hb dX6_count_102 (by decide) ?_
            exact hret (-9) dX6_count_104 rfl hf rfl hP hS
          · have hf := (if_neg c5).symm.trans hf
            refine lv_aload_n hx hb dX6_count_90 rfl (lv_at hl 0 rfl) ?_
            refine va_get (D := G.1) (ci := 6) (v := .ref fA) (C := RX6) (T := TX6) (N := 9) hx hb (ku_X6 hK.2) (fun _ h9 => h9) hown hK.1 hP 0 rfl rfl 6 (by decide) (kw_229 hK.2) (fun _ h9 => h9) rfl dX6_count_91 ?_
            refine lv_iload_n hx hb dX6_count_94 rfl (lv_at hl 1 rfl) ?_
            refine lv_bipush (v := 10) hx hb dX6_count_95 (by decide) ?_
            refine lv_isub hx hb dX6_count_97 ?_
            refine va_iald hx hb hK.1 hP 1 0 rfl rfl (rix16 (by assumption) (by assumption)) dX6_count_98 ?_
            refine lv_goto (tgt := 104) hx hb dX6_count_99 (by decide) ?_
            exact hret (ff (wh - (10 : Int32)).toNatClampNeg) dX6_count_104 rfl hf rfl hP hS
