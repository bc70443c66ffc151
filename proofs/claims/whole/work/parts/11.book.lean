theorem isFull_lt {xl xn : Nat} (h : xn < xl) (hl : xl ≤ 20) : f_X5_isFull xl xn = 0 := by
  unfold f_X5_isFull
  rw [if_pos (ilt rfl rfl (by omega) (by omega) h)]
theorem isFull_ge {xl xn : Nat} (h : xl ≤ xn) (hl : xn ≤ 20) : f_X5_isFull xl xn = 1 := by
  unfold f_X5_isFull
  rw [if_neg (inlt rfl rfl (by omega) (by omega) h)]
theorem vp_in_c {v : Int32} {n : Nat} (hn : n < 2 ^ 31) (h1 : ¬ v < 0) (h2 : ¬ nI n ≤ v) : vp_in v n := by
  obtain ⟨j, hj, rfl⟩ := nI_of h1
  refine vp_in_nI ?_ hn
  rw [nI_leI hn hj] at h2
  omega
theorem has_in {n l : Nat} {x : Int32} (h : ¬ f_X5_has n x = 0) (hn : n ≤ l) (hl : l ≤ 20) : vp_in x l := by
  unfold f_X5_has at h
  by_cases h1 : x < 0
  · rw [if_pos h1] at h; exact absurd rfl h
  · rw [if_neg h1] at h
    by_cases h2 : nI n ≤ x
    · rw [if_pos h2] at h; exact absurd rfl h
    · have := vp_in_c (n := n) (by omega) h1 h2
      rw [vp_in_iff] at this ⊢
      omega
def f_X5_add (xn : Nat) (xw : Nat → Int32) (xk : Nat → Int32) (xm : Nat → Int32) (xf : Nat → Int32) (tw : Int32) (tk : Int32) (tm : Int32) (tf : Int32) : Int32 × (Nat → Int32) × (Nat → Int32) × (Nat → Int32) × (Nat → Int32) × Nat := ((nI (xn + 1)) - (1 : Int32), upd xw xn tw, upd xk xn tk, upd xm xn tm, upd xf xn tf, xn + 1)
set_option maxHeartbeats 4000000 in
set_option maxRecDepth 100000 in
theorem k_X5_add (l : Launch) (G : wG) (xo : Nat) (xa : Nat) (xb : Nat) (xc : Nat) (xd : Nat) (xl : Nat) (xn : Nat) (xw : Nat → Int32) (xk : Nat → Int32) (xm : Nat → Int32) (xf : Nat → Int32) (tO : Nat) (tA : Nat) (tz : Nat) (tw : Int32) (tk : Int32) (tm : Int32) (tf : Int32) (tb : Nat → Int32) (hxn : xn ≤ xl) (hxl : xl ≤ 20) (hlt : xn < xl) : CT l G yX5_add cX5_add 2 (some .int) ({ frames := 1, cells := 0, slots := 0, locals := 20 }) [.ref xo, .ref tO] [(xo, .inr (5, [.ref xa, .ref xb, .ref xc, .ref xd, .int (nI xn)])), (xa, .inl (G.2.1, xl, .inl xw)), (xb, .inl (G.2.1, xl, .inl xk)), (xc, .inl (G.2.1, xl, .inl xm)), (xd, .inl (G.2.1, xl, .inl xf)), (tO, .inr (4, [.ref tA, .int (nI tz), .int tw, .int tk, .int tm, .int tf])), (tA, .inl (G.2.1, 10, .inl tb))] (fun u => [(xo, .inr (5, [.ref xa, .ref xb, .ref xc, .ref xd, .int (nI u.2.2.2.2.2)])), (xa, .inl (G.2.1, xl, .inl u.2.1)), (xb, .inl (G.2.1, xl, .inl u.2.2.1)), (xc, .inl (G.2.1, xl, .inl u.2.2.2.1)), (xd, .inl (G.2.1, xl, .inl u.2.2.2.2.1)), (tO, .inr (4, [.ref tA, .int (nI tz), .int tw, .int tk, .int tm, .int tf])), (tA, .inl (G.2.1, 10, .inl tb))]) (fun u => some (.int u.1)) (f_X5_add xn xw xk xm xf tw tk tm tf) := by
  obtain ⟨R, hf⟩ : ∃ R, f_X5_add xn xw xk xm xf tw tk tm tf = R := ⟨_, rfl⟩
  rw [hf]
  refine CT.mkI RX5 (by decide +kernel) rfl (Nat.le_of_ble_eq_true rfl) ?_
  intro p e s m args below meth c A Q ls hx hb hml hown hK hP hD hS hA hret hl
  have hl : lv_has ls 2 [(0, .ref xo), (1, .ref tO)] := hl
  rw [f_X5_add] at hf
  refine lv_aload_n hx hb dX5_add_0 rfl (lv_at hl 0 rfl) ?_
  refine cl_V (q := (RX5, TX5, 5)) (ws' := [(xo, .inr (5, [.ref xa, .ref xb, .ref xc, .ref xd, .int (nI xn)])), (xa, .inl (G.2.1, xl, .inl xw)), (xb, .inl (G.2.1, xl, .inl xk)), (xc, .inl (G.2.1, xl, .inl xm)), (xd, .inl (G.2.1, xl, .inl xf)), (tO, .inr (4, [.ref tA, .int (nI tz), .int tw, .int tk, .int tm, .int tf])), (tA, .inl (G.2.1, 10, .inl tb))]) (v := (some (.int (f_X5_isFull xl xn)))) (st1 := [.int (f_X5_isFull xl xn)]) (rest := []) (As := []) [0, 1, 2, 3, 4] 0 5 hx hb hml hown hK (k_X5_isFull l G xo xa xb xc xd xl xn xw xk xm xf hxn hxl) (mf_X5_isFull hK.2) (kw_275 hK.2) (kw_276 hK.2) (kw_389 hK.2) ⟨rfl, rfl, Nat.le_of_ble_eq_true rfl, Nat.le_of_ble_eq_true rfl⟩ rfl hP hD hS hA rfl rfl hl (Nat.le_of_ble_eq_true rfl) rfl ⟨Nat.le_of_ble_eq_true rfl, Nat.le_of_ble_eq_true rfl⟩ rfl dX5_add_1 rfl rfl (rpl_fast (by decide) rfl rfl) rfl rfl rfl (fun H locs hP hD hS => ?_)
  refine lv_if_eq (tgt := 9) hx hb dX5_add_4 (by decide) (fun _ => ?_) (fun c => absurd (isFull_lt hlt (by omega)) c)
  refine lv_aload_n hx hb dX5_add_9 rfl (lv_at hl 0 rfl) ?_
  refine va_get (D := G.1) (ci := 5) (v := .ref xa) (C := RX5) (T := TX5) (N := 5) hx hb (ku_X5 hK.2) (fun _ h9 => h9) hown hK.1 hP 0 rfl rfl 0 (by decide) (kw_77 hK.2) (fun _ h9 => h9) rfl dX5_add_10 ?_
  refine lv_aload_n hx hb dX5_add_13 rfl (lv_at hl 0 rfl) ?_
  refine va_get (D := G.1) (ci := 5) (v := .int (nI xn)) (C := RX5) (T := TX5) (N := 5) hx hb (ku_X5 hK.2) (fun _ h9 => h9) hown hK.1 hP 0 rfl rfl 4 (by decide) (kw_87 hK.2) (fun _ h9 => h9) rfl dX5_add_14 ?_
  refine lv_aload_n hx hb dX5_add_17 rfl (lv_at hl 1 rfl) ?_
  refine va_getN (D := G.1) (ci := 4) (v := .int tw) (C := RX4) (T := TX4) (N := 6) hx hb (ku_X4 hK.2) (fun _ h9 => h9) hown hK.1 hP 5 rfl rfl 2 (by decide) (kw_164 hK.2) (fun _ h9 => h9) rfl dX5_add_18 ?_
  refine ww_ist (j := xn) hx hb hK.1 hP hD hS 1 0 rfl rfl (by omega) (by omega) dX5_add_21 (fun H locs hP hD hS => ?_)
  have hP : va_P G.1 wcl [(xo, .inr (5, [.ref xa, .ref xb, .ref xc, .ref xd, .int (nI xn)])), (xa, .inl (G.2.1, xl, .inl (upd xw xn tw))), (xb, .inl (G.2.1, xl, .inl xk)), (xc, .inl (G.2.1, xl, .inl xm)), (xd, .inl (G.2.1, xl, .inl xf)), (tO, .inr (4, [.ref tA, .int (nI tz), .int tw, .int tk, .int tm, .int tf])), (tA, .inl (G.2.1, 10, .inl tb))] H := hP
  have hD : va_D A [(xo, .inr (5, [.ref xa, .ref xb, .ref xc, .ref xd, .int (nI xn)])), (xa, .inl (G.2.1, xl, .inl (upd xw xn tw))), (xb, .inl (G.2.1, xl, .inl xk)), (xc, .inl (G.2.1, xl, .inl xm)), (xd, .inl (G.2.1, xl, .inl xf)), (tO, .inr (4, [.ref tA, .int (nI tz), .int tw, .int tk, .int tm, .int tf])), (tA, .inl (G.2.1, 10, .inl tb))] := hD
  refine lv_aload_n hx hb dX5_add_22 rfl (lv_at hl 0 rfl) ?_
  refine va_get (D := G.1) (ci := 5) (v := .ref xb) (C := RX5) (T := TX5) (N := 5) hx hb (ku_X5 hK.2) (fun _ h9 => h9) hown hK.1 hP 0 rfl rfl 1 (by decide) (kw_80 hK.2) (fun _ h9 => h9) rfl dX5_add_23 ?_
  refine lv_aload_n hx hb dX5_add_26 rfl (lv_at hl 0 rfl) ?_
  refine va_get (D := G.1) (ci := 5) (v := .int (nI xn)) (C := RX5) (T := TX5) (N := 5) hx hb (ku_X5 hK.2) (fun _ h9 => h9) hown hK.1 hP 0 rfl rfl 4 (by decide) (kw_87 hK.2) (fun _ h9 => h9) rfl dX5_add_27 ?_
  refine lv_aload_n hx hb dX5_add_30 rfl (lv_at hl 1 rfl) ?_
  refine va_getN (D := G.1) (ci := 4) (v := .int tk) (C := RX4) (T := TX4) (N := 6) hx hb (ku_X4 hK.2) (fun _ h9 => h9) hown hK.1 hP 5 rfl rfl 3 (by decide) (kw_166 hK.2) (fun _ h9 => h9) rfl dX5_add_31 ?_
  refine ww_ist (j := xn) hx hb hK.1 hP hD hS 2 0 rfl rfl (by omega) (by omega) dX5_add_34 (fun H locs hP hD hS => ?_)
  have hP : va_P G.1 wcl [(xo, .inr (5, [.ref xa, .ref xb, .ref xc, .ref xd, .int (nI xn)])), (xa, .inl (G.2.1, xl, .inl (upd xw xn tw))), (xb, .inl (G.2.1, xl, .inl (upd xk xn tk))), (xc, .inl (G.2.1, xl, .inl xm)), (xd, .inl (G.2.1, xl, .inl xf)), (tO, .inr (4, [.ref tA, .int (nI tz), .int tw, .int tk, .int tm, .int tf])), (tA, .inl (G.2.1, 10, .inl tb))] H := hP
  have hD : va_D A [(xo, .inr (5, [.ref xa, .ref xb, .ref xc, .ref xd, .int (nI xn)])), (xa, .inl (G.2.1, xl, .inl (upd xw xn tw))), (xb, .inl (G.2.1, xl, .inl (upd xk xn tk))), (xc, .inl (G.2.1, xl, .inl xm)), (xd, .inl (G.2.1, xl, .inl xf)), (tO, .inr (4, [.ref tA, .int (nI tz), .int tw, .int tk, .int tm, .int tf])), (tA, .inl (G.2.1, 10, .inl tb))] := hD
  refine lv_aload_n hx hb dX5_add_35 rfl (lv_at hl 0 rfl) ?_
  refine va_get (D := G.1) (ci := 5) (v := .ref xc) (C := RX5) (T := TX5) (N := 5) hx hb (ku_X5 hK.2) (fun _ h9 => h9) hown hK.1 hP 0 rfl rfl 2 (by decide) (kw_82 hK.2) (fun _ h9 => h9) rfl dX5_add_36 ?_
  refine lv_aload_n hx hb dX5_add_39 rfl (lv_at hl 0 rfl) ?_
  refine va_get (D := G.1) (ci := 5) (v := .int (nI xn)) (C := RX5) (T := TX5) (N := 5) hx hb (ku_X5 hK.2) (fun _ h9 => h9) hown hK.1 hP 0 rfl rfl 4 (by decide) (kw_87 hK.2) (fun _ h9 => h9) rfl dX5_add_40 ?_
  refine lv_aload_n hx hb dX5_add_43 rfl (lv_at hl 1 rfl) ?_
  refine va_getN (D := G.1) (ci := 4) (v := .int tm) (C := RX4) (T := TX4) (N := 6) hx hb (ku_X4 hK.2) (fun _ h9 => h9) hown hK.1 hP 5 rfl rfl 4 (by decide) (kw_168 hK.2) (fun _ h9 => h9) rfl dX5_add_44 ?_
  refine ww_ist (j := xn) hx hb hK.1 hP hD hS 3 0 rfl rfl (by omega) (by omega) dX5_add_47 (fun H locs hP hD hS => ?_)
  have hP : va_P G.1 wcl [(xo, .inr (5, [.ref xa, .ref xb, .ref xc, .ref xd, .int (nI xn)])), (xa, .inl (G.2.1, xl, .inl (upd xw xn tw))), (xb, .inl (G.2.1, xl, .inl (upd xk xn tk))), (xc, .inl (G.2.1, xl, .inl (upd xm xn tm))), (xd, .inl (G.2.1, xl, .inl xf)), (tO, .inr (4, [.ref tA, .int (nI tz), .int tw, .int tk, .int tm, .int tf])), (tA, .inl (G.2.1, 10, .inl tb))] H := hP
  have hD : va_D A [(xo, .inr (5, [.ref xa, .ref xb, .ref xc, .ref xd, .int (nI xn)])), (xa, .inl (G.2.1, xl, .inl (upd xw xn tw))), (xb, .inl (G.2.1, xl, .inl (upd xk xn tk))), (xc, .inl (G.2.1, xl, .inl (upd xm xn tm))), (xd, .inl (G.2.1, xl, .inl xf)), (tO, .inr (4, [.ref tA, .int (nI tz), .int tw, .int tk, .int tm, .int tf])), (tA, .inl (G.2.1, 10, .inl tb))] := hD
  refine lv_aload_n hx hb dX5_add_48 rfl (lv_at hl 0 rfl) ?_
  refine va_get (D := G.1) (ci := 5) (v := .ref xd) (C := RX5) (T := TX5) (N := 5) hx hb (ku_X5 hK.2) (fun _ h9 => h9) hown hK.1 hP 0 rfl rfl 3 (by decide) (kw_85 hK.2) (fun _ h9 => h9) rfl dX5_add_49 ?_
  refine lv_aload_n hx hb dX5_add_52 rfl (lv_at hl 0 rfl) ?_
  refine va_get (D := G.1) (ci := 5) (v := .int (nI xn)) (C := RX5) (T := TX5) (N := 5) hx hb (ku_X5 hK.2) (fun _ h9 => h9) hown hK.1 hP 0 rfl rfl 4 (by decide) (kw_87 hK.2) (fun _ h9 => h9) rfl dX5_add_53 ?_
  refine lv_aload_n hx hb dX5_add_56 rfl (lv_at hl 1 rfl) ?_
  refine va_getN (D := G.1) (ci := 4) (v := .int tf) (C := RX4) (T := TX4) (N := 6) hx hb (ku_X4 hK.2) (fun _ h9 => h9) hown hK.1 hP 5 rfl rfl 5 (by decide) (kw_170 hK.2) (fun _ h9 => h9) rfl dX5_add_57 ?_
  refine ww_ist (j := xn) hx hb hK.1 hP hD hS 4 0 rfl rfl (by omega) (by omega) dX5_add_60 (fun H locs hP hD hS => ?_)
  have hP : va_P G.1 wcl [(xo, .inr (5, [.ref xa, .ref xb, .ref xc, .ref xd, .int (nI xn)])), (xa, .inl (G.2.1, xl, .inl (upd xw xn tw))), (xb, .inl (G.2.1, xl, .inl (upd xk xn tk))), (xc, .inl (G.2.1, xl, .inl (upd xm xn tm))), (xd, .inl (G.2.1, xl, .inl (upd xf xn tf))), (tO, .inr (4, [.ref tA, .int (nI tz), .int tw, .int tk, .int tm, .int tf])), (tA, .inl (G.2.1, 10, .inl tb))] H := hP
  have hD : va_D A [(xo, .inr (5, [.ref xa, .ref xb, .ref xc, .ref xd, .int (nI xn)])), (xa, .inl (G.2.1, xl, .inl (upd xw xn tw))), (xb, .inl (G.2.1, xl, .inl (upd xk xn tk))), (xc, .inl (G.2.1, xl, .inl (upd xm xn tm))), (xd, .inl (G.2.1, xl, .inl (upd xf xn tf))), (tO, .inr (4, [.ref tA, .int (nI tz), .int tw, .int tk, .int tm, .int tf])), (tA, .inl (G.2.1, 10, .inl tb))] := hD
  refine lv_aload_n hx hb dX5_add_61 rfl (lv_at hl 0 rfl) ?_
  refine lv_dup hx hb dX5_add_62 rfl ?_
  refine va_get (D := G.1) (ci := 5) (v := .int (nI xn)) (C := RX5) (T := TX5) (N := 5) hx hb (ku_X5 hK.2) (fun _ h9 => h9) hown hK.1 hP 0 rfl rfl 4 (by decide) (kw_87 hK.2) (fun _ h9 => h9) rfl dX5_add_63 ?_
  refine lv_iconst (v := 1) hx hb dX5_add_66 (by decide) ?_
  refine lv_iadd hx hb dX5_add_67 ?_
  refine ww_e (nI_addE (a := xn) (b := 1) rfl rfl) ?_
  refine va_put (D := G.1) (ci := 5) (v := .int (nI (xn + 1))) (ty := .int) (C := RX5) (T := TX5) (N := 5) hx hb (ku_X5 hK.2) (fun _ h9 => h9) tyX5 tyX5_ok nmX5 hown hK.1 hP hD hS 0 rfl rfl 4 (by decide) (kw_87 hK.2) (fun _ h9 => h9) rfl (by decide +kernel) rfl rfl (Nat.le_of_ble_eq_true rfl) dX5_add_68 (fun H locs hP hD hS => ?_)
  have hP : va_P G.1 wcl [(xo, .inr (5, [.ref xa, .ref xb, .ref xc, .ref xd, .int (nI (xn + 1))])), (xa, .inl (G.2.1, xl, .inl (upd xw xn tw))), (xb, .inl (G.2.1, xl, .inl (upd xk xn tk))), (xc, .inl (G.2.1, xl, .inl (upd xm xn tm))), (xd, .inl (G.2.1, xl, .inl (upd xf xn tf))), (tO, .inr (4, [.ref tA, .int (nI tz), .int tw, .int tk, .int tm, .int tf])), (tA, .inl (G.2.1, 10, .inl tb))] H := hP
  have hD : va_D A [(xo, .inr (5, [.ref xa, .ref xb, .ref xc, .ref xd, .int (nI (xn + 1))])), (xa, .inl (G.2.1, xl, .inl (upd xw xn tw))), (xb, .inl (G.2.1, xl, .inl (upd xk xn tk))), (xc, .inl (G.2.1, xl, .inl (upd xm xn tm))), (xd, .inl (G.2.1, xl, .inl (upd xf xn tf))), (tO, .inr (4, [.ref tA, .int (nI tz), .int tw, .int tk, .int tm, .int tf])), (tA, .inl (G.2.1, 10, .inl tb))] := hD
  refine lv_aload_n hx hb dX5_add_71 rfl (lv_at hl 0 rfl) ?_
  refine va_get (D := G.1) (ci := 5) (v := .int (nI (xn + 1))) (C := RX5) (T := TX5) (N := 5) hx hb (ku_X5 hK.2) (fun _ h9 => h9) hown hK.1 hP 0 rfl rfl 4 (by decide) (kw_87 hK.2) (fun _ h9 => h9) rfl dX5_add_72 ?_
  refine lv_iconst (v := 1) hx hb dX5_add_75 (by decide) ?_
  refine lv_isub hx hb dX5_add_76 ?_
  exact hret ((nI (xn + 1)) - (1 : Int32), upd xw xn tw, upd xk xn tk, upd xm xn tm, upd xf xn tf, xn + 1) dX5_add_77 rfl hf rfl hP hS
def f_X5_replace (xn : Nat) (xw : Nat → Int32) (xk : Nat → Int32) (xm : Nat → Int32) (xf : Nat → Int32) (yn : Nat) (yw : Nat → Int32) (yk : Nat → Int32) (ym : Nat → Int32) (yf : Nat → Int32) (nu : Int32) (ot : Int32) : (Nat → Int32) × (Nat → Int32) × (Nat → Int32) × (Nat → Int32) := (if (f_X5_has xn nu) = 0 then (xw, xk, xm, xf) else (if (f_X5_has yn ot) = 0 then (xw, xk, xm, xf) else (upd xw nu.toNatClampNeg (yw ot.toNatClampNeg), upd xk nu.toNatClampNeg (yk ot.toNatClampNeg), upd xm nu.toNatClampNeg (ym ot.toNatClampNeg), upd xf nu.toNatClampNeg (yf ot.toNatClampNeg))))
set_option maxHeartbeats 4000000 in
set_option maxRecDepth 100000 in
theorem k_X5_replace (l : Launch) (G : wG) (xo : Nat) (xa : Nat) (xb : Nat) (xc : Nat) (xd : Nat) (xl : Nat) (xn : Nat) (xw : Nat → Int32) (xk : Nat → Int32) (xm : Nat → Int32) (xf : Nat → Int32) (yo : Nat) (ya : Nat) (yb : Nat) (yc : Nat) (yd : Nat) (yl : Nat) (yn : Nat) (yw : Nat → Int32) (yk : Nat → Int32) (ym : Nat → Int32) (yf : Nat → Int32) (nu : Int32) (ot : Int32) (hxn : xn ≤ xl) (hxl : xl ≤ 20) (hyn : yn ≤ yl) (hyl : yl ≤ 20) : CT l G yX5_replace cX5_replace 4 (none : Option Jvm.ClassFile.FieldType) ({ frames := 1, cells := 0, slots := 0, locals := 21 }) [.ref xo, .int nu, .ref yo, .int ot] [(xo, .inr (5, [.ref xa, .ref xb, .ref xc, .ref xd, .int (nI xn)])), (xa, .inl (G.2.1, xl, .inl xw)), (xb, .inl (G.2.1, xl, .inl xk)), (xc, .inl (G.2.1, xl, .inl xm)), (xd, .inl (G.2.1, xl, .inl xf)), (yo, .inr (5, [.ref ya, .ref yb, .ref yc, .ref yd, .int (nI yn)])), (ya, .inl (G.2.1, yl, .inl yw)), (yb, .inl (G.2.1, yl, .inl yk)), (yc, .inl (G.2.1, yl, .inl ym)), (yd, .inl (G.2.1, yl, .inl yf))] (fun u => [(xo, .inr (5, [.ref xa, .ref xb, .ref xc, .ref xd, .int (nI xn)])), (xa, .inl (G.2.1, xl, .inl u.1)), (xb, .inl (G.2.1, xl, .inl u.2.1)), (xc, .inl (G.2.1, xl, .inl u.2.2.1)), (xd, .inl (G.2.1, xl, .inl u.2.2.2)), (yo, .inr (5, [.ref ya, .ref yb, .ref yc, .ref yd, .int (nI yn)])), (ya, .inl (G.2.1, yl, .inl yw)), (yb, .inl (G.2.1, yl, .inl yk)), (yc, .inl (G.2.1, yl, .inl ym)), (yd, .inl (G.2.1, yl, .inl yf))]) (fun _ => none) (f_X5_replace xn xw xk xm xf yn yw yk ym yf nu ot) := by
  obtain ⟨R, hf⟩ : ∃ R, f_X5_replace xn xw xk xm xf yn yw yk ym yf nu ot = R := ⟨_, rfl⟩
  rw [hf]
  refine CT.mkV RX5 (by decide +kernel) rfl (Nat.le_of_ble_eq_true rfl) ?_
  intro p e s m args below meth c A Q ls hx hb hml hown hK hP hD hS hA hret hl
  have hl : lv_has ls 4 [(0, .ref xo), (1, .int nu), (2, .ref yo), (3, .int ot)] := hl
  rw [f_X5_replace] at hf
  refine lv_aload_n hx hb dX5_replace_0 rfl (lv_at hl 0 rfl) ?_
  refine lv_iload_n hx hb dX5_replace_1 rfl (lv_at hl 1 rfl) ?_
  refine cl_V (q := (RX5, TX5, 5)) (ws' := [(xo, .inr (5, [.ref xa, .ref xb, .ref xc, .ref xd, .int (nI xn)])), (xa, .inl (G.2.1, xl, .inl xw)), (xb, .inl (G.2.1, xl, .inl xk)), (xc, .inl (G.2.1, xl, .inl xm)), (xd, .inl (G.2.1, xl, .inl xf)), (yo, .inr (5, [.ref ya, .ref yb, .ref yc, .ref yd, .int (nI yn)])), (ya, .inl (G.2.1, yl, .inl yw)), (yb, .inl (G.2.1, yl, .inl yk)), (yc, .inl (G.2.1, yl, .inl ym)), (yd, .inl (G.2.1, yl, .inl yf))]) (v := (some (.int (f_X5_has xn nu)))) (st1 := [.int (f_X5_has xn nu)]) (rest := []) (As := [.int nu]) [0, 1, 2, 3, 4] 0 5 hx hb hml hown hK (k_X5_has l G xo xa xb xc xd xl xn xw xk xm xf nu hxn hxl) (mf_X5_has hK.2) (kw_396 hK.2) (kw_397 hK.2) (kw_603 hK.2) ⟨rfl, rfl, Nat.le_of_ble_eq_true rfl, Nat.le_of_ble_eq_true rfl⟩ rfl hP hD hS hA rfl rfl hl (Nat.le_of_ble_eq_true rfl) rfl ⟨Nat.le_of_ble_eq_true rfl, Nat.le_of_ble_eq_true rfl⟩ rfl dX5_replace_2 rfl rfl (rpl_fast (by decide) rfl rfl) rfl rfl rfl (fun H locs hP hD hS => ?_)
  refine lv_if_eq (tgt := 64) hx hb dX5_replace_5 (by decide) (fun c1 => ?_) (fun c1 => ?_)
  · have hf := (if_pos c1).symm.trans hf
    exact hret (xw, xk, xm, xf) dX5_replace_64 hf rfl hP hS
  · have hf := (if_neg c1).symm.trans hf
    refine lv_aload_n hx hb dX5_replace_8 rfl (lv_at hl 2 rfl) ?_
    refine lv_iload_n hx hb dX5_replace_9 rfl (lv_at hl 3 rfl) ?_
    refine cl_V (q := (RX5, TX5, 5)) (ws' := [(xo, .inr (5, [.ref xa, .ref xb, .ref xc, .ref xd, .int (nI xn)])), (xa, .inl (G.2.1, xl, .inl xw)), (xb, .inl (G.2.1, xl, .inl xk)), (xc, .inl (G.2.1, xl, .inl xm)), (xd, .inl (G.2.1, xl, .inl xf)), (yo, .inr (5, [.ref ya, .ref yb, .ref yc, .ref yd, .int (nI yn)])), (ya, .inl (G.2.1, yl, .inl yw)), (yb, .inl (G.2.1, yl, .inl yk)), (yc, .inl (G.2.1, yl, .inl ym)), (yd, .inl (G.2.1, yl, .inl yf))]) (v := (some (.int (f_X5_has yn ot)))) (st1 := [.int (f_X5_has yn ot)]) (rest := []) (As := [.int ot]) [5, 6, 7, 8, 9] 5 5 hx hb hml hown hK (k_X5_has l G yo ya yb yc yd yl yn yw yk ym yf ot (by omega) (by omega)) (mf_X5_has hK.2) (kw_396 hK.2) (kw_397 hK.2) (kw_603 hK.2) ⟨rfl, rfl, Nat.le_of_ble_eq_true rfl, Nat.le_of_ble_eq_true rfl⟩ rfl hP hD hS hA rfl rfl hl (Nat.le_of_ble_eq_true rfl) rfl ⟨Nat.le_of_ble_eq_true rfl, Nat.le_of_ble_eq_true rfl⟩ rfl dX5_replace_10 rfl rfl (rpl_fast (by decide) rfl rfl) rfl rfl rfl (fun H locs hP hD hS => ?_)
    refine lv_if_eq (tgt := 64) hx hb dX5_replace_13 (by decide) (fun c2 => ?_) (fun c2 => ?_)
    · have hf := (if_pos c2).symm.trans hf
      exact hret (xw, xk, xm, xf) dX5_replace_64 hf rfl hP hS
    · have hf := (if_neg c2).symm.trans hf
      refine lv_aload_n hx hb dX5_replace_16 rfl (lv_at hl 0 rfl) ?_
      refine va_get (D := G.1) (ci := 5) (v := .ref xa) (C := RX5) (T := TX5) (N := 5) hx hb (ku_X5 hK.2) (fun _ h9 => h9) hown hK.1 hP 0 rfl rfl 0 (by decide) (kw_77 hK.2) (fun _ h9 => h9) rfl dX5_replace_17 ?_
      refine lv_iload_n hx hb dX5_replace_20 rfl (lv_at hl 1 rfl) ?_
      refine lv_aload_n hx hb dX5_replace_21 rfl (lv_at hl 2 rfl) ?_
      refine va_get (D := G.1) (ci := 5) (v := .ref ya) (C := RX5) (T := TX5) (N := 5) hx hb (ku_X5 hK.2) (fun _ h9 => h9) hown hK.1 hP 5 rfl rfl 0 (by decide) (kw_77 hK.2) (fun _ h9 => h9) rfl dX5_replace_22 ?_
      refine lv_iload_n hx hb dX5_replace_25 rfl (lv_at hl 3 rfl) ?_
      refine va_iald hx hb hK.1 hP 6 0 rfl rfl (has_in (by assumption) hyn hyl) dX5_replace_26 ?_
      refine va_iast hx hb hK.1 hP hD hS 1 0 rfl rfl (has_in (by assumption) hxn hxl) dX5_replace_27 (fun H locs hP hD hS => ?_)
      have hP : va_P G.1 wcl [(xo, .inr (5, [.ref xa, .ref xb, .ref xc, .ref xd, .int (nI xn)])), (xa, .inl (G.2.1, xl, .inl (upd xw nu.toNatClampNeg (yw ot.toNatClampNeg)))), (xb, .inl (G.2.1, xl, .inl xk)), (xc, .inl (G.2.1, xl, .inl xm)), (xd, .inl (G.2.1, xl, .inl xf)), (yo, .inr (5, [.ref ya, .ref yb, .ref yc, .ref yd, .int (nI yn)])), (ya, .inl (G.2.1, yl, .inl yw)), (yb, .inl (G.2.1, yl, .inl yk)), (yc, .inl (G.2.1, yl, .inl ym)), (yd, .inl (G.2.1, yl, .inl yf))] H := hP
      have hD : va_D A [(xo, .inr (5, [.ref xa, .ref xb, .ref xc, .ref xd, .int (nI xn)])), (xa, .inl (G.2.1, xl, .inl (upd xw nu.toNatClampNeg (yw ot.toNatClampNeg)))), (xb, .inl (G.2.1, xl, .inl xk)), (xc, .inl (G.2.1, xl, .inl xm)), (xd, .inl (G.2.1, xl, .inl xf)), (yo, .inr (5, [.ref ya, .ref yb, .ref yc, .ref yd, .int (nI yn)])), (ya, .inl (G.2.1, yl, .inl yw)), (yb, .inl (G.2.1, yl, .inl yk)), (yc, .inl (G.2.1, yl, .inl ym)), (yd, .inl (G.2.1, yl, .inl yf))] := hD
      refine lv_aload_n hx hb dX5_replace_28 rfl (lv_at hl 0 rfl) ?_
      refine va_get (D := G.1) (ci := 5) (v := .ref xb) (C := RX5) (T := TX5) (N := 5) hx hb (ku_X5 hK.2) (fun _ h9 => h9) hown hK.1 hP 0 rfl rfl 1 (by decide) (kw_80 hK.2) (fun _ h9 => h9) rfl dX5_replace_29 ?_
      refine lv_iload_n hx hb dX5_replace_32 rfl (lv_at hl 1 rfl) ?_
      refine lv_aload_n hx hb dX5_replace_33 rfl (lv_at hl 2 rfl) ?_
      refine va_get (D := G.1) (ci := 5) (v := .ref yb) (C := RX5) (T := TX5) (N := 5) hx hb (ku_X5 hK.2) (fun _ h9 => h9) hown hK.1 hP 5 rfl rfl 1 (by decide) (kw_80 hK.2) (fun _ h9 => h9) rfl dX5_replace_34 ?_
      refine lv_iload_n hx hb dX5_replace_37 rfl (lv_at hl 3 rfl) ?_
      refine va_iald hx hb hK.1 hP 7 0 rfl rfl (has_in (by assumption) hyn hyl) dX5_replace_38 ?_
      refine va_iast hx hb hK.1 hP hD hS 2 0 rfl rfl (has_in (by assumption) hxn hxl) dX5_replace_39 (fun H locs hP hD hS => ?_)
      have hP : va_P G.1 wcl [(xo, .inr (5, [.ref xa, .ref xb, .ref xc, .ref xd, .int (nI xn)])), (xa, .inl (G.2.1, xl, .inl (upd xw nu.toNatClampNeg (yw ot.toNatClampNeg)))), (xb, .inl (G.2.1, xl, .inl (upd xk nu.toNatClampNeg (yk ot.toNatClampNeg)))), (xc, .inl (G.2.1, xl, .inl xm)), (xd, .inl (G.2.1, xl, .inl xf)), (yo, .inr (5, [.ref ya, .ref yb, .ref yc, .ref yd, .int (nI yn)])), (ya, .inl (G.2.1, yl, .inl yw)), (yb, .inl (G.2.1, yl, .inl yk)), (yc, .inl (G.2.1, yl, .inl ym)), (yd, .inl (G.2.1, yl, .inl yf))] H := hP
      have hD : va_D A [(xo, .inr (5, [.ref xa, .ref xb, .ref xc, .ref xd, .int (nI xn)])), (xa, .inl (G.2.1, xl, .inl (upd xw nu.toNatClampNeg (yw ot.toNatClampNeg)))), (xb, .inl (G.2.1, xl, .inl (upd xk nu.toNatClampNeg (yk ot.toNatClampNeg)))), (xc, .inl (G.2.1, xl, .inl xm)), (xd, .inl (G.2.1, xl, .inl xf)), (yo, .inr (5, [.ref ya, .ref yb, .ref yc, .ref yd, .int (nI yn)])), (ya, .inl (G.2.1, yl, .inl yw)), (yb, .inl (G.2.1, yl, .inl yk)), (yc, .inl (G.2.1, yl, .inl ym)), (yd, .inl (G.2.1, yl, .inl yf))] := hD
      refine lv_aload_n hx hb dX5_replace_40 rfl (lv_at hl 0 rfl) ?_
      refine va_get (D := G.1) (ci := 5) (v := .ref xc) (C := RX5) (T := TX5) (N := 5) hx hb (ku_X5 hK.2) (fun _ h9 => h9) hown hK.1 hP 0 rfl rfl 2 (by decide) (kw_82 hK.2) (fun _ h9 => h9) rfl dX5_replace_41 ?_
      refine lv_iload_n hx hb dX5_replace_44 rfl (lv_at hl 1 rfl) ?_
      refine lv_aload_n hx hb dX5_replace_45 rfl (lv_at hl 2 rfl) ?_
      refine va_get (D := G.1) (ci := 5) (v := .ref yc) (C := RX5) (T := TX5) (N := 5) hx hb (ku_X5 hK.2) (fun _ h9 => h9) hown hK.1 hP 5 rfl rfl 2 (by decide) (kw_82 hK.2) (fun _ h9 => h9) rfl dX5_replace_46 ?_
      refine lv_iload_n hx hb dX5_replace_49 rfl (lv_at hl 3 rfl) ?_
      refine va_iald hx hb hK.1 hP 8 0 rfl rfl (has_in (by assumption) hyn hyl) dX5_replace_50 ?_
      refine va_iast hx hb hK.1 hP hD hS 3 0 rfl rfl (has_in (by assumption) hxn hxl) dX5_replace_51 (fun H locs hP hD hS => ?_)
      have hP : va_P G.1 wcl [(xo, .inr (5, [.ref xa, .ref xb, .ref xc, .ref xd, .int (nI xn)])), (xa, .inl (G.2.1, xl, .inl (upd xw nu.toNatClampNeg (yw ot.toNatClampNeg)))), (xb, .inl (G.2.1, xl, .inl (upd xk nu.toNatClampNeg (yk ot.toNatClampNeg)))), (xc, .inl (G.2.1, xl, .inl (upd xm nu.toNatClampNeg (ym ot.toNatClampNeg)))), (xd, .inl (G.2.1, xl, .inl xf)), (yo, .inr (5, [.ref ya, .ref yb, .ref yc, .ref yd, .int (nI yn)])), (ya, .inl (G.2.1, yl, .inl yw)), (yb, .inl (G.2.1, yl, .inl yk)), (yc, .inl (G.2.1, yl, .inl ym)), (yd, .inl (G.2.1, yl, .inl yf))] H := hP
      have hD : va_D A [(xo, .inr (5, [.ref xa, .ref xb, .ref xc, .ref xd, .int (nI xn)])), (xa, .inl (G.2.1, xl, .inl (upd xw nu.toNatClampNeg (yw ot.toNatClampNeg)))), (xb, .inl (G.2.1, xl, .inl (upd xk nu.toNatClampNeg (yk ot.toNatClampNeg)))), (xc, .inl (G.2.1, xl, .inl (upd xm nu.toNatClampNeg (ym ot.toNatClampNeg)))), (xd, .inl (G.2.1, xl, .inl xf)), (yo, .inr (5, [.ref ya, .ref yb, .ref yc, .ref yd, .int (nI yn)])), (ya, .inl (G.2.1, yl, .inl yw)), (yb, .inl (G.2.1, yl, .inl yk)), (yc, .inl (G.2.1, yl, .inl ym)), (yd, .inl (G.2.1, yl, .inl yf))] := hD
      refine lv_aload_n hx hb dX5_replace_52 rfl (lv_at hl 0 rfl) ?_
      refine va_get (D := G.1) (ci := 5) (v := .ref xd) (C := RX5) (T := TX5) (N := 5) hx hb (ku_X5 hK.2) (fun _ h9 => h9) hown hK.1 hP 0 rfl rfl 3 (by decide) (kw_85 hK.2) (fun _ h9 => h9) rfl dX5_replace_53 ?_
      refine lv_iload_n hx hb dX5_replace_56 rfl (lv_at hl 1 rfl) ?_
      refine lv_aload_n hx hb dX5_replace_57 rfl (lv_at hl 2 rfl) ?_
      refine va_get (D := G.1) (ci := 5) (v := .ref yd) (C := RX5) (T := TX5) (N := 5) hx hb (ku_X5 hK.2) (fun _ h9 => h9) hown hK.1 hP 5 rfl rfl 3 (by decide) (kw_85 hK.2) (fun _ h9 => h9) rfl dX5_replace_58 ?_
      refine lv_iload_n hx hb dX5_replace_61 rfl (lv_at hl 3 rfl) ?_
      refine va_iald hx hb hK.1 hP 9 0 rfl rfl (has_in (by assumption) hyn hyl) dX5_replace_62 ?_
      refine va_iast hx hb hK.1 hP hD hS 4 0 rfl rfl (has_in (by assumption) hxn hxl) dX5_replace_63 (fun H locs hP hD hS => ?_)
      have hP : va_P G.1 wcl [(xo, .inr (5, [.ref xa, .ref xb, .ref xc, .ref xd, .int (nI xn)])), (xa, .inl (G.2.1, xl, .inl (upd xw nu.toNatClampNeg (yw ot.toNatClampNeg)))), (xb, .inl (G.2.1, xl, .inl (upd xk nu.toNatClampNeg (yk ot.toNatClampNeg)))), (xc, .inl (G.2.1, xl, .inl (upd xm nu.toNatClampNeg (ym ot.toNatClampNeg)))), (xd, .inl (G.2.1, xl, .inl (upd xf nu.toNatClampNeg (yf ot.toNatClampNeg)))), (yo, .inr (5, [.ref ya, .ref yb, .ref yc, .ref yd, .int (nI yn)])), (ya, .inl (G.2.1, yl, .inl yw)), (yb, .inl (G.2.1, yl, .inl yk)), (yc, .inl (G.2.1, yl, .inl ym)), (yd, .inl (G.2.1, yl, .inl yf))] H := hP
      have hD : va_D A [(xo, .inr (5, [.ref xa, .ref xb, .ref xc, .ref xd, .int (nI xn)])), (xa, .inl (G.2.1, xl, .inl (upd xw nu.toNatClampNeg (yw ot.toNatClampNeg)))), (xb, .inl (G.2.1, xl, .inl (upd xk nu.toNatClampNeg (yk ot.toNatClampNeg)))), (xc, .inl (G.2.1, xl, .inl (upd xm nu.toNatClampNeg (ym ot.toNatClampNeg)))), (xd, .inl (G.2.1, xl, .inl (upd xf nu.toNatClampNeg (yf ot.toNatClampNeg)))), (yo, .inr (5, [.ref ya, .ref yb, .ref yc, .ref yd, .int (nI yn)])), (ya, .inl (G.2.1, yl, .inl yw)), (yb, .inl (G.2.1, yl, .inl yk)), (yc, .inl (G.2.1, yl, .inl ym)), (yd, .inl (G.2.1, yl, .inl yf))] := hD
      exact hret (upd xw nu.toNatClampNeg (yw ot.toNatClampNeg), upd xk nu.toNatClampNeg (yk ot.toNatClampNeg), upd xm nu.toNatClampNeg (ym ot.toNatClampNeg), upd xf nu.toNatClampNeg (yf ot.toNatClampNeg)) dX5_replace_64 hf rfl hP hS
def f_X5_copyFrom_18 (xl : Nat) (yn : Nat) (yw : Nat → Int32) (yk : Nat → Int32) (ym : Nat → Int32) (yf : Nat → Int32) : Nat → Nat → (Nat → Int32) → (Nat → Int32) → (Nat → Int32) → (Nat → Int32) → ((Nat → Int32) × (Nat → Int32) × (Nat → Int32) × (Nat → Int32) × Nat)
  | 0, i18, r1_18, r2_18, r3_18, r4_18 => (r1_18, r2_18, r3_18, r4_18, min yn xl)
  | k18 + 1, i18, r1_18, r2_18, r3_18, r4_18 => f_X5_copyFrom_18 xl yn yw yk ym yf k18 (i18 + 1) ((f_X5_replace (min yn xl) r1_18 r2_18 r3_18 r4_18 yn yw yk ym yf (nI i18) (nI i18)).1) ((f_X5_replace (min yn xl) r1_18 r2_18 r3_18 r4_18 yn yw yk ym yf (nI i18) (nI i18)).2.1) ((f_X5_replace (min yn xl) r1_18 r2_18 r3_18 r4_18 yn yw yk ym yf (nI i18) (nI i18)).2.2.1) ((f_X5_replace (min yn xl) r1_18 r2_18 r3_18 r4_18 yn yw yk ym yf (nI i18) (nI i18)).2.2.2)
theorem f_X5_copyFrom_18_z (xl : Nat) (yn : Nat) (yw : Nat → Int32) (yk : Nat → Int32) (ym : Nat → Int32) (yf : Nat → Int32) (i18 : Nat) (r1_18 : Nat → Int32) (r2_18 : Nat → Int32) (r3_18 : Nat → Int32) (r4_18 : Nat → Int32) : f_X5_copyFrom_18 xl yn yw yk ym yf 0 i18 r1_18 r2_18 r3_18 r4_18 = (r1_18, r2_18, r3_18, r4_18, min yn xl) := rfl
theorem f_X5_copyFrom_18_s (xl : Nat) (yn : Nat) (yw : Nat → Int32) (yk : Nat → Int32) (ym : Nat → Int32) (yf : Nat → Int32) (k18 : Nat) (i18 : Nat) (r1_18 : Nat → Int32) (r2_18 : Nat → Int32) (r3_18 : Nat → Int32) (r4_18 : Nat → Int32) : f_X5_copyFrom_18 xl yn yw yk ym yf (k18 + 1) i18 r1_18 r2_18 r3_18 r4_18 = f_X5_copyFrom_18 xl yn yw yk ym yf k18 (i18 + 1) ((f_X5_replace (min yn xl) r1_18 r2_18 r3_18 r4_18 yn yw yk ym yf (nI i18) (nI i18)).1) ((f_X5_replace (min yn xl) r1_18 r2_18 r3_18 r4_18 yn yw yk ym yf (nI i18) (nI i18)).2.1) ((f_X5_replace (min yn xl) r1_18 r2_18 r3_18 r4_18 yn yw yk ym yf (nI i18) (nI i18)).2.2.1) ((f_X5_replace (min yn xl) r1_18 r2_18 r3_18 r4_18 yn yw yk ym yf (nI i18) (nI i18)).2.2.2) := rfl
def f_X5_copyFrom (xl : Nat) (xw : Nat → Int32) (xk : Nat → Int32) (xm : Nat → Int32) (xf : Nat → Int32) (yn : Nat) (yw : Nat → Int32) (yk : Nat → Int32) (ym : Nat → Int32) (yf : Nat → Int32) : (Nat → Int32) × (Nat → Int32) × (Nat → Int32) × (Nat → Int32) × Nat := (f_X5_copyFrom_18 xl yn yw yk ym yf (min yn xl) 0 xw xk xm xf)
set_option maxHeartbeats 4000000 in
set_option maxRecDepth 100000 in
theorem k_X5_copyFrom (l : Launch) (G : wG) (xo : Nat) (xa : Nat) (xb : Nat) (xc : Nat) (xd : Nat) (xl : Nat) (xn : Nat) (xw : Nat → Int32) (xk : Nat → Int32) (xm : Nat → Int32) (xf : Nat → Int32) (yo : Nat) (ya : Nat) (yb : Nat) (yc : Nat) (yd : Nat) (yl : Nat) (yn : Nat) (yw : Nat → Int32) (yk : Nat → Int32) (ym : Nat → Int32) (yf : Nat → Int32) (hxn : xn ≤ xl) (hxl : xl ≤ 20) (hyn : yn ≤ yl) (hyl : yl ≤ 20) : CT l G yX5_copyFrom cX5_copyFrom 3 (none : Option Jvm.ClassFile.FieldType) ({ frames := 2, cells := 0, slots := 0, locals := 44 }) [.ref xo, .ref yo] [(xo, .inr (5, [.ref xa, .ref xb, .ref xc, .ref xd, .int (nI xn)])), (xa, .inl (G.2.1, xl, .inl xw)), (xb, .inl (G.2.1, xl, .inl xk)), (xc, .inl (G.2.1, xl, .inl xm)), (xd, .inl (G.2.1, xl, .inl xf)), (yo, .inr (5, [.ref ya, .ref yb, .ref yc, .ref yd, .int (nI yn)])), (ya, .inl (G.2.1, yl, .inl yw)), (yb, .inl (G.2.1, yl, .inl yk)), (yc, .inl (G.2.1, yl, .inl ym)), (yd, .inl (G.2.1, yl, .inl yf))] (fun u => [(xo, .inr (5, [.ref xa, .ref xb, .ref xc, .ref xd, .int (nI u.2.2.2.2)])), (xa, .inl (G.2.1, xl, .inl u.1)), (xb, .inl (G.2.1, xl, .inl u.2.1)), (xc, .inl (G.2.1, xl, .inl u.2.2.1)), (xd, .inl (G.2.1, xl, .inl u.2.2.2.1)), (yo, .inr (5, [.ref ya, .ref yb, .ref yc, .ref yd, .int (nI yn)])), (ya, .inl (G.2.1, yl, .inl yw)), (yb, .inl (G.2.1, yl, .inl yk)), (yc, .inl (G.2.1, yl, .inl ym)), (yd, .inl (G.2.1, yl, .inl yf))]) (fun _ => none) (f_X5_copyFrom xl xw xk xm xf yn yw yk ym yf) := by
  obtain ⟨R, hf⟩ : ∃ R, f_X5_copyFrom xl xw xk xm xf yn yw yk ym yf = R := ⟨_, rfl⟩
  rw [hf]
  refine CT.mkV RX5 (by decide +kernel) rfl (Nat.le_of_ble_eq_true rfl) ?_
  intro p e s m args below meth c A Q ls hx hb hml hown hK hP hD hS hA hret hl
  have hl : lv_has ls 3 [(0, .ref xo), (1, .ref yo)] := hl
  rw [f_X5_copyFrom] at hf
  refine lv_aload_n hx hb dX5_copyFrom_0 rfl (lv_at hl 0 rfl) ?_
  refine lv_aload_n hx hb dX5_copyFrom_1 rfl (lv_at hl 1 rfl) ?_
  refine va_get (D := G.1) (ci := 5) (v := .int (nI yn)) (C := RX5) (T := TX5) (N := 5) hx hb (ku_X5 hK.2) (fun _ h9 => h9) hown hK.1 hP 5 rfl rfl 4 (by decide) (kw_87 hK.2) (fun _ h9 => h9) rfl dX5_copyFrom_2 ?_
  refine lv_aload_n hx hb dX5_copyFrom_5 rfl (lv_at hl 0 rfl) ?_
  refine va_get (D := G.1) (ci := 5) (v := .ref xa) (C := RX5) (T := TX5) (N := 5) hx hb (ku_X5 hK.2) (fun _ h9 => h9) hown hK.1 hP 0 rfl rfl 0 (by decide) (kw_77 hK.2) (fun _ h9 => h9) rfl dX5_copyFrom_6 ?_
  refine va_alen hx hb hK.1 hP 1 0 rfl rfl (v := nI xl) rfl dX5_copyFrom_9 ?_
  refine va_mmin hx hb (by rw [hml]; exact hl.1.symm) hown (kw_598 hK.2) (kw_320 hK.2) (kw_37 hK.2) (kw_321 hK.2) (Nat.le_of_ble_eq_true rfl) (Nat.le_of_ble_eq_true rfl) (Nat.zero_le _) (Nat.zero_le _) dX5_copyFrom_10 ?_
  refine ww_e (nI_minE (a := yn) (b := xl) (by omega) (by omega)) ?_
  refine va_put (D := G.1) (ci := 5) (v := .int (nI (min yn xl))) (ty := .int) (C := RX5) (T := TX5) (N := 5) hx hb (ku_X5 hK.2) (fun _ h9 => h9) tyX5 tyX5_ok nmX5 hown hK.1 hP hD hS 0 rfl rfl 4 (by decide) (kw_87 hK.2) (fun _ h9 => h9) rfl (by decide +kernel) rfl rfl (Nat.le_of_ble_eq_true rfl) dX5_copyFrom_13 (fun H locs hP hD hS => ?_)
  have hP : va_P G.1 wcl [(xo, .inr (5, [.ref xa, .ref xb, .ref xc, .ref xd, .int (nI (min yn xl))])), (xa, .inl (G.2.1, xl, .inl xw)), (xb, .inl (G.2.1, xl, .inl xk)), (xc, .inl (G.2.1, xl, .inl xm)), (xd, .inl (G.2.1, xl, .inl xf)), (yo, .inr (5, [.ref ya, .ref yb, .ref yc, .ref yd, .int (nI yn)])), (ya, .inl (G.2.1, yl, .inl yw)), (yb, .inl (G.2.1, yl, .inl yk)), (yc, .inl (G.2.1, yl, .inl ym)), (yd, .inl (G.2.1, yl, .inl yf))] H := hP
  have hD : va_D A [(xo, .inr (5, [.ref xa, .ref xb, .ref xc, .ref xd, .int (nI (min yn xl))])), (xa, .inl (G.2.1, xl, .inl xw)), (xb, .inl (G.2.1, xl, .inl xk)), (xc, .inl (G.2.1, xl, .inl xm)), (xd, .inl (G.2.1, xl, .inl xf)), (yo, .inr (5, [.ref ya, .ref yb, .ref yc, .ref yd, .int (nI yn)])), (ya, .inl (G.2.1, yl, .inl yw)), (yb, .inl (G.2.1, yl, .inl yk)), (yc, .inl (G.2.1, yl, .inl ym)), (yd, .inl (G.2.1, yl, .inl yf))] := hD
  refine lv_iconst (v := 0) hx hb dX5_copyFrom_16 (by decide) ?_
  refine lv_istore_n (lv' := [(2, .int 0), (0, .ref xo), (1, .ref yo)]) hx hb dX5_copyFrom_17 rfl hl (by decide) rfl (fun ls hl => ?_)
  have L18 : ∀ (k18 : Nat) (i18 : Nat) (r1_18 : Nat → Int32) (r2_18 : Nat → Int32) (r3_18 : Nat → Int32) (r4_18 : Nat → Int32), k18 + i18 = min yn xl → f_X5_copyFrom_18 xl yn yw yk ym yf k18 i18 r1_18 r2_18 r3_18 r4_18 = R → ∀ (H : Heap) (locs : List Loc) (ls : Array Slot), va_P G.1 wcl [(xo, .inr (5, [.ref xa, .ref xb, .ref xc, .ref xd, .int (nI (min yn xl))])), (xa, .inl (G.2.1, xl, .inl r1_18)), (xb, .inl (G.2.1, xl, .inl r2_18)), (xc, .inl (G.2.1, xl, .inl r3_18)), (xd, .inl (G.2.1, xl, .inl r4_18)), (yo, .inr (5, [.ref ya, .ref yb, .ref yc, .ref yd, .int (nI yn)])), (ya, .inl (G.2.1, yl, .inl yw)), (yb, .inl (G.2.1, yl, .inl yk)), (yc, .inl (G.2.1, yl, .inl ym)), (yd, .inl (G.2.1, yl, .inl yf))] H → va_D A [(xo, .inr (5, [.ref xa, .ref xb, .ref xc, .ref xd, .int (nI (min yn xl))])), (xa, .inl (G.2.1, xl, .inl r1_18)), (xb, .inl (G.2.1, xl, .inl r2_18)), (xc, .inl (G.2.1, xl, .inl r3_18)), (xd, .inl (G.2.1, xl, .inl r4_18)), (yo, .inr (5, [.ref ya, .ref yb, .ref yc, .ref yd, .int (nI yn)])), (ya, .inl (G.2.1, yl, .inl yw)), (yb, .inl (G.2.1, yl, .inl yk)), (yc, .inl (G.2.1, yl, .inl ym)), (yd, .inl (G.2.1, yl, .inl yf))] → va_S A s.heap H locs → lv_has ls 3 [(0, .ref xo), (1, .ref yo), (2, .int (nI i18))] → W p l e ({ frames := 2, cells := 0, slots := 0, locals := 44 }) s m args below meth c H locs 0 0 Q (F0 m 18 ls []) := by
    intro k18
    induction k18 with
    | zero =>
      intro i18 r1_18 r2_18 r3_18 r4_18 hi18  hf _ _ ls hP hD hS hl
      rw [f_X5_copyFrom_18_z] at hf
      refine lv_iload_n hx hb dX5_copyFrom_18 rfl (lv_at hl 2 rfl) ?_
      refine lv_aload_n hx hb dX5_copyFrom_19 rfl (lv_at hl 0 rfl) ?_
      refine va_get (D := G.1) (ci := 5) (v := .int (nI (min yn xl))) (C := RX5) (T := TX5) (N := 5) hx hb (ku_X5 hK.2) (fun _ h9 => h9) hown hK.1 hP 0 rfl rfl 4 (by decide) (kw_87 hK.2) (fun _ h9 => h9) rfl dX5_copyFrom_20 ?_
      refine lv_icmp_ge (tgt := 39) hx hb dX5_copyFrom_23 (by decide) (fun _ => ?_) (fun c => absurd (ile (a := min yn xl) (b := i18) rfl rfl (by omega) (by omega) (by omega)) c)
      exact hret (r1_18, r2_18, r3_18, r4_18, min yn xl) dX5_copyFrom_39 hf rfl hP hS
    | succ k18 ih18 =>
      intro i18 r1_18 r2_18 r3_18 r4_18 hi18  hf _ _ ls hP hD hS hl
      rw [f_X5_copyFrom_18_s] at hf
      refine lv_iload_n hx hb dX5_copyFrom_18 rfl (lv_at hl 2 rfl) ?_
      refine lv_aload_n hx hb dX5_copyFrom_19 rfl (lv_at hl 0 rfl) ?_
      refine va_get (D := G.1) (ci := 5) (v := .int (nI (min yn xl))) (C := RX5) (T := TX5) (N := 5) hx hb (ku_X5 hK.2) (fun _ h9 => h9) hown hK.1 hP 0 rfl rfl 4 (by decide) (kw_87 hK.2) (fun _ h9 => h9) rfl dX5_copyFrom_20 ?_
      refine lv_icmp_ge (tgt := 39) hx hb dX5_copyFrom_23 (by decide) (fun c => absurd c (inle (a := min yn xl) (b := i18) rfl rfl (by omega) (by omega) (by omega))) (fun _ => ?_)
      refine lv_aload_n hx hb dX5_copyFrom_26 rfl (lv_at hl 0 rfl) ?_
      refine lv_iload_n hx hb dX5_copyFrom_27 rfl (lv_at hl 2 rfl) ?_
      refine lv_aload_n hx hb dX5_copyFrom_28 rfl (lv_at hl 1 rfl) ?_
      refine lv_iload_n hx hb dX5_copyFrom_29 rfl (lv_at hl 2 rfl) ?_
      refine cl_V (q := (RX5, TX5, 5)) (ws' := [(xo, .inr (5, [.ref xa, .ref xb, .ref xc, .ref xd, .int (nI (min yn xl))])), (xa, .inl (G.2.1, xl, .inl ((f_X5_replace (min yn xl) r1_18 r2_18 r3_18 r4_18 yn yw yk ym yf (nI i18) (nI i18)).1))), (xb, .inl (G.2.1, xl, .inl ((f_X5_replace (min yn xl) r1_18 r2_18 r3_18 r4_18 yn yw yk ym yf (nI i18) (nI i18)).2.1))), (xc, .inl (G.2.1, xl, .inl ((f_X5_replace (min yn xl) r1_18 r2_18 r3_18 r4_18 yn yw yk ym yf (nI i18) (nI i18)).2.2.1))), (xd, .inl (G.2.1, xl, .inl ((f_X5_replace (min yn xl) r1_18 r2_18 r3_18 r4_18 yn yw yk ym yf (nI i18) (nI i18)).2.2.2))), (yo, .inr (5, [.ref ya, .ref yb, .ref yc, .ref yd, .int (nI yn)])), (ya, .inl (G.2.1, yl, .inl yw)), (yb, .inl (G.2.1, yl, .inl yk)), (yc, .inl (G.2.1, yl, .inl ym)), (yd, .inl (G.2.1, yl, .inl yf))]) (v := none) (st1 := []) (rest := []) (As := [.int (nI i18), .ref yo, .int (nI i18)]) [0, 1, 2, 3, 4, 5, 6, 7, 8, 9] 0 5 hx hb hml hown hK (k_X5_replace l G xo xa xb xc xd xl (min yn xl) r1_18 r2_18 r3_18 r4_18 yo ya yb yc yd yl yn yw yk ym yf (nI i18) (nI i18) (by omega) hxl hyn hyl) (mf_X5_replace hK.2) (kw_600 hK.2) (kw_601 hK.2) (kw_599 hK.2) ⟨rfl, rfl, Nat.le_of_ble_eq_true rfl, Nat.le_of_ble_eq_true rfl⟩ rfl hP hD hS hA rfl rfl hl (Nat.le_of_ble_eq_true rfl) rfl ⟨Nat.le_of_ble_eq_true rfl, Nat.le_of_ble_eq_true rfl⟩ rfl dX5_copyFrom_30 rfl rfl (rpl_fast (by decide) rfl rfl) rfl rfl rfl (fun H locs hP hD hS => ?_)
      refine lv_iinc (v := nI (i18 + 1)) (lv' := [(2, .int (nI (i18 + 1))), (0, .ref xo), (1, .ref yo)]) hx hb dX5_copyFrom_33 hl (k := 2) rfl (nI_1 i18) (by decide) rfl (fun ls hl => ?_)
      refine lv_goto (tgt := 18) hx hb dX5_copyFrom_36 (by decide) ?_
      exact ih18 (i18 + 1) ((f_X5_replace (min yn xl) r1_18 r2_18 r3_18 r4_18 yn yw yk ym yf (nI i18) (nI i18)).1) ((f_X5_replace (min yn xl) r1_18 r2_18 r3_18 r4_18 yn yw yk ym yf (nI i18) (nI i18)).2.1) ((f_X5_replace (min yn xl) r1_18 r2_18 r3_18 r4_18 yn yw yk ym yf (nI i18) (nI i18)).2.2.1) ((f_X5_replace (min yn xl) r1_18 r2_18 r3_18 r4_18 yn yw yk ym yf (nI i18) (nI i18)).2.2.2) (by omega)  hf _ _ ls hP hD hS (lv_sub hl [1, 2, 0] rfl)
  exact L18 (min yn xl) 0 xw xk xm xf (by omega)  hf _ _ ls hP hD hS (lv_sub hl [1, 2, 0] rfl)
def f_X0_taughtNext_7 (xw : Nat → Int32) (xk : Nat → Int32) (xm : Nat → Int32) (xf : Nat → Int32) (xB : Int32) (s0 : Int32) : Nat → Nat → Int32 → Int32 → Int32
  | 0, i7, v2_7, v3_7 => v2_7 &&& ((v3_7 &&& xB) ^^^ (-1 : Int32))
  | k7 + 1, i7, v2_7, v3_7 => (if (s0 &&& ((1 : Int32) <<< ((xw i7) &&& 31))) = 0 then (if (f_X5_teaches xk xm xf i7 s0) = 0 then f_X0_taughtNext_7 xw xk xm xf xB s0 k7 (i7 + 1) v2_7 (v3_7 ||| ((1 : Int32) <<< ((xw i7) &&& 31))) else f_X0_taughtNext_7 xw xk xm xf xB s0 k7 (i7 + 1) (v2_7 ||| ((1 : Int32) <<< ((xw i7) &&& 31))) v3_7) else f_X0_taughtNext_7 xw xk xm xf xB s0 k7 (i7 + 1) v2_7 v3_7)
theorem f_X0_taughtNext_7_z (xw : Nat → Int32) (xk : Nat → Int32) (xm : Nat → Int32) (xf : Nat → Int32) (xB : Int32) (s0 : Int32) (i7 : Nat) (v2_7 : Int32) (v3_7 : Int32) : f_X0_taughtNext_7 xw xk xm xf xB s0 0 i7 v2_7 v3_7 = v2_7 &&& ((v3_7 &&& xB) ^^^ (-1 : Int32)) := rfl
theorem f_X0_taughtNext_7_s (xw : Nat → Int32) (xk : Nat → Int32) (xm : Nat → Int32) (xf : Nat → Int32) (xB : Int32) (s0 : Int32) (k7 : Nat) (i7 : Nat) (v2_7 : Int32) (v3_7 : Int32) : f_X0_taughtNext_7 xw xk xm xf xB s0 (k7 + 1) i7 v2_7 v3_7 = (if (s0 &&& ((1 : Int32) <<< ((xw i7) &&& 31))) = 0 then (if (f_X5_teaches xk xm xf i7 s0) = 0 then f_X0_taughtNext_7 xw xk xm xf xB s0 k7 (i7 + 1) v2_7 (v3_7 ||| ((1 : Int32) <<< ((xw i7) &&& 31))) else f_X0_taughtNext_7 xw xk xm xf xB s0 k7 (i7 + 1) (v2_7 ||| ((1 : Int32) <<< ((xw i7) &&& 31))) v3_7) else f_X0_taughtNext_7 xw xk xm xf xB s0 k7 (i7 + 1) v2_7 v3_7) := rfl
def f_X0_taughtNext (xn : Nat) (xw : Nat → Int32) (xk : Nat → Int32) (xm : Nat → Int32) (xf : Nat → Int32) (xB : Int32) (s0 : Int32) : Int32 := (f_X0_taughtNext_7 xw xk xm xf xB s0 xn 0 0 0)
set_option maxHeartbeats 4000000 in
set_option maxRecDepth 100000 in
theorem k_X0_taughtNext (l : Launch) (G : wG) (xO : Nat) (xo : Nat) (xa : Nat) (xb : Nat) (xc : Nat) (xd : Nat) (xl : Nat) (xn : Nat) (xw : Nat → Int32) (xk : Nat → Int32) (xm : Nat → Int32) (xf : Nat → Int32) (xH : Nat) (xM : Nat) (xB : Int32) (xh : Nat → Int32) (xt : Nat → Int32) (s0 : Int32) (hxn : xn ≤ xl) (hxl : xl ≤ 20) : CT l G yX0_taughtNext cX0_taughtNext 6 (some .int) ({ frames := 2, cells := 0, slots := 0, locals := 45 }) [.ref xO, .int s0] [(xO, .inr (0, [.ref xo, .ref xH, .ref xM, .int xB])), (xo, .inr (5, [.ref xa, .ref xb, .ref xc, .ref xd, .int (nI xn)])), (xa, .inl (G.2.1, xl, .inl xw)), (xb, .inl (G.2.1, xl, .inl xk)), (xc, .inl (G.2.1, xl, .inl xm)), (xd, .inl (G.2.1, xl, .inl xf)), (xH, .inl (G.2.1, 12, .inl xh)), (xM, .inl (G.2.1, 12, .inl xt))] (fun _ => [(xO, .inr (0, [.ref xo, .ref xH, .ref xM, .int xB])), (xo, .inr (5, [.ref xa, .ref xb, .ref xc, .ref xd, .int (nI xn)])), (xa, .inl (G.2.1, xl, .inl xw)), (xb, .inl (G.2.1, xl, .inl xk)), (xc, .inl (G.2.1, xl, .inl xm)), (xd, .inl (G.2.1, xl, .inl xf)), (xH, .inl (G.2.1, 12, .inl xh)), (xM, .inl (G.2.1, 12, .inl xt))]) (fun u => some (.int u)) (f_X0_taughtNext xn xw xk xm xf xB s0) := by
  obtain ⟨R, hf⟩ : ∃ R, f_X0_taughtNext xn xw xk xm xf xB s0 = R := ⟨_, rfl⟩
  rw [hf]
  refine CT.mkI RX0 (by decide +kernel) rfl (Nat.le_of_ble_eq_true rfl) ?_
  intro p e s m args below meth c A Q ls hx hb hml hown hK hP hD hS hA hret hl
  have hl : lv_has ls 6 [(0, .ref xO), (1, .int s0)] := hl
  rw [f_X0_taughtNext] at hf
  refine lv_iconst (v := 0) hx hb dX0_taughtNext_0 (by decide) ?_
  refine lv_istore_n (lv' := [(2, .int 0), (0, .ref xO), (1, .int s0)]) hx hb dX0_taughtNext_1 rfl hl (by decide) rfl (fun ls hl => ?_)
  refine lv_iconst (v := 0) hx hb dX0_taughtNext_2 (by decide) ?_
  refine lv_istore_n (lv' := [(3, .int 0), (2, .int 0), (0, .ref xO), (1, .int s0)]) hx hb dX0_taughtNext_3 rfl hl (by decide) rfl (fun ls hl => ?_)
  refine lv_iconst (v := 0) hx hb dX0_taughtNext_4 (by decide) ?_
  refine lv_istore (lv' := [(4, .int 0), (3, .int 0), (2, .int 0), (0, .ref xO), (1, .int s0)]) hx hb dX0_taughtNext_5 hl (by decide) rfl (fun ls hl => ?_)
  have L7 : ∀ (k7 : Nat) (i7 : Nat) (v2_7 : Int32) (v3_7 : Int32), k7 + i7 = xn → f_X0_taughtNext_7 xw xk xm xf xB s0 k7 i7 v2_7 v3_7 = R → ∀ (H : Heap) (locs : List Loc) (ls : Array Slot), va_P G.1 wcl [(xO, .inr (0, [.ref xo, .ref xH, .ref xM, .int xB])), (xo, .inr (5, [.ref xa, .ref xb, .ref xc, .ref xd, .int (nI xn)])), (xa, .inl (G.2.1, xl, .inl xw)), (xb, .inl (G.2.1, xl, .inl xk)), (xc, .inl (G.2.1, xl, .inl xm)), (xd, .inl (G.2.1, xl, .inl xf)), (xH, .inl (G.2.1, 12, .inl xh)), (xM, .inl (G.2.1, 12, .inl xt))] H → va_D A [(xO, .inr (0, [.ref xo, .ref xH, .ref xM, .int xB])), (xo, .inr (5, [.ref xa, .ref xb, .ref xc, .ref xd, .int (nI xn)])), (xa, .inl (G.2.1, xl, .inl xw)), (xb, .inl (G.2.1, xl, .inl xk)), (xc, .inl (G.2.1, xl, .inl xm)), (xd, .inl (G.2.1, xl, .inl xf)), (xH, .inl (G.2.1, 12, .inl xh)), (xM, .inl (G.2.1, 12, .inl xt))] → va_S A s.heap H locs → lv_has ls 6 [(0, .ref xO), (1, .int s0), (2, .int v2_7), (3, .int v3_7), (4, .int (nI i7))] → W p l e ({ frames := 2, cells := 0, slots := 0, locals := 45 }) s m args below meth c H locs 0 0 Q (F0 m 7 ls []) := by
    intro k7
    induction k7 with
    | zero =>
      intro i7 v2_7 v3_7 hi7  hf _ _ ls hP hD hS hl
      rw [f_X0_taughtNext_7_z] at hf
      refine lv_iload hx hb dX0_taughtNext_7 (lv_at hl 4 rfl) ?_
      refine lv_aload_n hx hb dX0_taughtNext_9 rfl (lv_at hl 0 rfl) ?_
      refine va_get (D := G.1) (ci := 0) (v := .ref xo) (C := RX0) (T := TX0) (N := 4) hx hb (ku_X0 hK.2) (fun _ h9 => h9) hown hK.1 hP 0 rfl rfl 0 (by decide) (kw_104 hK.2) (fun _ h9 => h9) rfl dX0_taughtNext_10 ?_
      refine va_getN (D := G.1) (ci := 5) (v := .int (nI xn)) (C := RX5) (T := TX5) (N := 5) hx hb (ku_X5 hK.2) (fun _ h9 => h9) hown hK.1 hP 1 rfl rfl 4 (by decide) (kw_90 hK.2) (fun _ h9 => h9) rfl dX0_taughtNext_13 ?_
      refine lv_icmp_ge (tgt := 75) hx hb dX0_taughtNext_16 (by decide) (fun _ => ?_) (fun c => absurd (ile (a := xn) (b := i7) rfl rfl (by omega) (by omega) (by omega)) c)
      refine lv_iload_n hx hb dX0_taughtNext_75 rfl (lv_at hl 2 rfl) ?_
      refine lv_iload_n hx hb dX0_taughtNext_76 rfl (lv_at hl 3 rfl) ?_
      refine lv_aload_n hx hb dX0_taughtNext_77 rfl (lv_at hl 0 rfl) ?_
      refine va_get (D := G.1) (ci := 0) (v := .int xB) (C := RX0) (T := TX0) (N := 4) hx hb (ku_X0 hK.2) (fun _ h9 => h9) hown hK.1 hP 0 rfl rfl 3 (by decide) (kw_112 hK.2) (fun _ h9 => h9) rfl dX0_taughtNext_78 ?_
      refine lv_iand hx hb dX0_taughtNext_81 ?_
      refine lv_iconst (v := -1) hx hb dX0_taughtNext_82 (by decide) ?_
      refine lv_ixor hx hb dX0_taughtNext_83 ?_
      refine lv_iand hx hb dX0_taughtNext_84 ?_
      exact hret (v2_7 &&& ((v3_7 &&& xB) ^^^ (-1 : Int32))) dX0_taughtNext_85 rfl hf rfl hP hS
    | succ k7 ih7 =>
      intro i7 v2_7 v3_7 hi7  hf _ _ ls hP hD hS hl
      rw [f_X0_taughtNext_7_s] at hf
      refine lv_iload hx hb dX0_taughtNext_7 (lv_at hl 4 rfl) ?_
      refine lv_aload_n hx hb dX0_taughtNext_9 rfl (lv_at hl 0 rfl) ?_
      refine va_get (D := G.1) (ci := 0) (v := .ref xo) (C := RX0) (T := TX0) (N := 4) hx hb (ku_X0 hK.2) (fun _ h9 => h9) hown hK.1 hP 0 rfl rfl 0 (by decide) (kw_104 hK.2) (fun _ h9 => h9) rfl dX0_taughtNext_10 ?_
      refine va_getN (D := G.1) (ci := 5) (v := .int (nI xn)) (C := RX5) (T := TX5) (N := 5) hx hb (ku_X5 hK.2) (fun _ h9 => h9) hown hK.1 hP 1 rfl rfl 4 (by decide) (kw_90 hK.2) (fun _ h9 => h9) rfl dX0_taughtNext_13 ?_
      refine lv_icmp_ge (tgt := 75) hx hb dX0_taughtNext_16 (by decide) (fun c => absurd c (inle (a := xn) (b := i7) rfl rfl (by omega) (by omega) (by omega))) (fun _ => ?_)
      refine lv_iconst (v := 1) hx hb dX0_taughtNext_19 (by decide) ?_
      refine lv_aload_n hx hb dX0_taughtNext_20 rfl (lv_at hl 0 rfl) ?_
      refine va_get (D := G.1) (ci := 0) (v := .ref xo) (C := RX0) (T := TX0) (N := 4) hx hb (ku_X0 hK.2) (fun _ h9 => h9) hown hK.1 hP 0 rfl rfl 0 (by decide) (kw_104 hK.2) (fun _ h9 => h9) rfl dX0_taughtNext_21 ?_
      refine va_getN (D := G.1) (ci := 5) (v := .ref xa) (C := RX5) (T := TX5) (N := 5) hx hb (ku_X5 hK.2) (fun _ h9 => h9) hown hK.1 hP 1 rfl rfl 0 (by decide) (kw_78 hK.2) (fun _ h9 => h9) rfl dX0_taughtNext_24 ?_
      refine lv_iload hx hb dX0_taughtNext_27 (lv_at hl 4 rfl) ?_
      refine ww_ild (j := i7) hx hb hK.1 hP 2 0 rfl rfl (by omega) (by omega) dX0_taughtNext_29 ?_
      refine lv_ishl hx hb dX0_taughtNext_30 ?_
      refine lv_istore (lv' := [(5, .int ((1 : Int32) <<< ((xw i7) &&& 31))), (0, .ref xO), (1, .int s0), (2, .int v2_7), (3, .int v3_7), (4, .int (nI i7))]) hx hb dX0_taughtNext_31 hl (by decide) rfl (fun ls hl => ?_)
      refine lv_iload_n hx hb dX0_taughtNext_33 rfl (lv_at hl 2 rfl) ?_
      refine lv_iload hx hb dX0_taughtNext_34 (lv_at hl 0 rfl) ?_
      refine lv_iand hx hb dX0_taughtNext_36 ?_
      refine lv_if_eq (tgt := 43) hx hb dX0_taughtNext_37 (by decide) (fun c1 => ?_) (fun c1 => ?_)
      · have hf := (if_pos c1).symm.trans hf
        refine lv_aload_n hx hb dX0_taughtNext_43 rfl (lv_at hl 1 rfl) ?_
        refine va_get (D := G.1) (ci := 0) (v := .ref xo) (C := RX0) (T := TX0) (N := 4) hx hb (ku_X0 hK.2) (fun _ h9 => h9) hown hK.1 hP 0 rfl rfl 0 (by decide) (kw_104 hK.2) (fun _ h9 => h9) rfl dX0_taughtNext_44 ?_
        refine lv_iload hx hb dX0_taughtNext_47 (lv_at hl 5 rfl) ?_
        refine lv_iload_n hx hb dX0_taughtNext_49 rfl (lv_at hl 2 rfl) ?_
        refine cl_V (q := (RX5, TX5, 5)) (ws' := [(xO, .inr (0, [.ref xo, .ref xH, .ref xM, .int xB])), (xo, .inr (5, [.ref xa, .ref xb, .ref xc, .ref xd, .int (nI xn)])), (xa, .inl (G.2.1, xl, .inl xw)), (xb, .inl (G.2.1, xl, .inl xk)), (xc, .inl (G.2.1, xl, .inl xm)), (xd, .inl (G.2.1, xl, .inl xf)), (xH, .inl (G.2.1, 12, .inl xh)), (xM, .inl (G.2.1, 12, .inl xt))]) (v := (some (.int (f_X5_teaches xk xm xf i7 s0)))) (st1 := [.int (f_X5_teaches xk xm xf i7 s0)]) (rest := []) (As := [.int (nI i7), .int s0]) [1, 2, 3, 4, 5] 1 5 hx hb hml hown hK (k_X5_teaches l G xo xa xb xc xd xl xn xw xk xm xf i7 s0 hxn hxl (by omega)) (mf_X5_teaches hK.2) (kw_426 hK.2) (kw_427 hK.2) (kw_425 hK.2) ⟨rfl, rfl, Nat.le_of_ble_eq_true rfl, Nat.le_of_ble_eq_true rfl⟩ rfl hP hD hS hA rfl rfl hl (Nat.le_of_ble_eq_true rfl) rfl ⟨Nat.le_of_ble_eq_true rfl, Nat.le_of_ble_eq_true rfl⟩ rfl dX0_taughtNext_50 rfl rfl (rpl_fast (by decide) rfl rfl) rfl rfl rfl (fun H locs hP hD hS => ?_)
        refine lv_if_eq (tgt := 64) hx hb dX0_taughtNext_53 (by decide) (fun c2 => ?_) (fun c2 => ?_)
        · have hf := (if_pos c2).symm.trans hf
          refine lv_iload_n hx hb dX0_taughtNext_64 rfl (lv_at hl 4 rfl) ?_
          refine lv_iload hx hb dX0_taughtNext_65 (lv_at hl 0 rfl) ?_
          refine lv_ior hx hb dX0_taughtNext_67 ?_
          refine lv_istore_n (lv' := [(3, .int (v3_7 ||| ((1 : Int32) <<< ((xw i7) &&& 31)))), (5, .int ((1 : Int32) <<< ((xw i7) &&& 31))), (0, .ref xO), (1, .int s0), (2, .int v2_7), (4, .int (nI i7))]) hx hb dX0_taughtNext_68 rfl hl (by decide) rfl (fun ls hl => ?_)
          refine lv_iinc (v := nI (i7 + 1)) (lv' := [(4, .int (nI (i7 + 1))), (3, .int (v3_7 ||| ((1 : Int32) <<< ((xw i7) &&& 31)))), (5, .int ((1 : Int32) <<< ((xw i7) &&& 31))), (0, .ref xO), (1, .int s0), (2, .int v2_7)]) hx hb dX0_taughtNext_69 hl (k := 5) rfl (nI_1 i7) (by decide) rfl (fun ls hl => ?_)
          refine lv_goto (tgt := 7) hx hb dX0_taughtNext_72 (by decide) ?_
          exact ih7 (i7 + 1) v2_7 (v3_7 ||| ((1 : Int32) <<< ((xw i7) &&& 31))) (by omega)  hf _ _ ls hP hD hS (lv_sub hl [3, 4, 5, 1, 0] rfl)
        · have hf := (if_neg c2).symm.trans hf
          refine lv_iload_n hx hb dX0_taughtNext_56 rfl (lv_at hl 3 rfl) ?_
          refine lv_iload hx hb dX0_taughtNext_57 (lv_at hl 0 rfl) ?_
          refine lv_ior hx hb dX0_taughtNext_59 ?_
          refine lv_istore_n (lv' := [(2, .int (v2_7 ||| ((1 : Int32) <<< ((xw i7) &&& 31)))), (5, .int ((1 : Int32) <<< ((xw i7) &&& 31))), (0, .ref xO), (1, .int s0), (3, .int v3_7), (4, .int (nI i7))]) hx hb dX0_taughtNext_60 rfl hl (by decide) rfl (fun ls hl => ?_)
          refine lv_goto (tgt := 69) hx hb dX0_taughtNext_61 (by decide) ?_
          refine lv_iinc (v := nI (i7 + 1)) (lv' := [(4, .int (nI (i7 + 1))), (2, .int (v2_7 ||| ((1 : Int32) <<< ((xw i7) &&& 31)))), (5, .int ((1 : Int32) <<< ((xw i7) &&& 31))), (0, .ref xO), (1, .int s0), (3, .int v3_7)]) hx hb dX0_taughtNext_69 hl (k := 5) rfl (nI_1 i7) (by decide) rfl (fun ls hl => ?_)
          refine lv_goto (tgt := 7) hx hb dX0_taughtNext_72 (by decide) ?_
          exact ih7 (i7 + 1) (v2_7 ||| ((1 : Int32) <<< ((xw i7) &&& 31))) v3_7 (by omega)  hf _ _ ls hP hD hS (lv_sub hl [3, 4, 1, 5, 0] rfl)
      · have hf := (if_neg c1).symm.trans hf
        refine lv_goto (tgt := 69) hx hb dX0_taughtNext_40 (by decide) ?_
        refine lv_iinc (v := nI (i7 + 1)) (lv' := [(4, .int (nI (i7 + 1))), (5, .int ((1 : Int32) <<< ((xw i7) &&& 31))), (0, .ref xO), (1, .int s0), (2, .int v2_7), (3, .int v3_7)]) hx hb dX0_taughtNext_69 hl (k := 5) rfl (nI_1 i7) (by decide) rfl (fun ls hl => ?_)
        refine lv_goto (tgt := 7) hx hb dX0_taughtNext_72 (by decide) ?_
        exact ih7 (i7 + 1) v2_7 v3_7 (by omega)  hf _ _ ls hP hD hS (lv_sub hl [2, 3, 4, 5, 0] rfl)
  exact L7 xn 0 0 0 (by omega)  hf _ _ ls hP hD hS (lv_sub hl [3, 4, 2, 1, 0] rfl)
def f_X0_someTaughtNext_9 (xn : Nat) (xw : Nat → Int32) (xk : Nat → Int32) (xm : Nat → Int32) (xf : Nat → Int32) (xB : Int32) (s0 : Int32) : Nat → Nat → Int32
  | 0, i9 => (if xB = 0 then 0 else f_X0_taughtNext xn xw xk xm xf xB s0)
  | k9 + 1, i9 => (if ((s0 ||| xB) &&& ((1 : Int32) <<< ((xw i9) &&& 31))) = 0 then (if (f_X5_teaches xk xm xf i9 s0) = 0 then f_X0_someTaughtNext_9 xn xw xk xm xf xB s0 k9 (i9 + 1) else (1 : Int32) <<< ((xw i9) &&& 31)) else f_X0_someTaughtNext_9 xn xw xk xm xf xB s0 k9 (i9 + 1))
theorem f_X0_someTaughtNext_9_z (xn : Nat) (xw : Nat → Int32) (xk : Nat → Int32) (xm : Nat → Int32) (xf : Nat → Int32) (xB : Int32) (s0 : Int32) (i9 : Nat) : f_X0_someTaughtNext_9 xn xw xk xm xf xB s0 0 i9 = (if xB = 0 then 0 else f_X0_taughtNext xn xw xk xm xf xB s0) := rfl
theorem f_X0_someTaughtNext_9_s (xn : Nat) (xw : Nat → Int32) (xk : Nat → Int32) (xm : Nat → Int32) (xf : Nat → Int32) (xB : Int32) (s0 : Int32) (k9 : Nat) (i9 : Nat) : f_X0_someTaughtNext_9 xn xw xk xm xf xB s0 (k9 + 1) i9 = (if ((s0 ||| xB) &&& ((1 : Int32) <<< ((xw i9) &&& 31))) = 0 then (if (f_X5_teaches xk xm xf i9 s0) = 0 then f_X0_someTaughtNext_9 xn xw xk xm xf xB s0 k9 (i9 + 1) else (1 : Int32) <<< ((xw i9) &&& 31)) else f_X0_someTaughtNext_9 xn xw xk xm xf xB s0 k9 (i9 + 1)) := rfl
def f_X0_someTaughtNext (xn : Nat) (xw : Nat → Int32) (xk : Nat → Int32) (xm : Nat → Int32) (xf : Nat → Int32) (xB : Int32) (s0 : Int32) : Int32 := (f_X0_someTaughtNext_9 xn xw xk xm xf xB s0 xn 0)
set_option maxHeartbeats 4000000 in
set_option maxRecDepth 100000 in
theorem k_X0_someTaughtNext (l : Launch) (G : wG) (xO : Nat) (xo : Nat) (xa : Nat) (xb : Nat) (xc : Nat) (xd : Nat) (xl : Nat) (xn : Nat) (xw : Nat → Int32) (xk : Nat → Int32) (xm : Nat → Int32) (xf : Nat → Int32) (xH : Nat) (xM : Nat) (xB : Int32) (xh : Nat → Int32) (xt : Nat → Int32) (s0 : Int32) (hxn : xn ≤ xl) (hxl : xl ≤ 20) : CT l G yX0_someTaughtNext cX0_someTaughtNext 5 (some .int) ({ frames := 3, cells := 0, slots := 0, locals := 70 }) [.ref xO, .int s0] [(xO, .inr (0, [.ref xo, .ref xH, .ref xM, .int xB])), (xo, .inr (5, [.ref xa, .ref xb, .ref xc, .ref xd, .int (nI xn)])), (xa, .inl (G.2.1, xl, .inl xw)), (xb, .inl (G.2.1, xl, .inl xk)), (xc, .inl (G.2.1, xl, .inl xm)), (xd, .inl (G.2.1, xl, .inl xf)), (xH, .inl (G.2.1, 12, .inl xh)), (xM, .inl (G.2.1, 12, .inl xt))] (fun _ => [(xO, .inr (0, [.ref xo, .ref xH, .ref xM, .int xB])), (xo, .inr (5, [.ref xa, .ref xb, .ref xc, .ref xd, .int (nI xn)])), (xa, .inl (G.2.1, xl, .inl xw)), (xb, .inl (G.2.1, xl, .inl xk)), (xc, .inl (G.2.1, xl, .inl xm)), (xd, .inl (G.2.1, xl, .inl xf)), (xH, .inl (G.2.1, 12, .inl xh)), (xM, .inl (G.2.1, 12, .inl xt))]) (fun u => some (.int u)) (f_X0_someTaughtNext xn xw xk xm xf xB s0) := by
  obtain ⟨R, hf⟩ : ∃ R, f_X0_someTaughtNext xn xw xk xm xf xB s0 = R := ⟨_, rfl⟩
  rw [hf]
  refine CT.mkI RX0 (by decide +kernel) rfl (Nat.le_of_ble_eq_true rfl) ?_
  intro p e s m args below meth c A Q ls hx hb hml hown hK hP hD hS hA hret hl
  have hl : lv_has ls 5 [(0, .ref xO), (1, .int s0)] := hl
  rw [f_X0_someTaughtNext] at hf
  refine lv_iload_n hx hb dX0_someTaughtNext_0 rfl (lv_at hl 1 rfl) ?_
  refine lv_aload_n hx hb dX0_someTaughtNext_1 rfl (lv_at hl 0 rfl) ?_
  refine va_get (D := G.1) (ci := 0) (v := .int xB) (C := RX0) (T := TX0) (N := 4) hx hb (ku_X0 hK.2) (fun _ h9 => h9) hown hK.1 hP 0 rfl rfl 3 (by decide) (kw_112 hK.2) (fun _ h9 => h9) rfl dX0_someTaughtNext_2 ?_
  refine lv_ior hx hb dX0_someTaughtNext_5 ?_
  refine lv_istore_n (lv' := [(2, .int (s0 ||| xB)), (0, .ref xO), (1, .int s0)]) hx hb dX0_someTaughtNext_6 rfl hl (by decide) rfl (fun ls hl => ?_)
  refine lv_iconst (v := 0) hx hb dX0_someTaughtNext_7 (by decide) ?_
  refine lv_istore_n (lv' := [(3, .int 0), (2, .int (s0 ||| xB)), (0, .ref xO), (1, .int s0)]) hx hb dX0_someTaughtNext_8 rfl hl (by decide) rfl (fun ls hl => ?_)
  have L9 : ∀ (k9 : Nat) (i9 : Nat), k9 + i9 = xn → f_X0_someTaughtNext_9 xn xw xk xm xf xB s0 k9 i9 = R → ∀ (H : Heap) (locs : List Loc) (ls : Array Slot), va_P G.1 wcl [(xO, .inr (0, [.ref xo, .ref xH, .ref xM, .int xB])), (xo, .inr (5, [.ref xa, .ref xb, .ref xc, .ref xd, .int (nI xn)])), (xa, .inl (G.2.1, xl, .inl xw)), (xb, .inl (G.2.1, xl, .inl xk)), (xc, .inl (G.2.1, xl, .inl xm)), (xd, .inl (G.2.1, xl, .inl xf)), (xH, .inl (G.2.1, 12, .inl xh)), (xM, .inl (G.2.1, 12, .inl xt))] H → va_D A [(xO, .inr (0, [.ref xo, .ref xH, .ref xM, .int xB])), (xo, .inr (5, [.ref xa, .ref xb, .ref xc, .ref xd, .int (nI xn)])), (xa, .inl (G.2.1, xl, .inl xw)), (xb, .inl (G.2.1, xl, .inl xk)), (xc, .inl (G.2.1, xl, .inl xm)), (xd, .inl (G.2.1, xl, .inl xf)), (xH, .inl (G.2.1, 12, .inl xh)), (xM, .inl (G.2.1, 12, .inl xt))] → va_S A s.heap H locs → lv_has ls 5 [(0, .ref xO), (1, .int s0), (2, .int (s0 ||| xB)), (3, .int (nI i9))] → W p l e ({ frames := 3, cells := 0, slots := 0, locals := 70 }) s m args below meth c H locs 0 0 Q (F0 m 9 ls []) := by
    intro k9
    induction k9 with
    | zero =>
      intro i9 hi9  hf _ _ ls hP hD hS hl
      rw [f_X0_someTaughtNext_9_z] at hf
      refine lv_iload_n hx hb dX0_someTaughtNext_9 rfl (lv_at hl 3 rfl) ?_
      refine lv_aload_n hx hb dX0_someTaughtNext_10 rfl (lv_at hl 0 rfl) ?_
      refine va_get (D := G.1) (ci := 0) (v := .ref xo) (C := RX0) (T := TX0) (N := 4) hx hb (ku_X0 hK.2) (fun _ h9 => h9) hown hK.1 hP 0 rfl rfl 0 (by decide) (kw_104 hK.2) (fun _ h9 => h9) rfl dX0_someTaughtNext_11 ?_
      refine va_getN (D := G.1) (ci := 5) (v := .int (nI xn)) (C := RX5) (T := TX5) (N := 5) hx hb (ku_X5 hK.2) (fun _ h9 => h9) hown hK.1 hP 1 rfl rfl 4 (by decide) (kw_90 hK.2) (fun _ h9 => h9) rfl dX0_someTaughtNext_14 ?_
      refine lv_icmp_ge (tgt := 61) hx hb dX0_someTaughtNext_17 (by decide) (fun _ => ?_) (fun c => absurd (ile (a := xn) (b := i9) rfl rfl (by omega) (by omega) (by omega)) c)
      refine lv_aload_n hx hb dX0_someTaughtNext_61 rfl (lv_at hl 0 rfl) ?_
      refine va_get (D := G.1) (ci := 0) (v := .int xB) (C := RX0) (T := TX0) (N := 4) hx hb (ku_X0 hK.2) (fun _ h9 => h9) hown hK.1 hP 0 rfl rfl 3 (by decide) (kw_112 hK.2) (fun _ h9 => h9) rfl dX0_someTaughtNext_62 ?_
      refine lv_if_ne (tgt := 72) hx hb dX0_someTaughtNext_65 (by decide) (fun c1 => ?_) (fun c1 => ?_)
      · have hf := (if_neg c1).symm.trans hf
        refine lv_aload_n hx hb dX0_someTaughtNext_72 rfl (lv_at hl 0 rfl) ?_
        refine lv_iload_n hx hb dX0_someTaughtNext_73 rfl (lv_at hl 1 rfl) ?_
        refine cl_V (q := (RX0, TX0, 4)) (ws' := [(xO, .inr (0, [.ref xo, .ref xH, .ref xM, .int xB])), (xo, .inr (5, [.ref xa, .ref xb, .ref xc, .ref xd, .int (nI xn)])), (xa, .inl (G.2.1, xl, .inl xw)), (xb, .inl (G.2.1, xl, .inl xk)), (xc, .inl (G.2.1, xl, .inl xm)), (xd, .inl (G.2.1, xl, .inl xf)), (xH, .inl (G.2.1, 12, .inl xh)), (xM, .inl (G.2.1, 12, .inl xt))]) (v := (some (.int (f_X0_taughtNext xn xw xk xm xf xB s0)))) (st1 := [.int (f_X0_taughtNext xn xw xk xm xf xB s0)]) (rest := []) (As := [.int s0]) [0, 1, 2, 3, 4, 5, 6, 7] 0 0 hx hb hml hown hK (k_X0_taughtNext l G xO xo xa xb xc xd xl xn xw xk xm xf xH xM xB xh xt s0 hxn hxl) (mf_X0_taughtNext hK.2) (kw_422 hK.2) (kw_423 hK.2) (kw_421 hK.2) ⟨rfl, rfl, Nat.le_of_ble_eq_true rfl, Nat.le_of_ble_eq_true rfl⟩ rfl hP hD hS hA rfl rfl hl (Nat.le_of_ble_eq_true rfl) rfl ⟨Nat.le_of_ble_eq_true rfl, Nat.le_of_ble_eq_true rfl⟩ rfl dX0_someTaughtNext_74 rfl rfl (rpl_fast (by decide) rfl rfl) rfl rfl rfl (fun H locs hP hD hS => ?_)
        exact hret (f_X0_taughtNext xn xw xk xm xf xB s0) dX0_someTaughtNext_77 rfl hf rfl hP hS
      · have hf := (if_pos c1).symm.trans hf
        refine lv_iconst (v := 0) hx hb dX0_someTaughtNext_68 (by decide) ?_
        refine lv_goto (tgt := 77) hx hb dX0_someTaughtNext_69 (by decide) ?_
        exact hret 0 dX0_someTaughtNext_77 rfl hf rfl hP hS
    | succ k9 ih9 =>
      intro i9 hi9  hf _ _ ls hP hD hS hl
      rw [f_X0_someTaughtNext_9_s] at hf
      refine lv_iload_n hx hb dX0_someTaughtNext_9 rfl (lv_at hl 3 rfl) ?_
      refine lv_aload_n hx hb dX0_someTaughtNext_10 rfl (lv_at hl 0 rfl) ?_
      refine va_get (D := G.1) (ci := 0) (v := .ref xo) (C := RX0) (T := TX0) (N := 4) hx hb (ku_X0 hK.2) (fun _ h9 => h9) hown hK.1 hP 0 rfl rfl 0 (by decide) (kw_104 hK.2) (fun _ h9 => h9) rfl dX0_someTaughtNext_11 ?_
      refine va_getN (D := G.1) (ci := 5) (v := .int (nI xn)) (C := RX5) (T := TX5) (N := 5) hx hb (ku_X5 hK.2) (fun _ h9 => h9) hown hK.1 hP 1 rfl rfl 4 (by decide) (kw_90 hK.2) (fun _ h9 => h9) rfl dX0_someTaughtNext_14 ?_
      refine lv_icmp_ge (tgt := 61) hx hb dX0_someTaughtNext_17 (by decide) (fun c => absurd c (inle (a := xn) (b := i9) rfl rfl (by omega) (by omega) (by omega))) (fun _ => ?_)
      refine lv_iconst (v := 1) hx hb dX0_someTaughtNext_20 (by decide) ?_
      refine lv_aload_n hx hb dX0_someTaughtNext_21 rfl (lv_at hl 0 rfl) ?_
      refine va_get (D := G.1) (ci := 0) (v := .ref xo) (C := RX0) (T := TX0) (N := 4) hx hb (ku_X0 hK.2) (fun _ h9 => h9) hown hK.1 hP 0 rfl rfl 0 (by decide) (kw_104 hK.2) (fun _ h9 => h9) rfl dX0_someTaughtNext_22 ?_
      refine va_getN (D := G.1) (ci := 5) (v := .ref xa) (C := RX5) (T := TX5) (N := 5) hx hb (ku_X5 hK.2) (fun _ h9 => h9) hown hK.1 hP 1 rfl rfl 0 (by decide) (kw_78 hK.2) (fun _ h9 => h9) rfl dX0_someTaughtNext_25 ?_
      refine lv_iload_n hx hb dX0_someTaughtNext_28 rfl (lv_at hl 3 rfl) ?_
      refine ww_ild (j := i9) hx hb hK.1 hP 2 0 rfl rfl (by omega) (by omega) dX0_someTaughtNext_29 ?_
      refine lv_ishl hx hb dX0_someTaughtNext_30 ?_
      refine lv_istore (lv' := [(4, .int ((1 : Int32) <<< ((xw i9) &&& 31))), (0, .ref xO), (1, .int s0), (2, .int (s0 ||| xB)), (3, .int (nI i9))]) hx hb dX0_someTaughtNext_31 hl (by decide) rfl (fun ls hl => ?_)
      refine lv_iload_n hx hb dX0_someTaughtNext_33 rfl (lv_at hl 3 rfl) ?_
      refine lv_iload hx hb dX0_someTaughtNext_34 (lv_at hl 0 rfl) ?_
      refine lv_iand hx hb dX0_someTaughtNext_36 ?_
      refine lv_if_ne (tgt := 55) hx hb dX0_someTaughtNext_37 (by decide) (fun c2 => ?_) (fun c2 => ?_)
      · have hf := (if_neg c2).symm.trans hf
        refine lv_iinc (v := nI (i9 + 1)) (lv' := [(3, .int (nI (i9 + 1))), (4, .int ((1 : Int32) <<< ((xw i9) &&& 31))), (0, .ref xO), (1, .int s0), (2, .int (s0 ||| xB))]) hx hb dX0_someTaughtNext_55 hl (k := 4) rfl (nI_1 i9) (by decide) rfl (fun ls hl => ?_)
        refine lv_goto (tgt := 9) hx hb dX0_someTaughtNext_58 (by decide) ?_
        exact ih9 (i9 + 1) (by omega)  hf _ _ ls hP hD hS (lv_sub hl [2, 3, 4, 0] rfl)
      · have hf := (if_pos c2).symm.trans hf
        refine lv_aload_n hx hb dX0_someTaughtNext_40 rfl (lv_at hl 1 rfl) ?_
        refine va_get (D := G.1) (ci := 0) (v := .ref xo) (C := RX0) (T := TX0) (N := 4) hx hb (ku_X0 hK.2) (fun _ h9 => h9) hown hK.1 hP 0 rfl rfl 0 (by decide) (kw_104 hK.2) (fun _ h9 => h9) rfl dX0_someTaughtNext_41 ?_
        refine lv_iload_n hx hb dX0_someTaughtNext_44 rfl (lv_at hl 4 rfl) ?_
        refine lv_iload_n hx hb dX0_someTaughtNext_45 rfl (lv_at hl 2 rfl) ?_
        refine cl_V (q := (RX5, TX5, 5)) (ws' := [(xO, .inr (0, [.ref xo, .ref xH, .ref xM, .int xB])), (xo, .inr (5, [.ref xa, .ref xb, .ref xc, .ref xd, .int (nI xn)])), (xa, .inl (G.2.1, xl, .inl xw)), (xb, .inl (G.2.1, xl, .inl xk)), (xc, .inl (G.2.1, xl, .inl xm)), (xd, .inl (G.2.1, xl, .inl xf)), (xH, .inl (G.2.1, 12, .inl xh)), (xM, .inl (G.2.1, 12, .inl xt))]) (v := (some (.int (f_X5_teaches xk xm xf i9 s0)))) (st1 := [.int (f_X5_teaches xk xm xf i9 s0)]) (rest := []) (As := [.int (nI i9), .int s0]) [1, 2, 3, 4, 5] 1 5 hx hb hml hown hK (k_X5_teaches l G xo xa xb xc xd xl xn xw xk xm xf i9 s0 hxn hxl (by omega)) (mf_X5_teaches hK.2) (kw_426 hK.2) (kw_427 hK.2) (kw_425 hK.2) ⟨rfl, rfl, Nat.le_of_ble_eq_true rfl, Nat.le_of_ble_eq_true rfl⟩ rfl hP hD hS hA rfl rfl hl (Nat.le_of_ble_eq_true rfl) rfl ⟨Nat.le_of_ble_eq_true rfl, Nat.le_of_ble_eq_true rfl⟩ rfl dX0_someTaughtNext_46 rfl rfl (rpl_fast (by decide) rfl rfl) rfl rfl rfl (fun H locs hP hD hS => ?_)
        refine lv_if_eq (tgt := 55) hx hb dX0_someTaughtNext_49 (by decide) (fun c3 => ?_) (fun c3 => ?_)
        · have hf := (if_pos c3).symm.trans hf
          refine lv_iinc (v := nI (i9 + 1)) (lv' := [(3, .int (nI (i9 + 1))), (4, .int ((1 : Int32) <<< ((xw i9) &&& 31))), (0, .ref xO), (1, .int s0), (2, .int (s0 ||| xB))]) hx hb dX0_someTaughtNext_55 hl (k := 4) rfl (nI_1 i9) (by decide) rfl (fun ls hl => ?_)
          refine lv_goto (tgt := 9) hx hb dX0_someTaughtNext_58 (by decide) ?_
          exact ih9 (i9 + 1) (by omega)  hf _ _ ls hP hD hS (lv_sub hl [2, 3, 4, 0] rfl)
        · have hf := (if_neg c3).symm.trans hf
          refine lv_iload hx hb dX0_someTaughtNext_52 (lv_at hl 0 rfl) ?_
          exact hret ((1 : Int32) <<< ((xw i9) &&& 31)) dX0_someTaughtNext_54 rfl hf rfl hP hS
  exact L9 xn 0 (by omega)  hf _ _ ls hP hD hS (lv_sub hl [2, 3, 1, 0] rfl)
def f_X0_learntFrom_4 (xn : Nat) (xw : Nat → Int32) (xk : Nat → Int32) (xm : Nat → Int32) (xf : Nat → Int32) (xB : Int32) : Nat → Nat → Int32 → Int32
  | 0, i4, v2_4 => v2_4
  | k4 + 1, i4, v2_4 => (if (f_X0_taughtNext xn xw xk xm xf xB v2_4) = 0 then v2_4 else f_X0_learntFrom_4 xn xw xk xm xf xB k4 (i4 + 1) (v2_4 ||| (f_X0_taughtNext xn xw xk xm xf xB v2_4)))
theorem f_X0_learntFrom_4_z (xn : Nat) (xw : Nat → Int32) (xk : Nat → Int32) (xm : Nat → Int32) (xf : Nat → Int32) (xB : Int32) (i4 : Nat) (v2_4 : Int32) : f_X0_learntFrom_4 xn xw xk xm xf xB 0 i4 v2_4 = v2_4 := rfl
theorem f_X0_learntFrom_4_s (xn : Nat) (xw : Nat → Int32) (xk : Nat → Int32) (xm : Nat → Int32) (xf : Nat → Int32) (xB : Int32) (k4 : Nat) (i4 : Nat) (v2_4 : Int32) : f_X0_learntFrom_4 xn xw xk xm xf xB (k4 + 1) i4 v2_4 = (if (f_X0_taughtNext xn xw xk xm xf xB v2_4) = 0 then v2_4 else f_X0_learntFrom_4 xn xw xk xm xf xB k4 (i4 + 1) (v2_4 ||| (f_X0_taughtNext xn xw xk xm xf xB v2_4))) := rfl
def f_X0_learntFrom (xn : Nat) (xw : Nat → Int32) (xk : Nat → Int32) (xm : Nat → Int32) (xf : Nat → Int32) (xB : Int32) (s0 : Int32) : Int32 := (f_X0_learntFrom_4 xn xw xk xm xf xB (13 - 1) 1 s0)
set_option maxHeartbeats 4000000 in
set_option maxRecDepth 100000 in
theorem k_X0_learntFrom (l : Launch) (G : wG) (xO : Nat) (xo : Nat) (xa : Nat) (xb : Nat) (xc : Nat) (xd : Nat) (xl : Nat) (xn : Nat) (xw : Nat → Int32) (xk : Nat → Int32) (xm : Nat → Int32) (xf : Nat → Int32) (xH : Nat) (xM : Nat) (xB : Int32) (xh : Nat → Int32) (xt : Nat → Int32) (s0 : Int32) (hxn : xn ≤ xl) (hxl : xl ≤ 20) : CT l G yX0_learntFrom cX0_learntFrom 5 (some .int) ({ frames := 3, cells := 0, slots := 0, locals := 70 }) [.ref xO, .int s0] [(xO, .inr (0, [.ref xo, .ref xH, .ref xM, .int xB])), (xo, .inr (5, [.ref xa, .ref xb, .ref xc, .ref xd, .int (nI xn)])), (xa, .inl (G.2.1, xl, .inl xw)), (xb, .inl (G.2.1, xl, .inl xk)), (xc, .inl (G.2.1, xl, .inl xm)), (xd, .inl (G.2.1, xl, .inl xf)), (xH, .inl (G.2.1, 12, .inl xh)), (xM, .inl (G.2.1, 12, .inl xt))] (fun _ => [(xO, .inr (0, [.ref xo, .ref xH, .ref xM, .int xB])), (xo, .inr (5, [.ref xa, .ref xb, .ref xc, .ref xd, .int (nI xn)])), (xa, .inl (G.2.1, xl, .inl xw)), (xb, .inl (G.2.1, xl, .inl xk)), (xc, .inl (G.2.1, xl, .inl xm)), (xd, .inl (G.2.1, xl, .inl xf)), (xH, .inl (G.2.1, 12, .inl xh)), (xM, .inl (G.2.1, 12, .inl xt))]) (fun u => some (.int u)) (f_X0_learntFrom xn xw xk xm xf xB s0) := by
  obtain ⟨R, hf⟩ : ∃ R, f_X0_learntFrom xn xw xk xm xf xB s0 = R := ⟨_, rfl⟩
  rw [hf]
  refine CT.mkI RX0 (by decide +kernel) rfl (Nat.le_of_ble_eq_true rfl) ?_
  intro p e s m args below meth c A Q ls hx hb hml hown hK hP hD hS hA hret hl
  have hl : lv_has ls 5 [(0, .ref xO), (1, .int s0)] := hl
  rw [f_X0_learntFrom] at hf
  refine lv_iload_n hx hb dX0_learntFrom_0 rfl (lv_at hl 1 rfl) ?_
  refine lv_istore_n (lv' := [(2, .int s0), (0, .ref xO), (1, .int s0)]) hx hb dX0_learntFrom_1 rfl hl (by decide) rfl (fun ls hl => ?_)
  refine lv_iconst (v := 1) hx hb dX0_learntFrom_2 (by decide) ?_
  refine lv_istore_n (lv' := [(3, .int 1), (2, .int s0), (0, .ref xO), (1, .int s0)]) hx hb dX0_learntFrom_3 rfl hl (by decide) rfl (fun ls hl => ?_)
  have L4 : ∀ (k4 : Nat) (i4 : Nat) (v2_4 : Int32), k4 + i4 = 13 → f_X0_learntFrom_4 xn xw xk xm xf xB k4 i4 v2_4 = R → ∀ (H : Heap) (locs : List Loc) (ls : Array Slot), va_P G.1 wcl [(xO, .inr (0, [.ref xo, .ref xH, .ref xM, .int xB])), (xo, .inr (5, [.ref xa, .ref xb, .ref xc, .ref xd, .int (nI xn)])), (xa, .inl (G.2.1, xl, .inl xw)), (xb, .inl (G.2.1, xl, .inl xk)), (xc, .inl (G.2.1, xl, .inl xm)), (xd, .inl (G.2.1, xl, .inl xf)), (xH, .inl (G.2.1, 12, .inl xh)), (xM, .inl (G.2.1, 12, .inl xt))] H → va_D A [(xO, .inr (0, [.ref xo, .ref xH, .ref xM, .int xB])), (xo, .inr (5, [.ref xa, .ref xb, .ref xc, .ref xd, .int (nI xn)])), (xa, .inl (G.2.1, xl, .inl xw)), (xb, .inl (G.2.1, xl, .inl xk)), (xc, .inl (G.2.1, xl, .inl xm)), (xd, .inl (G.2.1, xl, .inl xf)), (xH, .inl (G.2.1, 12, .inl xh)), (xM, .inl (G.2.1, 12, .inl xt))] → va_S A s.heap H locs → lv_has ls 5 [(0, .ref xO), (2, .int v2_4), (3, .int (nI i4))] → W p l e ({ frames := 3, cells := 0, slots := 0, locals := 70 }) s m args below meth c H locs 0 0 Q (F0 m 4 ls []) := by
    intro k4
    induction k4 with
    | zero =>
      intro i4 v2_4 hi4  hf _ _ ls hP hD hS hl
      rw [f_X0_learntFrom_4_z] at hf
      refine lv_iload_n hx hb dX0_learntFrom_4 rfl (lv_at hl 2 rfl) ?_
      refine lv_bipush (v := 12) hx hb dX0_learntFrom_5 (by decide) ?_
      refine lv_icmp_gt (tgt := 35) hx hb dX0_learntFrom_7 (by decide) (fun _ => ?_) (fun c => absurd (ilt (a := 12) (b := i4) rfl rfl (by omega) (by omega) (by omega)) c)
      refine lv_iload_n hx hb dX0_learntFrom_35 rfl (lv_at hl 1 rfl) ?_
      exact hret v2_4 dX0_learntFrom_36 rfl hf rfl hP hS
    | succ k4 ih4 =>
      intro i4 v2_4 hi4  hf _ _ ls hP hD hS hl
      rw [f_X0_learntFrom_4_s] at hf
      refine lv_iload_n hx hb dX0_learntFrom_4 rfl (lv_at hl 2 rfl) ?_
      refine lv_bipush (v := 12) hx hb dX0_learntFrom_5 (by decide) ?_
      refine lv_icmp_gt (tgt := 35) hx hb dX0_learntFrom_7 (by decide) (fun c => absurd c (inlt (a := 12) (b := i4) rfl rfl (by omega) (by omega) (by omega))) (fun _ => ?_)
      refine lv_aload_n hx hb dX0_learntFrom_10 rfl (lv_at hl 0 rfl) ?_
      refine lv_iload_n hx hb dX0_learntFrom_11 rfl (lv_at hl 1 rfl) ?_
      refine cl_V (q := (RX0, TX0, 4)) (ws' := [(xO, .inr (0, [.ref xo, .ref xH, .ref xM, .int xB])), (xo, .inr (5, [.ref xa, .ref xb, .ref xc, .ref xd, .int (nI xn)])), (xa, .inl (G.2.1, xl, .inl xw)), (xb, .inl (G.2.1, xl, .inl xk)), (xc, .inl (G.2.1, xl, .inl xm)), (xd, .inl (G.2.1, xl, .inl xf)), (xH, .inl (G.2.1, 12, .inl xh)), (xM, .inl (G.2.1, 12, .inl xt))]) (v := (some (.int (f_X0_taughtNext xn xw xk xm xf xB v2_4)))) (st1 := [.int (f_X0_taughtNext xn xw xk xm xf xB v2_4)]) (rest := []) (As := [.int v2_4]) [0, 1, 2, 3, 4, 5, 6, 7] 0 0 hx hb hml hown hK (k_X0_taughtNext l G xO xo xa xb xc xd xl xn xw xk xm xf xH xM xB xh xt v2_4 hxn hxl) (mf_X0_taughtNext hK.2) (kw_422 hK.2) (kw_423 hK.2) (kw_421 hK.2) ⟨rfl, rfl, Nat.le_of_ble_eq_true rfl, Nat.le_of_ble_eq_true rfl⟩ rfl hP hD hS hA rfl rfl hl (Nat.le_of_ble_eq_true rfl) rfl ⟨Nat.le_of_ble_eq_true rfl, Nat.le_of_ble_eq_true rfl⟩ rfl dX0_learntFrom_12 rfl rfl (rpl_fast (by decide) rfl rfl) rfl rfl rfl (fun H locs hP hD hS => ?_)
      refine lv_istore (lv' := [(4, .int (f_X0_taughtNext xn xw xk xm xf xB v2_4)), (0, .ref xO), (2, .int v2_4), (3, .int (nI i4))]) hx hb dX0_learntFrom_15 hl (by decide) rfl (fun ls hl => ?_)
      refine lv_iload hx hb dX0_learntFrom_17 (lv_at hl 0 rfl) ?_
      refine lv_if_ne (tgt := 24) hx hb dX0_learntFrom_19 (by decide) (fun c1 => ?_) (fun c1 => ?_)
      · have hf := (if_neg c1).symm.trans hf
        refine lv_iload_n hx hb dX0_learntFrom_24 rfl (lv_at hl 2 rfl) ?_
        refine lv_iload hx hb dX0_learntFrom_25 (lv_at hl 0 rfl) ?_
        refine lv_ior hx hb dX0_learntFrom_27 ?_
        refine lv_istore_n (lv' := [(2, .int (v2_4 ||| (f_X0_taughtNext xn xw xk xm xf xB v2_4))), (4, .int (f_X0_taughtNext xn xw xk xm xf xB v2_4)), (0, .ref xO), (3, .int (nI i4))]) hx hb dX0_learntFrom_28 rfl hl (by decide) rfl (fun ls hl => ?_)
        refine lv_iinc (v := nI (i4 + 1)) (lv' := [(3, .int (nI (i4 + 1))), (2, .int (v2_4 ||| (f_X0_taughtNext xn xw xk xm xf xB v2_4))), (4, .int (f_X0_taughtNext xn xw xk xm xf xB v2_4)), (0, .ref xO)]) hx hb dX0_learntFrom_29 hl (k := 3) rfl (nI_1 i4) (by decide) rfl (fun ls hl => ?_)
        refine lv_goto (tgt := 4) hx hb dX0_learntFrom_32 (by decide) ?_
        exact ih4 (i4 + 1) (v2_4 ||| (f_X0_taughtNext xn xw xk xm xf xB v2_4)) (by omega)  hf _ _ ls hP hD hS (lv_sub hl [3, 1, 0] rfl)
      · have hf := (if_pos c1).symm.trans hf
        refine lv_iload_n hx hb dX0_learntFrom_22 rfl (lv_at hl 2 rfl) ?_
        exact hret v2_4 dX0_learntFrom_23 rfl hf rfl hP hS
  exact L4 (13 - 1) 1 s0 (by omega)  hf _ _ ls hP hD hS (lv_sub hl [2, 1, 0] rfl)
def f_X0_roundOf_5 (xn : Nat) (xw : Nat → Int32) (xk : Nat → Int32) (xm : Nat → Int32) (xf : Nat → Int32) (xB : Int32) (wo : Int32) : Nat → Nat → Int32 → Int32
  | 0, i5, v3_5 => (-9)
  | k5 + 1, i5, v3_5 => (if (f_X6_hasWord v3_5 wo) = 0 then (if (f_X0_taughtNext xn xw xk xm xf xB v3_5) = 0 then (-9) else f_X0_roundOf_5 xn xw xk xm xf xB wo k5 (i5 + 1) (v3_5 ||| (f_X0_taughtNext xn xw xk xm xf xB v3_5))) else nI i5)
theorem f_X0_roundOf_5_z (xn : Nat) (xw : Nat → Int32) (xk : Nat → Int32) (xm : Nat → Int32) (xf : Nat → Int32) (xB : Int32) (wo : Int32) (i5 : Nat) (v3_5 : Int32) : f_X0_roundOf_5 xn xw xk xm xf xB wo 0 i5 v3_5 = (-9) := rfl
theorem f_X0_roundOf_5_s (xn : Nat) (xw : Nat → Int32) (xk : Nat → Int32) (xm : Nat → Int32) (xf : Nat → Int32) (xB : Int32) (wo : Int32) (k5 : Nat) (i5 : Nat) (v3_5 : Int32) : f_X0_roundOf_5 xn xw xk xm xf xB wo (k5 + 1) i5 v3_5 = (if (f_X6_hasWord v3_5 wo) = 0 then (if (f_X0_taughtNext xn xw xk xm xf xB v3_5) = 0 then (-9) else f_X0_roundOf_5 xn xw xk xm xf xB wo k5 (i5 + 1) (v3_5 ||| (f_X0_taughtNext xn xw xk xm xf xB v3_5))) else nI i5) := rfl
def f_X0_roundOf (xn : Nat) (xw : Nat → Int32) (xk : Nat → Int32) (xm : Nat → Int32) (xf : Nat → Int32) (xB : Int32) (s0 : Int32) (wo : Int32) : Int32 := (f_X0_roundOf_5 xn xw xk xm xf xB wo 13 0 s0)
set_option maxHeartbeats 4000000 in
set_option maxRecDepth 100000 in
theorem k_X0_roundOf (l : Launch) (G : wG) (xO : Nat) (xo : Nat) (xa : Nat) (xb : Nat) (xc : Nat) (xd : Nat) (xl : Nat) (xn : Nat) (xw : Nat → Int32) (xk : Nat → Int32) (xm : Nat → Int32) (xf : Nat → Int32) (xH : Nat) (xM : Nat) (xB : Int32) (xh : Nat → Int32) (xt : Nat → Int32) (s0 : Int32) (wo : Int32) (hxn : xn ≤ xl) (hxl : xl ≤ 20) : CT l G yX0_roundOf cX0_roundOf 6 (some .int) ({ frames := 3, cells := 0, slots := 0, locals := 70 }) [.ref xO, .int s0, .int wo] [(xO, .inr (0, [.ref xo, .ref xH, .ref xM, .int xB])), (xo, .inr (5, [.ref xa, .ref xb, .ref xc, .ref xd, .int (nI xn)])), (xa, .inl (G.2.1, xl, .inl xw)), (xb, .inl (G.2.1, xl, .inl xk)), (xc, .inl (G.2.1, xl, .inl xm)), (xd, .inl (G.2.1, xl, .inl xf)), (xH, .inl (G.2.1, 12, .inl xh)), (xM, .inl (G.2.1, 12, .inl xt))] (fun _ => [(xO, .inr (0, [.ref xo, .ref xH, .ref xM, .int xB])), (xo, .inr (5, [.ref xa, .ref xb, .ref xc, .ref xd, .int (nI xn)])), (xa, .inl (G.2.1, xl, .inl xw)), (xb, .inl (G.2.1, xl, .inl xk)), (xc, .inl (G.2.1, xl, .inl xm)), (xd, .inl (G.2.1, xl, .inl xf)), (xH, .inl (G.2.1, 12, .inl xh)), (xM, .inl (G.2.1, 12, .inl xt))]) (fun u => some (.int u)) (f_X0_roundOf xn xw xk xm xf xB s0 wo) := by
  obtain ⟨R, hf⟩ : ∃ R, f_X0_roundOf xn xw xk xm xf xB s0 wo = R := ⟨_, rfl⟩
  rw [hf]
  refine CT.mkI RX0 (by decide +kernel) rfl (Nat.le_of_ble_eq_true rfl) ?_
  intro p e s m args below meth c A Q ls hx hb hml hown hK hP hD hS hA hret hl
  have hl : lv_has ls 6 [(0, .ref xO), (1, .int s0), (2, .int wo)] := hl
  rw [f_X0_roundOf] at hf
  refine lv_iload_n hx hb dX0_roundOf_0 rfl (lv_at hl 1 rfl) ?_
  refine lv_istore_n (lv' := [(3, .int s0), (0, .ref xO), (1, .int s0), (2, .int wo)]) hx hb dX0_roundOf_1 rfl hl (by decide) rfl (fun ls hl => ?_)
  refine lv_iconst (v := 0) hx hb dX0_roundOf_2 (by decide) ?_
  refine lv_istore (lv' := [(4, .int 0), (3, .int s0), (0, .ref xO), (1, .int s0), (2, .int wo)]) hx hb dX0_roundOf_3 hl (by decide) rfl (fun ls hl => ?_)
  have L5 : ∀ (k5 : Nat) (i5 : Nat) (v3_5 : Int32), k5 + i5 = 13 → f_X0_roundOf_5 xn xw xk xm xf xB wo k5 i5 v3_5 = R → ∀ (H : Heap) (locs : List Loc) (ls : Array Slot), va_P G.1 wcl [(xO, .inr (0, [.ref xo, .ref xH, .ref xM, .int xB])), (xo, .inr (5, [.ref xa, .ref xb, .ref xc, .ref xd, .int (nI xn)])), (xa, .inl (G.2.1, xl, .inl xw)), (xb, .inl (G.2.1, xl, .inl xk)), (xc, .inl (G.2.1, xl, .inl xm)), (xd, .inl (G.2.1, xl, .inl xf)), (xH, .inl (G.2.1, 12, .inl xh)), (xM, .inl (G.2.1, 12, .inl xt))] H → va_D A [(xO, .inr (0, [.ref xo, .ref xH, .ref xM, .int xB])), (xo, .inr (5, [.ref xa, .ref xb, .ref xc, .ref xd, .int (nI xn)])), (xa, .inl (G.2.1, xl, .inl xw)), (xb, .inl (G.2.1, xl, .inl xk)), (xc, .inl (G.2.1, xl, .inl xm)), (xd, .inl (G.2.1, xl, .inl xf)), (xH, .inl (G.2.1, 12, .inl xh)), (xM, .inl (G.2.1, 12, .inl xt))] → va_S A s.heap H locs → lv_has ls 6 [(0, .ref xO), (2, .int wo), (3, .int v3_5), (4, .int (nI i5))] → W p l e ({ frames := 3, cells := 0, slots := 0, locals := 70 }) s m args below meth c H locs 0 0 Q (F0 m 5 ls []) := by
    intro k5
    induction k5 with
    | zero =>
      intro i5 v3_5 hi5  hf _ _ ls hP hD hS hl
      rw [f_X0_roundOf_5_z] at hf
      refine lv_iload hx hb dX0_roundOf_5 (lv_at hl 3 rfl) ?_
      refine lv_bipush (v := 12) hx hb dX0_roundOf_7 (by decide) ?_
      refine lv_icmp_gt (tgt := 49) hx hb dX0_roundOf_9 (by decide) (fun _ => ?_) (fun c => absurd (ilt (a := 12) (b := i5) rfl rfl (by omega) (by omega) (by omega)) c)
      refine lv_bipush (v := -9) hx hb dX0_roundOf_49 (by decide) ?_
      exact hret (-9) dX0_roundOf_51 rfl hf rfl hP hS
    | succ k5 ih5 =>
      intro i5 v3_5 hi5  hf _ _ ls hP hD hS hl
      rw [f_X0_roundOf_5_s] at hf
      refine lv_iload hx hb dX0_roundOf_5 (lv_at hl 3 rfl) ?_
      refine lv_bipush (v := 12) hx hb dX0_roundOf_7 (by decide) ?_
      refine lv_icmp_gt (tgt := 49) hx hb dX0_roundOf_9 (by decide) (fun c => absurd c (inlt (a := 12) (b := i5) rfl rfl (by omega) (by omega) (by omega))) (fun _ => ?_)
      refine lv_iload_n hx hb dX0_roundOf_12 rfl (lv_at hl 2 rfl) ?_
      refine lv_iload_n hx hb dX0_roundOf_13 rfl (lv_at hl 1 rfl) ?_
      refine cl_SN (ws' := [(xO, .inr (0, [.ref xo, .ref xH, .ref xM, .int xB])), (xo, .inr (5, [.ref xa, .ref xb, .ref xc, .ref xd, .int (nI xn)])), (xa, .inl (G.2.1, xl, .inl xw)), (xb, .inl (G.2.1, xl, .inl xk)), (xc, .inl (G.2.1, xl, .inl xm)), (xd, .inl (G.2.1, xl, .inl xf)), (xH, .inl (G.2.1, 12, .inl xh)), (xM, .inl (G.2.1, 12, .inl xt))]) (v := (some (.int (f_X6_hasWord v3_5 wo)))) (st1 := [.int (f_X6_hasWord v3_5 wo)]) (rest := []) (As := [.int v3_5, .int wo]) [] hx hb hml hown hK (k_X6_hasWord l G v3_5 wo ) (mf_X6_hasWord hK.2) (kw_379 hK.2) (kw_420 hK.2) ⟨rfl, rfl, Nat.le_of_ble_eq_true rfl, Nat.le_of_ble_eq_true rfl⟩ rfl hP hD hS hA hl (Nat.le_of_ble_eq_true rfl) rfl ⟨Nat.le_of_ble_eq_true rfl, Nat.le_of_ble_eq_true rfl⟩ rfl dX0_roundOf_14 rfl rfl rfl rfl rfl rfl (fun H locs hP hD hS => ?_)
      refine lv_if_eq (tgt := 23) hx hb dX0_roundOf_17 (by decide) (fun c1 => ?_) (fun c1 => ?_)
      · have hf := (if_pos c1).symm.trans hf
        refine lv_aload_n hx hb dX0_roundOf_23 rfl (lv_at hl 0 rfl) ?_
        refine lv_iload_n hx hb dX0_roundOf_24 rfl (lv_at hl 2 rfl) ?_
        refine cl_V (q := (RX0, TX0, 4)) (ws' := [(xO, .inr (0, [.ref xo, .ref xH, .ref xM, .int xB])), (xo, .inr (5, [.ref xa, .ref xb, .ref xc, .ref xd, .int (nI xn)])), (xa, .inl (G.2.1, xl, .inl xw)), (xb, .inl (G.2.1, xl, .inl xk)), (xc, .inl (G.2.1, xl, .inl xm)), (xd, .inl (G.2.1, xl, .inl xf)), (xH, .inl (G.2.1, 12, .inl xh)), (xM, .inl (G.2.1, 12, .inl xt))]) (v := (some (.int (f_X0_taughtNext xn xw xk xm xf xB v3_5)))) (st1 := [.int (f_X0_taughtNext xn xw xk xm xf xB v3_5)]) (rest := []) (As := [.int v3_5]) [0, 1, 2, 3, 4, 5, 6, 7] 0 0 hx hb hml hown hK (k_X0_taughtNext l G xO xo xa xb xc xd xl xn xw xk xm xf xH xM xB xh xt v3_5 hxn hxl) (mf_X0_taughtNext hK.2) (kw_422 hK.2) (kw_423 hK.2) (kw_421 hK.2) ⟨rfl, rfl, Nat.le_of_ble_eq_true rfl, Nat.le_of_ble_eq_true rfl⟩ rfl hP hD hS hA rfl rfl hl (Nat.le_of_ble_eq_true rfl) rfl ⟨Nat.le_of_ble_eq_true rfl, Nat.le_of_ble_eq_true rfl⟩ rfl dX0_roundOf_25 rfl rfl (rpl_fast (by decide) rfl rfl) rfl rfl rfl (fun H locs hP hD hS => ?_)
        refine lv_istore (lv' := [(5, .int (f_X0_taughtNext xn xw xk xm xf xB v3_5)), (0, .ref xO), (2, .int wo), (3, .int v3_5), (4, .int (nI i5))]) hx hb dX0_roundOf_28 hl (by decide) rfl (fun ls hl => ?_)
        refine lv_iload hx hb dX0_roundOf_30 (lv_at hl 0 rfl) ?_
        refine lv_if_ne (tgt := 38) hx hb dX0_roundOf_32 (by decide) (fun c2 => ?_) (fun c2 => ?_)
        · have hf := (if_neg c2).symm.trans hf
          refine lv_iload_n hx hb dX0_roundOf_38 rfl (lv_at hl 3 rfl) ?_
          refine lv_iload hx hb dX0_roundOf_39 (lv_at hl 0 rfl) ?_
          refine lv_ior hx hb dX0_roundOf_41 ?_
          refine lv_istore_n (lv' := [(3, .int (v3_5 ||| (f_X0_taughtNext xn xw xk xm xf xB v3_5))), (5, .int (f_X0_taughtNext xn xw xk xm xf xB v3_5)), (0, .ref xO), (2, .int wo), (4, .int (nI i5))]) hx hb dX0_roundOf_42 rfl hl (by decide) rfl (fun ls hl => ?_)
          refine lv_iinc (v := nI (i5 + 1)) (lv' := [(4, .int (nI (i5 + 1))), (3, .int (v3_5 ||| (f_X0_taughtNext xn xw xk xm xf xB v3_5))), (5, .int (f_X0_taughtNext xn xw xk xm xf xB v3_5)), (0, .ref xO), (2, .int wo)]) hx hb dX0_roundOf_43 hl (k := 4) rfl (nI_1 i5) (by decide) rfl (fun ls hl => ?_)
          refine lv_goto (tgt := 5) hx hb dX0_roundOf_46 (by decide) ?_
          exact ih5 (i5 + 1) (v3_5 ||| (f_X0_taughtNext xn xw xk xm xf xB v3_5)) (by omega)  hf _ _ ls hP hD hS (lv_sub hl [3, 4, 1, 0] rfl)
        · have hf := (if_pos c2).symm.trans hf
          refine lv_bipush (v := -9) hx hb dX0_roundOf_35 (by decide) ?_
          exact hret (-9) dX0_roundOf_37 rfl hf rfl hP hS
      · have hf := (if_neg c1).symm.trans hf
        refine lv_iload hx hb dX0_roundOf_20 (lv_at hl 3 rfl) ?_
        exact hret (nI i5) dX0_roundOf_22 rfl hf rfl hP hS
  exact L5 13 0 s0 (by omega)  hf _ _ ls hP hD hS (lv_sub hl [2, 4, 1, 0] rfl)
def f_X0_neverTaught_4 (xn : Nat) (xw : Nat → Int32) (xk : Nat → Int32) (xm : Nat → Int32) (xf : Nat → Int32) (xB : Int32) : Nat → Nat → Int32 → Int32
  | 0, i4, v1_4 => v1_4
  | k4 + 1, i4, v1_4 => (if (f_X6_hasWord (f_X0_taughtNext xn xw xk xm xf xB ((4095 : Int32) &&& (((1 : Int32) <<< ((nI i4) &&& 31)) ^^^ (-1 : Int32)))) (nI i4)) = 0 then f_X0_neverTaught_4 xn xw xk xm xf xB k4 (i4 + 1) (v1_4 ||| ((1 : Int32) <<< ((nI i4) &&& 31))) else f_X0_neverTaught_4 xn xw xk xm xf xB k4 (i4 + 1) v1_4)
theorem f_X0_neverTaught_4_z (xn : Nat) (xw : Nat → Int32) (xk : Nat → Int32) (xm : Nat → Int32) (xf : Nat → Int32) (xB : Int32) (i4 : Nat) (v1_4 : Int32) : f_X0_neverTaught_4 xn xw xk xm xf xB 0 i4 v1_4 = v1_4 := rfl
theorem f_X0_neverTaught_4_s (xn : Nat) (xw : Nat → Int32) (xk : Nat → Int32) (xm : Nat → Int32) (xf : Nat → Int32) (xB : Int32) (k4 : Nat) (i4 : Nat) (v1_4 : Int32) : f_X0_neverTaught_4 xn xw xk xm xf xB (k4 + 1) i4 v1_4 = (if (f_X6_hasWord (f_X0_taughtNext xn xw xk xm xf xB ((4095 : Int32) &&& (((1 : Int32) <<< ((nI i4) &&& 31)) ^^^ (-1 : Int32)))) (nI i4)) = 0 then f_X0_neverTaught_4 xn xw xk xm xf xB k4 (i4 + 1) (v1_4 ||| ((1 : Int32) <<< ((nI i4) &&& 31))) else f_X0_neverTaught_4 xn xw xk xm xf xB k4 (i4 + 1) v1_4) := rfl
def f_X0_neverTaught (xn : Nat) (xw : Nat → Int32) (xk : Nat → Int32) (xm : Nat → Int32) (xf : Nat → Int32) (xB : Int32) : Int32 := (f_X0_neverTaught_4 xn xw xk xm xf xB 12 0 0)
set_option maxHeartbeats 4000000 in
set_option maxRecDepth 100000 in
theorem k_X0_neverTaught (l : Launch) (G : wG) (xO : Nat) (xo : Nat) (xa : Nat) (xb : Nat) (xc : Nat) (xd : Nat) (xl : Nat) (xn : Nat) (xw : Nat → Int32) (xk : Nat → Int32) (xm : Nat → Int32) (xf : Nat → Int32) (xH : Nat) (xM : Nat) (xB : Int32) (xh : Nat → Int32) (xt : Nat → Int32) (hxn : xn ≤ xl) (hxl : xl ≤ 20) : CT l G yX0_neverTaught cX0_neverTaught 3 (some .int) ({ frames := 3, cells := 0, slots := 0, locals := 70 }) [.ref xO] [(xO, .inr (0, [.ref xo, .ref xH, .ref xM, .int xB])), (xo, .inr (5, [.ref xa, .ref xb, .ref xc, .ref xd, .int (nI xn)])), (xa, .inl (G.2.1, xl, .inl xw)), (xb, .inl (G.2.1, xl, .inl xk)), (xc, .inl (G.2.1, xl, .inl xm)), (xd, .inl (G.2.1, xl, .inl xf)), (xH, .inl (G.2.1, 12, .inl xh)), (xM, .inl (G.2.1, 12, .inl xt))] (fun _ => [(xO, .inr (0, [.ref xo, .ref xH, .ref xM, .int xB])), (xo, .inr (5, [.ref xa, .ref xb, .ref xc, .ref xd, .int (nI xn)])), (xa, .inl (G.2.1, xl, .inl xw)), (xb, .inl (G.2.1, xl, .inl xk)), (xc, .inl (G.2.1, xl, .inl xm)), (xd, .inl (G.2.1, xl, .inl xf)), (xH, .inl (G.2.1, 12, .inl xh)), (xM, .inl (G.2.1, 12, .inl xt))]) (fun u => some (.int u)) (f_X0_neverTaught xn xw xk xm xf xB) := by
  obtain ⟨R, hf⟩ : ∃ R, f_X0_neverTaught xn xw xk xm xf xB = R := ⟨_, rfl⟩
  rw [hf]
  refine CT.mkI RX0 (by decide +kernel) rfl (Nat.le_of_ble_eq_true rfl) ?_
  intro p e s m args below meth c A Q ls hx hb hml hown hK hP hD hS hA hret hl
  have hl : lv_has ls 3 [(0, .ref xO)] := hl
  rw [f_X0_neverTaught] at hf
  refine lv_iconst (v := 0) hx hb dX0_neverTaught_0 (by decide) ?_
  refine lv_istore_n (lv' := [(1, .int 0), (0, .ref xO)]) hx hb dX0_neverTaught_1 rfl hl (by decide) rfl (fun ls hl => ?_)
  refine lv_iconst (v := 0) hx hb dX0_neverTaught_2 (by decide) ?_
  refine lv_istore_n (lv' := [(2, .int 0), (1, .int 0), (0, .ref xO)]) hx hb dX0_neverTaught_3 rfl hl (by decide) rfl (fun ls hl => ?_)
  have L4 : ∀ (k4 : Nat) (i4 : Nat) (v1_4 : Int32), k4 + i4 = 12 → f_X0_neverTaught_4 xn xw xk xm xf xB k4 i4 v1_4 = R → ∀ (H : Heap) (locs : List Loc) (ls : Array Slot), va_P G.1 wcl [(xO, .inr (0, [.ref xo, .ref xH, .ref xM, .int xB])), (xo, .inr (5, [.ref xa, .ref xb, .ref xc, .ref xd, .int (nI xn)])), (xa, .inl (G.2.1, xl, .inl xw)), (xb, .inl (G.2.1, xl, .inl xk)), (xc, .inl (G.2.1, xl, .inl xm)), (xd, .inl (G.2.1, xl, .inl xf)), (xH, .inl (G.2.1, 12, .inl xh)), (xM, .inl (G.2.1, 12, .inl xt))] H → va_D A [(xO, .inr (0, [.ref xo, .ref xH, .ref xM, .int xB])), (xo, .inr (5, [.ref xa, .ref xb, .ref xc, .ref xd, .int (nI xn)])), (xa, .inl (G.2.1, xl, .inl xw)), (xb, .inl (G.2.1, xl, .inl xk)), (xc, .inl (G.2.1, xl, .inl xm)), (xd, .inl (G.2.1, xl, .inl xf)), (xH, .inl (G.2.1, 12, .inl xh)), (xM, .inl (G.2.1, 12, .inl xt))] → va_S A s.heap H locs → lv_has ls 3 [(0, .ref xO), (1, .int v1_4), (2, .int (nI i4))] → W p l e ({ frames := 3, cells := 0, slots := 0, locals := 70 }) s m args below meth c H locs 0 0 Q (F0 m 4 ls []) := by
    intro k4
    induction k4 with
    | zero =>
      intro i4 v1_4 hi4  hf _ _ ls hP hD hS hl
      rw [f_X0_neverTaught_4_z] at hf
      refine lv_iload_n hx hb dX0_neverTaught_4 rfl (lv_at hl 2 rfl) ?_
      refine lv_bipush (v := 12) hx hb dX0_neverTaught_5 (by decide) ?_
      refine lv_icmp_ge (tgt := 42) hx hb dX0_neverTaught_7 (by decide) (fun _ => ?_) (fun c => absurd (ile (a := 12) (b := i4) rfl rfl (by omega) (by omega) (by omega)) c)
      refine lv_iload_n hx hb dX0_neverTaught_42 rfl (lv_at hl 1 rfl) ?_
      exact hret v1_4 dX0_neverTaught_43 rfl hf rfl hP hS
    | succ k4 ih4 =>
      intro i4 v1_4 hi4  hf _ _ ls hP hD hS hl
      rw [f_X0_neverTaught_4_s] at hf
      refine lv_iload_n hx hb dX0_neverTaught_4 rfl (lv_at hl 2 rfl) ?_
      refine lv_bipush (v := 12) hx hb dX0_neverTaught_5 (by decide) ?_
      refine lv_icmp_ge (tgt := 42) hx hb dX0_neverTaught_7 (by decide) (fun c => absurd c (inle (a := 12) (b := i4) rfl rfl (by omega) (by omega) (by omega))) (fun _ => ?_)
      refine lv_aload_n hx hb dX0_neverTaught_10 rfl (lv_at hl 0 rfl) ?_
      refine lv_sipush (v := 4095) hx hb dX0_neverTaught_11 (by decide) ?_
      refine lv_iconst (v := 1) hx hb dX0_neverTaught_14 (by decide) ?_
      refine lv_iload_n hx hb dX0_neverTaught_15 rfl (lv_at hl 2 rfl) ?_
      refine lv_ishl hx hb dX0_neverTaught_16 ?_
      refine lv_iconst (v := -1) hx hb dX0_neverTaught_17 (by decide) ?_
      refine lv_ixor hx hb dX0_neverTaught_18 ?_
      refine lv_iand hx hb dX0_neverTaught_19 ?_
      refine cl_V (q := (RX0, TX0, 4)) (ws' := [(xO, .inr (0, [.ref xo, .ref xH, .ref xM, .int xB])), (xo, .inr (5, [.ref xa, .ref xb, .ref xc, .ref xd, .int (nI xn)])), (xa, .inl (G.2.1, xl, .inl xw)), (xb, .inl (G.2.1, xl, .inl xk)), (xc, .inl (G.2.1, xl, .inl xm)), (xd, .inl (G.2.1, xl, .inl xf)), (xH, .inl (G.2.1, 12, .inl xh)), (xM, .inl (G.2.1, 12, .inl xt))]) (v := (some (.int (f_X0_taughtNext xn xw xk xm xf xB ((4095 : Int32) &&& (((1 : Int32) <<< ((nI i4) &&& 31)) ^^^ (-1 : Int32))))))) (st1 := [.int (f_X0_taughtNext xn xw xk xm xf xB ((4095 : Int32) &&& (((1 : Int32) <<< ((nI i4) &&& 31)) ^^^ (-1 : Int32))))]) (rest := []) (As := [.int ((4095 : Int32) &&& (((1 : Int32) <<< ((nI i4) &&& 31)) ^^^ (-1 : Int32)))]) [0, 1, 2, 3, 4, 5, 6, 7] 0 0 hx hb hml hown hK (k_X0_taughtNext l G xO xo xa xb xc xd xl xn xw xk xm xf xH xM xB xh xt ((4095 : Int32) &&& (((1 : Int32) <<< ((nI i4) &&& 31)) ^^^ (-1 : Int32))) hxn hxl) (mf_X0_taughtNext hK.2) (kw_422 hK.2) (kw_423 hK.2) (kw_421 hK.2) ⟨rfl, rfl, Nat.le_of_ble_eq_true rfl, Nat.le_of_ble_eq_true rfl⟩ rfl hP hD hS hA rfl rfl hl (Nat.le_of_ble_eq_true rfl) rfl ⟨Nat.le_of_ble_eq_true rfl, Nat.le_of_ble_eq_true rfl⟩ rfl dX0_neverTaught_20 rfl rfl (rpl_fast (by decide) rfl rfl) rfl rfl rfl (fun H locs hP hD hS => ?_)
      refine lv_iload_n hx hb dX0_neverTaught_23 rfl (lv_at hl 2 rfl) ?_
      refine cl_SN (ws' := [(xO, .inr (0, [.ref xo, .ref xH, .ref xM, .int xB])), (xo, .inr (5, [.ref xa, .ref xb, .ref xc, .ref xd, .int (nI xn)])), (xa, .inl (G.2.1, xl, .inl xw)), (xb, .inl (G.2.1, xl, .inl xk)), (xc, .inl (G.2.1, xl, .inl xm)), (xd, .inl (G.2.1, xl, .inl xf)), (xH, .inl (G.2.1, 12, .inl xh)), (xM, .inl (G.2.1, 12, .inl xt))]) (v := (some (.int (f_X6_hasWord (f_X0_taughtNext xn xw xk xm xf xB ((4095 : Int32) &&& (((1 : Int32) <<< ((nI i4) &&& 31)) ^^^ (-1 : Int32)))) (nI i4))))) (st1 := [.int (f_X6_hasWord (f_X0_taughtNext xn xw xk xm xf xB ((4095 : Int32) &&& (((1 : Int32) <<< ((nI i4) &&& 31)) ^^^ (-1 : Int32)))) (nI i4))]) (rest := []) (As := [.int (f_X0_taughtNext xn xw xk xm xf xB ((4095 : Int32) &&& (((1 : Int32) <<< ((nI i4) &&& 31)) ^^^ (-1 : Int32)))), .int (nI i4)]) [] hx hb hml hown hK (k_X6_hasWord l G (f_X0_taughtNext xn xw xk xm xf xB ((4095 : Int32) &&& (((1 : Int32) <<< ((nI i4) &&& 31)) ^^^ (-1 : Int32)))) (nI i4) ) (mf_X6_hasWord hK.2) (kw_379 hK.2) (kw_420 hK.2) ⟨rfl, rfl, Nat.le_of_ble_eq_true rfl, Nat.le_of_ble_eq_true rfl⟩ rfl hP hD hS hA hl (Nat.le_of_ble_eq_true rfl) rfl ⟨Nat.le_of_ble_eq_true rfl, Nat.le_of_ble_eq_true rfl⟩ rfl dX0_neverTaught_24 rfl rfl rfl rfl rfl rfl (fun H locs hP hD hS => ?_)
      refine lv_if_ne (tgt := 36) hx hb dX0_neverTaught_27 (by decide) (fun c1 => ?_) (fun c1 => ?_)
      · have hf := (if_neg c1).symm.trans hf
        refine lv_iinc (v := nI (i4 + 1)) (lv' := [(2, .int (nI (i4 + 1))), (0, .ref xO), (1, .int v1_4)]) hx hb dX0_neverTaught_36 hl (k := 2) rfl (nI_1 i4) (by decide) rfl (fun ls hl => ?_)
        refine lv_goto (tgt := 4) hx hb dX0_neverTaught_39 (by decide) ?_
        exact ih4 (i4 + 1) v1_4 (by omega)  hf _ _ ls hP hD hS (lv_sub hl [1, 2, 0] rfl)
      · have hf := (if_pos c1).symm.trans hf
        refine lv_iload_n hx hb dX0_neverTaught_30 rfl (lv_at hl 1 rfl) ?_
        refine lv_iconst (v := 1) hx hb dX0_neverTaught_31 (by decide) ?_
        refine lv_iload_n hx hb dX0_neverTaught_32 rfl (lv_at hl 2 rfl) ?_
        refine lv_ishl hx hb dX0_neverTaught_33 ?_
        refine lv_ior hx hb dX0_neverTaught_34 ?_
        refine lv_istore_n (lv' := [(1, .int (v1_4 ||| ((1 : Int32) <<< ((nI i4) &&& 31)))), (0, .ref xO), (2, .int (nI i4))]) hx hb dX0_neverTaught_35 rfl hl (by decide) rfl (fun ls hl => ?_)
        refine lv_iinc (v := nI (i4 + 1)) (lv' := [(2, .int (nI (i4 + 1))), (1, .int (v1_4 ||| ((1 : Int32) <<< ((nI i4) &&& 31)))), (0, .ref xO)]) hx hb dX0_neverTaught_36 hl (k := 2) rfl (nI_1 i4) (by decide) rfl (fun ls hl => ?_)
        refine lv_goto (tgt := 4) hx hb dX0_neverTaught_39 (by decide) ?_
        exact ih4 (i4 + 1) (v1_4 ||| ((1 : Int32) <<< ((nI i4) &&& 31))) (by omega)  hf _ _ ls hP hD hS (lv_sub hl [2, 1, 0] rfl)
  exact L4 12 0 0 (by omega)  hf _ _ ls hP hD hS (lv_sub hl [2, 1, 0] rfl)
def f_X0_metMostAfter_15 (xn : Nat) (xw : Nat → Int32) (xk : Nat → Int32) (xm : Nat → Int32) (xf : Nat → Int32) (xB : Int32) (xt : Nat → Int32) (s0 : Int32) : Nat → Nat → Int32 → Int32 → Int32
  | 0, i15, v3_15, v4_15 => v3_15
  | k15 + 1, i15, v3_15, v4_15 => (if (f_X6_hasWord (f_X0_taughtNext xn xw xk xm xf xB s0) (nI i15)) = 0 then f_X0_metMostAfter_15 xn xw xk xm xf xB xt s0 k15 (i15 + 1) v3_15 v4_15 else (if (xt i15) ≤ v4_15 then f_X0_metMostAfter_15 xn xw xk xm xf xB xt s0 k15 (i15 + 1) v3_15 v4_15 else f_X0_metMostAfter_15 xn xw xk xm xf xB xt s0 k15 (i15 + 1) (nI i15) (xt i15)))
theorem f_X0_metMostAfter_15_z (xn : Nat) (xw : Nat → Int32) (xk : Nat → Int32) (xm : Nat → Int32) (xf : Nat → Int32) (xB : Int32) (xt : Nat → Int32) (s0 : Int32) (i15 : Nat) (v3_15 : Int32) (v4_15 : Int32) : f_X0_metMostAfter_15 xn xw xk xm xf xB xt s0 0 i15 v3_15 v4_15 = v3_15 := rfl
theorem f_X0_metMostAfter_15_s (xn : Nat) (xw : Nat → Int32) (xk : Nat → Int32) (xm : Nat → Int32) (xf : Nat → Int32) (xB : Int32) (xt : Nat → Int32) (s0 : Int32) (k15 : Nat) (i15 : Nat) (v3_15 : Int32) (v4_15 : Int32) : f_X0_metMostAfter_15 xn xw xk xm xf xB xt s0 (k15 + 1) i15 v3_15 v4_15 = (if (f_X6_hasWord (f_X0_taughtNext xn xw xk xm xf xB s0) (nI i15)) = 0 then f_X0_metMostAfter_15 xn xw xk xm xf xB xt s0 k15 (i15 + 1) v3_15 v4_15 else (if (xt i15) ≤ v4_15 then f_X0_metMostAfter_15 xn xw xk xm xf xB xt s0 k15 (i15 + 1) v3_15 v4_15 else f_X0_metMostAfter_15 xn xw xk xm xf xB xt s0 k15 (i15 + 1) (nI i15) (xt i15))) := rfl
def f_X0_metMostAfter (xn : Nat) (xw : Nat → Int32) (xk : Nat → Int32) (xm : Nat → Int32) (xf : Nat → Int32) (xB : Int32) (xt : Nat → Int32) (s0 : Int32) : Int32 := (f_X0_metMostAfter_15 xn xw xk xm xf xB xt s0 12 0 (-9) (-1))
set_option maxHeartbeats 4000000 in
set_option maxRecDepth 100000 in
theorem k_X0_metMostAfter (l : Launch) (G : wG) (xO : Nat) (xo : Nat) (xa : Nat) (xb : Nat) (xc : Nat) (xd : Nat) (xl : Nat) (xn : Nat) (xw : Nat → Int32) (xk : Nat → Int32) (xm : Nat → Int32) (xf : Nat → Int32) (xH : Nat) (xM : Nat) (xB : Int32) (xh : Nat → Int32) (xt : Nat → Int32) (s0 : Int32) (hxn : xn ≤ xl) (hxl : xl ≤ 20) : CT l G yX0_metMostAfter cX0_metMostAfter 6 (some .int) ({ frames := 3, cells := 0, slots := 0, locals := 70 }) [.ref xO, .int s0] [(xO, .inr (0, [.ref xo, .ref xH, .ref xM, .int xB])), (xo, .inr (5, [.ref xa, .ref xb, .ref xc, .ref xd, .int (nI xn)])), (xa, .inl (G.2.1, xl, .inl xw)), (xb, .inl (G.2.1, xl, .inl xk)), (xc, .inl (G.2.1, xl, .inl xm)), (xd, .inl (G.2.1, xl, .inl xf)), (xH, .inl (G.2.1, 12, .inl xh)), (xM, .inl (G.2.1, 12, .inl xt))] (fun _ => [(xO, .inr (0, [.ref xo, .ref xH, .ref xM, .int xB])), (xo, .inr (5, [.ref xa, .ref xb, .ref xc, .ref xd, .int (nI xn)])), (xa, .inl (G.2.1, xl, .inl xw)), (xb, .inl (G.2.1, xl, .inl xk)), (xc, .inl (G.2.1, xl, .inl xm)), (xd, .inl (G.2.1, xl, .inl xf)), (xH, .inl (G.2.1, 12, .inl xh)), (xM, .inl (G.2.1, 12, .inl xt))]) (fun u => some (.int u)) (f_X0_metMostAfter xn xw xk xm xf xB xt s0) := by
  obtain ⟨R, hf⟩ : ∃ R, f_X0_metMostAfter xn xw xk xm xf xB xt s0 = R := ⟨_, rfl⟩
  rw [hf]
  refine CT.mkI RX0 (by decide +kernel) rfl (Nat.le_of_ble_eq_true rfl) ?_
  intro p e s m args below meth c A Q ls hx hb hml hown hK hP hD hS hA hret hl
  have hl : lv_has ls 6 [(0, .ref xO), (1, .int s0)] := hl
  rw [f_X0_metMostAfter] at hf
  refine lv_aload_n hx hb dX0_metMostAfter_0 rfl (lv_at hl 0 rfl) ?_
  refine lv_iload_n hx hb dX0_metMostAfter_1 rfl (lv_at hl 1 rfl) ?_
  refine cl_V (q := (RX0, TX0, 4)) (ws' := [(xO, .inr (0, [.ref xo, .ref xH, .ref xM, .int xB])), (xo, .inr (5, [.ref xa, .ref xb, .ref xc, .ref xd, .int (nI xn)])), (xa, .inl (G.2.1, xl, .inl xw)), (xb, .inl (G.2.1, xl, .inl xk)), (xc, .inl (G.2.1, xl, .inl xm)), (xd, .inl (G.2.1, xl, .inl xf)), (xH, .inl (G.2.1, 12, .inl xh)), (xM, .inl (G.2.1, 12, .inl xt))]) (v := (some (.int (f_X0_taughtNext xn xw xk xm xf xB s0)))) (st1 := [.int (f_X0_taughtNext xn xw xk xm xf xB s0)]) (rest := []) (As := [.int s0]) [0, 1, 2, 3, 4, 5, 6, 7] 0 0 hx hb hml hown hK (k_X0_taughtNext l G xO xo xa xb xc xd xl xn xw xk xm xf xH xM xB xh xt s0 hxn hxl) (mf_X0_taughtNext hK.2) (kw_422 hK.2) (kw_423 hK.2) (kw_421 hK.2) ⟨rfl, rfl, Nat.le_of_ble_eq_true rfl, Nat.le_of_ble_eq_true rfl⟩ rfl hP hD hS hA rfl rfl hl (Nat.le_of_ble_eq_true rfl) rfl ⟨Nat.le_of_ble_eq_true rfl, Nat.le_of_ble_eq_true rfl⟩ rfl dX0_metMostAfter_2 rfl rfl (rpl_fast (by decide) rfl rfl) rfl rfl rfl (fun H locs hP hD hS => ?_)
  refine lv_istore_n (lv' := [(2, .int (f_X0_taughtNext xn xw xk xm xf xB s0)), (0, .ref xO), (1, .int s0)]) hx hb dX0_metMostAfter_5 rfl hl (by decide) rfl (fun ls hl => ?_)
  refine lv_bipush (v := -9) hx hb dX0_metMostAfter_6 (by decide) ?_
  refine lv_istore_n (lv' := [(3, .int (-9)), (2, .int (f_X0_taughtNext xn xw xk xm xf xB s0)), (0, .ref xO), (1, .int s0)]) hx hb dX0_metMostAfter_8 rfl hl (by decide) rfl (fun ls hl => ?_)
  refine lv_iconst (v := -1) hx hb dX0_metMostAfter_9 (by decide) ?_
  refine lv_istore (lv' := [(4, .int (-1)), (3, .int (-9)), (2, .int (f_X0_taughtNext xn xw xk xm xf xB s0)), (0, .ref xO), (1, .int s0)]) hx hb dX0_metMostAfter_10 hl (by decide) rfl (fun ls hl => ?_)
  refine lv_iconst (v := 0) hx hb dX0_metMostAfter_12 (by decide) ?_
  refine lv_istore (lv' := [(5, .int 0), (4, .int (-1)), (3, .int (-9)), (2, .int (f_X0_taughtNext xn xw xk xm xf xB s0)), (0, .ref xO), (1, .int s0)]) hx hb dX0_metMostAfter_13 hl (by decide) rfl (fun ls hl => ?_)
  have L15 : ∀ (k15 : Nat) (i15 : Nat) (v3_15 : Int32) (v4_15 : Int32), k15 + i15 = 12 → f_X0_metMostAfter_15 xn xw xk xm xf xB xt s0 k15 i15 v3_15 v4_15 = R → ∀ (H : Heap) (locs : List Loc) (ls : Array Slot), va_P G.1 wcl [(xO, .inr (0, [.ref xo, .ref xH, .ref xM, .int xB])), (xo, .inr (5, [.ref xa, .ref xb, .ref xc, .ref xd, .int (nI xn)])), (xa, .inl (G.2.1, xl, .inl xw)), (xb, .inl (G.2.1, xl, .inl xk)), (xc, .inl (G.2.1, xl, .inl xm)), (xd, .inl (G.2.1, xl, .inl xf)), (xH, .inl (G.2.1, 12, .inl xh)), (xM, .inl (G.2.1, 12, .inl xt))] H → va_D A [(xO, .inr (0, [.ref xo, .ref xH, .ref xM, .int xB])), (xo, .inr (5, [.ref xa, .ref xb, .ref xc, .ref xd, .int (nI xn)])), (xa, .inl (G.2.1, xl, .inl xw)), (xb, .inl (G.2.1, xl, .inl xk)), (xc, .inl (G.2.1, xl, .inl xm)), (xd, .inl (G.2.1, xl, .inl xf)), (xH, .inl (G.2.1, 12, .inl xh)), (xM, .inl (G.2.1, 12, .inl xt))] → va_S A s.heap H locs → lv_has ls 6 [(0, .ref xO), (2, .int (f_X0_taughtNext xn xw xk xm xf xB s0)), (3, .int v3_15), (4, .int v4_15), (5, .int (nI i15))] → W p l e ({ frames := 3, cells := 0, slots := 0, locals := 70 }) s m args below meth c H locs 0 0 Q (F0 m 15 ls []) := by
    intro k15
    induction k15 with
    | zero =>
      intro i15 v3_15 v4_15 hi15  hf _ _ ls hP hD hS hl
      rw [f_X0_metMostAfter_15_z] at hf
      refine lv_iload hx hb dX0_metMostAfter_15 (lv_at hl 4 rfl) ?_
      refine lv_bipush (v := 12) hx hb dX0_metMostAfter_17 (by decide) ?_
      refine lv_icmp_ge (tgt := 61) hx hb dX0_metMostAfter_19 (by decide) (fun _ => ?_) (fun c => absurd (ile (a := 12) (b := i15) rfl rfl (by omega) (by omega) (by omega)) c)
      refine lv_iload_n hx hb dX0_metMostAfter_61 rfl (lv_at hl 2 rfl) ?_
      exact hret v3_15 dX0_metMostAfter_62 rfl hf rfl hP hS
    | succ k15 ih15 =>
      intro i15 v3_15 v4_15 hi15  hf _ _ ls hP hD hS hl
      rw [f_X0_metMostAfter_15_s] at hf
      refine lv_iload hx hb dX0_metMostAfter_15 (lv_at hl 4 rfl) ?_
      refine lv_bipush (v := 12) hx hb dX0_metMostAfter_17 (by decide) ?_
      refine lv_icmp_ge (tgt := 61) hx hb dX0_metMostAfter_19 (by decide) (fun c => absurd c (inle (a := 12) (b := i15) rfl rfl (by omega) (by omega) (by omega))) (fun _ => ?_)
      refine lv_iload_n hx hb dX0_metMostAfter_22 rfl (lv_at hl 1 rfl) ?_
      refine lv_iload hx hb dX0_metMostAfter_23 (lv_at hl 4 rfl) ?_
      refine cl_SN (ws' := [(xO, .inr (0, [.ref xo, .ref xH, .ref xM, .int xB])), (xo, .inr (5, [.ref xa, .ref xb, .ref xc, .ref xd, .int (nI xn)])), (xa, .inl (G.2.1, xl, .inl xw)), (xb, .inl (G.2.1, xl, .inl xk)), (xc, .inl (G.2.1, xl, .inl xm)), (xd, .inl (G.2.1, xl, .inl xf)), (xH, .inl (G.2.1, 12, .inl xh)), (xM, .inl (G.2.1, 12, .inl xt))]) (v := (some (.int (f_X6_hasWord (f_X0_taughtNext xn xw xk xm xf xB s0) (nI i15))))) (st1 := [.int (f_X6_hasWord (f_X0_taughtNext xn xw xk xm xf xB s0) (nI i15))]) (rest := []) (As := [.int (f_X0_taughtNext xn xw xk xm xf xB s0), .int (nI i15)]) [] hx hb hml hown hK (k_X6_hasWord l G (f_X0_taughtNext xn xw xk xm xf xB s0) (nI i15) ) (mf_X6_hasWord hK.2) (kw_379 hK.2) (kw_420 hK.2) ⟨rfl, rfl, Nat.le_of_ble_eq_true rfl, Nat.le_of_ble_eq_true rfl⟩ rfl hP hD hS hA hl (Nat.le_of_ble_eq_true rfl) rfl ⟨Nat.le_of_ble_eq_true rfl, Nat.le_of_ble_eq_true rfl⟩ rfl dX0_metMostAfter_25 rfl rfl rfl rfl rfl rfl (fun H locs hP hD hS => ?_)
      refine lv_if_eq (tgt := 55) hx hb dX0_metMostAfter_28 (by decide) (fun c1 => ?_) (fun c1 => ?_)
      · have hf := (if_pos c1).symm.trans hf
        refine lv_iinc (v := nI (i15 + 1)) (lv' := [(5, .int (nI (i15 + 1))), (0, .ref xO), (2, .int (f_X0_taughtNext xn xw xk xm xf xB s0)), (3, .int v3_15), (4, .int v4_15)]) hx hb dX0_metMostAfter_55 hl (k := 4) rfl (nI_1 i15) (by decide) rfl (fun ls hl => ?_)
        refine lv_goto (tgt := 15) hx hb dX0_metMostAfter_58 (by decide) ?_
        exact ih15 (i15 + 1) v3_15 v4_15 (by omega)  hf _ _ ls hP hD hS (lv_sub hl [1, 2, 3, 4, 0] rfl)
      · have hf := (if_neg c1).symm.trans hf
        refine lv_aload_n hx hb dX0_metMostAfter_31 rfl (lv_at hl 0 rfl) ?_
        refine va_get (D := G.1) (ci := 0) (v := .ref xM) (C := RX0) (T := TX0) (N := 4) hx hb (ku_X0 hK.2) (fun _ h9 => h9) hown hK.1 hP 0 rfl rfl 2 (by decide) (kw_110 hK.2) (fun _ h9 => h9) rfl dX0_metMostAfter_32 ?_
        refine lv_iload hx hb dX0_metMostAfter_35 (lv_at hl 4 rfl) ?_
        refine ww_ild (j := i15) hx hb hK.1 hP 7 0 rfl rfl (by omega) (by omega) dX0_metMostAfter_37 ?_
        refine lv_iload hx hb dX0_metMostAfter_38 (lv_at hl 3 rfl) ?_
        refine lv_icmp_le (tgt := 55) hx hb dX0_metMostAfter_40 (by decide) (fun c2 => ?_) (fun c2 => ?_)
        · have hf := (if_pos c2).symm.trans hf
          refine lv_iinc (v := nI (i15 + 1)) (lv' := [(5, .int (nI (i15 + 1))), (0, .ref xO), (2, .int (f_X0_taughtNext xn xw xk xm xf xB s0)), (3, .int v3_15), (4, .int v4_15)]) hx hb dX0_metMostAfter_55 hl (k := 4) rfl (nI_1 i15) (by decide) rfl (fun ls hl => ?_)
          refine lv_goto (tgt := 15) hx hb dX0_metMostAfter_58 (by decide) ?_
          exact ih15 (i15 + 1) v3_15 v4_15 (by omega)  hf _ _ ls hP hD hS (lv_sub hl [1, 2, 3, 4, 0] rfl)
        · have hf := (if_neg c2).symm.trans hf
          refine lv_iload hx hb dX0_metMostAfter_43 (lv_at hl 4 rfl) ?_
          refine lv_istore_n (lv' := [(3, .int (nI i15)), (0, .ref xO), (2, .int (f_X0_taughtNext xn xw xk xm xf xB s0)), (4, .int v4_15), (5, .int (nI i15))]) hx hb dX0_metMostAfter_45 rfl hl (by decide) rfl (fun ls hl => ?_)
          refine lv_aload_n hx hb dX0_metMostAfter_46 rfl (lv_at hl 1 rfl) ?_
          refine va_get (D := G.1) (ci := 0) (v := .ref xM) (C := RX0) (T := TX0) (N := 4) hx hb (ku_X0 hK.2) (fun _ h9 => h9) hown hK.1 hP 0 rfl rfl 2 (by decide) (kw_110 hK.2) (fun _ h9 => h9) rfl dX0_metMostAfter_47 ?_
          refine lv_iload hx hb dX0_metMostAfter_50 (lv_at hl 4 rfl) ?_
          refine ww_ild (j := i15) hx hb hK.1 hP 7 0 rfl rfl (by omega) (by omega) dX0_metMostAfter_52 ?_
          refine lv_istore (lv' := [(4, .int (xt i15)), (3, .int (nI i15)), (0, .ref xO), (2, .int (f_X0_taughtNext xn xw xk xm xf xB s0)), (5, .int (nI i15))]) hx hb dX0_metMostAfter_53 hl (by decide) rfl (fun ls hl => ?_)
          refine lv_iinc (v := nI (i15 + 1)) (lv' := [(5, .int (nI (i15 + 1))), (4, .int (xt i15)), (3, .int (nI i15)), (0, .ref xO), (2, .int (f_X0_taughtNext xn xw xk xm xf xB s0))]) hx hb dX0_metMostAfter_55 hl (k := 4) rfl (nI_1 i15) (by decide) rfl (fun ls hl => ?_)
          refine lv_goto (tgt := 15) hx hb dX0_metMostAfter_58 (by decide) ?_
          exact ih15 (i15 + 1) (nI i15) (xt i15) (by omega)  hf _ _ ls hP hD hS (lv_sub hl [3, 4, 2, 1, 0] rfl)
  exact L15 12 0 (-9) (-1) (by omega)  hf _ _ ls hP hD hS (lv_sub hl [4, 3, 2, 1, 0] rfl)
def f_X0_hardnessOf_4 (xh : Nat → Int32) (s0 : Int32) : Nat → Nat → Int32 → Int32
  | 0, i4, v2_4 => v2_4
  | k4 + 1, i4, v2_4 => (if (f_X6_hasWord s0 (nI i4)) = 0 then f_X0_hardnessOf_4 xh s0 k4 (i4 + 1) v2_4 else f_X0_hardnessOf_4 xh s0 k4 (i4 + 1) (v2_4 + (xh i4)))
theorem f_X0_hardnessOf_4_z (xh : Nat → Int32) (s0 : Int32) (i4 : Nat) (v2_4 : Int32) : f_X0_hardnessOf_4 xh s0 0 i4 v2_4 = v2_4 := rfl
theorem f_X0_hardnessOf_4_s (xh : Nat → Int32) (s0 : Int32) (k4 : Nat) (i4 : Nat) (v2_4 : Int32) : f_X0_hardnessOf_4 xh s0 (k4 + 1) i4 v2_4 = (if (f_X6_hasWord s0 (nI i4)) = 0 then f_X0_hardnessOf_4 xh s0 k4 (i4 + 1) v2_4 else f_X0_hardnessOf_4 xh s0 k4 (i4 + 1) (v2_4 + (xh i4))) := rfl
def f_X0_hardnessOf (xh : Nat → Int32) (s0 : Int32) : Int32 := (f_X0_hardnessOf_4 xh s0 12 0 0)
set_option maxHeartbeats 4000000 in
set_option maxRecDepth 100000 in
theorem k_X0_hardnessOf (l : Launch) (G : wG) (xO : Nat) (xo : Nat) (xa : Nat) (xb : Nat) (xc : Nat) (xd : Nat) (xl : Nat) (xn : Nat) (xw : Nat → Int32) (xk : Nat → Int32) (xm : Nat → Int32) (xf : Nat → Int32) (xH : Nat) (xM : Nat) (xB : Int32) (xh : Nat → Int32) (xt : Nat → Int32) (s0 : Int32) (hxn : xn ≤ xl) (hxl : xl ≤ 20) : CT l G yX0_hardnessOf cX0_hardnessOf 4 (some .int) ({ frames := 1, cells := 0, slots := 0, locals := 21 }) [.ref xO, .int s0] [(xO, .inr (0, [.ref xo, .ref xH, .ref xM, .int xB])), (xo, .inr (5, [.ref xa, .ref xb, .ref xc, .ref xd, .int (nI xn)])), (xa, .inl (G.2.1, xl, .inl xw)), (xb, .inl (G.2.1, xl, .inl xk)), (xc, .inl (G.2.1, xl, .inl xm)), (xd, .inl (G.2.1, xl, .inl xf)), (xH, .inl (G.2.1, 12, .inl xh)), (xM, .inl (G.2.1, 12, .inl xt))] (fun _ => [(xO, .inr (0, [.ref xo, .ref xH, .ref xM, .int xB])), (xo, .inr (5, [.ref xa, .ref xb, .ref xc, .ref xd, .int (nI xn)])), (xa, .inl (G.2.1, xl, .inl xw)), (xb, .inl (G.2.1, xl, .inl xk)), (xc, .inl (G.2.1, xl, .inl xm)), (xd, .inl (G.2.1, xl, .inl xf)), (xH, .inl (G.2.1, 12, .inl xh)), (xM, .inl (G.2.1, 12, .inl xt))]) (fun u => some (.int u)) (f_X0_hardnessOf xh s0) := by
  obtain ⟨R, hf⟩ : ∃ R, f_X0_hardnessOf xh s0 = R := ⟨_, rfl⟩
  rw [hf]
  refine CT.mkI RX0 (by decide +kernel) rfl (Nat.le_of_ble_eq_true rfl) ?_
  intro p e s m args below meth c A Q ls hx hb hml hown hK hP hD hS hA hret hl
  have hl : lv_has ls 4 [(0, .ref xO), (1, .int s0)] := hl
  rw [f_X0_hardnessOf] at hf
  refine lv_iconst (v := 0) hx hb dX0_hardnessOf_0 (by decide) ?_
  refine lv_istore_n (lv' := [(2, .int 0), (0, .ref xO), (1, .int s0)]) hx hb dX0_hardnessOf_1 rfl hl (by decide) rfl (fun ls hl => ?_)
  refine lv_iconst (v := 0) hx hb dX0_hardnessOf_2 (by decide) ?_
  refine lv_istore_n (lv' := [(3, .int 0), (2, .int 0), (0, .ref xO), (1, .int s0)]) hx hb dX0_hardnessOf_3 rfl hl (by decide) rfl (fun ls hl => ?_)
  have L4 : ∀ (k4 : Nat) (i4 : Nat) (v2_4 : Int32), k4 + i4 = 12 → f_X0_hardnessOf_4 xh s0 k4 i4 v2_4 = R → ∀ (H : Heap) (locs : List Loc) (ls : Array Slot), va_P G.1 wcl [(xO, .inr (0, [.ref xo, .ref xH, .ref xM, .int xB])), (xo, .inr (5, [.ref xa, .ref xb, .ref xc, .ref xd, .int (nI xn)])), (xa, .inl (G.2.1, xl, .inl xw)), (xb, .inl (G.2.1, xl, .inl xk)), (xc, .inl (G.2.1, xl, .inl xm)), (xd, .inl (G.2.1, xl, .inl xf)), (xH, .inl (G.2.1, 12, .inl xh)), (xM, .inl (G.2.1, 12, .inl xt))] H → va_D A [(xO, .inr (0, [.ref xo, .ref xH, .ref xM, .int xB])), (xo, .inr (5, [.ref xa, .ref xb, .ref xc, .ref xd, .int (nI xn)])), (xa, .inl (G.2.1, xl, .inl xw)), (xb, .inl (G.2.1, xl, .inl xk)), (xc, .inl (G.2.1, xl, .inl xm)), (xd, .inl (G.2.1, xl, .inl xf)), (xH, .inl (G.2.1, 12, .inl xh)), (xM, .inl (G.2.1, 12, .inl xt))] → va_S A s.heap H locs → lv_has ls 4 [(0, .ref xO), (1, .int s0), (2, .int v2_4), (3, .int (nI i4))] → W p l e ({ frames := 1, cells := 0, slots := 0, locals := 21 }) s m args below meth c H locs 0 0 Q (F0 m 4 ls []) := by
    intro k4
    induction k4 with
    | zero =>
      intro i4 v2_4 hi4  hf _ _ ls hP hD hS hl
      rw [f_X0_hardnessOf_4_z] at hf
      refine lv_iload_n hx hb dX0_hardnessOf_4 rfl (lv_at hl 3 rfl) ?_
      refine lv_bipush (v := 12) hx hb dX0_hardnessOf_5 (by decide) ?_
      refine lv_icmp_ge (tgt := 33) hx hb dX0_hardnessOf_7 (by decide) (fun _ => ?_) (fun c => absurd (ile (a := 12) (b := i4) rfl rfl (by omega) (by omega) (by omega)) c)
      refine lv_iload_n hx hb dX0_hardnessOf_33 rfl (lv_at hl 2 rfl) ?_
      exact hret v2_4 dX0_hardnessOf_34 rfl hf rfl hP hS
    | succ k4 ih4 =>
      intro i4 v2_4 hi4  hf _ _ ls hP hD hS hl
      rw [f_X0_hardnessOf_4_s] at hf
      refine lv_iload_n hx hb dX0_hardnessOf_4 rfl (lv_at hl 3 rfl) ?_
      refine lv_bipush (v := 12) hx hb dX0_hardnessOf_5 (by decide) ?_
      refine lv_icmp_ge (tgt := 33) hx hb dX0_hardnessOf_7 (by decide) (fun c => absurd c (inle (a := 12) (b := i4) rfl rfl (by omega) (by omega) (by omega))) (fun _ => ?_)
      refine lv_iload_n hx hb dX0_hardnessOf_10 rfl (lv_at hl 1 rfl) ?_
      refine lv_iload_n hx hb dX0_hardnessOf_11 rfl (lv_at hl 3 rfl) ?_
      refine cl_SN (ws' := [(xO, .inr (0, [.ref xo, .ref xH, .ref xM, .int xB])), (xo, .inr (5, [.ref xa, .ref xb, .ref xc, .ref xd, .int (nI xn)])), (xa, .inl (G.2.1, xl, .inl xw)), (xb, .inl (G.2.1, xl, .inl xk)), (xc, .inl (G.2.1, xl, .inl xm)), (xd, .inl (G.2.1, xl, .inl xf)), (xH, .inl (G.2.1, 12, .inl xh)), (xM, .inl (G.2.1, 12, .inl xt))]) (v := (some (.int (f_X6_hasWord s0 (nI i4))))) (st1 := [.int (f_X6_hasWord s0 (nI i4))]) (rest := []) (As := [.int s0, .int (nI i4)]) [] hx hb hml hown hK (k_X6_hasWord l G s0 (nI i4) ) (mf_X6_hasWord hK.2) (kw_379 hK.2) (kw_420 hK.2) ⟨rfl, rfl, Nat.le_of_ble_eq_true rfl, Nat.le_of_ble_eq_true rfl⟩ rfl hP hD hS hA hl (Nat.le_of_ble_eq_true rfl) rfl ⟨Nat.le_of_ble_eq_true rfl, Nat.le_of_ble_eq_true rfl⟩ rfl dX0_hardnessOf_12 rfl rfl rfl rfl rfl rfl (fun H locs hP hD hS => ?_)
      refine lv_if_eq (tgt := 27) hx hb dX0_hardnessOf_15 (by decide) (fun c1 => ?_) (fun c1 => ?_)
      · have hf := (if_pos c1).symm.trans hf
        refine lv_iinc (v := nI (i4 + 1)) (lv' := [(3, .int (nI (i4 + 1))), (0, .ref xO), (1, .int s0), (2, .int v2_4)]) hx hb dX0_hardnessOf_27 hl (k := 3) rfl (nI_1 i4) (by decide) rfl (fun ls hl => ?_)
        refine lv_goto (tgt := 4) hx hb dX0_hardnessOf_30 (by decide) ?_
        exact ih4 (i4 + 1) v2_4 (by omega)  hf _ _ ls hP hD hS (lv_sub hl [1, 2, 3, 0] rfl)
      · have hf := (if_neg c1).symm.trans hf
        refine lv_iload_n hx hb dX0_hardnessOf_18 rfl (lv_at hl 2 rfl) ?_
        refine lv_aload_n hx hb dX0_hardnessOf_19 rfl (lv_at hl 0 rfl) ?_
        refine va_get (D := G.1) (ci := 0) (v := .ref xH) (C := RX0) (T := TX0) (N := 4) hx hb (ku_X0 hK.2) (fun _ h9 => h9) hown hK.1 hP 0 rfl rfl 1 (by decide) (kw_108 hK.2) (fun _ h9 => h9) rfl dX0_hardnessOf_20 ?_
        refine lv_iload_n hx hb dX0_hardnessOf_23 rfl (lv_at hl 3 rfl) ?_
        refine ww_ild (j := i4) hx hb hK.1 hP 6 0 rfl rfl (by omega) (by omega) dX0_hardnessOf_24 ?_
        refine lv_iadd hx hb dX0_hardnessOf_25 ?_
        refine lv_istore_n (lv' := [(2, .int (v2_4 + (xh i4))), (0, .ref xO), (1, .int s0), (3, .int (nI i4))]) hx hb dX0_hardnessOf_26 rfl hl (by decide) rfl (fun ls hl => ?_)
        refine lv_iinc (v := nI (i4 + 1)) (lv' := [(3, .int (nI (i4 + 1))), (2, .int (v2_4 + (xh i4))), (0, .ref xO), (1, .int s0)]) hx hb dX0_hardnessOf_27 hl (k := 3) rfl (nI_1 i4) (by decide) rfl (fun ls hl => ?_)
        refine lv_goto (tgt := 4) hx hb dX0_hardnessOf_30 (by decide) ?_
        exact ih4 (i4 + 1) (v2_4 + (xh i4)) (by omega)  hf _ _ ls hP hD hS (lv_sub hl [2, 3, 1, 0] rfl)
  exact L4 12 0 0 (by omega)  hf _ _ ls hP hD hS (lv_sub hl [2, 3, 1, 0] rfl)
def f_X0_learntBy_22 (xw : Nat → Int32) (xk : Nat → Int32) (xm : Nat → Int32) (xf : Nat → Int32) (wo : Int32) (s0 : Int32) : Nat → Nat → Int32
  | 0, i22 => 0
  | k22 + 1, i22 => (if (xw i22) = wo then (if (f_X5_teaches xk xm xf i22 s0) = 0 then f_X0_learntBy_22 xw xk xm xf wo s0 k22 (i22 + 1) else xm i22) else f_X0_learntBy_22 xw xk xm xf wo s0 k22 (i22 + 1))
theorem f_X0_learntBy_22_z (xw : Nat → Int32) (xk : Nat → Int32) (xm : Nat → Int32) (xf : Nat → Int32) (wo : Int32) (s0 : Int32) (i22 : Nat) : f_X0_learntBy_22 xw xk xm xf wo s0 0 i22 = 0 := rfl
theorem f_X0_learntBy_22_s (xw : Nat → Int32) (xk : Nat → Int32) (xm : Nat → Int32) (xf : Nat → Int32) (wo : Int32) (s0 : Int32) (k22 : Nat) (i22 : Nat) : f_X0_learntBy_22 xw xk xm xf wo s0 (k22 + 1) i22 = (if (xw i22) = wo then (if (f_X5_teaches xk xm xf i22 s0) = 0 then f_X0_learntBy_22 xw xk xm xf wo s0 k22 (i22 + 1) else xm i22) else f_X0_learntBy_22 xw xk xm xf wo s0 k22 (i22 + 1)) := rfl
def f_X0_learntBy (xn : Nat) (xw : Nat → Int32) (xk : Nat → Int32) (xm : Nat → Int32) (xf : Nat → Int32) (xB : Int32) (wo : Int32) (s0 : Int32) : Int32 := (if (f_X6_hasWord xB wo) = 0 then (f_X0_learntBy_22 xw xk xm xf wo s0 xn 0) else f_X5_neededBy xn xw xm wo)
set_option maxHeartbeats 4000000 in
set_option maxRecDepth 100000 in
theorem k_X0_learntBy (l : Launch) (G : wG) (xO : Nat) (xo : Nat) (xa : Nat) (xb : Nat) (xc : Nat) (xd : Nat) (xl : Nat) (xn : Nat) (xw : Nat → Int32) (xk : Nat → Int32) (xm : Nat → Int32) (xf : Nat → Int32) (xH : Nat) (xM : Nat) (xB : Int32) (xh : Nat → Int32) (xt : Nat → Int32) (wo : Int32) (s0 : Int32) (hxn : xn ≤ xl) (hxl : xl ≤ 20) : CT l G yX0_learntBy cX0_learntBy 4 (some .int) ({ frames := 2, cells := 0, slots := 0, locals := 45 }) [.ref xO, .int wo, .int s0] [(xO, .inr (0, [.ref xo, .ref xH, .ref xM, .int xB])), (xo, .inr (5, [.ref xa, .ref xb, .ref xc, .ref xd, .int (nI xn)])), (xa, .inl (G.2.1, xl, .inl xw)), (xb, .inl (G.2.1, xl, .inl xk)), (xc, .inl (G.2.1, xl, .inl xm)), (xd, .inl (G.2.1, xl, .inl xf)), (xH, .inl (G.2.1, 12, .inl xh)), (xM, .inl (G.2.1, 12, .inl xt))] (fun _ => [(xO, .inr (0, [.ref xo, .ref xH, .ref xM, .int xB])), (xo, .inr (5, [.ref xa, .ref xb, .ref xc, .ref xd, .int (nI xn)])), (xa, .inl (G.2.1, xl, .inl xw)), (xb, .inl (G.2.1, xl, .inl xk)), (xc, .inl (G.2.1, xl, .inl xm)), (xd, .inl (G.2.1, xl, .inl xf)), (xH, .inl (G.2.1, 12, .inl xh)), (xM, .inl (G.2.1, 12, .inl xt))]) (fun u => some (.int u)) (f_X0_learntBy xn xw xk xm xf xB wo s0) := by
  obtain ⟨R, hf⟩ : ∃ R, f_X0_learntBy xn xw xk xm xf xB wo s0 = R := ⟨_, rfl⟩
  rw [hf]
  refine CT.mkI RX0 (by decide +kernel) rfl (Nat.le_of_ble_eq_true rfl) ?_
  intro p e s m args below meth c A Q ls hx hb hml hown hK hP hD hS hA hret hl
  have hl : lv_has ls 4 [(0, .ref xO), (1, .int wo), (2, .int s0)] := hl
  rw [f_X0_learntBy] at hf
  refine lv_aload_n hx hb dX0_learntBy_0 rfl (lv_at hl 0 rfl) ?_
  refine va_get (D := G.1) (ci := 0) (v := .int xB) (C := RX0) (T := TX0) (N := 4) hx hb (ku_X0 hK.2) (fun _ h9 => h9) hown hK.1 hP 0 rfl rfl 3 (by decide) (kw_112 hK.2) (fun _ h9 => h9) rfl dX0_learntBy_1 ?_
  refine lv_iload_n hx hb dX0_learntBy_4 rfl (lv_at hl 1 rfl) ?_
  refine cl_SN (ws' := [(xO, .inr (0, [.ref xo, .ref xH, .ref xM, .int xB])), (xo, .inr (5, [.ref xa, .ref xb, .ref xc, .ref xd, .int (nI xn)])), (xa, .inl (G.2.1, xl, .inl xw)), (xb, .inl (G.2.1, xl, .inl xk)), (xc, .inl (G.2.1, xl, .inl xm)), (xd, .inl (G.2.1, xl, .inl xf)), (xH, .inl (G.2.1, 12, .inl xh)), (xM, .inl (G.2.1, 12, .inl xt))]) (v := (some (.int (f_X6_hasWord xB wo)))) (st1 := [.int (f_X6_hasWord xB wo)]) (rest := []) (As := [.int xB, .int wo]) [] hx hb hml hown hK (k_X6_hasWord l G xB wo ) (mf_X6_hasWord hK.2) (kw_379 hK.2) (kw_420 hK.2) ⟨rfl, rfl, Nat.le_of_ble_eq_true rfl, Nat.le_of_ble_eq_true rfl⟩ rfl hP hD hS hA hl (Nat.le_of_ble_eq_true rfl) rfl ⟨Nat.le_of_ble_eq_true rfl, Nat.le_of_ble_eq_true rfl⟩ rfl dX0_learntBy_5 rfl rfl rfl rfl rfl rfl (fun H locs hP hD hS => ?_)
  refine lv_if_eq (tgt := 20) hx hb dX0_learntBy_8 (by decide) (fun c1 => ?_) (fun c1 => ?_)
  · have hf := (if_pos c1).symm.trans hf
    refine lv_iconst (v := 0) hx hb dX0_learntBy_20 (by decide) ?_
    refine lv_istore_n (lv' := [(3, .int 0), (0, .ref xO), (1, .int wo), (2, .int s0)]) hx hb dX0_learntBy_21 rfl hl (by decide) rfl (fun ls hl => ?_)
    have L22 : ∀ (k22 : Nat) (i22 : Nat), k22 + i22 = xn → f_X0_learntBy_22 xw xk xm xf wo s0 k22 i22 = R → ∀ (H : Heap) (locs : List Loc) (ls : Array Slot), va_P G.1 wcl [(xO, .inr (0, [.ref xo, .ref xH, .ref xM, .int xB])), (xo, .inr (5, [.ref xa, .ref xb, .ref xc, .ref xd, .int (nI xn)])), (xa, .inl (G.2.1, xl, .inl xw)), (xb, .inl (G.2.1, xl, .inl xk)), (xc, .inl (G.2.1, xl, .inl xm)), (xd, .inl (G.2.1, xl, .inl xf)), (xH, .inl (G.2.1, 12, .inl xh)), (xM, .inl (G.2.1, 12, .inl xt))] H → va_D A [(xO, .inr (0, [.ref xo, .ref xH, .ref xM, .int xB])), (xo, .inr (5, [.ref xa, .ref xb, .ref xc, .ref xd, .int (nI xn)])), (xa, .inl (G.2.1, xl, .inl xw)), (xb, .inl (G.2.1, xl, .inl xk)), (xc, .inl (G.2.1, xl, .inl xm)), (xd, .inl (G.2.1, xl, .inl xf)), (xH, .inl (G.2.1, 12, .inl xh)), (xM, .inl (G.2.1, 12, .inl xt))] → va_S A s.heap H locs → lv_has ls 4 [(0, .ref xO), (1, .int wo), (2, .int s0), (3, .int (nI i22))] → W p l e ({ frames := 2, cells := 0, slots := 0, locals := 45 }) s m args below meth c H locs 0 0 Q (F0 m 22 ls []) := by
      intro k22
      induction k22 with
      | zero =>
        intro i22 hi22  hf _ _ ls hP hD hS hl
        rw [f_X0_learntBy_22_z] at hf
        refine lv_iload_n hx hb dX0_learntBy_22 rfl (lv_at hl 3 rfl) ?_
        refine lv_aload_n hx hb dX0_learntBy_23 rfl (lv_at hl 0 rfl) ?_
        refine va_get (D := G.1) (ci := 0) (v := .ref xo) (C := RX0) (T := TX0) (N := 4) hx hb (ku_X0 hK.2) (fun _ h9 => h9) hown hK.1 hP 0 rfl rfl 0 (by decide) (kw_104 hK.2) (fun _ h9 => h9) rfl dX0_learntBy_24 ?_
        refine va_getN (D := G.1) (ci := 5) (v := .int (nI xn)) (C := RX5) (T := TX5) (N := 5) hx hb (ku_X5 hK.2) (fun _ h9 => h9) hown hK.1 hP 1 rfl rfl 4 (by decide) (kw_90 hK.2) (fun _ h9 => h9) rfl dX0_learntBy_27 ?_
        refine lv_icmp_ge (tgt := 74) hx hb dX0_learntBy_30 (by decide) (fun _ => ?_) (fun c => absurd (ile (a := xn) (b := i22) rfl rfl (by omega) (by omega) (by omega)) c)
        refine lv_iconst (v := 0) hx hb dX0_learntBy_74 (by decide) ?_
        exact hret 0 dX0_learntBy_75 rfl hf rfl hP hS
      | succ k22 ih22 =>
        intro i22 hi22  hf _ _ ls hP hD hS hl
        rw [f_X0_learntBy_22_s] at hf
        refine lv_iload_n hx hb dX0_learntBy_22 rfl (lv_at hl 3 rfl) ?_
        refine lv_aload_n hx hb dX0_learntBy_23 rfl (lv_at hl 0 rfl) ?_
        refine va_get (D := G.1) (ci := 0) (v := .ref xo) (C := RX0) (T := TX0) (N := 4) hx hb (ku_X0 hK.2) (fun _ h9 => h9) hown hK.1 hP 0 rfl rfl 0 (by decide) (kw_104 hK.2) (fun _ h9 => h9) rfl dX0_learntBy_24 ?_
        refine va_getN (D := G.1) (ci := 5) (v := .int (nI xn)) (C := RX5) (T := TX5) (N := 5) hx hb (ku_X5 hK.2) (fun _ h9 => h9) hown hK.1 hP 1 rfl rfl 4 (by decide) (kw_90 hK.2) (fun _ h9 => h9) rfl dX0_learntBy_27 ?_
        refine lv_icmp_ge (tgt := 74) hx hb dX0_learntBy_30 (by decide) (fun c => absurd c (inle (a := xn) (b := i22) rfl rfl (by omega) (by omega) (by omega))) (fun _ => ?_)
        refine lv_aload_n hx hb dX0_learntBy_33 rfl (lv_at hl 0 rfl) ?_
        refine va_get (D := G.1) (ci := 0) (v := .ref xo) (C := RX0) (T := TX0) (N := 4) hx hb (ku_X0 hK.2) (fun _ h9 => h9) hown hK.1 hP 0 rfl rfl 0 (by decide) (kw_104 hK.2) (fun _ h9 => h9) rfl dX0_learntBy_34 ?_
        refine va_getN (D := G.1) (ci := 5) (v := .ref xa) (C := RX5) (T := TX5) (N := 5) hx hb (ku_X5 hK.2) (fun _ h9 => h9) hown hK.1 hP 1 rfl rfl 0 (by decide) (kw_78 hK.2) (fun _ h9 => h9) rfl dX0_learntBy_37 ?_
        refine lv_iload_n hx hb dX0_learntBy_40 rfl (lv_at hl 3 rfl) ?_
        refine ww_ild (j := i22) hx hb hK.1 hP 2 0 rfl rfl (by omega) (by omega) dX0_learntBy_41 ?_
        refine lv_iload_n hx hb dX0_learntBy_42 rfl (lv_at hl 1 rfl) ?_
        refine lv_icmp_ne (tgt := 68) hx hb dX0_learntBy_43 (by decide) (fun c2 => ?_) (fun c2 => ?_)
        · have hf := (if_neg c2).symm.trans hf
          refine lv_iinc (v := nI (i22 + 1)) (lv' := [(3, .int (nI (i22 + 1))), (0, .ref xO), (1, .int wo), (2, .int s0)]) hx hb dX0_learntBy_68 hl (k := 3) rfl (nI_1 i22) (by decide) rfl (fun ls hl => ?_)
          refine lv_goto (tgt := 22) hx hb dX0_learntBy_71 (by decide) ?_
          exact ih22 (i22 + 1) (by omega)  hf _ _ ls hP hD hS (lv_sub hl [1, 2, 3, 0] rfl)
        · have hf := (if_pos c2).symm.trans hf
          refine lv_aload_n hx hb dX0_learntBy_46 rfl (lv_at hl 0 rfl) ?_
          refine va_get (D := G.1) (ci := 0) (v := .ref xo) (C := RX0) (T := TX0) (N := 4) hx hb (ku_X0 hK.2) (fun _ h9 => h9) hown hK.1 hP 0 rfl rfl 0 (by decide) (kw_104 hK.2) (fun _ h9 => h9) rfl dX0_learntBy_47 ?_
          refine lv_iload_n hx hb dX0_learntBy_50 rfl (lv_at hl 3 rfl) ?_
          refine lv_iload_n hx hb dX0_learntBy_51 rfl (lv_at hl 2 rfl) ?_
          refine cl_V (q := (RX5, TX5, 5)) (ws' := [(xO, .inr (0, [.ref xo, .ref xH, .ref xM, .int xB])), (xo, .inr (5, [.ref xa, .ref xb, .ref xc, .ref xd, .int (nI xn)])), (xa, .inl (G.2.1, xl, .inl xw)), (xb, .inl (G.2.1, xl, .inl xk)), (xc, .inl (G.2.1, xl, .inl xm)), (xd, .inl (G.2.1, xl, .inl xf)), (xH, .inl (G.2.1, 12, .inl xh)), (xM, .inl (G.2.1, 12, .inl xt))]) (v := (some (.int (f_X5_teaches xk xm xf i22 s0)))) (st1 := [.int (f_X5_teaches xk xm xf i22 s0)]) (rest := []) (As := [.int (nI i22), .int s0]) [1, 2, 3, 4, 5] 1 5 hx hb hml hown hK (k_X5_teaches l G xo xa xb xc xd xl xn xw xk xm xf i22 s0 hxn hxl (by omega)) (mf_X5_teaches hK.2) (kw_426 hK.2) (kw_427 hK.2) (kw_425 hK.2) ⟨rfl, rfl, Nat.le_of_ble_eq_true rfl, Nat.le_of_ble_eq_true rfl⟩ rfl hP hD hS hA rfl rfl hl (Nat.le_of_ble_eq_true rfl) rfl ⟨Nat.le_of_ble_eq_true rfl, Nat.le_of_ble_eq_true rfl⟩ rfl dX0_learntBy_52 rfl rfl (rpl_fast (by decide) rfl rfl) rfl rfl rfl (fun H locs hP hD hS => ?_)
          refine lv_if_eq (tgt := 68) hx hb dX0_learntBy_55 (by decide) (fun c3 => ?_) (fun c3 => ?_)
          · have hf := (if_pos c3).symm.trans hf
            refine lv_iinc (v := nI (i22 + 1)) (lv' := [(3, .int (nI (i22 + 1))), (0, .ref xO), (1, .int wo), (2, .int s0)]) hx hb dX0_learntBy_68 hl (k := 3) rfl (nI_1 i22) (by decide) rfl (fun ls hl => ?_)
            refine lv_goto (tgt := 22) hx hb dX0_learntBy_71 (by decide) ?_
            exact ih22 (i22 + 1) (by omega)  hf _ _ ls hP hD hS (lv_sub hl [1, 2, 3, 0] rfl)
          · have hf := (if_neg c3).symm.trans hf
            refine lv_aload_n hx hb dX0_learntBy_58 rfl (lv_at hl 0 rfl) ?_
            refine va_get (D := G.1) (ci := 0) (v := .ref xo) (C := RX0) (T := TX0) (N := 4) hx hb (ku_X0 hK.2) (fun _ h9 => h9) hown hK.1 hP 0 rfl rfl 0 (by decide) (kw_104 hK.2) (fun _ h9 => h9) rfl dX0_learntBy_59 ?_
            refine va_getN (D := G.1) (ci := 5) (v := .ref xc) (C := RX5) (T := TX5) (N := 5) hx hb (ku_X5 hK.2) (fun _ h9 => h9) hown hK.1 hP 1 rfl rfl 2 (by decide) (kw_84 hK.2) (fun _ h9 => h9) rfl dX0_learntBy_62 ?_
            refine lv_iload_n hx hb dX0_learntBy_65 rfl (lv_at hl 3 rfl) ?_
            refine ww_ild (j := i22) hx hb hK.1 hP 4 0 rfl rfl (by omega) (by omega) dX0_learntBy_66 ?_
            exact hret (xm i22) dX0_learntBy_67 rfl hf rfl hP hS
    exact L22 xn 0 (by omega)  hf _ _ ls hP hD hS (lv_sub hl [1, 2, 3, 0] rfl)
  · have hf := (if_neg c1).symm.trans hf
    refine lv_aload_n hx hb dX0_learntBy_11 rfl (lv_at hl 0 rfl) ?_
    refine va_get (D := G.1) (ci := 0) (v := .ref xo) (C := RX0) (T := TX0) (N := 4) hx hb (ku_X0 hK.2) (fun _ h9 => h9) hown hK.1 hP 0 rfl rfl 0 (by decide) (kw_104 hK.2) (fun _ h9 => h9) rfl dX0_learntBy_12 ?_
    refine lv_iload_n hx hb dX0_learntBy_15 rfl (lv_at hl 1 rfl) ?_
    refine cl_V (q := (RX5, TX5, 5)) (ws' := [(xO, .inr (0, [.ref xo, .ref xH, .ref xM, .int xB])), (xo, .inr (5, [.ref xa, .ref xb, .ref xc, .ref xd, .int (nI xn)])), (xa, .inl (G.2.1, xl, .inl xw)), (xb, .inl (G.2.1, xl, .inl xk)), (xc, .inl (G.2.1, xl, .inl xm)), (xd, .inl (G.2.1, xl, .inl xf)), (xH, .inl (G.2.1, 12, .inl xh)), (xM, .inl (G.2.1, 12, .inl xt))]) (v := (some (.int (f_X5_neededBy xn xw xm wo)))) (st1 := [.int (f_X5_neededBy xn xw xm wo)]) (rest := []) (As := [.int wo]) [1, 2, 3, 4, 5] 1 5 hx hb hml hown hK (k_X5_neededBy l G xo xa xb xc xd xl xn xw xk xm xf wo hxn hxl) (mf_X5_neededBy hK.2) (kw_461 hK.2) (kw_462 hK.2) (kw_627 hK.2) ⟨rfl, rfl, Nat.le_of_ble_eq_true rfl, Nat.le_of_ble_eq_true rfl⟩ rfl hP hD hS hA rfl rfl hl (Nat.le_of_ble_eq_true rfl) rfl ⟨Nat.le_of_ble_eq_true rfl, Nat.le_of_ble_eq_true rfl⟩ rfl dX0_learntBy_16 rfl rfl (rpl_fast (by decide) rfl rfl) rfl rfl rfl (fun H locs hP hD hS => ?_)
    exact hret (f_X5_neededBy xn xw xm wo) dX0_learntBy_19 rfl hf rfl hP hS
def f_X0_wrongAmong_6 (xn : Nat) (xw : Nat → Int32) (xk : Nat → Int32) (xm : Nat → Int32) (xf : Nat → Int32) (xB : Int32) (nx : Int32) (s0 : Int32) (wr : Int32) : Nat → Nat → Int32 → Int32
  | 0, i6, v4_6 => v4_6
  | k6 + 1, i6, v4_6 => (if (f_X6_hasWord nx (nI i6)) = 0 then f_X0_wrongAmong_6 xn xw xk xm xf xB nx s0 wr k6 (i6 + 1) v4_6 else (if ((f_X0_learntBy xn xw xk xm xf xB (nI i6) s0) &&& wr) = 0 then f_X0_wrongAmong_6 xn xw xk xm xf xB nx s0 wr k6 (i6 + 1) v4_6 else f_X0_wrongAmong_6 xn xw xk xm xf xB nx s0 wr k6 (i6 + 1) (v4_6 ||| ((1 : Int32) <<< ((nI i6) &&& 31)))))
theorem f_X0_wrongAmong_6_z (xn : Nat) (xw : Nat → Int32) (xk : Nat → Int32) (xm : Nat → Int32) (xf : Nat → Int32) (xB : Int32) (nx : Int32) (s0 : Int32) (wr : Int32) (i6 : Nat) (v4_6 : Int32) : f_X0_wrongAmong_6 xn xw xk xm xf xB nx s0 wr 0 i6 v4_6 = v4_6 := rfl
theorem f_X0_wrongAmong_6_s (xn : Nat) (xw : Nat → Int32) (xk : Nat → Int32) (xm : Nat → Int32) (xf : Nat → Int32) (xB : Int32) (nx : Int32) (s0 : Int32) (wr : Int32) (k6 : Nat) (i6 : Nat) (v4_6 : Int32) : f_X0_wrongAmong_6 xn xw xk xm xf xB nx s0 wr (k6 + 1) i6 v4_6 = (if (f_X6_hasWord nx (nI i6)) = 0 then f_X0_wrongAmong_6 xn xw xk xm xf xB nx s0 wr k6 (i6 + 1) v4_6 else (if ((f_X0_learntBy xn xw xk xm xf xB (nI i6) s0) &&& wr) = 0 then f_X0_wrongAmong_6 xn xw xk xm xf xB nx s0 wr k6 (i6 + 1) v4_6 else f_X0_wrongAmong_6 xn xw xk xm xf xB nx s0 wr k6 (i6 + 1) (v4_6 ||| ((1 : Int32) <<< ((nI i6) &&& 31))))) := rfl
def f_X0_wrongAmong (xn : Nat) (xw : Nat → Int32) (xk : Nat → Int32) (xm : Nat → Int32) (xf : Nat → Int32) (xB : Int32) (nx : Int32) (s0 : Int32) (wr : Int32) : Int32 := (f_X0_wrongAmong_6 xn xw xk xm xf xB nx s0 wr 12 0 0)
set_option maxHeartbeats 4000000 in
set_option maxRecDepth 100000 in
theorem k_X0_wrongAmong (l : Launch) (G : wG) (xO : Nat) (xo : Nat) (xa : Nat) (xb : Nat) (xc : Nat) (xd : Nat) (xl : Nat) (xn : Nat) (xw : Nat → Int32) (xk : Nat → Int32) (xm : Nat → Int32) (xf : Nat → Int32) (xH : Nat) (xM : Nat) (xB : Int32) (xh : Nat → Int32) (xt : Nat → Int32) (nx : Int32) (s0 : Int32) (wr : Int32) (hxn : xn ≤ xl) (hxl : xl ≤ 20) : CT l G yX0_wrongAmong cX0_wrongAmong 6 (some .int) ({ frames := 3, cells := 0, slots := 0, locals := 68 }) [.ref xO, .int nx, .int s0, .int wr] [(xO, .inr (0, [.ref xo, .ref xH, .ref xM, .int xB])), (xo, .inr (5, [.ref xa, .ref xb, .ref xc, .ref xd, .int (nI xn)])), (xa, .inl (G.2.1, xl, .inl xw)), (xb, .inl (G.2.1, xl, .inl xk)), (xc, .inl (G.2.1, xl, .inl xm)), (xd, .inl (G.2.1, xl, .inl xf)), (xH, .inl (G.2.1, 12, .inl xh)), (xM, .inl (G.2.1, 12, .inl xt))] (fun _ => [(xO, .inr (0, [.ref xo, .ref xH, .ref xM, .int xB])), (xo, .inr (5, [.ref xa, .ref xb, .ref xc, .ref xd, .int (nI xn)])), (xa, .inl (G.2.1, xl, .inl xw)), (xb, .inl (G.2.1, xl, .inl xk)), (xc, .inl (G.2.1, xl, .inl xm)), (xd, .inl (G.2.1, xl, .inl xf)), (xH, .inl (G.2.1, 12, .inl xh)), (xM, .inl (G.2.1, 12, .inl xt))]) (fun u => some (.int u)) (f_X0_wrongAmong xn xw xk xm xf xB nx s0 wr) := by
  obtain ⟨R, hf⟩ : ∃ R, f_X0_wrongAmong xn xw xk xm xf xB nx s0 wr = R := ⟨_, rfl⟩
  rw [hf]
  refine CT.mkI RX0 (by decide +kernel) rfl (Nat.le_of_ble_eq_true rfl) ?_
  intro p e s m args below meth c A Q ls hx hb hml hown hK hP hD hS hA hret hl
  have hl : lv_has ls 6 [(0, .ref xO), (1, .int nx), (2, .int s0), (3, .int wr)] := hl
  rw [f_X0_wrongAmong] at hf
  refine lv_iconst (v := 0) hx hb dX0_wrongAmong_0 (by decide) ?_
  refine lv_istore (lv' := [(4, .int 0), (0, .ref xO), (1, .int nx), (2, .int s0), (3, .int wr)]) hx hb dX0_wrongAmong_1 hl (by decide) rfl (fun ls hl => ?_)
  refine lv_iconst (v := 0) hx hb dX0_wrongAmong_3 (by decide) ?_
  refine lv_istore (lv' := [(5, .int 0), (4, .int 0), (0, .ref xO), (1, .int nx), (2, .int s0), (3, .int wr)]) hx hb dX0_wrongAmong_4 hl (by decide) rfl (fun ls hl => ?_)
  have L6 : ∀ (k6 : Nat) (i6 : Nat) (v4_6 : Int32), k6 + i6 = 12 → f_X0_wrongAmong_6 xn xw xk xm xf xB nx s0 wr k6 i6 v4_6 = R → ∀ (H : Heap) (locs : List Loc) (ls : Array Slot), va_P G.1 wcl [(xO, .inr (0, [.ref xo, .ref xH, .ref xM, .int xB])), (xo, .inr (5, [.ref xa, .ref xb, .ref xc, .ref xd, .int (nI xn)])), (xa, .inl (G.2.1, xl, .inl xw)), (xb, .inl (G.2.1, xl, .inl xk)), (xc, .inl (G.2.1, xl, .inl xm)), (xd, .inl (G.2.1, xl, .inl xf)), (xH, .inl (G.2.1, 12, .inl xh)), (xM, .inl (G.2.1, 12, .inl xt))] H → va_D A [(xO, .inr (0, [.ref xo, .ref xH, .ref xM, .int xB])), (xo, .inr (5, [.ref xa, .ref xb, .ref xc, .ref xd, .int (nI xn)])), (xa, .inl (G.2.1, xl, .inl xw)), (xb, .inl (G.2.1, xl, .inl xk)), (xc, .inl (G.2.1, xl, .inl xm)), (xd, .inl (G.2.1, xl, .inl xf)), (xH, .inl (G.2.1, 12, .inl xh)), (xM, .inl (G.2.1, 12, .inl xt))] → va_S A s.heap H locs → lv_has ls 6 [(0, .ref xO), (1, .int nx), (2, .int s0), (3, .int wr), (4, .int v4_6), (5, .int (nI i6))] → W p l e ({ frames := 3, cells := 0, slots := 0, locals := 68 }) s m args below meth c H locs 0 0 Q (F0 m 6 ls []) := by
    intro k6
    induction k6 with
    | zero =>
      intro i6 v4_6 hi6  hf _ _ ls hP hD hS hl
      rw [f_X0_wrongAmong_6_z] at hf
      refine lv_iload hx hb dX0_wrongAmong_6 (lv_at hl 5 rfl) ?_
      refine lv_bipush (v := 12) hx hb dX0_wrongAmong_8 (by decide) ?_
      refine lv_icmp_ge (tgt := 49) hx hb dX0_wrongAmong_10 (by decide) (fun _ => ?_) (fun c => absurd (ile (a := 12) (b := i6) rfl rfl (by omega) (by omega) (by omega)) c)
      refine lv_iload hx hb dX0_wrongAmong_49 (lv_at hl 4 rfl) ?_
      exact hret v4_6 dX0_wrongAmong_51 rfl hf rfl hP hS
    | succ k6 ih6 =>
      intro i6 v4_6 hi6  hf _ _ ls hP hD hS hl
      rw [f_X0_wrongAmong_6_s] at hf
      refine lv_iload hx hb dX0_wrongAmong_6 (lv_at hl 5 rfl) ?_
      refine lv_bipush (v := 12) hx hb dX0_wrongAmong_8 (by decide) ?_
      refine lv_icmp_ge (tgt := 49) hx hb dX0_wrongAmong_10 (by decide) (fun c => absurd c (inle (a := 12) (b := i6) rfl rfl (by omega) (by omega) (by omega))) (fun _ => ?_)
      refine lv_iload_n hx hb dX0_wrongAmong_13 rfl (lv_at hl 1 rfl) ?_
      refine lv_iload hx hb dX0_wrongAmong_14 (lv_at hl 5 rfl) ?_
      refine cl_SN (ws' := [(xO, .inr (0, [.ref xo, .ref xH, .ref xM, .int xB])), (xo, .inr (5, [.ref xa, .ref xb, .ref xc, .ref xd, .int (nI xn)])), (xa, .inl (G.2.1, xl, .inl xw)), (xb, .inl (G.2.1, xl, .inl xk)), (xc, .inl (G.2.1, xl, .inl xm)), (xd, .inl (G.2.1, xl, .inl xf)), (xH, .inl (G.2.1, 12, .inl xh)), (xM, .inl (G.2.1, 12, .inl xt))]) (v := (some (.int (f_X6_hasWord nx (nI i6))))) (st1 := [.int (f_X6_hasWord nx (nI i6))]) (rest := []) (As := [.int nx, .int (nI i6)]) [] hx hb hml hown hK (k_X6_hasWord l G nx (nI i6) ) (mf_X6_hasWord hK.2) (kw_379 hK.2) (kw_420 hK.2) ⟨rfl, rfl, Nat.le_of_ble_eq_true rfl, Nat.le_of_ble_eq_true rfl⟩ rfl hP hD hS hA hl (Nat.le_of_ble_eq_true rfl) rfl ⟨Nat.le_of_ble_eq_true rfl, Nat.le_of_ble_eq_true rfl⟩ rfl dX0_wrongAmong_16 rfl rfl rfl rfl rfl rfl (fun H locs hP hD hS => ?_)
      refine lv_if_eq (tgt := 43) hx hb dX0_wrongAmong_19 (by decide) (fun c1 => ?_) (fun c1 => ?_)
      · have hf := (if_pos c1).symm.trans hf
        refine lv_iinc (v := nI (i6 + 1)) (lv' := [(5, .int (nI (i6 + 1))), (0, .ref xO), (1, .int nx), (2, .int s0), (3, .int wr), (4, .int v4_6)]) hx hb dX0_wrongAmong_43 hl (k := 5) rfl (nI_1 i6) (by decide) rfl (fun ls hl => ?_)
        refine lv_goto (tgt := 6) hx hb dX0_wrongAmong_46 (by decide) ?_
        exact ih6 (i6 + 1) v4_6 (by omega)  hf _ _ ls hP hD hS (lv_sub hl [1, 2, 3, 4, 5, 0] rfl)
      · have hf := (if_neg c1).symm.trans hf
        refine lv_aload_n hx hb dX0_wrongAmong_22 rfl (lv_at hl 0 rfl) ?_
        refine lv_iload hx hb dX0_wrongAmong_23 (lv_at hl 5 rfl) ?_
        refine lv_iload_n hx hb dX0_wrongAmong_25 rfl (lv_at hl 2 rfl) ?_
        refine cl_V (q := (RX0, TX0, 4)) (ws' := [(xO, .inr (0, [.ref xo, .ref xH, .ref xM, .int xB])), (xo, .inr (5, [.ref xa, .ref xb, .ref xc, .ref xd, .int (nI xn)])), (xa, .inl (G.2.1, xl, .inl xw)), (xb, .inl (G.2.1, xl, .inl xk)), (xc, .inl (G.2.1, xl, .inl xm)), (xd, .inl (G.2.1, xl, .inl xf)), (xH, .inl (G.2.1, 12, .inl xh)), (xM, .inl (G.2.1, 12, .inl xt))]) (v := (some (.int (f_X0_learntBy xn xw xk xm xf xB (nI i6) s0)))) (st1 := [.int (f_X0_learntBy xn xw xk xm xf xB (nI i6) s0)]) (rest := []) (As := [.int (nI i6), .int s0]) [0, 1, 2, 3, 4, 5, 6, 7] 0 0 hx hb hml hown hK (k_X0_learntBy l G xO xo xa xb xc xd xl xn xw xk xm xf xH xM xB xh xt (nI i6) s0 hxn hxl) (mf_X0_learntBy hK.2) (kw_625 hK.2) (kw_10 hK.2) (kw_623 hK.2) ⟨rfl, rfl, Nat.le_of_ble_eq_true rfl, Nat.le_of_ble_eq_true rfl⟩ rfl hP hD hS hA rfl rfl hl (Nat.le_of_ble_eq_true rfl) rfl ⟨Nat.le_of_ble_eq_true rfl, Nat.le_of_ble_eq_true rfl⟩ rfl dX0_wrongAmong_26 rfl rfl (rpl_fast (by decide) rfl rfl) rfl rfl rfl (fun H locs hP hD hS => ?_)
        refine lv_iload_n hx hb dX0_wrongAmong_29 rfl (lv_at hl 3 rfl) ?_
        refine lv_iand hx hb dX0_wrongAmong_30 ?_
        refine lv_if_eq (tgt := 43) hx hb dX0_wrongAmong_31 (by decide) (fun c2 => ?_) (fun c2 => ?_)
        · have hf := (if_pos c2).symm.trans hf
          refine lv_iinc (v := nI (i6 + 1)) (lv' := [(5, .int (nI (i6 + 1))), (0, .ref xO), (1, .int nx), (2, .int s0), (3, .int wr), (4, .int v4_6)]) hx hb dX0_wrongAmong_43 hl (k := 5) rfl (nI_1 i6) (by decide) rfl (fun ls hl => ?_)
          refine lv_goto (tgt := 6) hx hb dX0_wrongAmong_46 (by decide) ?_
          exact ih6 (i6 + 1) v4_6 (by omega)  hf _ _ ls hP hD hS (lv_sub hl [1, 2, 3, 4, 5, 0] rfl)
        · have hf := (if_neg c2).symm.trans hf
          refine lv_iload hx hb dX0_wrongAmong_34 (lv_at hl 4 rfl) ?_
          refine lv_iconst (v := 1) hx hb dX0_wrongAmong_36 (by decide) ?_
          refine lv_iload hx hb dX0_wrongAmong_37 (lv_at hl 5 rfl) ?_
          refine lv_ishl hx hb dX0_wrongAmong_39 ?_
          refine lv_ior hx hb dX0_wrongAmong_40 ?_
          refine lv_istore (lv' := [(4, .int (v4_6 ||| ((1 : Int32) <<< ((nI i6) &&& 31)))), (0, .ref xO), (1, .int nx), (2, .int s0), (3, .int wr), (5, .int (nI i6))]) hx hb dX0_wrongAmong_41 hl (by decide) rfl (fun ls hl => ?_)
          refine lv_iinc (v := nI (i6 + 1)) (lv' := [(5, .int (nI (i6 + 1))), (4, .int (v4_6 ||| ((1 : Int32) <<< ((nI i6) &&& 31)))), (0, .ref xO), (1, .int nx), (2, .int s0), (3, .int wr)]) hx hb dX0_wrongAmong_43 hl (k := 5) rfl (nI_1 i6) (by decide) rfl (fun ls hl => ?_)
          refine lv_goto (tgt := 6) hx hb dX0_wrongAmong_46 (by decide) ?_
          exact ih6 (i6 + 1) (v4_6 ||| ((1 : Int32) <<< ((nI i6) &&& 31))) (by omega)  hf _ _ ls hP hD hS (lv_sub hl [2, 3, 4, 5, 1, 0] rfl)
  exact L6 12 0 0 (by omega)  hf _ _ ls hP hD hS (lv_sub hl [2, 3, 4, 5, 1, 0] rfl)
def f_X0_wrongBy_10 (xn : Nat) (xw : Nat → Int32) (xk : Nat → Int32) (xm : Nat → Int32) (xf : Nat → Int32) (xB : Int32) : Nat → Nat → Int32 → Int32 → Int32
  | 0, i10, v3_10, v4_10 => v4_10
  | k10 + 1, i10, v3_10, v4_10 => (if (f_X0_taughtNext xn xw xk xm xf xB v3_10) = 0 then v4_10 else f_X0_wrongBy_10 xn xw xk xm xf xB k10 (i10 + 1) (v3_10 ||| (f_X0_taughtNext xn xw xk xm xf xB v3_10)) (v4_10 ||| (f_X0_wrongAmong xn xw xk xm xf xB (f_X0_taughtNext xn xw xk xm xf xB v3_10) v3_10 v4_10)))
theorem f_X0_wrongBy_10_z (xn : Nat) (xw : Nat → Int32) (xk : Nat → Int32) (xm : Nat → Int32) (xf : Nat → Int32) (xB : Int32) (i10 : Nat) (v3_10 : Int32) (v4_10 : Int32) : f_X0_wrongBy_10 xn xw xk xm xf xB 0 i10 v3_10 v4_10 = v4_10 := rfl
theorem f_X0_wrongBy_10_s (xn : Nat) (xw : Nat → Int32) (xk : Nat → Int32) (xm : Nat → Int32) (xf : Nat → Int32) (xB : Int32) (k10 : Nat) (i10 : Nat) (v3_10 : Int32) (v4_10 : Int32) : f_X0_wrongBy_10 xn xw xk xm xf xB (k10 + 1) i10 v3_10 v4_10 = (if (f_X0_taughtNext xn xw xk xm xf xB v3_10) = 0 then v4_10 else f_X0_wrongBy_10 xn xw xk xm xf xB k10 (i10 + 1) (v3_10 ||| (f_X0_taughtNext xn xw xk xm xf xB v3_10)) (v4_10 ||| (f_X0_wrongAmong xn xw xk xm xf xB (f_X0_taughtNext xn xw xk xm xf xB v3_10) v3_10 v4_10))) := rfl
def f_X0_wrongBy (xn : Nat) (xw : Nat → Int32) (xk : Nat → Int32) (xm : Nat → Int32) (xf : Nat → Int32) (xB : Int32) (s0 : Int32) (wo : Int32) : Int32 := (f_X0_wrongBy_10 xn xw xk xm xf xB (13 - 1) 1 s0 ((1 : Int32) <<< (wo &&& 31)))
set_option maxHeartbeats 4000000 in
set_option maxRecDepth 100000 in
theorem k_X0_wrongBy (l : Launch) (G : wG) (xO : Nat) (xo : Nat) (xa : Nat) (xb : Nat) (xc : Nat) (xd : Nat) (xl : Nat) (xn : Nat) (xw : Nat → Int32) (xk : Nat → Int32) (xm : Nat → Int32) (xf : Nat → Int32) (xH : Nat) (xM : Nat) (xB : Int32) (xh : Nat → Int32) (xt : Nat → Int32) (s0 : Int32) (wo : Int32) (hxn : xn ≤ xl) (hxl : xl ≤ 20) : CT l G yX0_wrongBy cX0_wrongBy 7 (some .int) ({ frames := 4, cells := 0, slots := 0, locals := 93 }) [.ref xO, .int s0, .int wo] [(xO, .inr (0, [.ref xo, .ref xH, .ref xM, .int xB])), (xo, .inr (5, [.ref xa, .ref xb, .ref xc, .ref xd, .int (nI xn)])), (xa, .inl (G.2.1, xl, .inl xw)), (xb, .inl (G.2.1, xl, .inl xk)), (xc, .inl (G.2.1, xl, .inl xm)), (xd, .inl (G.2.1, xl, .inl xf)), (xH, .inl (G.2.1, 12, .inl xh)), (xM, .inl (G.2.1, 12, .inl xt))] (fun _ => [(xO, .inr (0, [.ref xo, .ref xH, .ref xM, .int xB])), (xo, .inr (5, [.ref xa, .ref xb, .ref xc, .ref xd, .int (nI xn)])), (xa, .inl (G.2.1, xl, .inl xw)), (xb, .inl (G.2.1, xl, .inl xk)), (xc, .inl (G.2.1, xl, .inl xm)), (xd, .inl (G.2.1, xl, .inl xf)), (xH, .inl (G.2.1, 12, .inl xh)), (xM, .inl (G.2.1, 12, .inl xt))]) (fun u => some (.int u)) (f_X0_wrongBy xn xw xk xm xf xB s0 wo) := by
  obtain ⟨R, hf⟩ : ∃ R, f_X0_wrongBy xn xw xk xm xf xB s0 wo = R := ⟨_, rfl⟩
  rw [hf]
  refine CT.mkI RX0 (by decide +kernel) rfl (Nat.le_of_ble_eq_true rfl) ?_
  intro p e s m args below meth c A Q ls hx hb hml hown hK hP hD hS hA hret hl
  have hl : lv_has ls 7 [(0, .ref xO), (1, .int s0), (2, .int wo)] := hl
  rw [f_X0_wrongBy] at hf
  refine lv_iload_n hx hb dX0_wrongBy_0 rfl (lv_at hl 1 rfl) ?_
  refine lv_istore_n (lv' := [(3, .int s0), (0, .ref xO), (1, .int s0), (2, .int wo)]) hx hb dX0_wrongBy_1 rfl hl (by decide) rfl (fun ls hl => ?_)
  refine lv_iconst (v := 1) hx hb dX0_wrongBy_2 (by decide) ?_
  refine lv_iload_n hx hb dX0_wrongBy_3 rfl (lv_at hl 3 rfl) ?_
  refine lv_ishl hx hb dX0_wrongBy_4 ?_
  refine lv_istore (lv' := [(4, .int ((1 : Int32) <<< (wo &&& 31))), (3, .int s0), (0, .ref xO), (1, .int s0), (2, .int wo)]) hx hb dX0_wrongBy_5 hl (by decide) rfl (fun ls hl => ?_)
  refine lv_iconst (v := 1) hx hb dX0_wrongBy_7 (by decide) ?_
  refine lv_istore (lv' := [(5, .int 1), (4, .int ((1 : Int32) <<< (wo &&& 31))), (3, .int s0), (0, .ref xO), (1, .int s0), (2, .int wo)]) hx hb dX0_wrongBy_8 hl (by decide) rfl (fun ls hl => ?_)
  have L10 : ∀ (k10 : Nat) (i10 : Nat) (v3_10 : Int32) (v4_10 : Int32), k10 + i10 = 13 → f_X0_wrongBy_10 xn xw xk xm xf xB k10 i10 v3_10 v4_10 = R → ∀ (H : Heap) (locs : List Loc) (ls : Array Slot), va_P G.1 wcl [(xO, .inr (0, [.ref xo, .ref xH, .ref xM, .int xB])), (xo, .inr (5, [.ref xa, .ref xb, .ref xc, .ref xd, .int (nI xn)])), (xa, .inl (G.2.1, xl, .inl xw)), (xb, .inl (G.2.1, xl, .inl xk)), (xc, .inl (G.2.1, xl, .inl xm)), (xd, .inl (G.2.1, xl, .inl xf)), (xH, .inl (G.2.1, 12, .inl xh)), (xM, .inl (G.2.1, 12, .inl xt))] H → va_D A [(xO, .inr (0, [.ref xo, .ref xH, .ref xM, .int xB])), (xo, .inr (5, [.ref xa, .ref xb, .ref xc, .ref xd, .int (nI xn)])), (xa, .inl (G.2.1, xl, .inl xw)), (xb, .inl (G.2.1, xl, .inl xk)), (xc, .inl (G.2.1, xl, .inl xm)), (xd, .inl (G.2.1, xl, .inl xf)), (xH, .inl (G.2.1, 12, .inl xh)), (xM, .inl (G.2.1, 12, .inl xt))] → va_S A s.heap H locs → lv_has ls 7 [(0, .ref xO), (3, .int v3_10), (4, .int v4_10), (5, .int (nI i10))] → W p l e ({ frames := 4, cells := 0, slots := 0, locals := 93 }) s m args below meth c H locs 0 0 Q (F0 m 10 ls []) := by
    intro k10
    induction k10 with
    | zero =>
      intro i10 v3_10 v4_10 hi10  hf _ _ ls hP hD hS hl
      rw [f_X0_wrongBy_10_z] at hf
      refine lv_iload hx hb dX0_wrongBy_10 (lv_at hl 3 rfl) ?_
      refine lv_bipush (v := 12) hx hb dX0_wrongBy_12 (by decide) ?_
      refine lv_icmp_gt (tgt := 57) hx hb dX0_wrongBy_14 (by decide) (fun _ => ?_) (fun c => absurd (ilt (a := 12) (b := i10) rfl rfl (by omega) (by omega) (by omega)) c)
      refine lv_iload hx hb dX0_wrongBy_57 (lv_at hl 2 rfl) ?_
      exact hret v4_10 dX0_wrongBy_59 rfl hf rfl hP hS
    | succ k10 ih10 =>
      intro i10 v3_10 v4_10 hi10  hf _ _ ls hP hD hS hl
      rw [f_X0_wrongBy_10_s] at hf
      refine lv_iload hx hb dX0_wrongBy_10 (lv_at hl 3 rfl) ?_
      refine lv_bipush (v := 12) hx hb dX0_wrongBy_12 (by decide) ?_
      refine lv_icmp_gt (tgt := 57) hx hb dX0_wrongBy_14 (by decide) (fun c => absurd c (inlt (a := 12) (b := i10) rfl rfl (by omega) (by omega) (by omega))) (fun _ => ?_)
      refine lv_aload_n hx hb dX0_wrongBy_17 rfl (lv_at hl 0 rfl) ?_
      refine lv_iload_n hx hb dX0_wrongBy_18 rfl (lv_at hl 1 rfl) ?_
      refine cl_V (q := (RX0, TX0, 4)) (ws' := [(xO, .inr (0, [.ref xo, .ref xH, .ref xM, .int xB])), (xo, .inr (5, [.ref xa, .ref xb, .ref xc, .ref xd, .int (nI xn)])), (xa, .inl (G.2.1, xl, .inl xw)), (xb, .inl (G.2.1, xl, .inl xk)), (xc, .inl (G.2.1, xl, .inl xm)), (xd, .inl (G.2.1, xl, .inl xf)), (xH, .inl (G.2.1, 12, .inl xh)), (xM, .inl (G.2.1, 12, .inl xt))]) (v := (some (.int (f_X0_taughtNext xn xw xk xm xf xB v3_10)))) (st1 := [.int (f_X0_taughtNext xn xw xk xm xf xB v3_10)]) (rest := []) (As := [.int v3_10]) [0, 1, 2, 3, 4, 5, 6, 7] 0 0 hx hb hml hown hK (k_X0_taughtNext l G xO xo xa xb xc xd xl xn xw xk xm xf xH xM xB xh xt v3_10 hxn hxl) (mf_X0_taughtNext hK.2) (kw_422 hK.2) (kw_423 hK.2) (kw_421 hK.2) ⟨rfl, rfl, Nat.le_of_ble_eq_true rfl, Nat.le_of_ble_eq_true rfl⟩ rfl hP hD hS hA rfl rfl hl (Nat.le_of_ble_eq_true rfl) rfl ⟨Nat.le_of_ble_eq_true rfl, Nat.le_of_ble_eq_true rfl⟩ rfl dX0_wrongBy_19 rfl rfl (rpl_fast (by decide) rfl rfl) rfl rfl rfl (fun H locs hP hD hS => ?_)
      refine lv_istore (lv' := [(6, .int (f_X0_taughtNext xn xw xk xm xf xB v3_10)), (0, .ref xO), (3, .int v3_10), (4, .int v4_10), (5, .int (nI i10))]) hx hb dX0_wrongBy_22 hl (by decide) rfl (fun ls hl => ?_)
      refine lv_iload hx hb dX0_wrongBy_24 (lv_at hl 0 rfl) ?_
      refine lv_if_ne (tgt := 32) hx hb dX0_wrongBy_26 (by decide) (fun c1 => ?_) (fun c1 => ?_)
      · have hf := (if_neg c1).symm.trans hf
        refine lv_iload hx hb dX0_wrongBy_32 (lv_at hl 3 rfl) ?_
        refine lv_aload_n hx hb dX0_wrongBy_34 rfl (lv_at hl 1 rfl) ?_
        refine lv_iload hx hb dX0_wrongBy_35 (lv_at hl 0 rfl) ?_
        refine lv_iload_n hx hb dX0_wrongBy_37 rfl (lv_at hl 2 rfl) ?_
        refine lv_iload hx hb dX0_wrongBy_38 (lv_at hl 3 rfl) ?_
        refine cl_V (q := (RX0, TX0, 4)) (ws' := [(xO, .inr (0, [.ref xo, .ref xH, .ref xM, .int xB])), (xo, .inr (5, [.ref xa, .ref xb, .ref xc, .ref xd, .int (nI xn)])), (xa, .inl (G.2.1, xl, .inl xw)), (xb, .inl (G.2.1, xl, .inl xk)), (xc, .inl (G.2.1, xl, .inl xm)), (xd, .inl (G.2.1, xl, .inl xf)), (xH, .inl (G.2.1, 12, .inl xh)), (xM, .inl (G.2.1, 12, .inl xt))]) (v := (some (.int (f_X0_wrongAmong xn xw xk xm xf xB (f_X0_taughtNext xn xw xk xm xf xB v3_10) v3_10 v4_10)))) (st1 := [.int (f_X0_wrongAmong xn xw xk xm xf xB (f_X0_taughtNext xn xw xk xm xf xB v3_10) v3_10 v4_10), .int v4_10]) (rest := [.int v4_10]) (As := [.int (f_X0_taughtNext xn xw xk xm xf xB v3_10), .int v3_10, .int v4_10]) [0, 1, 2, 3, 4, 5, 6, 7] 0 0 hx hb hml hown hK (k_X0_wrongAmong l G xO xo xa xb xc xd xl xn xw xk xm xf xH xM xB xh xt (f_X0_taughtNext xn xw xk xm xf xB v3_10) v3_10 v4_10 hxn hxl) (mf_X0_wrongAmong hK.2) (kw_621 hK.2) (kw_9 hK.2) (kw_619 hK.2) ⟨rfl, rfl, Nat.le_of_ble_eq_true rfl, Nat.le_of_ble_eq_true rfl⟩ rfl hP hD hS hA rfl rfl hl (Nat.le_of_ble_eq_true rfl) rfl ⟨Nat.le_of_ble_eq_true rfl, Nat.le_of_ble_eq_true rfl⟩ rfl dX0_wrongBy_40 rfl rfl (rpl_fast (by decide) rfl rfl) rfl rfl rfl (fun H locs hP hD hS => ?_)
        refine lv_ior hx hb dX0_wrongBy_43 ?_
        refine lv_istore (lv' := [(4, .int (v4_10 ||| (f_X0_wrongAmong xn xw xk xm xf xB (f_X0_taughtNext xn xw xk xm xf xB v3_10) v3_10 v4_10))), (6, .int (f_X0_taughtNext xn xw xk xm xf xB v3_10)), (0, .ref xO), (3, .int v3_10), (5, .int (nI i10))]) hx hb dX0_wrongBy_44 hl (by decide) rfl (fun ls hl => ?_)
        refine lv_iload_n hx hb dX0_wrongBy_46 rfl (lv_at hl 3 rfl) ?_
        refine lv_iload hx hb dX0_wrongBy_47 (lv_at hl 1 rfl) ?_
        refine lv_ior hx hb dX0_wrongBy_49 ?_
        refine lv_istore_n (lv' := [(3, .int (v3_10 ||| (f_X0_taughtNext xn xw xk xm xf xB v3_10))), (4, .int (v4_10 ||| (f_X0_wrongAmong xn xw xk xm xf xB (f_X0_taughtNext xn xw xk xm xf xB v3_10) v3_10 v4_10))), (6, .int (f_X0_taughtNext xn xw xk xm xf xB v3_10)), (0, .ref xO), (5, .int (nI i10))]) hx hb dX0_wrongBy_50 rfl hl (by decide) rfl (fun ls hl => ?_)
        refine lv_iinc (v := nI (i10 + 1)) (lv' := [(5, .int (nI (i10 + 1))), (3, .int (v3_10 ||| (f_X0_taughtNext xn xw xk xm xf xB v3_10))), (4, .int (v4_10 ||| (f_X0_wrongAmong xn xw xk xm xf xB (f_X0_taughtNext xn xw xk xm xf xB v3_10) v3_10 v4_10))), (6, .int (f_X0_taughtNext xn xw xk xm xf xB v3_10)), (0, .ref xO)]) hx hb dX0_wrongBy_51 hl (k := 4) rfl (nI_1 i10) (by decide) rfl (fun ls hl => ?_)
        refine lv_goto (tgt := 10) hx hb dX0_wrongBy_54 (by decide) ?_
        exact ih10 (i10 + 1) (v3_10 ||| (f_X0_taughtNext xn xw xk xm xf xB v3_10)) (v4_10 ||| (f_X0_wrongAmong xn xw xk xm xf xB (f_X0_taughtNext xn xw xk xm xf xB v3_10) v3_10 v4_10)) (by omega)  hf _ _ ls hP hD hS (lv_sub hl [4, 1, 2, 0] rfl)
      · have hf := (if_pos c1).symm.trans hf
        refine lv_iload hx hb dX0_wrongBy_29 (lv_at hl 3 rfl) ?_
        exact hret v4_10 dX0_wrongBy_31 rfl hf rfl hP hS
  exact L10 (13 - 1) 1 s0 ((1 : Int32) <<< (wo &&& 31)) (by omega)  hf _ _ ls hP hD hS (lv_sub hl [3, 2, 1, 0] rfl)
def f_X0_copyFrom_13 (xl : Nat) (xw : Nat → Int32) (xk : Nat → Int32) (xm : Nat → Int32) (xf : Nat → Int32) (yn : Nat) (yw : Nat → Int32) (yk : Nat → Int32) (ym : Nat → Int32) (yf : Nat → Int32) (yB : Int32) (yh : Nat → Int32) (yt : Nat → Int32) : Nat → Nat → (Nat → Int32) → (Nat → Int32) → ((Nat → Int32) × (Nat → Int32) × (Nat → Int32) × (Nat → Int32) × Nat × (Nat → Int32) × (Nat → Int32) × Int32)
  | 0, i13, h13, t13 => ((f_X5_copyFrom xl xw xk xm xf yn yw yk ym yf).1, (f_X5_copyFrom xl xw xk xm xf yn yw yk ym yf).2.1, (f_X5_copyFrom xl xw xk xm xf yn yw yk ym yf).2.2.1, (f_X5_copyFrom xl xw xk xm xf yn yw yk ym yf).2.2.2.1, (f_X5_copyFrom xl xw xk xm xf yn yw yk ym yf).2.2.2.2, h13, t13, yB)
  | k13 + 1, i13, h13, t13 => f_X0_copyFrom_13 xl xw xk xm xf yn yw yk ym yf yB yh yt k13 (i13 + 1) (upd h13 i13 (yh i13)) (upd t13 i13 (yt i13))
theorem f_X0_copyFrom_13_z (xl : Nat) (xw : Nat → Int32) (xk : Nat → Int32) (xm : Nat → Int32) (xf : Nat → Int32) (yn : Nat) (yw : Nat → Int32) (yk : Nat → Int32) (ym : Nat → Int32) (yf : Nat → Int32) (yB : Int32) (yh : Nat → Int32) (yt : Nat → Int32) (i13 : Nat) (h13 : Nat → Int32) (t13 : Nat → Int32) : f_X0_copyFrom_13 xl xw xk xm xf yn yw yk ym yf yB yh yt 0 i13 h13 t13 = ((f_X5_copyFrom xl xw xk xm xf yn yw yk ym yf).1, (f_X5_copyFrom xl xw xk xm xf yn yw yk ym yf).2.1, (f_X5_copyFrom xl xw xk xm xf yn yw yk ym yf).2.2.1, (f_X5_copyFrom xl xw xk xm xf yn yw yk ym yf).2.2.2.1, (f_X5_copyFrom xl xw xk xm xf yn yw yk ym yf).2.2.2.2, h13, t13, yB) := rfl
theorem f_X0_copyFrom_13_s (xl : Nat) (xw : Nat → Int32) (xk : Nat → Int32) (xm : Nat → Int32) (xf : Nat → Int32) (yn : Nat) (yw : Nat → Int32) (yk : Nat → Int32) (ym : Nat → Int32) (yf : Nat → Int32) (yB : Int32) (yh : Nat → Int32) (yt : Nat → Int32) (k13 : Nat) (i13 : Nat) (h13 : Nat → Int32) (t13 : Nat → Int32) : f_X0_copyFrom_13 xl xw xk xm xf yn yw yk ym yf yB yh yt (k13 + 1) i13 h13 t13 = f_X0_copyFrom_13 xl xw xk xm xf yn yw yk ym yf yB yh yt k13 (i13 + 1) (upd h13 i13 (yh i13)) (upd t13 i13 (yt i13)) := rfl
def f_X0_copyFrom (xl : Nat) (xw : Nat → Int32) (xk : Nat → Int32) (xm : Nat → Int32) (xf : Nat → Int32) (xh : Nat → Int32) (xt : Nat → Int32) (yn : Nat) (yw : Nat → Int32) (yk : Nat → Int32) (ym : Nat → Int32) (yf : Nat → Int32) (yB : Int32) (yh : Nat → Int32) (yt : Nat → Int32) : (Nat → Int32) × (Nat → Int32) × (Nat → Int32) × (Nat → Int32) × Nat × (Nat → Int32) × (Nat → Int32) × Int32 := (f_X0_copyFrom_13 xl xw xk xm xf yn yw yk ym yf yB yh yt 12 0 xh xt)
set_option maxHeartbeats 4000000 in
set_option maxRecDepth 100000 in
theorem k_X0_copyFrom (l : Launch) (G : wG) (xO : Nat) (xo : Nat) (xa : Nat) (xb : Nat) (xc : Nat) (xd : Nat) (xl : Nat) (xn : Nat) (xw : Nat → Int32) (xk : Nat → Int32) (xm : Nat → Int32) (xf : Nat → Int32) (xH : Nat) (xM : Nat) (xB : Int32) (xh : Nat → Int32) (xt : Nat → Int32) (yO : Nat) (yo : Nat) (ya : Nat) (yb : Nat) (yc : Nat) (yd : Nat) (yl : Nat) (yn : Nat) (yw : Nat → Int32) (yk : Nat → Int32) (ym : Nat → Int32) (yf : Nat → Int32) (yH : Nat) (yM : Nat) (yB : Int32) (yh : Nat → Int32) (yt : Nat → Int32) (hxn : xn ≤ xl) (hxl : xl ≤ 20) (hyn : yn ≤ yl) (hyl : yl ≤ 20) : CT l G yX0_copyFrom cX0_copyFrom 3 (none : Option Jvm.ClassFile.FieldType) ({ frames := 3, cells := 0, slots := 0, locals := 66 }) [.ref xO, .ref yO] [(xO, .inr (0, [.ref xo, .ref xH, .ref xM, .int xB])), (xo, .inr (5, [.ref xa, .ref xb, .ref xc, .ref xd, .int (nI xn)])), (xa, .inl (G.2.1, xl, .inl xw)), (xb, .inl (G.2.1, xl, .inl xk)), (xc, .inl (G.2.1, xl, .inl xm)), (xd, .inl (G.2.1, xl, .inl xf)), (xH, .inl (G.2.1, 12, .inl xh)), (xM, .inl (G.2.1, 12, .inl xt)), (yO, .inr (0, [.ref yo, .ref yH, .ref yM, .int yB])), (yo, .inr (5, [.ref ya, .ref yb, .ref yc, .ref yd, .int (nI yn)])), (ya, .inl (G.2.1, yl, .inl yw)), (yb, .inl (G.2.1, yl, .inl yk)), (yc, .inl (G.2.1, yl, .inl ym)), (yd, .inl (G.2.1, yl, .inl yf)), (yH, .inl (G.2.1, 12, .inl yh)), (yM, .inl (G.2.1, 12, .inl yt))] (fun u => [(xO, .inr (0, [.ref xo, .ref xH, .ref xM, .int u.2.2.2.2.2.2.2])), (xo, .inr (5, [.ref xa, .ref xb, .ref xc, .ref xd, .int (nI u.2.2.2.2.1)])), (xa, .inl (G.2.1, xl, .inl u.1)), (xb, .inl (G.2.1, xl, .inl u.2.1)), (xc, .inl (G.2.1, xl, .inl u.2.2.1)), (xd, .inl (G.2.1, xl, .inl u.2.2.2.1)), (xH, .inl (G.2.1, 12, .inl u.2.2.2.2.2.1)), (xM, .inl (G.2.1, 12, .inl u.2.2.2.2.2.2.1)), (yO, .inr (0, [.ref yo, .ref yH, .ref yM, .int yB])), (yo, .inr (5, [.ref ya, .ref yb, .ref yc, .ref yd, .int (nI yn)])), (ya, .inl (G.2.1, yl, .inl yw)), (yb, .inl (G.2.1, yl, .inl yk)), (yc, .inl (G.2.1, yl, .inl ym)), (yd, .inl (G.2.1, yl, .inl yf)), (yH, .inl (G.2.1, 12, .inl yh)), (yM, .inl (G.2.1, 12, .inl yt))]) (fun _ => none) (f_X0_copyFrom xl xw xk xm xf xh xt yn yw yk ym yf yB yh yt) := by
  obtain ⟨R, hf⟩ : ∃ R, f_X0_copyFrom xl xw xk xm xf xh xt yn yw yk ym yf yB yh yt = R := ⟨_, rfl⟩
  rw [hf]
  refine CT.mkV RX0 (by decide +kernel) rfl (Nat.le_of_ble_eq_true rfl) ?_
  intro p e s m args below meth c A Q ls hx hb hml hown hK hP hD hS hA hret hl
  have hl : lv_has ls 3 [(0, .ref xO), (1, .ref yO)] := hl
  rw [f_X0_copyFrom] at hf
  refine lv_aload_n hx hb dX0_copyFrom_0 rfl (lv_at hl 0 rfl) ?_
  refine va_get (D := G.1) (ci := 0) (v := .ref xo) (C := RX0) (T := TX0) (N := 4) hx hb (ku_X0 hK.2) (fun _ h9 => h9) hown hK.1 hP 0 rfl rfl 0 (by decide) (kw_104 hK.2) (fun _ h9 => h9) rfl dX0_copyFrom_1 ?_
  refine lv_aload_n hx hb dX0_copyFrom_4 rfl (lv_at hl 1 rfl) ?_
  refine va_get (D := G.1) (ci := 0) (v := .ref yo) (C := RX0) (T := TX0) (N := 4) hx hb (ku_X0 hK.2) (fun _ h9 => h9) hown hK.1 hP 8 rfl rfl 0 (by decide) (kw_104 hK.2) (fun _ h9 => h9) rfl dX0_copyFrom_5 ?_
  refine cl_V (q := (RX5, TX5, 5)) (ws' := [(xO, .inr (0, [.ref xo, .ref xH, .ref xM, .int xB])), (xo, .inr (5, [.ref xa, .ref xb, .ref xc, .ref xd, .int (nI ((f_X5_copyFrom xl xw xk xm xf yn yw yk ym yf).2.2.2.2))])), (xa, .inl (G.2.1, xl, .inl ((f_X5_copyFrom xl xw xk xm xf yn yw yk ym yf).1))), (xb, .inl (G.2.1, xl, .inl ((f_X5_copyFrom xl xw xk xm xf yn yw yk ym yf).2.1))), (xc, .inl (G.2.1, xl, .inl ((f_X5_copyFrom xl xw xk xm xf yn yw yk ym yf).2.2.1))), (xd, .inl (G.2.1, xl, .inl ((f_X5_copyFrom xl xw xk xm xf yn yw yk ym yf).2.2.2.1))), (xH, .inl (G.2.1, 12, .inl xh)), (xM, .inl (G.2.1, 12, .inl xt)), (yO, .inr (0, [.ref yo, .ref yH, .ref yM, .int yB])), (yo, .inr (5, [.ref ya, .ref yb, .ref yc, .ref yd, .int (nI yn)])), (ya, .inl (G.2.1, yl, .inl yw)), (yb, .inl (G.2.1, yl, .inl yk)), (yc, .inl (G.2.1, yl, .inl ym)), (yd, .inl (G.2.1, yl, .inl yf)), (yH, .inl (G.2.1, 12, .inl yh)), (yM, .inl (G.2.1, 12, .inl yt))]) (v := none) (st1 := []) (rest := []) (As := [.ref yo]) [1, 2, 3, 4, 5, 9, 10, 11, 12, 13] 1 5 hx hb hml hown hK (k_X5_copyFrom l G xo xa xb xc xd xl xn xw xk xm xf yo ya yb yc yd yl yn yw yk ym yf hxn hxl hyn hyl) (mf_X5_copyFrom hK.2) (kw_595 hK.2) (kw_596 hK.2) (kw_594 hK.2) ⟨rfl, rfl, Nat.le_of_ble_eq_true rfl, Nat.le_of_ble_eq_true rfl⟩ rfl hP hD hS hA rfl rfl hl (Nat.le_of_ble_eq_true rfl) rfl ⟨Nat.le_of_ble_eq_true rfl, Nat.le_of_ble_eq_true rfl⟩ rfl dX0_copyFrom_8 rfl rfl (rpl_fast (by decide) rfl rfl) rfl rfl rfl (fun H locs hP hD hS => ?_)
  refine lv_iconst (v := 0) hx hb dX0_copyFrom_11 (by decide) ?_
  refine lv_istore_n (lv' := [(2, .int 0), (0, .ref xO), (1, .ref yO)]) hx hb dX0_copyFrom_12 rfl hl (by decide) rfl (fun ls hl => ?_)
  have L13 : ∀ (k13 : Nat) (i13 : Nat) (h13 : Nat → Int32) (t13 : Nat → Int32), k13 + i13 = 12 → f_X0_copyFrom_13 xl xw xk xm xf yn yw yk ym yf yB yh yt k13 i13 h13 t13 = R → ∀ (H : Heap) (locs : List Loc) (ls : Array Slot), va_P G.1 wcl [(xO, .inr (0, [.ref xo, .ref xH, .ref xM, .int xB])), (xo, .inr (5, [.ref xa, .ref xb, .ref xc, .ref xd, .int (nI ((f_X5_copyFrom xl xw xk xm xf yn yw yk ym yf).2.2.2.2))])), (xa, .inl (G.2.1, xl, .inl ((f_X5_copyFrom xl xw xk xm xf yn yw yk ym yf).1))), (xb, .inl (G.2.1, xl, .inl ((f_X5_copyFrom xl xw xk xm xf yn yw yk ym yf).2.1))), (xc, .inl (G.2.1, xl, .inl ((f_X5_copyFrom xl xw xk xm xf yn yw yk ym yf).2.2.1))), (xd, .inl (G.2.1, xl, .inl ((f_X5_copyFrom xl xw xk xm xf yn yw yk ym yf).2.2.2.1))), (xH, .inl (G.2.1, 12, .inl h13)), (xM, .inl (G.2.1, 12, .inl t13)), (yO, .inr (0, [.ref yo, .ref yH, .ref yM, .int yB])), (yo, .inr (5, [.ref ya, .ref yb, .ref yc, .ref yd, .int (nI yn)])), (ya, .inl (G.2.1, yl, .inl yw)), (yb, .inl (G.2.1, yl, .inl yk)), (yc, .inl (G.2.1, yl, .inl ym)), (yd, .inl (G.2.1, yl, .inl yf)), (yH, .inl (G.2.1, 12, .inl yh)), (yM, .inl (G.2.1, 12, .inl yt))] H → va_D A [(xO, .inr (0, [.ref xo, .ref xH, .ref xM, .int xB])), (xo, .inr (5, [.ref xa, .ref xb, .ref xc, .ref xd, .int (nI ((f_X5_copyFrom xl xw xk xm xf yn yw yk ym yf).2.2.2.2))])), (xa, .inl (G.2.1, xl, .inl ((f_X5_copyFrom xl xw xk xm xf yn yw yk ym yf).1))), (xb, .inl (G.2.1, xl, .inl ((f_X5_copyFrom xl xw xk xm xf yn yw yk ym yf).2.1))), (xc, .inl (G.2.1, xl, .inl ((f_X5_copyFrom xl xw xk xm xf yn yw yk ym yf).2.2.1))), (xd, .inl (G.2.1, xl, .inl ((f_X5_copyFrom xl xw xk xm xf yn yw yk ym yf).2.2.2.1))), (xH, .inl (G.2.1, 12, .inl h13)), (xM, .inl (G.2.1, 12, .inl t13)), (yO, .inr (0, [.ref yo, .ref yH, .ref yM, .int yB])), (yo, .inr (5, [.ref ya, .ref yb, .ref yc, .ref yd, .int (nI yn)])), (ya, .inl (G.2.1, yl, .inl yw)), (yb, .inl (G.2.1, yl, .inl yk)), (yc, .inl (G.2.1, yl, .inl ym)), (yd, .inl (G.2.1, yl, .inl yf)), (yH, .inl (G.2.1, 12, .inl yh)), (yM, .inl (G.2.1, 12, .inl yt))] → va_S A s.heap H locs → lv_has ls 3 [(0, .ref xO), (1, .ref yO), (2, .int (nI i13))] → W p l e ({ frames := 3, cells := 0, slots := 0, locals := 66 }) s m args below meth c H locs 0 0 Q (F0 m 13 ls []) := by
    intro k13
    induction k13 with
    | zero =>
      intro i13 h13 t13 hi13  hf _ _ ls hP hD hS hl
      rw [f_X0_copyFrom_13_z] at hf
      refine lv_iload_n hx hb dX0_copyFrom_13 rfl (lv_at hl 2 rfl) ?_
      refine lv_bipush (v := 12) hx hb dX0_copyFrom_14 (by decide) ?_
      refine lv_icmp_ge (tgt := 49) hx hb dX0_copyFrom_16 (by decide) (fun _ => ?_) (fun c => absurd (ile (a := 12) (b := i13) rfl rfl (by omega) (by omega) (by omega)) c)
      refine lv_aload_n hx hb dX0_copyFrom_49 rfl (lv_at hl 0 rfl) ?_
      refine lv_aload_n hx hb dX0_copyFrom_50 rfl (lv_at hl 1 rfl) ?_
      refine va_get (D := G.1) (ci := 0) (v := .int yB) (C := RX0) (T := TX0) (N := 4) hx hb (ku_X0 hK.2) (fun _ h9 => h9) hown hK.1 hP 8 rfl rfl 3 (by decide) (kw_112 hK.2) (fun _ h9 => h9) rfl dX0_copyFrom_51 ?_
      refine va_put (D := G.1) (ci := 0) (v := .int yB) (ty := .int) (C := RX0) (T := TX0) (N := 4) hx hb (ku_X0 hK.2) (fun _ h9 => h9) tyX0 tyX0_ok nmX0 hown hK.1 hP hD hS 0 rfl rfl 3 (by decide) (kw_112 hK.2) (fun _ h9 => h9) rfl (by decide +kernel) rfl rfl (Nat.le_of_ble_eq_true rfl) dX0_copyFrom_54 (fun H locs hP hD hS => ?_)
      have hP : va_P G.1 wcl [(xO, .inr (0, [.ref xo, .ref xH, .ref xM, .int yB])), (xo, .inr (5, [.ref xa, .ref xb, .ref xc, .ref xd, .int (nI ((f_X5_copyFrom xl xw xk xm xf yn yw yk ym yf).2.2.2.2))])), (xa, .inl (G.2.1, xl, .inl ((f_X5_copyFrom xl xw xk xm xf yn yw yk ym yf).1))), (xb, .inl (G.2.1, xl, .inl ((f_X5_copyFrom xl xw xk xm xf yn yw yk ym yf).2.1))), (xc, .inl (G.2.1, xl, .inl ((f_X5_copyFrom xl xw xk xm xf yn yw yk ym yf).2.2.1))), (xd, .inl (G.2.1, xl, .inl ((f_X5_copyFrom xl xw xk xm xf yn yw yk ym yf).2.2.2.1))), (xH, .inl (G.2.1, 12, .inl h13)), (xM, .inl (G.2.1, 12, .inl t13)), (yO, .inr (0, [.ref yo, .ref yH, .ref yM, .int yB])), (yo, .inr (5, [.ref ya, .ref yb, .ref yc, .ref yd, .int (nI yn)])), (ya, .inl (G.2.1, yl, .inl yw)), (yb, .inl (G.2.1, yl, .inl yk)), (yc, .inl (G.2.1, yl, .inl ym)), (yd, .inl (G.2.1, yl, .inl yf)), (yH, .inl (G.2.1, 12, .inl yh)), (yM, .inl (G.2.1, 12, .inl yt))] H := hP
      have hD : va_D A [(xO, .inr (0, [.ref xo, .ref xH, .ref xM, .int yB])), (xo, .inr (5, [.ref xa, .ref xb, .ref xc, .ref xd, .int (nI ((f_X5_copyFrom xl xw xk xm xf yn yw yk ym yf).2.2.2.2))])), (xa, .inl (G.2.1, xl, .inl ((f_X5_copyFrom xl xw xk xm xf yn yw yk ym yf).1))), (xb, .inl (G.2.1, xl, .inl ((f_X5_copyFrom xl xw xk xm xf yn yw yk ym yf).2.1))), (xc, .inl (G.2.1, xl, .inl ((f_X5_copyFrom xl xw xk xm xf yn yw yk ym yf).2.2.1))), (xd, .inl (G.2.1, xl, .inl ((f_X5_copyFrom xl xw xk xm xf yn yw yk ym yf).2.2.2.1))), (xH, .inl (G.2.1, 12, .inl h13)), (xM, .inl (G.2.1, 12, .inl t13)), (yO, .inr (0, [.ref yo, .ref yH, .ref yM, .int yB])), (yo, .inr (5, [.ref ya, .ref yb, .ref yc, .ref yd, .int (nI yn)])), (ya, .inl (G.2.1, yl, .inl yw)), (yb, .inl (G.2.1, yl, .inl yk)), (yc, .inl (G.2.1, yl, .inl ym)), (yd, .inl (G.2.1, yl, .inl yf)), (yH, .inl (G.2.1, 12, .inl yh)), (yM, .inl (G.2.1, 12, .inl yt))] := hD
      exact hret ((f_X5_copyFrom xl xw xk xm xf yn yw yk ym yf).1, (f_X5_copyFrom xl xw xk xm xf yn yw yk ym yf).2.1, (f_X5_copyFrom xl xw xk xm xf yn yw yk ym yf).2.2.1, (f_X5_copyFrom xl xw xk xm xf yn yw yk ym yf).2.2.2.1, (f_X5_copyFrom xl xw xk xm xf yn yw yk ym yf).2.2.2.2, h13, t13, yB) dX0_copyFrom_57 hf rfl hP hS
    | succ k13 ih13 =>
      intro i13 h13 t13 hi13  hf _ _ ls hP hD hS hl
      rw [f_X0_copyFrom_13_s] at hf
      refine lv_iload_n hx hb dX0_copyFrom_13 rfl (lv_at hl 2 rfl) ?_
      refine lv_bipush (v := 12) hx hb dX0_copyFrom_14 (by decide) ?_
      refine lv_icmp_ge (tgt := 49) hx hb dX0_copyFrom_16 (by decide) (fun c => absurd c (inle (a := 12) (b := i13) rfl rfl (by omega) (by omega) (by omega))) (fun _ => ?_)
      refine lv_aload_n hx hb dX0_copyFrom_19 rfl (lv_at hl 0 rfl) ?_
      refine va_get (D := G.1) (ci := 0) (v := .ref xH) (C := RX0) (T := TX0) (N := 4) hx hb (ku_X0 hK.2) (fun _ h9 => h9) hown hK.1 hP 0 rfl rfl 1 (by decide) (kw_108 hK.2) (fun _ h9 => h9) rfl dX0_copyFrom_20 ?_
      refine lv_iload_n hx hb dX0_copyFrom_23 rfl (lv_at hl 2 rfl) ?_
      refine lv_aload_n hx hb dX0_copyFrom_24 rfl (lv_at hl 1 rfl) ?_
      refine va_get (D := G.1) (ci := 0) (v := .ref yH) (C := RX0) (T := TX0) (N := 4) hx hb (ku_X0 hK.2) (fun _ h9 => h9) hown hK.1 hP 8 rfl rfl 1 (by decide) (kw_108 hK.2) (fun _ h9 => h9) rfl dX0_copyFrom_25 ?_
      refine lv_iload_n hx hb dX0_copyFrom_28 rfl (lv_at hl 2 rfl) ?_
      refine ww_ild (j := i13) hx hb hK.1 hP 14 0 rfl rfl (by omega) (by omega) dX0_copyFrom_29 ?_
      refine ww_ist (j := i13) hx hb hK.1 hP hD hS 6 0 rfl rfl (by omega) (by omega) dX0_copyFrom_30 (fun H locs hP hD hS => ?_)
      have hP : va_P G.1 wcl [(xO, .inr (0, [.ref xo, .ref xH, .ref xM, .int xB])), (xo, .inr (5, [.ref xa, .ref xb, .ref xc, .ref xd, .int (nI ((f_X5_copyFrom xl xw xk xm xf yn yw yk ym yf).2.2.2.2))])), (xa, .inl (G.2.1, xl, .inl ((f_X5_copyFrom xl xw xk xm xf yn yw yk ym yf).1))), (xb, .inl (G.2.1, xl, .inl ((f_X5_copyFrom xl xw xk xm xf yn yw yk ym yf).2.1))), (xc, .inl (G.2.1, xl, .inl ((f_X5_copyFrom xl xw xk xm xf yn yw yk ym yf).2.2.1))), (xd, .inl (G.2.1, xl, .inl ((f_X5_copyFrom xl xw xk xm xf yn yw yk ym yf).2.2.2.1))), (xH, .inl (G.2.1, 12, .inl (upd h13 i13 (yh i13)))), (xM, .inl (G.2.1, 12, .inl t13)), (yO, .inr (0, [.ref yo, .ref yH, .ref yM, .int yB])), (yo, .inr (5, [.ref ya, .ref yb, .ref yc, .ref yd, .int (nI yn)])), (ya, .inl (G.2.1, yl, .inl yw)), (yb, .inl (G.2.1, yl, .inl yk)), (yc, .inl (G.2.1, yl, .inl ym)), (yd, .inl (G.2.1, yl, .inl yf)), (yH, .inl (G.2.1, 12, .inl yh)), (yM, .inl (G.2.1, 12, .inl yt))] H := hP
      have hD : va_D A [(xO, .inr (0, [.ref xo, .ref xH, .ref xM, .int xB])), (xo, .inr (5, [.ref xa, .ref xb, .ref xc, .ref xd, .int (nI ((f_X5_copyFrom xl xw xk xm xf yn yw yk ym yf).2.2.2.2))])), (xa, .inl (G.2.1, xl, .inl ((f_X5_copyFrom xl xw xk xm xf yn yw yk ym yf).1))), (xb, .inl (G.2.1, xl, .inl ((f_X5_copyFrom xl xw xk xm xf yn yw yk ym yf).2.1))), (xc, .inl (G.2.1, xl, .inl ((f_X5_copyFrom xl xw xk xm xf yn yw yk ym yf).2.2.1))), (xd, .inl (G.2.1, xl, .inl ((f_X5_copyFrom xl xw xk xm xf yn yw yk ym yf).2.2.2.1))), (xH, .inl (G.2.1, 12, .inl (upd h13 i13 (yh i13)))), (xM, .inl (G.2.1, 12, .inl t13)), (yO, .inr (0, [.ref yo, .ref yH, .ref yM, .int yB])), (yo, .inr (5, [.ref ya, .ref yb, .ref yc, .ref yd, .int (nI yn)])), (ya, .inl (G.2.1, yl, .inl yw)), (yb, .inl (G.2.1, yl, .inl yk)), (yc, .inl (G.2.1, yl, .inl ym)), (yd, .inl (G.2.1, yl, .inl yf)), (yH, .inl (G.2.1, 12, .inl yh)), (yM, .inl (G.2.1, 12, .inl yt))] := hD
      refine lv_aload_n hx hb dX0_copyFrom_31 rfl (lv_at hl 0 rfl) ?_
      refine va_get (D := G.1) (ci := 0) (v := .ref xM) (C := RX0) (T := TX0) (N := 4) hx hb (ku_X0 hK.2) (fun _ h9 => h9) hown hK.1 hP 0 rfl rfl 2 (by decide) (kw_110 hK.2) (fun _ h9 => h9) rfl dX0_copyFrom_32 ?_
      refine lv_iload_n hx hb dX0_copyFrom_35 rfl (lv_at hl 2 rfl) ?_
      refine lv_aload_n hx hb dX0_copyFrom_36 rfl (lv_at hl 1 rfl) ?_
      refine va_get (D := G.1) (ci := 0) (v := .ref yM) (C := RX0) (T := TX0) (N := 4) hx hb (ku_X0 hK.2) (fun _ h9 => h9) hown hK.1 hP 8 rfl rfl 2 (by decide) (kw_110 hK.2) (fun _ h9 => h9) rfl dX0_copyFrom_37 ?_
      refine lv_iload_n hx hb dX0_copyFrom_40 rfl (lv_at hl 2 rfl) ?_
      refine ww_ild (j := i13) hx hb hK.1 hP 15 0 rfl rfl (by omega) (by omega) dX0_copyFrom_41 ?_
      refine ww_ist (j := i13) hx hb hK.1 hP hD hS 7 0 rfl rfl (by omega) (by omega) dX0_copyFrom_42 (fun H locs hP hD hS => ?_)
      have hP : va_P G.1 wcl [(xO, .inr (0, [.ref xo, .ref xH, .ref xM, .int xB])), (xo, .inr (5, [.ref xa, .ref xb, .ref xc, .ref xd, .int (nI ((f_X5_copyFrom xl xw xk xm xf yn yw yk ym yf).2.2.2.2))])), (xa, .inl (G.2.1, xl, .inl ((f_X5_copyFrom xl xw xk xm xf yn yw yk ym yf).1))), (xb, .inl (G.2.1, xl, .inl ((f_X5_copyFrom xl xw xk xm xf yn yw yk ym yf).2.1))), (xc, .inl (G.2.1, xl, .inl ((f_X5_copyFrom xl xw xk xm xf yn yw yk ym yf).2.2.1))), (xd, .inl (G.2.1, xl, .inl ((f_X5_copyFrom xl xw xk xm xf yn yw yk ym yf).2.2.2.1))), (xH, .inl (G.2.1, 12, .inl (upd h13 i13 (yh i13)))), (xM, .inl (G.2.1, 12, .inl (upd t13 i13 (yt i13)))), (yO, .inr (0, [.ref yo, .ref yH, .ref yM, .int yB])), (yo, .inr (5, [.ref ya, .ref yb, .ref yc, .ref yd, .int (nI yn)])), (ya, .inl (G.2.1, yl, .inl yw)), (yb, .inl (G.2.1, yl, .inl yk)), (yc, .inl (G.2.1, yl, .inl ym)), (yd, .inl (G.2.1, yl, .inl yf)), (yH, .inl (G.2.1, 12, .inl yh)), (yM, .inl (G.2.1, 12, .inl yt))] H := hP
      have hD : va_D A [(xO, .inr (0, [.ref xo, .ref xH, .ref xM, .int xB])), (xo, .inr (5, [.ref xa, .ref xb, .ref xc, .ref xd, .int (nI ((f_X5_copyFrom xl xw xk xm xf yn yw yk ym yf).2.2.2.2))])), (xa, .inl (G.2.1, xl, .inl ((f_X5_copyFrom xl xw xk xm xf yn yw yk ym yf).1))), (xb, .inl (G.2.1, xl, .inl ((f_X5_copyFrom xl xw xk xm xf yn yw yk ym yf).2.1))), (xc, .inl (G.2.1, xl, .inl ((f_X5_copyFrom xl xw xk xm xf yn yw yk ym yf).2.2.1))), (xd, .inl (G.2.1, xl, .inl ((f_X5_copyFrom xl xw xk xm xf yn yw yk ym yf).2.2.2.1))), (xH, .inl (G.2.1, 12, .inl (upd h13 i13 (yh i13)))), (xM, .inl (G.2.1, 12, .inl (upd t13 i13 (yt i13)))), (yO, .inr (0, [.ref yo, .ref yH, .ref yM, .int yB])), (yo, .inr (5, [.ref ya, .ref yb, .ref yc, .ref yd, .int (nI yn)])), (ya, .inl (G.2.1, yl, .inl yw)), (yb, .inl (G.2.1, yl, .inl yk)), (yc, .inl (G.2.1, yl, .inl ym)), (yd, .inl (G.2.1, yl, .inl yf)), (yH, .inl (G.2.1, 12, .inl yh)), (yM, .inl (G.2.1, 12, .inl yt))] := hD
      refine lv_iinc (v := nI (i13 + 1)) (lv' := [(2, .int (nI (i13 + 1))), (0, .ref xO), (1, .ref yO)]) hx hb dX0_copyFrom_43 hl (k := 2) rfl (nI_1 i13) (by decide) rfl (fun ls hl => ?_)
      refine lv_goto (tgt := 13) hx hb dX0_copyFrom_46 (by decide) ?_
      exact ih13 (i13 + 1) (upd h13 i13 (yh i13)) (upd t13 i13 (yt i13)) (by omega)  hf _ _ ls hP hD hS (lv_sub hl [1, 2, 0] rfl)
  exact L13 12 0 xh xt (by omega)  hf _ _ ls hP hD hS (lv_sub hl [1, 2, 0] rfl)
