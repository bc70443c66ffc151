theorem lt_of_nle {a b : Nat} (ha : a < 2 ^ 31) (hb : b < 2 ^ 31) (h : ¬ nI a ≤ nI b) : b < a := by
  rw [nI_leI ha hb] at h
  omega
theorem vp_in_c4 {v : Int32} (h1 : ¬ v < 0) (h2 : ¬ (4 : Int32) ≤ v) : vp_in v 4 := vp_in_c (n := 4) (by decide) h1 h2
def f_X6_isWord (wo : Int32) : Int32 := (if wo < 0 then 0 else (if (12 : Int32) ≤ wo then 0 else 1))
set_option maxHeartbeats 4000000 in
set_option maxRecDepth 100000 in
theorem k_X6_isWord (l : Launch) (G : wG) (wo : Int32)  : CT l G yX6_isWord cX6_isWord 1 (some .boolean) ({ frames := 0, cells := 0, slots := 0, locals := 0 }) [.int wo] [] (fun _ => []) (fun u => some (.int u)) (f_X6_isWord wo) := by
  obtain ⟨R, hf⟩ : ∃ R, f_X6_isWord wo = R := ⟨_, rfl⟩
  rw [hf]
  refine CT.mkI RX6 (by decide +kernel) rfl (Nat.le_of_ble_eq_true rfl) ?_
  intro p e s m args below meth c A Q ls hx hb hml hown hK hP hD hS hA hret hl
  have hl : lv_has ls 1 [(0, .int wo)] := hl
  rw [f_X6_isWord] at hf
  refine lv_iload_n hx hb dX6_isWord_0 rfl (lv_at hl 0 rfl) ?_
  refine lv_if_lt (tgt := 14) hx hb dX6_isWord_1 (by decide) (fun c1 => ?_) (fun c1 => ?_)
  · have hf := (if_pos c1).symm.trans hf
    refine lv_iconst (v := 0) hx hb dX6_isWord_14 (by decide) ?_
    exact hret 0 dX6_isWord_15 rfl hf rfl hP hS
  · have hf := (if_neg c1).symm.trans hf
    refine lv_iload_n hx hb dX6_isWord_4 rfl (lv_at hl 0 rfl) ?_
    refine lv_bipush (v := 12) hx hb dX6_isWord_5 (by decide) ?_
    refine lv_icmp_ge (tgt := 14) hx hb dX6_isWord_7 (by decide) (fun c2 => ?_) (fun c2 => ?_)
    · have hf := (if_pos c2).symm.trans hf
      refine lv_iconst (v := 0) hx hb dX6_isWord_14 (by decide) ?_
      exact hret 0 dX6_isWord_15 rfl hf rfl hP hS
    · have hf := (if_neg c2).symm.trans hf
      refine lv_iconst (v := 1) hx hb dX6_isWord_10 (by decide) ?_
      refine lv_goto (tgt := 15) hx hb dX6_isWord_11 (by decide) ?_
      exact hret 1 dX6_isWord_15 rfl hf rfl hP hS
def f_X6_isSet (so : Int32) : Int32 := (if so < 0 then 0 else (if (4096 : Int32) ≤ so then 0 else 1))
set_option maxHeartbeats 4000000 in
set_option maxRecDepth 100000 in
theorem k_X6_isSet (l : Launch) (G : wG) (so : Int32)  : CT l G yX6_isSet cX6_isSet 1 (some .boolean) ({ frames := 0, cells := 0, slots := 0, locals := 0 }) [.int so] [] (fun _ => []) (fun u => some (.int u)) (f_X6_isSet so) := by
  obtain ⟨R, hf⟩ : ∃ R, f_X6_isSet so = R := ⟨_, rfl⟩
  rw [hf]
  refine CT.mkI RX6 (by decide +kernel) rfl (Nat.le_of_ble_eq_true rfl) ?_
  intro p e s m args below meth c A Q ls hx hb hml hown hK hP hD hS hA hret hl
  have hl : lv_has ls 1 [(0, .int so)] := hl
  rw [f_X6_isSet] at hf
  refine lv_iload_n hx hb dX6_isSet_0 rfl (lv_at hl 0 rfl) ?_
  refine lv_if_lt (tgt := 15) hx hb dX6_isSet_1 (by decide) (fun c1 => ?_) (fun c1 => ?_)
  · have hf := (if_pos c1).symm.trans hf
    refine lv_iconst (v := 0) hx hb dX6_isSet_15 (by decide) ?_
    exact hret 0 dX6_isSet_16 rfl hf rfl hP hS
  · have hf := (if_neg c1).symm.trans hf
    refine lv_iload_n hx hb dX6_isSet_4 rfl (lv_at hl 0 rfl) ?_
    refine lv_sipush (v := 4096) hx hb dX6_isSet_5 (by decide) ?_
    refine lv_icmp_ge (tgt := 15) hx hb dX6_isSet_8 (by decide) (fun c2 => ?_) (fun c2 => ?_)
    · have hf := (if_pos c2).symm.trans hf
      refine lv_iconst (v := 0) hx hb dX6_isSet_15 (by decide) ?_
      exact hret 0 dX6_isSet_16 rfl hf rfl hP hS
    · have hf := (if_neg c2).symm.trans hf
      refine lv_iconst (v := 1) hx hb dX6_isSet_11 (by decide) ?_
      refine lv_goto (tgt := 16) hx hb dX6_isSet_12 (by decide) ?_
      exact hret 1 dX6_isSet_16 rfl hf rfl hP hS
def f_X6_isBook (bo : Int32) : Int32 := (if bo = 0 then 1 else (if bo = 1 then 1 else 0))
set_option maxHeartbeats 4000000 in
set_option maxRecDepth 100000 in
theorem k_X6_isBook (l : Launch) (G : wG) (bo : Int32)  : CT l G yX6_isBook cX6_isBook 1 (some .boolean) ({ frames := 0, cells := 0, slots := 0, locals := 0 }) [.int bo] [] (fun _ => []) (fun u => some (.int u)) (f_X6_isBook bo) := by
  obtain ⟨R, hf⟩ : ∃ R, f_X6_isBook bo = R := ⟨_, rfl⟩
  rw [hf]
  refine CT.mkI RX6 (by decide +kernel) rfl (Nat.le_of_ble_eq_true rfl) ?_
  intro p e s m args below meth c A Q ls hx hb hml hown hK hP hD hS hA hret hl
  have hl : lv_has ls 1 [(0, .int bo)] := hl
  rw [f_X6_isBook] at hf
  refine lv_iload_n hx hb dX6_isBook_0 rfl (lv_at hl 0 rfl) ?_
  refine lv_if_eq (tgt := 9) hx hb dX6_isBook_1 (by decide) (fun c1 => ?_) (fun c1 => ?_)
  · have hf := (if_pos c1).symm.trans hf
    refine lv_iconst (v := 1) hx hb dX6_isBook_9 (by decide) ?_
    refine lv_goto (tgt := 14) hx hb dX6_isBook_10 (by decide) ?_
    exact hret 1 dX6_isBook_14 rfl hf rfl hP hS
  · have hf := (if_neg c1).symm.trans hf
    refine lv_iload_n hx hb dX6_isBook_4 rfl (lv_at hl 0 rfl) ?_
    refine lv_iconst (v := 1) hx hb dX6_isBook_5 (by decide) ?_
    refine lv_icmp_ne (tgt := 13) hx hb dX6_isBook_6 (by decide) (fun c2 => ?_) (fun c2 => ?_)
    · have hf := (if_neg c2).symm.trans hf
      refine lv_iconst (v := 0) hx hb dX6_isBook_13 (by decide) ?_
      exact hret 0 dX6_isBook_14 rfl hf rfl hP hS
    · have hf := (if_pos c2).symm.trans hf
      refine lv_iconst (v := 1) hx hb dX6_isBook_9 (by decide) ?_
      refine lv_goto (tgt := 14) hx hb dX6_isBook_10 (by decide) ?_
      exact hret 1 dX6_isBook_14 rfl hf rfl hP hS
def f_X4_letterAt (tz : Nat) (tb : Nat → Int32) (pl : Nat) : Int32 := (if (nI pl) < (nI tz) then (if (f_X6_isWord ((tb pl) - (97 : Int32))) = 0 then (-1) else (tb pl) - (97 : Int32)) else (-1))
set_option maxHeartbeats 4000000 in
set_option maxRecDepth 100000 in
theorem k_X4_letterAt (l : Launch) (G : wG) (tO : Nat) (tA : Nat) (tz : Nat) (tw : Int32) (tk : Int32) (tm : Int32) (tf : Int32) (tb : Nat → Int32) (pl : Nat) (htz : tz ≤ 10) (hpl : pl ≤ 10) : CT l G yX4_letterAt cX4_letterAt 3 (some .int) ({ frames := 1, cells := 0, slots := 0, locals := 20 }) [.ref tO, .int (nI pl)] [(tO, .inr (4, [.ref tA, .int (nI tz), .int tw, .int tk, .int tm, .int tf])), (tA, .inl (G.2.1, 10, .inl tb))] (fun _ => [(tO, .inr (4, [.ref tA, .int (nI tz), .int tw, .int tk, .int tm, .int tf])), (tA, .inl (G.2.1, 10, .inl tb))]) (fun u => some (.int u)) (f_X4_letterAt tz tb pl) := by
  obtain ⟨R, hf⟩ : ∃ R, f_X4_letterAt tz tb pl = R := ⟨_, rfl⟩
  rw [hf]
  refine CT.mkI RX4 (by decide +kernel) rfl (Nat.le_of_ble_eq_true rfl) ?_
  intro p e s m args below meth c A Q ls hx hb hml hown hK hP hD hS hA hret hl
  have hl : lv_has ls 3 [(0, .ref tO), (1, .int (nI pl))] := hl
  rw [f_X4_letterAt] at hf
  refine lv_iload_n hx hb dX4_letterAt_0 rfl (lv_at hl 1 rfl) ?_
  refine lv_aload_n hx hb dX4_letterAt_1 rfl (lv_at hl 0 rfl) ?_
  refine va_get (D := G.1) (ci := 4) (v := .int (nI tz)) (C := RX4) (T := TX4) (N := 6) hx hb (ku_X4 hK.2) (fun _ h9 => h9) hown hK.1 hP 0 rfl rfl 1 (by decide) (kw_160 hK.2) (fun _ h9 => h9) rfl dX4_letterAt_2 ?_
  refine lv_icmp_lt (tgt := 10) hx hb dX4_letterAt_5 (by decide) (fun c1 => ?_) (fun c1 => ?_)
  · have hf := (if_pos c1).symm.trans hf
    have q1 : pl < tz := (nI_ltI (by omega) (by omega)).mp (by assumption)
    refine lv_aload_n hx hb dX4_letterAt_10 rfl (lv_at hl 0 rfl) ?_
    refine va_get (D := G.1) (ci := 4) (v := .ref tA) (C := RX4) (T := TX4) (N := 6) hx hb (ku_X4 hK.2) (fun _ h9 => h9) hown hK.1 hP 0 rfl rfl 0 (by decide) (kw_159 hK.2) (fun _ h9 => h9) rfl dX4_letterAt_11 ?_
    refine lv_iload_n hx hb dX4_letterAt_14 rfl (lv_at hl 1 rfl) ?_
    refine ww_ild (j := pl) hx hb hK.1 hP 1 0 rfl rfl (by omega) (by omega) dX4_letterAt_15 ?_
    refine lv_bipush (v := 97) hx hb dX4_letterAt_16 (by decide) ?_
    refine lv_isub hx hb dX4_letterAt_18 ?_
    refine lv_istore_n (lv' := [(2, .int ((tb pl) - (97 : Int32))), (0, .ref tO), (1, .int (nI pl))]) hx hb dX4_letterAt_19 rfl hl (by decide) rfl (fun ls hl => ?_)
    refine lv_iload_n hx hb dX4_letterAt_20 rfl (lv_at hl 0 rfl) ?_
    refine cl_SN (ws' := [(tO, .inr (4, [.ref tA, .int (nI tz), .int tw, .int tk, .int tm, .int tf])), (tA, .inl (G.2.1, 10, .inl tb))]) (v := (some (.int (f_X6_isWord ((tb pl) - (97 : Int32)))))) (st1 := [.int (f_X6_isWord ((tb pl) - (97 : Int32)))]) (rest := []) (As := [.int ((tb pl) - (97 : Int32))]) [] hx hb hml hown hK (k_X6_isWord l G ((tb pl) - (97 : Int32)) ) (mf_X6_isWord hK.2) (kw_287 hK.2) (kw_286 hK.2) ⟨rfl, rfl, Nat.le_of_ble_eq_true rfl, Nat.le_of_ble_eq_true rfl⟩ rfl hP hD hS hA hl (Nat.le_of_ble_eq_true rfl) rfl ⟨Nat.le_of_ble_eq_true rfl, Nat.le_of_ble_eq_true rfl⟩ rfl dX4_letterAt_21 rfl rfl rfl rfl rfl rfl (fun H locs hP hD hS => ?_)
    refine lv_if_eq (tgt := 31) hx hb dX4_letterAt_24 (by decide) (fun c2 => ?_) (fun c2 => ?_)
    · have hf := (if_pos c2).symm.trans hf
      refine lv_iconst (v := -1) hx hb dX4_letterAt_31 (by decide) ?_
      exact hret (-1) dX4_letterAt_32 rfl hf rfl hP hS
    · have hf := (if_neg c2).symm.trans hf
      refine lv_iload_n hx hb dX4_letterAt_27 rfl (lv_at hl 0 rfl) ?_
      refine lv_goto (tgt := 32) hx hb dX4_letterAt_28 (by decide) ?_
      exact hret ((tb pl) - (97 : Int32)) dX4_letterAt_32 rfl hf rfl hP hS
  · have hf := (if_neg c1).symm.trans hf
    refine lv_iconst (v := -1) hx hb dX4_letterAt_8 (by decide) ?_
    exact hret (-1) dX4_letterAt_9 rfl hf rfl hP hS
def f_X4_append_3 (cm : Int64) : Nat → Nat → (Nat → Int32) → Nat → ((Nat → Int32) × Nat)
  | 0, i3, b3, z3 => (b3, z3)
  | k3 + 1, i3, b3, z3 => f_X4_append_3 cm k3 (i3 + 1) (upd b3 z3 ((((cm.toUInt64 >>> ((nI (8 * i3) : Int32).toInt64.toUInt64 &&& Int64.toUInt64 63)).toInt64).toInt32) &&& (255 : Int32))) (z3 + 1)
theorem f_X4_append_3_z (cm : Int64) (i3 : Nat) (b3 : Nat → Int32) (z3 : Nat) : f_X4_append_3 cm 0 i3 b3 z3 = (b3, z3) := rfl
theorem f_X4_append_3_s (cm : Int64) (k3 : Nat) (i3 : Nat) (b3 : Nat → Int32) (z3 : Nat) : f_X4_append_3 cm (k3 + 1) i3 b3 z3 = f_X4_append_3 cm k3 (i3 + 1) (upd b3 z3 ((((cm.toUInt64 >>> ((nI (8 * i3) : Int32).toInt64.toUInt64 &&& Int64.toUInt64 63)).toInt64).toInt32) &&& (255 : Int32))) (z3 + 1) := rfl
def f_X4_append (tz : Nat) (tb : Nat → Int32) (an : Nat) (cm : Int64) : (Nat → Int32) × Nat := (f_X4_append_3 cm an 0 tb tz)
set_option maxHeartbeats 4000000 in
set_option maxRecDepth 100000 in
theorem k_X4_append (l : Launch) (G : wG) (tO : Nat) (tA : Nat) (tz : Nat) (tw : Int32) (tk : Int32) (tm : Int32) (tf : Int32) (tb : Nat → Int32) (an : Nat) (cm : Int64) (htz : tz ≤ 10) (hza : tz + an ≤ 10) : CT l G yX4_append cX4_append 5 (none : Option Jvm.ClassFile.FieldType) ({ frames := 0, cells := 0, slots := 0, locals := 0 }) [.ref tO, .int (nI an), .long cm] [(tO, .inr (4, [.ref tA, .int (nI tz), .int tw, .int tk, .int tm, .int tf])), (tA, .inl (G.2.1, 10, .inl tb))] (fun u => [(tO, .inr (4, [.ref tA, .int (nI u.2), .int tw, .int tk, .int tm, .int tf])), (tA, .inl (G.2.1, 10, .inl u.1))]) (fun _ => none) (f_X4_append tz tb an cm) := by
  obtain ⟨R, hf⟩ : ∃ R, f_X4_append tz tb an cm = R := ⟨_, rfl⟩
  rw [hf]
  refine CT.mkV RX4 (by decide +kernel) rfl (Nat.le_of_ble_eq_true rfl) ?_
  intro p e s m args below meth c A Q ls hx hb hml hown hK hP hD hS hA hret hl
  have hl : lv_has ls 5 [(0, .ref tO), (1, .int (nI an)), (2, .long cm)] := hl
  rw [f_X4_append] at hf
  refine lv_iconst (v := 0) hx hb dX4_append_0 (by decide) ?_
  refine lv_istore (lv' := [(4, .int 0), (0, .ref tO), (1, .int (nI an)), (2, .long cm)]) hx hb dX4_append_1 hl (by decide) rfl (fun ls hl => ?_)
  have L3 : ∀ (k3 : Nat) (i3 : Nat) (b3 : Nat → Int32) (z3 : Nat), k3 + i3 = an → (z3 + k3 ≤ 10) → f_X4_append_3 cm k3 i3 b3 z3 = R → ∀ (H : Heap) (locs : List Loc) (ls : Array Slot), va_P G.1 wcl [(tO, .inr (4, [.ref tA, .int (nI z3), .int tw, .int tk, .int tm, .int tf])), (tA, .inl (G.2.1, 10, .inl b3))] H → va_D A [(tO, .inr (4, [.ref tA, .int (nI z3), .int tw, .int tk, .int tm, .int tf])), (tA, .inl (G.2.1, 10, .inl b3))] → va_S A s.heap H locs → lv_has ls 5 [(0, .ref tO), (1, .int (nI an)), (2, .long cm), (4, .int (nI i3))] → W p l e ({ frames := 0, cells := 0, slots := 0, locals := 0 }) s m args below meth c H locs 0 0 Q (F0 m 3 ls []) := by
    intro k3
    induction k3 with
    | zero =>
      intro i3 b3 z3 hi3 hz3 hf _ _ ls hP hD hS hl
      rw [f_X4_append_3_z] at hf
      refine lv_iload hx hb dX4_append_3 (lv_at hl 3 rfl) ?_
      refine lv_iload_n hx hb dX4_append_5 rfl (lv_at hl 1 rfl) ?_
      refine lv_icmp_ge (tgt := 55) hx hb dX4_append_6 (by decide) (fun _ => ?_) (fun c => absurd (ile (a := an) (b := i3) rfl rfl (by omega) (by omega) (by omega)) c)
      exact hret (b3, z3) dX4_append_55 hf rfl hP hS
    | succ k3 ih3 =>
      intro i3 b3 z3 hi3 hz3 hf _ _ ls hP hD hS hl
      rw [f_X4_append_3_s] at hf
      refine lv_iload hx hb dX4_append_3 (lv_at hl 3 rfl) ?_
      refine lv_iload_n hx hb dX4_append_5 rfl (lv_at hl 1 rfl) ?_
      refine lv_icmp_ge (tgt := 55) hx hb dX4_append_6 (by decide) (fun c => absurd c (inle (a := an) (b := i3) rfl rfl (by omega) (by omega) (by omega))) (fun _ => ?_)
      refine lv_aload_n hx hb dX4_append_9 rfl (lv_at hl 0 rfl) ?_
      refine va_get (D := G.1) (ci := 4) (v := .int (nI z3)) (C := RX4) (T := TX4) (N := 6) hx hb (ku_X4 hK.2) (fun _ h9 => h9) hown hK.1 hP 0 rfl rfl 1 (by decide) (kw_160 hK.2) (fun _ h9 => h9) rfl dX4_append_10 ?_
      refine lv_bipush (v := 10) hx hb dX4_append_13 (by decide) ?_
      refine lv_icmp_ge (tgt := 55) hx hb dX4_append_15 (by decide) (fun c => absurd c (inle (a := 10) (b := z3) rfl rfl (by omega) (by omega) (by omega))) (fun _ => ?_)
      refine lv_aload_n hx hb dX4_append_18 rfl (lv_at hl 0 rfl) ?_
      refine va_get (D := G.1) (ci := 4) (v := .ref tA) (C := RX4) (T := TX4) (N := 6) hx hb (ku_X4 hK.2) (fun _ h9 => h9) hown hK.1 hP 0 rfl rfl 0 (by decide) (kw_159 hK.2) (fun _ h9 => h9) rfl dX4_append_19 ?_
      refine lv_aload_n hx hb dX4_append_22 rfl (lv_at hl 0 rfl) ?_
      refine va_get (D := G.1) (ci := 4) (v := .int (nI z3)) (C := RX4) (T := TX4) (N := 6) hx hb (ku_X4 hK.2) (fun _ h9 => h9) hown hK.1 hP 0 rfl rfl 1 (by decide) (kw_160 hK.2) (fun _ h9 => h9) rfl dX4_append_23 ?_
      refine lv_lload_n hx hb dX4_append_26 rfl (lv_at hl 2 rfl) ?_
      refine lv_bipush (v := 8) hx hb dX4_append_27 (by decide) ?_
      refine lv_iload hx hb dX4_append_29 (lv_at hl 3 rfl) ?_
      refine lv_imul hx hb dX4_append_31 ?_
      refine ww_e (nI_mulE (a := 8) (b := i3) rfl rfl) ?_
      refine lv_lushr (v := (cm.toUInt64 >>> ((nI (8 * i3) : Int32).toInt64.toUInt64 &&& Int64.toUInt64 63)).toInt64) hx hb dX4_append_32 rfl ?_
      refine lv_l2i (v := ((cm.toUInt64 >>> ((nI (8 * i3) : Int32).toInt64.toUInt64 &&& Int64.toUInt64 63)).toInt64).toInt32) hx hb dX4_append_33 rfl ?_
      refine lv_sipush (v := 255) hx hb dX4_append_34 (by decide) ?_
      refine lv_iand hx hb dX4_append_37 ?_
      refine ww_ist (j := z3) hx hb hK.1 hP hD hS 1 0 rfl rfl (by omega) (by omega) dX4_append_38 (fun H locs hP hD hS => ?_)
      have hP : va_P G.1 wcl [(tO, .inr (4, [.ref tA, .int (nI z3), .int tw, .int tk, .int tm, .int tf])), (tA, .inl (G.2.1, 10, .inl (upd b3 z3 ((((cm.toUInt64 >>> ((nI (8 * i3) : Int32).toInt64.toUInt64 &&& Int64.toUInt64 63)).toInt64).toInt32) &&& (255 : Int32)))))] H := hP
      have hD : va_D A [(tO, .inr (4, [.ref tA, .int (nI z3), .int tw, .int tk, .int tm, .int tf])), (tA, .inl (G.2.1, 10, .inl (upd b3 z3 ((((cm.toUInt64 >>> ((nI (8 * i3) : Int32).toInt64.toUInt64 &&& Int64.toUInt64 63)).toInt64).toInt32) &&& (255 : Int32)))))] := hD
      refine lv_aload_n hx hb dX4_append_39 rfl (lv_at hl 0 rfl) ?_
      refine lv_dup hx hb dX4_append_40 rfl ?_
      refine va_get (D := G.1) (ci := 4) (v := .int (nI z3)) (C := RX4) (T := TX4) (N := 6) hx hb (ku_X4 hK.2) (fun _ h9 => h9) hown hK.1 hP 0 rfl rfl 1 (by decide) (kw_160 hK.2) (fun _ h9 => h9) rfl dX4_append_41 ?_
      refine lv_iconst (v := 1) hx hb dX4_append_44 (by decide) ?_
      refine lv_iadd hx hb dX4_append_45 ?_
      refine ww_e (nI_addE (a := z3) (b := 1) rfl rfl) ?_
      refine va_put (D := G.1) (ci := 4) (v := .int (nI (z3 + 1))) (ty := .int) (C := RX4) (T := TX4) (N := 6) hx hb (ku_X4 hK.2) (fun _ h9 => h9) tyX4 tyX4_ok nmX4 hown hK.1 hP hD hS 0 rfl rfl 1 (by decide) (kw_160 hK.2) (fun _ h9 => h9) rfl (by decide +kernel) rfl rfl (Nat.le_of_ble_eq_true rfl) dX4_append_46 (fun H locs hP hD hS => ?_)
      have hP : va_P G.1 wcl [(tO, .inr (4, [.ref tA, .int (nI (z3 + 1)), .int tw, .int tk, .int tm, .int tf])), (tA, .inl (G.2.1, 10, .inl (upd b3 z3 ((((cm.toUInt64 >>> ((nI (8 * i3) : Int32).toInt64.toUInt64 &&& Int64.toUInt64 63)).toInt64).toInt32) &&& (255 : Int32)))))] H := hP
      have hD : va_D A [(tO, .inr (4, [.ref tA, .int (nI (z3 + 1)), .int tw, .int tk, .int tm, .int tf])), (tA, .inl (G.2.1, 10, .inl (upd b3 z3 ((((cm.toUInt64 >>> ((nI (8 * i3) : Int32).toInt64.toUInt64 &&& Int64.toUInt64 63)).toInt64).toInt32) &&& (255 : Int32)))))] := hD
      refine lv_iinc (v := nI (i3 + 1)) (lv' := [(4, .int (nI (i3 + 1))), (0, .ref tO), (1, .int (nI an)), (2, .long cm)]) hx hb dX4_append_49 hl (k := 3) rfl (nI_1 i3) (by decide) rfl (fun ls hl => ?_)
      refine lv_goto (tgt := 3) hx hb dX4_append_52 (by decide) ?_
      exact ih3 (i3 + 1) (upd b3 z3 ((((cm.toUInt64 >>> ((nI (8 * i3) : Int32).toInt64.toUInt64 &&& Int64.toUInt64 63)).toInt64).toInt32) &&& (255 : Int32))) (z3 + 1) (by omega) (by omega) hf _ _ ls hP hD hS (lv_sub hl [1, 2, 3, 0] rfl)
  exact L3 an 0 tb tz (by omega) (by omega) hf _ _ ls hP hD hS (lv_sub hl [1, 2, 3, 0] rfl)
def f_X4_readWords_13 (tz : Nat) (tw : Int32) (tk : Int32) (tb : Nat → Int32) : Nat → Nat → Int32 → Int32 → (Int32 × Int32 × Int32)
  | 0, i13, n13, f13 => (if tk = 4 then ((-1), n13, f13) else (if n13 = 0 then (nI tz, n13, f13) else ((-1), n13, f13)))
  | k13 + 1, i13, n13, f13 => (if tk = 4 then (nI i13, n13, f13) else (if (f_X4_letterAt tz tb i13) < 0 then (nI i13, n13, f13) else (if (f_X4_letterAt tz tb i13) = tw then (nI i13, n13, f13) else (if (f_X6_hasWord n13 (f_X4_letterAt tz tb i13)) = 0 then (if n13 = 0 then f_X4_readWords_13 tz tw tk tb k13 (i13 + 1) (n13 ||| ((1 : Int32) <<< ((f_X4_letterAt tz tb i13) &&& 31))) (f_X4_letterAt tz tb i13) else f_X4_readWords_13 tz tw tk tb k13 (i13 + 1) (n13 ||| ((1 : Int32) <<< ((f_X4_letterAt tz tb i13) &&& 31))) f13) else (nI i13, n13, f13)))))
theorem f_X4_readWords_13_z (tz : Nat) (tw : Int32) (tk : Int32) (tb : Nat → Int32) (i13 : Nat) (n13 : Int32) (f13 : Int32) : f_X4_readWords_13 tz tw tk tb 0 i13 n13 f13 = (if tk = 4 then ((-1), n13, f13) else (if n13 = 0 then (nI tz, n13, f13) else ((-1), n13, f13))) := rfl
theorem f_X4_readWords_13_s (tz : Nat) (tw : Int32) (tk : Int32) (tb : Nat → Int32) (k13 : Nat) (i13 : Nat) (n13 : Int32) (f13 : Int32) : f_X4_readWords_13 tz tw tk tb (k13 + 1) i13 n13 f13 = (if tk = 4 then (nI i13, n13, f13) else (if (f_X4_letterAt tz tb i13) < 0 then (nI i13, n13, f13) else (if (f_X4_letterAt tz tb i13) = tw then (nI i13, n13, f13) else (if (f_X6_hasWord n13 (f_X4_letterAt tz tb i13)) = 0 then (if n13 = 0 then f_X4_readWords_13 tz tw tk tb k13 (i13 + 1) (n13 ||| ((1 : Int32) <<< ((f_X4_letterAt tz tb i13) &&& 31))) (f_X4_letterAt tz tb i13) else f_X4_readWords_13 tz tw tk tb k13 (i13 + 1) (n13 ||| ((1 : Int32) <<< ((f_X4_letterAt tz tb i13) &&& 31))) f13) else (nI i13, n13, f13))))) := rfl
def f_X4_readWords (tz : Nat) (tw : Int32) (tk : Int32) (tb : Nat → Int32) : Int32 × Int32 × Int32 := (f_X4_readWords_13 tz tw tk tb (tz - 2) 2 0 (-9))
set_option maxHeartbeats 4000000 in
set_option maxRecDepth 100000 in
theorem k_X4_readWords (l : Launch) (G : wG) (tO : Nat) (tA : Nat) (tz : Nat) (tw : Int32) (tk : Int32) (tm : Int32) (tf : Int32) (tb : Nat → Int32) (htz : tz ≤ 10) (htl : 2 ≤ tz) : CT l G yX4_readWords cX4_readWords 3 (some .int) ({ frames := 2, cells := 0, slots := 0, locals := 42 }) [.ref tO] [(tO, .inr (4, [.ref tA, .int (nI tz), .int tw, .int tk, .int tm, .int tf])), (tA, .inl (G.2.1, 10, .inl tb))] (fun u => [(tO, .inr (4, [.ref tA, .int (nI tz), .int tw, .int tk, .int u.2.1, .int u.2.2])), (tA, .inl (G.2.1, 10, .inl tb))]) (fun u => some (.int u.1)) (f_X4_readWords tz tw tk tb) := by
  obtain ⟨R, hf⟩ : ∃ R, f_X4_readWords tz tw tk tb = R := ⟨_, rfl⟩
  rw [hf]
  refine CT.mkI RX4 (by decide +kernel) rfl (Nat.le_of_ble_eq_true rfl) ?_
  intro p e s m args below meth c A Q ls hx hb hml hown hK hP hD hS hA hret hl
  have hl : lv_has ls 3 [(0, .ref tO)] := hl
  rw [f_X4_readWords] at hf
  refine lv_aload_n hx hb dX4_readWords_0 rfl (lv_at hl 0 rfl) ?_
  refine lv_iconst (v := 0) hx hb dX4_readWords_1 (by decide) ?_
  refine va_put (D := G.1) (ci := 4) (v := .int 0) (ty := .int) (C := RX4) (T := TX4) (N := 6) hx hb (ku_X4 hK.2) (fun _ h9 => h9) tyX4 tyX4_ok nmX4 hown hK.1 hP hD hS 0 rfl rfl 4 (by decide) (kw_167 hK.2) (fun _ h9 => h9) rfl (by decide +kernel) rfl rfl (Nat.le_of_ble_eq_true rfl) dX4_readWords_2 (fun H locs hP hD hS => ?_)
  have hP : va_P G.1 wcl [(tO, .inr (4, [.ref tA, .int (nI tz), .int tw, .int tk, .int 0, .int tf])), (tA, .inl (G.2.1, 10, .inl tb))] H := hP
  have hD : va_D A [(tO, .inr (4, [.ref tA, .int (nI tz), .int tw, .int tk, .int 0, .int tf])), (tA, .inl (G.2.1, 10, .inl tb))] := hD
  refine lv_aload_n hx hb dX4_readWords_5 rfl (lv_at hl 0 rfl) ?_
  refine lv_bipush (v := -9) hx hb dX4_readWords_6 (by decide) ?_
  refine va_put (D := G.1) (ci := 4) (v := .int (-9)) (ty := .int) (C := RX4) (T := TX4) (N := 6) hx hb (ku_X4 hK.2) (fun _ h9 => h9) tyX4 tyX4_ok nmX4 hown hK.1 hP hD hS 0 rfl rfl 5 (by decide) (kw_169 hK.2) (fun _ h9 => h9) rfl (by decide +kernel) rfl rfl (Nat.le_of_ble_eq_true rfl) dX4_readWords_8 (fun H locs hP hD hS => ?_)
  have hP : va_P G.1 wcl [(tO, .inr (4, [.ref tA, .int (nI tz), .int tw, .int tk, .int 0, .int (-9)])), (tA, .inl (G.2.1, 10, .inl tb))] H := hP
  have hD : va_D A [(tO, .inr (4, [.ref tA, .int (nI tz), .int tw, .int tk, .int 0, .int (-9)])), (tA, .inl (G.2.1, 10, .inl tb))] := hD
  refine lv_iconst (v := 2) hx hb dX4_readWords_11 (by decide) ?_
  refine lv_istore_n (lv' := [(1, .int 2), (0, .ref tO)]) hx hb dX4_readWords_12 rfl hl (by decide) rfl (fun ls hl => ?_)
  have L13 : ∀ (k13 : Nat) (i13 : Nat) (n13 : Int32) (f13 : Int32), k13 + i13 = tz → f_X4_readWords_13 tz tw tk tb k13 i13 n13 f13 = R → ∀ (H : Heap) (locs : List Loc) (ls : Array Slot), va_P G.1 wcl [(tO, .inr (4, [.ref tA, .int (nI tz), .int tw, .int tk, .int n13, .int f13])), (tA, .inl (G.2.1, 10, .inl tb))] H → va_D A [(tO, .inr (4, [.ref tA, .int (nI tz), .int tw, .int tk, .int n13, .int f13])), (tA, .inl (G.2.1, 10, .inl tb))] → va_S A s.heap H locs → lv_has ls 3 [(0, .ref tO), (1, .int (nI i13))] → W p l e ({ frames := 2, cells := 0, slots := 0, locals := 42 }) s m args below meth c H locs 0 0 Q (F0 m 13 ls []) := by
    intro k13
    induction k13 with
    | zero =>
      intro i13 n13 f13 hi13  hf _ _ ls hP hD hS hl
      rw [f_X4_readWords_13_z] at hf
      refine lv_iload_n hx hb dX4_readWords_13 rfl (lv_at hl 1 rfl) ?_
      refine lv_aload_n hx hb dX4_readWords_14 rfl (lv_at hl 0 rfl) ?_
      refine va_get (D := G.1) (ci := 4) (v := .int (nI tz)) (C := RX4) (T := TX4) (N := 6) hx hb (ku_X4 hK.2) (fun _ h9 => h9) hown hK.1 hP 0 rfl rfl 1 (by decide) (kw_160 hK.2) (fun _ h9 => h9) rfl dX4_readWords_15 ?_
      refine lv_icmp_ge (tgt := 90) hx hb dX4_readWords_18 (by decide) (fun _ => ?_) (fun c => absurd (ile (a := tz) (b := i13) rfl rfl (by omega) (by omega) (by omega)) c)
      refine lv_aload_n hx hb dX4_readWords_90 rfl (lv_at hl 0 rfl) ?_
      refine va_get (D := G.1) (ci := 4) (v := .int tk) (C := RX4) (T := TX4) (N := 6) hx hb (ku_X4 hK.2) (fun _ h9 => h9) hown hK.1 hP 0 rfl rfl 3 (by decide) (kw_165 hK.2) (fun _ h9 => h9) rfl dX4_readWords_91 ?_
      refine lv_iconst (v := 4) hx hb dX4_readWords_94 (by decide) ?_
      refine lv_icmp_eq (tgt := 112) hx hb dX4_readWords_95 (by decide) (fun c1 => ?_) (fun c1 => ?_)
      · have hf := (if_pos c1).symm.trans hf
        refine lv_iconst (v := -1) hx hb dX4_readWords_112 (by decide) ?_
        exact hret ((-1), n13, f13) dX4_readWords_113 rfl hf rfl hP hS
      · have hf := (if_neg c1).symm.trans hf
        refine lv_aload_n hx hb dX4_readWords_98 rfl (lv_at hl 0 rfl) ?_
        refine va_get (D := G.1) (ci := 4) (v := .int n13) (C := RX4) (T := TX4) (N := 6) hx hb (ku_X4 hK.2) (fun _ h9 => h9) hown hK.1 hP 0 rfl rfl 4 (by decide) (kw_167 hK.2) (fun _ h9 => h9) rfl dX4_readWords_99 ?_
        refine lv_if_ne (tgt := 112) hx hb dX4_readWords_102 (by decide) (fun c2 => ?_) (fun c2 => ?_)
        · have hf := (if_neg c2).symm.trans hf
          refine lv_iconst (v := -1) hx hb dX4_readWords_112 (by decide) ?_
          exact hret ((-1), n13, f13) dX4_readWords_113 rfl hf rfl hP hS
        · have hf := (if_pos c2).symm.trans hf
          refine lv_aload_n hx hb dX4_readWords_105 rfl (lv_at hl 0 rfl) ?_
          refine va_get (D := G.1) (ci := 4) (v := .int (nI tz)) (C := RX4) (T := TX4) (N := 6) hx hb (ku_X4 hK.2) (fun _ h9 => h9) hown hK.1 hP 0 rfl rfl 1 (by decide) (kw_160 hK.2) (fun _ h9 => h9) rfl dX4_readWords_106 ?_
          refine lv_goto (tgt := 113) hx hb dX4_readWords_109 (by decide) ?_
          exact hret (nI tz, n13, f13) dX4_readWords_113 rfl hf rfl hP hS
    | succ k13 ih13 =>
      intro i13 n13 f13 hi13  hf _ _ ls hP hD hS hl
      rw [f_X4_readWords_13_s] at hf
      refine lv_iload_n hx hb dX4_readWords_13 rfl (lv_at hl 1 rfl) ?_
      refine lv_aload_n hx hb dX4_readWords_14 rfl (lv_at hl 0 rfl) ?_
      refine va_get (D := G.1) (ci := 4) (v := .int (nI tz)) (C := RX4) (T := TX4) (N := 6) hx hb (ku_X4 hK.2) (fun _ h9 => h9) hown hK.1 hP 0 rfl rfl 1 (by decide) (kw_160 hK.2) (fun _ h9 => h9) rfl dX4_readWords_15 ?_
      refine lv_icmp_ge (tgt := 90) hx hb dX4_readWords_18 (by decide) (fun c => absurd c (inle (a := tz) (b := i13) rfl rfl (by omega) (by omega) (by omega))) (fun _ => ?_)
      refine lv_aload_n hx hb dX4_readWords_21 rfl (lv_at hl 0 rfl) ?_
      refine lv_iload_n hx hb dX4_readWords_22 rfl (lv_at hl 1 rfl) ?_
      refine cl_V (q := (RX4, TX4, 6)) (ws' := [(tO, .inr (4, [.ref tA, .int (nI tz), .int tw, .int tk, .int n13, .int f13])), (tA, .inl (G.2.1, 10, .inl tb))]) (v := (some (.int (f_X4_letterAt tz tb i13)))) (st1 := [.int (f_X4_letterAt tz tb i13)]) (rest := []) (As := [.int (nI i13)]) [0, 1] 0 4 hx hb hml hown hK (k_X4_letterAt l G tO tA tz tw tk n13 f13 tb i13 htz (by omega)) (mf_X4_letterAt hK.2) (kw_284 hK.2) (kw_1 hK.2) (kw_282 hK.2) ⟨rfl, rfl, Nat.le_of_ble_eq_true rfl, Nat.le_of_ble_eq_true rfl⟩ rfl hP hD hS hA rfl rfl hl (Nat.le_of_ble_eq_true rfl) rfl ⟨Nat.le_of_ble_eq_true rfl, Nat.le_of_ble_eq_true rfl⟩ rfl dX4_readWords_23 rfl rfl (rpl_fast (by decide) rfl rfl) rfl rfl rfl (fun H locs hP hD hS => ?_)
      refine lv_istore_n (lv' := [(2, .int (f_X4_letterAt tz tb i13)), (0, .ref tO), (1, .int (nI i13))]) hx hb dX4_readWords_26 rfl hl (by decide) rfl (fun ls hl => ?_)
      refine lv_aload_n hx hb dX4_readWords_27 rfl (lv_at hl 1 rfl) ?_
      refine va_get (D := G.1) (ci := 4) (v := .int tk) (C := RX4) (T := TX4) (N := 6) hx hb (ku_X4 hK.2) (fun _ h9 => h9) hown hK.1 hP 0 rfl rfl 3 (by decide) (kw_165 hK.2) (fun _ h9 => h9) rfl dX4_readWords_28 ?_
      refine lv_iconst (v := 4) hx hb dX4_readWords_31 (by decide) ?_
      refine lv_icmp_eq (tgt := 58) hx hb dX4_readWords_32 (by decide) (fun c3 => ?_) (fun c3 => ?_)
      · have hf := (if_pos c3).symm.trans hf
        refine lv_iload_n hx hb dX4_readWords_58 rfl (lv_at hl 2 rfl) ?_
        exact hret (nI i13, n13, f13) dX4_readWords_59 rfl hf rfl hP hS
      · have hf := (if_neg c3).symm.trans hf
        refine lv_iload_n hx hb dX4_readWords_35 rfl (lv_at hl 0 rfl) ?_
        refine lv_if_lt (tgt := 58) hx hb dX4_readWords_36 (by decide) (fun c4 => ?_) (fun c4 => ?_)
        · have hf := (if_pos c4).symm.trans hf
          refine lv_iload_n hx hb dX4_readWords_58 rfl (lv_at hl 2 rfl) ?_
          exact hret (nI i13, n13, f13) dX4_readWords_59 rfl hf rfl hP hS
        · have hf := (if_neg c4).symm.trans hf
          refine lv_iload_n hx hb dX4_readWords_39 rfl (lv_at hl 0 rfl) ?_
          refine lv_aload_n hx hb dX4_readWords_40 rfl (lv_at hl 1 rfl) ?_
          refine va_get (D := G.1) (ci := 4) (v := .int tw) (C := RX4) (T := TX4) (N := 6) hx hb (ku_X4 hK.2) (fun _ h9 => h9) hown hK.1 hP 0 rfl rfl 2 (by decide) (kw_162 hK.2) (fun _ h9 => h9) rfl dX4_readWords_41 ?_
          refine lv_icmp_eq (tgt := 58) hx hb dX4_readWords_44 (by decide) (fun c5 => ?_) (fun c5 => ?_)
          · have hf := (if_pos c5).symm.trans hf
            refine lv_iload_n hx hb dX4_readWords_58 rfl (lv_at hl 2 rfl) ?_
            exact hret (nI i13, n13, f13) dX4_readWords_59 rfl hf rfl hP hS
          · have hf := (if_neg c5).symm.trans hf
            refine lv_aload_n hx hb dX4_readWords_47 rfl (lv_at hl 1 rfl) ?_
            refine va_get (D := G.1) (ci := 4) (v := .int n13) (C := RX4) (T := TX4) (N := 6) hx hb (ku_X4 hK.2) (fun _ h9 => h9) hown hK.1 hP 0 rfl rfl 4 (by decide) (kw_167 hK.2) (fun _ h9 => h9) rfl dX4_readWords_48 ?_
            refine lv_iload_n hx hb dX4_readWords_51 rfl (lv_at hl 0 rfl) ?_
            refine cl_SN (ws' := [(tO, .inr (4, [.ref tA, .int (nI tz), .int tw, .int tk, .int n13, .int f13])), (tA, .inl (G.2.1, 10, .inl tb))]) (v := (some (.int (f_X6_hasWord n13 (f_X4_letterAt tz tb i13))))) (st1 := [.int (f_X6_hasWord n13 (f_X4_letterAt tz tb i13))]) (rest := []) (As := [.int n13, .int (f_X4_letterAt tz tb i13)]) [] hx hb hml hown hK (k_X6_hasWord l G n13 (f_X4_letterAt tz tb i13) ) (mf_X6_hasWord hK.2) (kw_379 hK.2) (kw_378 hK.2) ⟨rfl, rfl, Nat.le_of_ble_eq_true rfl, Nat.le_of_ble_eq_true rfl⟩ rfl hP hD hS hA hl (Nat.le_of_ble_eq_true rfl) rfl ⟨Nat.le_of_ble_eq_true rfl, Nat.le_of_ble_eq_true rfl⟩ rfl dX4_readWords_52 rfl rfl rfl rfl rfl rfl (fun H locs hP hD hS => ?_)
            refine lv_if_eq (tgt := 60) hx hb dX4_readWords_55 (by decide) (fun c6 => ?_) (fun c6 => ?_)
            · have hf := (if_pos c6).symm.trans hf
              refine lv_aload_n hx hb dX4_readWords_60 rfl (lv_at hl 1 rfl) ?_
              refine va_get (D := G.1) (ci := 4) (v := .int n13) (C := RX4) (T := TX4) (N := 6) hx hb (ku_X4 hK.2) (fun _ h9 => h9) hown hK.1 hP 0 rfl rfl 4 (by decide) (kw_167 hK.2) (fun _ h9 => h9) rfl dX4_readWords_61 ?_
              refine lv_if_ne (tgt := 72) hx hb dX4_readWords_64 (by decide) (fun c7 => ?_) (fun c7 => ?_)
              · have hf := (if_neg c7).symm.trans hf
                refine lv_aload_n hx hb dX4_readWords_72 rfl (lv_at hl 1 rfl) ?_
                refine lv_dup hx hb dX4_readWords_73 rfl ?_
                refine va_get (D := G.1) (ci := 4) (v := .int n13) (C := RX4) (T := TX4) (N := 6) hx hb (ku_X4 hK.2) (fun _ h9 => h9) hown hK.1 hP 0 rfl rfl 4 (by decide) (kw_167 hK.2) (fun _ h9 => h9) rfl dX4_readWords_74 ?_
                refine lv_iconst (v := 1) hx hb dX4_readWords_77 (by decide) ?_
                refine lv_iload_n hx hb dX4_readWords_78 rfl (lv_at hl 0 rfl) ?_
                refine lv_ishl hx hb dX4_readWords_79 ?_
                refine lv_ior hx hb dX4_readWords_80 ?_
                refine va_put (D := G.1) (ci := 4) (v := .int (n13 ||| ((1 : Int32) <<< ((f_X4_letterAt tz tb i13) &&& 31)))) (ty := .int) (C := RX4) (T := TX4) (N := 6) hx hb (ku_X4 hK.2) (fun _ h9 => h9) tyX4 tyX4_ok nmX4 hown hK.1 hP hD hS 0 rfl rfl 4 (by decide) (kw_167 hK.2) (fun _ h9 => h9) rfl (by decide +kernel) rfl rfl (Nat.le_of_ble_eq_true rfl) dX4_readWords_81 (fun H locs hP hD hS => ?_)
                have hP : va_P G.1 wcl [(tO, .inr (4, [.ref tA, .int (nI tz), .int tw, .int tk, .int (n13 ||| ((1 : Int32) <<< ((f_X4_letterAt tz tb i13) &&& 31))), .int f13])), (tA, .inl (G.2.1, 10, .inl tb))] H := hP
                have hD : va_D A [(tO, .inr (4, [.ref tA, .int (nI tz), .int tw, .int tk, .int (n13 ||| ((1 : Int32) <<< ((f_X4_letterAt tz tb i13) &&& 31))), .int f13])), (tA, .inl (G.2.1, 10, .inl tb))] := hD
                refine lv_iinc (v := nI (i13 + 1)) (lv' := [(1, .int (nI (i13 + 1))), (2, .int (f_X4_letterAt tz tb i13)), (0, .ref tO)]) hx hb dX4_readWords_84 hl (k := 2) rfl (nI_1 i13) (by decide) rfl (fun ls hl => ?_)
                refine lv_goto (tgt := 13) hx hb dX4_readWords_87 (by decide) ?_
                exact ih13 (i13 + 1) (n13 ||| ((1 : Int32) <<< ((f_X4_letterAt tz tb i13) &&& 31))) f13 (by omega)  hf _ _ ls hP hD hS (lv_sub hl [2, 0] rfl)
              · have hf := (if_pos c7).symm.trans hf
                refine lv_aload_n hx hb dX4_readWords_67 rfl (lv_at hl 1 rfl) ?_
                refine lv_iload_n hx hb dX4_readWords_68 rfl (lv_at hl 0 rfl) ?_
                refine va_put (D := G.1) (ci := 4) (v := .int (f_X4_letterAt tz tb i13)) (ty := .int) (C := RX4) (T := TX4) (N := 6) hx hb (ku_X4 hK.2) (fun _ h9 => h9) tyX4 tyX4_ok nmX4 hown hK.1 hP hD hS 0 rfl rfl 5 (by decide) (kw_169 hK.2) (fun _ h9 => h9) rfl (by decide +kernel) rfl rfl (Nat.le_of_ble_eq_true rfl) dX4_readWords_69 (fun H locs hP hD hS => ?_)
                have hP : va_P G.1 wcl [(tO, .inr (4, [.ref tA, .int (nI tz), .int tw, .int tk, .int n13, .int (f_X4_letterAt tz tb i13)])), (tA, .inl (G.2.1, 10, .inl tb))] H := hP
                have hD : va_D A [(tO, .inr (4, [.ref tA, .int (nI tz), .int tw, .int tk, .int n13, .int (f_X4_letterAt tz tb i13)])), (tA, .inl (G.2.1, 10, .inl tb))] := hD
                refine lv_aload_n hx hb dX4_readWords_72 rfl (lv_at hl 1 rfl) ?_
                refine lv_dup hx hb dX4_readWords_73 rfl ?_
                refine va_get (D := G.1) (ci := 4) (v := .int n13) (C := RX4) (T := TX4) (N := 6) hx hb (ku_X4 hK.2) (fun _ h9 => h9) hown hK.1 hP 0 rfl rfl 4 (by decide) (kw_167 hK.2) (fun _ h9 => h9) rfl dX4_readWords_74 ?_
                refine lv_iconst (v := 1) hx hb dX4_readWords_77 (by decide) ?_
                refine lv_iload_n hx hb dX4_readWords_78 rfl (lv_at hl 0 rfl) ?_
                refine lv_ishl hx hb dX4_readWords_79 ?_
                refine lv_ior hx hb dX4_readWords_80 ?_
                refine va_put (D := G.1) (ci := 4) (v := .int (n13 ||| ((1 : Int32) <<< ((f_X4_letterAt tz tb i13) &&& 31)))) (ty := .int) (C := RX4) (T := TX4) (N := 6) hx hb (ku_X4 hK.2) (fun _ h9 => h9) tyX4 tyX4_ok nmX4 hown hK.1 hP hD hS 0 rfl rfl 4 (by decide) (kw_167 hK.2) (fun _ h9 => h9) rfl (by decide +kernel) rfl rfl (Nat.le_of_ble_eq_true rfl) dX4_readWords_81 (fun H locs hP hD hS => ?_)
                have hP : va_P G.1 wcl [(tO, .inr (4, [.ref tA, .int (nI tz), .int tw, .int tk, .int (n13 ||| ((1 : Int32) <<< ((f_X4_letterAt tz tb i13) &&& 31))), .int (f_X4_letterAt tz tb i13)])), (tA, .inl (G.2.1, 10, .inl tb))] H := hP
                have hD : va_D A [(tO, .inr (4, [.ref tA, .int (nI tz), .int tw, .int tk, .int (n13 ||| ((1 : Int32) <<< ((f_X4_letterAt tz tb i13) &&& 31))), .int (f_X4_letterAt tz tb i13)])), (tA, .inl (G.2.1, 10, .inl tb))] := hD
                refine lv_iinc (v := nI (i13 + 1)) (lv' := [(1, .int (nI (i13 + 1))), (2, .int (f_X4_letterAt tz tb i13)), (0, .ref tO)]) hx hb dX4_readWords_84 hl (k := 2) rfl (nI_1 i13) (by decide) rfl (fun ls hl => ?_)
                refine lv_goto (tgt := 13) hx hb dX4_readWords_87 (by decide) ?_
                exact ih13 (i13 + 1) (n13 ||| ((1 : Int32) <<< ((f_X4_letterAt tz tb i13) &&& 31))) (f_X4_letterAt tz tb i13) (by omega)  hf _ _ ls hP hD hS (lv_sub hl [2, 0] rfl)
            · have hf := (if_neg c6).symm.trans hf
              refine lv_iload_n hx hb dX4_readWords_58 rfl (lv_at hl 2 rfl) ?_
              exact hret (nI i13, n13, f13) dX4_readWords_59 rfl hf rfl hP hS
  exact L13 (tz - 2) 2 0 (-9) (by omega)  hf _ _ ls hP hD hS (lv_sub hl [1, 0] rfl)
def f_X1_add (cn : Nat) (cw : Nat → Int32) (ck : Nat → Int32) (cm : Nat → Int32) (cf : Nat → Int32) (cu : Nat → Int32) (cv : Nat → Int32) (tw : Int32) (tk : Int32) (tm : Int32) (tf : Int32) (bo : Int32) (nu : Int32) : Int32 × (Nat → Int32) × (Nat → Int32) × (Nat → Int32) × (Nat → Int32) × Nat × (Nat → Int32) × (Nat → Int32) := (if ((f_X5_add cn cw ck cm cf tw tk tm tf).1) < 0 then ((f_X5_add cn cw ck cm cf tw tk tm tf).1, (f_X5_add cn cw ck cm cf tw tk tm tf).2.1, (f_X5_add cn cw ck cm cf tw tk tm tf).2.2.1, (f_X5_add cn cw ck cm cf tw tk tm tf).2.2.2.1, (f_X5_add cn cw ck cm cf tw tk tm tf).2.2.2.2.1, (f_X5_add cn cw ck cm cf tw tk tm tf).2.2.2.2.2, cu, cv) else (if (4 : Int32) ≤ ((f_X5_add cn cw ck cm cf tw tk tm tf).1) then ((f_X5_add cn cw ck cm cf tw tk tm tf).1, (f_X5_add cn cw ck cm cf tw tk tm tf).2.1, (f_X5_add cn cw ck cm cf tw tk tm tf).2.2.1, (f_X5_add cn cw ck cm cf tw tk tm tf).2.2.2.1, (f_X5_add cn cw ck cm cf tw tk tm tf).2.2.2.2.1, (f_X5_add cn cw ck cm cf tw tk tm tf).2.2.2.2.2, cu, cv) else ((f_X5_add cn cw ck cm cf tw tk tm tf).1, (f_X5_add cn cw ck cm cf tw tk tm tf).2.1, (f_X5_add cn cw ck cm cf tw tk tm tf).2.2.1, (f_X5_add cn cw ck cm cf tw tk tm tf).2.2.2.1, (f_X5_add cn cw ck cm cf tw tk tm tf).2.2.2.2.1, (f_X5_add cn cw ck cm cf tw tk tm tf).2.2.2.2.2, upd cu ((f_X5_add cn cw ck cm cf tw tk tm tf).1).toNatClampNeg bo, upd cv ((f_X5_add cn cw ck cm cf tw tk tm tf).1).toNatClampNeg nu)))
set_option maxHeartbeats 4000000 in
set_option maxRecDepth 100000 in
theorem k_X1_add (l : Launch) (G : wG) (cC : Nat) (co : Nat) (ca : Nat) (cb : Nat) (cc : Nat) (cd : Nat) (cn : Nat) (cw : Nat → Int32) (ck : Nat → Int32) (cm : Nat → Int32) (cf : Nat → Int32) (cU : Nat) (cV : Nat) (cu : Nat → Int32) (cv : Nat → Int32) (tO : Nat) (tA : Nat) (tz : Nat) (tw : Int32) (tk : Int32) (tm : Int32) (tf : Int32) (tb : Nat → Int32) (bo : Int32) (nu : Int32) (hcn : cn < 4) (htz : tz ≤ 10) : CT l G yX1_add cX1_add 5 (some .int) ({ frames := 2, cells := 0, slots := 0, locals := 41 }) [.ref cC, .int bo, .int nu, .ref tO] [(cC, .inr (1, [.ref co, .ref cU, .ref cV])), (co, .inr (5, [.ref ca, .ref cb, .ref cc, .ref cd, .int (nI cn)])), (ca, .inl (G.2.1, 4, .inl cw)), (cb, .inl (G.2.1, 4, .inl ck)), (cc, .inl (G.2.1, 4, .inl cm)), (cd, .inl (G.2.1, 4, .inl cf)), (cU, .inl (G.2.1, 4, .inl cu)), (cV, .inl (G.2.1, 4, .inl cv)), (tO, .inr (4, [.ref tA, .int (nI tz), .int tw, .int tk, .int tm, .int tf])), (tA, .inl (G.2.1, 10, .inl tb))] (fun u => [(cC, .inr (1, [.ref co, .ref cU, .ref cV])), (co, .inr (5, [.ref ca, .ref cb, .ref cc, .ref cd, .int (nI u.2.2.2.2.2.1)])), (ca, .inl (G.2.1, 4, .inl u.2.1)), (cb, .inl (G.2.1, 4, .inl u.2.2.1)), (cc, .inl (G.2.1, 4, .inl u.2.2.2.1)), (cd, .inl (G.2.1, 4, .inl u.2.2.2.2.1)), (cU, .inl (G.2.1, 4, .inl u.2.2.2.2.2.2.1)), (cV, .inl (G.2.1, 4, .inl u.2.2.2.2.2.2.2)), (tO, .inr (4, [.ref tA, .int (nI tz), .int tw, .int tk, .int tm, .int tf])), (tA, .inl (G.2.1, 10, .inl tb))]) (fun u => some (.int u.1)) (f_X1_add cn cw ck cm cf cu cv tw tk tm tf bo nu) := by
  obtain ⟨R, hf⟩ : ∃ R, f_X1_add cn cw ck cm cf cu cv tw tk tm tf bo nu = R := ⟨_, rfl⟩
  rw [hf]
  refine CT.mkI RX1 (by decide +kernel) rfl (Nat.le_of_ble_eq_true rfl) ?_
  intro p e s m args below meth c A Q ls hx hb hml hown hK hP hD hS hA hret hl
  have hl : lv_has ls 5 [(0, .ref cC), (1, .int bo), (2, .int nu), (3, .ref tO)] := hl
  rw [f_X1_add] at hf
  refine lv_aload_n hx hb dX1_add_0 rfl (lv_at hl 0 rfl) ?_
  refine va_get (D := G.1) (ci := 1) (v := .ref co) (C := RX1) (T := TX1) (N := 3) hx hb (ku_X1 hK.2) (fun _ h9 => h9) hown hK.1 hP 0 rfl rfl 0 (by decide) (kw_131 hK.2) (fun _ h9 => h9) rfl dX1_add_1 ?_
  refine lv_aload_n hx hb dX1_add_4 rfl (lv_at hl 3 rfl) ?_
  refine cl_V (q := (RX5, TX5, 5)) (ws' := [(cC, .inr (1, [.ref co, .ref cU, .ref cV])), (co, .inr (5, [.ref ca, .ref cb, .ref cc, .ref cd, .int (nI ((f_X5_add cn cw ck cm cf tw tk tm tf).2.2.2.2.2))])), (ca, .inl (G.2.1, 4, .inl ((f_X5_add cn cw ck cm cf tw tk tm tf).2.1))), (cb, .inl (G.2.1, 4, .inl ((f_X5_add cn cw ck cm cf tw tk tm tf).2.2.1))), (cc, .inl (G.2.1, 4, .inl ((f_X5_add cn cw ck cm cf tw tk tm tf).2.2.2.1))), (cd, .inl (G.2.1, 4, .inl ((f_X5_add cn cw ck cm cf tw tk tm tf).2.2.2.2.1))), (cU, .inl (G.2.1, 4, .inl cu)), (cV, .inl (G.2.1, 4, .inl cv)), (tO, .inr (4, [.ref tA, .int (nI tz), .int tw, .int tk, .int tm, .int tf])), (tA, .inl (G.2.1, 10, .inl tb))]) (v := (some (.int ((f_X5_add cn cw ck cm cf tw tk tm tf).1)))) (st1 := [.int ((f_X5_add cn cw ck cm cf tw tk tm tf).1)]) (rest := []) (As := [.ref tO]) [1, 2, 3, 4, 5, 8, 9] 1 5 hx hb hml hown hK (k_X5_add l G co ca cb cc cd 4 cn cw ck cm cf tO tA tz tw tk tm tf tb (by omega) (by omega) (by omega)) (mf_X5_add hK.2) (kw_386 hK.2) (kw_387 hK.2) (kw_577 hK.2) ⟨rfl, rfl, Nat.le_of_ble_eq_true rfl, Nat.le_of_ble_eq_true rfl⟩ rfl hP hD hS hA rfl rfl hl (Nat.le_of_ble_eq_true rfl) rfl ⟨Nat.le_of_ble_eq_true rfl, Nat.le_of_ble_eq_true rfl⟩ rfl dX1_add_5 rfl rfl (rpl_fast (by decide) rfl rfl) rfl rfl rfl (fun H locs hP hD hS => ?_)
  refine lv_istore (lv' := [(4, .int ((f_X5_add cn cw ck cm cf tw tk tm tf).1)), (0, .ref cC), (1, .int bo), (2, .int nu), (3, .ref tO)]) hx hb dX1_add_8 hl (by decide) rfl (fun ls hl => ?_)
  refine lv_iload hx hb dX1_add_10 (lv_at hl 0 rfl) ?_
  refine lv_if_lt (tgt := 37) hx hb dX1_add_12 (by decide) (fun c1 => ?_) (fun c1 => ?_)
  · have hf := (if_pos c1).symm.trans hf
    refine lv_iload hx hb dX1_add_37 (lv_at hl 0 rfl) ?_
    exact hret ((f_X5_add cn cw ck cm cf tw tk tm tf).1, (f_X5_add cn cw ck cm cf tw tk tm tf).2.1, (f_X5_add cn cw ck cm cf tw tk tm tf).2.2.1, (f_X5_add cn cw ck cm cf tw tk tm tf).2.2.2.1, (f_X5_add cn cw ck cm cf tw tk tm tf).2.2.2.2.1, (f_X5_add cn cw ck cm cf tw tk tm tf).2.2.2.2.2, cu, cv) dX1_add_39 rfl hf rfl hP hS
  · have hf := (if_neg c1).symm.trans hf
    refine lv_iload hx hb dX1_add_15 (lv_at hl 0 rfl) ?_
    refine lv_iconst (v := 4) hx hb dX1_add_17 (by decide) ?_
    refine lv_icmp_ge (tgt := 37) hx hb dX1_add_18 (by decide) (fun c2 => ?_) (fun c2 => ?_)
    · have hf := (if_pos c2).symm.trans hf
      refine lv_iload hx hb dX1_add_37 (lv_at hl 0 rfl) ?_
      exact hret ((f_X5_add cn cw ck cm cf tw tk tm tf).1, (f_X5_add cn cw ck cm cf tw tk tm tf).2.1, (f_X5_add cn cw ck cm cf tw tk tm tf).2.2.1, (f_X5_add cn cw ck cm cf tw tk tm tf).2.2.2.1, (f_X5_add cn cw ck cm cf tw tk tm tf).2.2.2.2.1, (f_X5_add cn cw ck cm cf tw tk tm tf).2.2.2.2.2, cu, cv) dX1_add_39 rfl hf rfl hP hS
    · have hf := (if_neg c2).symm.trans hf
      refine lv_aload_n hx hb dX1_add_21 rfl (lv_at hl 1 rfl) ?_
      refine va_get (D := G.1) (ci := 1) (v := .ref cU) (C := RX1) (T := TX1) (N := 3) hx hb (ku_X1 hK.2) (fun _ h9 => h9) hown hK.1 hP 0 rfl rfl 1 (by decide) (kw_133 hK.2) (fun _ h9 => h9) rfl dX1_add_22 ?_
      refine lv_iload hx hb dX1_add_25 (lv_at hl 0 rfl) ?_
      refine lv_iload_n hx hb dX1_add_27 rfl (lv_at hl 2 rfl) ?_
      refine va_iast hx hb hK.1 hP hD hS 6 0 rfl rfl (vp_in_c4 (by assumption) (by assumption)) dX1_add_28 (fun H locs hP hD hS => ?_)
      have hP : va_P G.1 wcl [(cC, .inr (1, [.ref co, .ref cU, .ref cV])), (co, .inr (5, [.ref ca, .ref cb, .ref cc, .ref cd, .int (nI ((f_X5_add cn cw ck cm cf tw tk tm tf).2.2.2.2.2))])), (ca, .inl (G.2.1, 4, .inl ((f_X5_add cn cw ck cm cf tw tk tm tf).2.1))), (cb, .inl (G.2.1, 4, .inl ((f_X5_add cn cw ck cm cf tw tk tm tf).2.2.1))), (cc, .inl (G.2.1, 4, .inl ((f_X5_add cn cw ck cm cf tw tk tm tf).2.2.2.1))), (cd, .inl (G.2.1, 4, .inl ((f_X5_add cn cw ck cm cf tw tk tm tf).2.2.2.2.1))), (cU, .inl (G.2.1, 4, .inl (upd cu ((f_X5_add cn cw ck cm cf tw tk tm tf).1).toNatClampNeg bo))), (cV, .inl (G.2.1, 4, .inl cv)), (tO, .inr (4, [.ref tA, .int (nI tz), .int tw, .int tk, .int tm, .int tf])), (tA, .inl (G.2.1, 10, .inl tb))] H := hP
      have hD : va_D A [(cC, .inr (1, [.ref co, .ref cU, .ref cV])), (co, .inr (5, [.ref ca, .ref cb, .ref cc, .ref cd, .int (nI ((f_X5_add cn cw ck cm cf tw tk tm tf).2.2.2.2.2))])), (ca, .inl (G.2.1, 4, .inl ((f_X5_add cn cw ck cm cf tw tk tm tf).2.1))), (cb, .inl (G.2.1, 4, .inl ((f_X5_add cn cw ck cm cf tw tk tm tf).2.2.1))), (cc, .inl (G.2.1, 4, .inl ((f_X5_add cn cw ck cm cf tw tk tm tf).2.2.2.1))), (cd, .inl (G.2.1, 4, .inl ((f_X5_add cn cw ck cm cf tw tk tm tf).2.2.2.2.1))), (cU, .inl (G.2.1, 4, .inl (upd cu ((f_X5_add cn cw ck cm cf tw tk tm tf).1).toNatClampNeg bo))), (cV, .inl (G.2.1, 4, .inl cv)), (tO, .inr (4, [.ref tA, .int (nI tz), .int tw, .int tk, .int tm, .int tf])), (tA, .inl (G.2.1, 10, .inl tb))] := hD
      refine lv_aload_n hx hb dX1_add_29 rfl (lv_at hl 1 rfl) ?_
      refine va_get (D := G.1) (ci := 1) (v := .ref cV) (C := RX1) (T := TX1) (N := 3) hx hb (ku_X1 hK.2) (fun _ h9 => h9) hown hK.1 hP 0 rfl rfl 2 (by decide) (kw_134 hK.2) (fun _ h9 => h9) rfl dX1_add_30 ?_
      refine lv_iload hx hb dX1_add_33 (lv_at hl 0 rfl) ?_
      refine lv_iload_n hx hb dX1_add_35 rfl (lv_at hl 3 rfl) ?_
      refine va_iast hx hb hK.1 hP hD hS 7 0 rfl rfl (vp_in_c4 (by assumption) (by assumption)) dX1_add_36 (fun H locs hP hD hS => ?_)
      have hP : va_P G.1 wcl [(cC, .inr (1, [.ref co, .ref cU, .ref cV])), (co, .inr (5, [.ref ca, .ref cb, .ref cc, .ref cd, .int (nI ((f_X5_add cn cw ck cm cf tw tk tm tf).2.2.2.2.2))])), (ca, .inl (G.2.1, 4, .inl ((f_X5_add cn cw ck cm cf tw tk tm tf).2.1))), (cb, .inl (G.2.1, 4, .inl ((f_X5_add cn cw ck cm cf tw tk tm tf).2.2.1))), (cc, .inl (G.2.1, 4, .inl ((f_X5_add cn cw ck cm cf tw tk tm tf).2.2.2.1))), (cd, .inl (G.2.1, 4, .inl ((f_X5_add cn cw ck cm cf tw tk tm tf).2.2.2.2.1))), (cU, .inl (G.2.1, 4, .inl (upd cu ((f_X5_add cn cw ck cm cf tw tk tm tf).1).toNatClampNeg bo))), (cV, .inl (G.2.1, 4, .inl (upd cv ((f_X5_add cn cw ck cm cf tw tk tm tf).1).toNatClampNeg nu))), (tO, .inr (4, [.ref tA, .int (nI tz), .int tw, .int tk, .int tm, .int tf])), (tA, .inl (G.2.1, 10, .inl tb))] H := hP
      have hD : va_D A [(cC, .inr (1, [.ref co, .ref cU, .ref cV])), (co, .inr (5, [.ref ca, .ref cb, .ref cc, .ref cd, .int (nI ((f_X5_add cn cw ck cm cf tw tk tm tf).2.2.2.2.2))])), (ca, .inl (G.2.1, 4, .inl ((f_X5_add cn cw ck cm cf tw tk tm tf).2.1))), (cb, .inl (G.2.1, 4, .inl ((f_X5_add cn cw ck cm cf tw tk tm tf).2.2.1))), (cc, .inl (G.2.1, 4, .inl ((f_X5_add cn cw ck cm cf tw tk tm tf).2.2.2.1))), (cd, .inl (G.2.1, 4, .inl ((f_X5_add cn cw ck cm cf tw tk tm tf).2.2.2.2.1))), (cU, .inl (G.2.1, 4, .inl (upd cu ((f_X5_add cn cw ck cm cf tw tk tm tf).1).toNatClampNeg bo))), (cV, .inl (G.2.1, 4, .inl (upd cv ((f_X5_add cn cw ck cm cf tw tk tm tf).1).toNatClampNeg nu))), (tO, .inr (4, [.ref tA, .int (nI tz), .int tw, .int tk, .int tm, .int tf])), (tA, .inl (G.2.1, 10, .inl tb))] := hD
      refine lv_iload hx hb dX1_add_37 (lv_at hl 0 rfl) ?_
      exact hret ((f_X5_add cn cw ck cm cf tw tk tm tf).1, (f_X5_add cn cw ck cm cf tw tk tm tf).2.1, (f_X5_add cn cw ck cm cf tw tk tm tf).2.2.1, (f_X5_add cn cw ck cm cf tw tk tm tf).2.2.2.1, (f_X5_add cn cw ck cm cf tw tk tm tf).2.2.2.2.1, (f_X5_add cn cw ck cm cf tw tk tm tf).2.2.2.2.2, upd cu ((f_X5_add cn cw ck cm cf tw tk tm tf).1).toNatClampNeg bo, upd cv ((f_X5_add cn cw ck cm cf tw tk tm tf).1).toNatClampNeg nu) dX1_add_39 rfl hf rfl hP hS
def f_X1_ofBook_4 (cu : Nat → Int32) (bo : Int32) : Nat → Nat → Int32 → Int32
  | 0, i4, v2_4 => v2_4
  | k4 + 1, i4, v2_4 => (if (cu i4) = bo then f_X1_ofBook_4 cu bo k4 (i4 + 1) (v2_4 ||| ((1 : Int32) <<< ((nI i4) &&& 31))) else f_X1_ofBook_4 cu bo k4 (i4 + 1) v2_4)
theorem f_X1_ofBook_4_z (cu : Nat → Int32) (bo : Int32) (i4 : Nat) (v2_4 : Int32) : f_X1_ofBook_4 cu bo 0 i4 v2_4 = v2_4 := rfl
theorem f_X1_ofBook_4_s (cu : Nat → Int32) (bo : Int32) (k4 : Nat) (i4 : Nat) (v2_4 : Int32) : f_X1_ofBook_4 cu bo (k4 + 1) i4 v2_4 = (if (cu i4) = bo then f_X1_ofBook_4 cu bo k4 (i4 + 1) (v2_4 ||| ((1 : Int32) <<< ((nI i4) &&& 31))) else f_X1_ofBook_4 cu bo k4 (i4 + 1) v2_4) := rfl
def f_X1_ofBook (cn : Nat) (cu : Nat → Int32) (bo : Int32) : Int32 := (f_X1_ofBook_4 cu bo cn 0 0)
set_option maxHeartbeats 4000000 in
set_option maxRecDepth 100000 in
theorem k_X1_ofBook (l : Launch) (G : wG) (cC : Nat) (co : Nat) (ca : Nat) (cb : Nat) (cc : Nat) (cd : Nat) (cn : Nat) (cw : Nat → Int32) (ck : Nat → Int32) (cm : Nat → Int32) (cf : Nat → Int32) (cU : Nat) (cV : Nat) (cu : Nat → Int32) (cv : Nat → Int32) (bo : Int32) (hcn : cn ≤ 4) : CT l G yX1_ofBook cX1_ofBook 4 (some .int) ({ frames := 0, cells := 0, slots := 0, locals := 0 }) [.ref cC, .int bo] [(cC, .inr (1, [.ref co, .ref cU, .ref cV])), (co, .inr (5, [.ref ca, .ref cb, .ref cc, .ref cd, .int (nI cn)])), (ca, .inl (G.2.1, 4, .inl cw)), (cb, .inl (G.2.1, 4, .inl ck)), (cc, .inl (G.2.1, 4, .inl cm)), (cd, .inl (G.2.1, 4, .inl cf)), (cU, .inl (G.2.1, 4, .inl cu)), (cV, .inl (G.2.1, 4, .inl cv))] (fun _ => [(cC, .inr (1, [.ref co, .ref cU, .ref cV])), (co, .inr (5, [.ref ca, .ref cb, .ref cc, .ref cd, .int (nI cn)])), (ca, .inl (G.2.1, 4, .inl cw)), (cb, .inl (G.2.1, 4, .inl ck)), (cc, .inl (G.2.1, 4, .inl cm)), (cd, .inl (G.2.1, 4, .inl cf)), (cU, .inl (G.2.1, 4, .inl cu)), (cV, .inl (G.2.1, 4, .inl cv))]) (fun u => some (.int u)) (f_X1_ofBook cn cu bo) := by
  obtain ⟨R, hf⟩ : ∃ R, f_X1_ofBook cn cu bo = R := ⟨_, rfl⟩
  rw [hf]
  refine CT.mkI RX1 (by decide +kernel) rfl (Nat.le_of_ble_eq_true rfl) ?_
  intro p e s m args below meth c A Q ls hx hb hml hown hK hP hD hS hA hret hl
  have hl : lv_has ls 4 [(0, .ref cC), (1, .int bo)] := hl
  rw [f_X1_ofBook] at hf
  refine lv_iconst (v := 0) hx hb dX1_ofBook_0 (by decide) ?_
  refine lv_istore_n (lv' := [(2, .int 0), (0, .ref cC), (1, .int bo)]) hx hb dX1_ofBook_1 rfl hl (by decide) rfl (fun ls hl => ?_)
  refine lv_iconst (v := 0) hx hb dX1_ofBook_2 (by decide) ?_
  refine lv_istore_n (lv' := [(3, .int 0), (2, .int 0), (0, .ref cC), (1, .int bo)]) hx hb dX1_ofBook_3 rfl hl (by decide) rfl (fun ls hl => ?_)
  have L4 : ∀ (k4 : Nat) (i4 : Nat) (v2_4 : Int32), k4 + i4 = cn → f_X1_ofBook_4 cu bo k4 i4 v2_4 = R → ∀ (H : Heap) (locs : List Loc) (ls : Array Slot), va_P G.1 wcl [(cC, .inr (1, [.ref co, .ref cU, .ref cV])), (co, .inr (5, [.ref ca, .ref cb, .ref cc, .ref cd, .int (nI cn)])), (ca, .inl (G.2.1, 4, .inl cw)), (cb, .inl (G.2.1, 4, .inl ck)), (cc, .inl (G.2.1, 4, .inl cm)), (cd, .inl (G.2.1, 4, .inl cf)), (cU, .inl (G.2.1, 4, .inl cu)), (cV, .inl (G.2.1, 4, .inl cv))] H → va_D A [(cC, .inr (1, [.ref co, .ref cU, .ref cV])), (co, .inr (5, [.ref ca, .ref cb, .ref cc, .ref cd, .int (nI cn)])), (ca, .inl (G.2.1, 4, .inl cw)), (cb, .inl (G.2.1, 4, .inl ck)), (cc, .inl (G.2.1, 4, .inl cm)), (cd, .inl (G.2.1, 4, .inl cf)), (cU, .inl (G.2.1, 4, .inl cu)), (cV, .inl (G.2.1, 4, .inl cv))] → va_S A s.heap H locs → lv_has ls 4 [(0, .ref cC), (1, .int bo), (2, .int v2_4), (3, .int (nI i4))] → W p l e ({ frames := 0, cells := 0, slots := 0, locals := 0 }) s m args below meth c H locs 0 0 Q (F0 m 4 ls []) := by
    intro k4
    induction k4 with
    | zero =>
      intro i4 v2_4 hi4  hf _ _ ls hP hD hS hl
      rw [f_X1_ofBook_4_z] at hf
      refine lv_iload_n hx hb dX1_ofBook_4 rfl (lv_at hl 3 rfl) ?_
      refine lv_aload_n hx hb dX1_ofBook_5 rfl (lv_at hl 0 rfl) ?_
      refine va_get (D := G.1) (ci := 1) (v := .ref co) (C := RX1) (T := TX1) (N := 3) hx hb (ku_X1 hK.2) (fun _ h9 => h9) hown hK.1 hP 0 rfl rfl 0 (by decide) (kw_131 hK.2) (fun _ h9 => h9) rfl dX1_ofBook_6 ?_
      refine va_getN (D := G.1) (ci := 5) (v := .int (nI cn)) (C := RX5) (T := TX5) (N := 5) hx hb (ku_X5 hK.2) (fun _ h9 => h9) hown hK.1 hP 1 rfl rfl 4 (by decide) (kw_89 hK.2) (fun _ h9 => h9) rfl dX1_ofBook_9 ?_
      refine lv_icmp_ge (tgt := 37) hx hb dX1_ofBook_12 (by decide) (fun _ => ?_) (fun c => absurd (ile (a := cn) (b := i4) rfl rfl (by omega) (by omega) (by omega)) c)
      refine lv_iload_n hx hb dX1_ofBook_37 rfl (lv_at hl 2 rfl) ?_
      exact hret v2_4 dX1_ofBook_38 rfl hf rfl hP hS
    | succ k4 ih4 =>
      intro i4 v2_4 hi4  hf _ _ ls hP hD hS hl
      rw [f_X1_ofBook_4_s] at hf
      refine lv_iload_n hx hb dX1_ofBook_4 rfl (lv_at hl 3 rfl) ?_
      refine lv_aload_n hx hb dX1_ofBook_5 rfl (lv_at hl 0 rfl) ?_
      refine va_get (D := G.1) (ci := 1) (v := .ref co) (C := RX1) (T := TX1) (N := 3) hx hb (ku_X1 hK.2) (fun _ h9 => h9) hown hK.1 hP 0 rfl rfl 0 (by decide) (kw_131 hK.2) (fun _ h9 => h9) rfl dX1_ofBook_6 ?_
      refine va_getN (D := G.1) (ci := 5) (v := .int (nI cn)) (C := RX5) (T := TX5) (N := 5) hx hb (ku_X5 hK.2) (fun _ h9 => h9) hown hK.1 hP 1 rfl rfl 4 (by decide) (kw_89 hK.2) (fun _ h9 => h9) rfl dX1_ofBook_9 ?_
      refine lv_icmp_ge (tgt := 37) hx hb dX1_ofBook_12 (by decide) (fun c => absurd c (inle (a := cn) (b := i4) rfl rfl (by omega) (by omega) (by omega))) (fun _ => ?_)
      refine lv_aload_n hx hb dX1_ofBook_15 rfl (lv_at hl 0 rfl) ?_
      refine va_get (D := G.1) (ci := 1) (v := .ref cU) (C := RX1) (T := TX1) (N := 3) hx hb (ku_X1 hK.2) (fun _ h9 => h9) hown hK.1 hP 0 rfl rfl 1 (by decide) (kw_133 hK.2) (fun _ h9 => h9) rfl dX1_ofBook_16 ?_
      refine lv_iload_n hx hb dX1_ofBook_19 rfl (lv_at hl 3 rfl) ?_
      refine ww_ild (j := i4) hx hb hK.1 hP 6 0 rfl rfl (by omega) (by omega) dX1_ofBook_20 ?_
      refine lv_iload_n hx hb dX1_ofBook_21 rfl (lv_at hl 1 rfl) ?_
      refine lv_icmp_ne (tgt := 31) hx hb dX1_ofBook_22 (by decide) (fun c1 => ?_) (fun c1 => ?_)
      · have hf := (if_neg c1).symm.trans hf
        refine lv_iinc (v := nI (i4 + 1)) (lv' := [(3, .int (nI (i4 + 1))), (0, .ref cC), (1, .int bo), (2, .int v2_4)]) hx hb dX1_ofBook_31 hl (k := 3) rfl (nI_1 i4) (by decide) rfl (fun ls hl => ?_)
        refine lv_goto (tgt := 4) hx hb dX1_ofBook_34 (by decide) ?_
        exact ih4 (i4 + 1) v2_4 (by omega)  hf _ _ ls hP hD hS (lv_sub hl [1, 2, 3, 0] rfl)
      · have hf := (if_pos c1).symm.trans hf
        refine lv_iload_n hx hb dX1_ofBook_25 rfl (lv_at hl 2 rfl) ?_
        refine lv_iconst (v := 1) hx hb dX1_ofBook_26 (by decide) ?_
        refine lv_iload_n hx hb dX1_ofBook_27 rfl (lv_at hl 3 rfl) ?_
        refine lv_ishl hx hb dX1_ofBook_28 ?_
        refine lv_ior hx hb dX1_ofBook_29 ?_
        refine lv_istore_n (lv' := [(2, .int (v2_4 ||| ((1 : Int32) <<< ((nI i4) &&& 31)))), (0, .ref cC), (1, .int bo), (3, .int (nI i4))]) hx hb dX1_ofBook_30 rfl hl (by decide) rfl (fun ls hl => ?_)
        refine lv_iinc (v := nI (i4 + 1)) (lv' := [(3, .int (nI (i4 + 1))), (2, .int (v2_4 ||| ((1 : Int32) <<< ((nI i4) &&& 31)))), (0, .ref cC), (1, .int bo)]) hx hb dX1_ofBook_31 hl (k := 3) rfl (nI_1 i4) (by decide) rfl (fun ls hl => ?_)
        refine lv_goto (tgt := 4) hx hb dX1_ofBook_34 (by decide) ?_
        exact ih4 (i4 + 1) (v2_4 ||| ((1 : Int32) <<< ((nI i4) &&& 31))) (by omega)  hf _ _ ls hP hD hS (lv_sub hl [2, 3, 1, 0] rfl)
  exact L4 cn 0 0 (by omega)  hf _ _ ls hP hD hS (lv_sub hl [2, 3, 1, 0] rfl)
def f_X1_makeIn_2 (cn : Nat) (cw : Nat → Int32) (ck : Nat → Int32) (cm : Nat → Int32) (cf : Nat → Int32) (cv : Nat → Int32) (xn : Nat) (so : Int32) : Nat → Nat → (Nat → Int32) → (Nat → Int32) → (Nat → Int32) → (Nat → Int32) → ((Nat → Int32) × (Nat → Int32) × (Nat → Int32) × (Nat → Int32))
  | 0, i2, r10_2, r11_2, r12_2, r13_2 => (r10_2, r11_2, r12_2, r13_2)
  | k2 + 1, i2, r10_2, r11_2, r12_2, r13_2 => (if (f_X6_hasWord so (nI i2)) = 0 then f_X1_makeIn_2 cn cw ck cm cf cv xn so k2 (i2 + 1) r10_2 r11_2 r12_2 r13_2 else f_X1_makeIn_2 cn cw ck cm cf cv xn so k2 (i2 + 1) ((f_X5_replace xn r10_2 r11_2 r12_2 r13_2 cn cw ck cm cf (cv i2) (nI i2)).1) ((f_X5_replace xn r10_2 r11_2 r12_2 r13_2 cn cw ck cm cf (cv i2) (nI i2)).2.1) ((f_X5_replace xn r10_2 r11_2 r12_2 r13_2 cn cw ck cm cf (cv i2) (nI i2)).2.2.1) ((f_X5_replace xn r10_2 r11_2 r12_2 r13_2 cn cw ck cm cf (cv i2) (nI i2)).2.2.2))
theorem f_X1_makeIn_2_z (cn : Nat) (cw : Nat → Int32) (ck : Nat → Int32) (cm : Nat → Int32) (cf : Nat → Int32) (cv : Nat → Int32) (xn : Nat) (so : Int32) (i2 : Nat) (r10_2 : Nat → Int32) (r11_2 : Nat → Int32) (r12_2 : Nat → Int32) (r13_2 : Nat → Int32) : f_X1_makeIn_2 cn cw ck cm cf cv xn so 0 i2 r10_2 r11_2 r12_2 r13_2 = (r10_2, r11_2, r12_2, r13_2) := rfl
theorem f_X1_makeIn_2_s (cn : Nat) (cw : Nat → Int32) (ck : Nat → Int32) (cm : Nat → Int32) (cf : Nat → Int32) (cv : Nat → Int32) (xn : Nat) (so : Int32) (k2 : Nat) (i2 : Nat) (r10_2 : Nat → Int32) (r11_2 : Nat → Int32) (r12_2 : Nat → Int32) (r13_2 : Nat → Int32) : f_X1_makeIn_2 cn cw ck cm cf cv xn so (k2 + 1) i2 r10_2 r11_2 r12_2 r13_2 = (if (f_X6_hasWord so (nI i2)) = 0 then f_X1_makeIn_2 cn cw ck cm cf cv xn so k2 (i2 + 1) r10_2 r11_2 r12_2 r13_2 else f_X1_makeIn_2 cn cw ck cm cf cv xn so k2 (i2 + 1) ((f_X5_replace xn r10_2 r11_2 r12_2 r13_2 cn cw ck cm cf (cv i2) (nI i2)).1) ((f_X5_replace xn r10_2 r11_2 r12_2 r13_2 cn cw ck cm cf (cv i2) (nI i2)).2.1) ((f_X5_replace xn r10_2 r11_2 r12_2 r13_2 cn cw ck cm cf (cv i2) (nI i2)).2.2.1) ((f_X5_replace xn r10_2 r11_2 r12_2 r13_2 cn cw ck cm cf (cv i2) (nI i2)).2.2.2)) := rfl
def f_X1_makeIn (cn : Nat) (cw : Nat → Int32) (ck : Nat → Int32) (cm : Nat → Int32) (cf : Nat → Int32) (cv : Nat → Int32) (xn : Nat) (xw : Nat → Int32) (xk : Nat → Int32) (xm : Nat → Int32) (xf : Nat → Int32) (so : Int32) : (Nat → Int32) × (Nat → Int32) × (Nat → Int32) × (Nat → Int32) := (f_X1_makeIn_2 cn cw ck cm cf cv xn so cn 0 xw xk xm xf)
set_option maxHeartbeats 4000000 in
set_option maxRecDepth 100000 in
theorem k_X1_makeIn (l : Launch) (G : wG) (cC : Nat) (co : Nat) (ca : Nat) (cb : Nat) (cc : Nat) (cd : Nat) (cn : Nat) (cw : Nat → Int32) (ck : Nat → Int32) (cm : Nat → Int32) (cf : Nat → Int32) (cU : Nat) (cV : Nat) (cu : Nat → Int32) (cv : Nat → Int32) (xO : Nat) (xo : Nat) (xa : Nat) (xb : Nat) (xc : Nat) (xd : Nat) (xl : Nat) (xn : Nat) (xw : Nat → Int32) (xk : Nat → Int32) (xm : Nat → Int32) (xf : Nat → Int32) (xH : Nat) (xM : Nat) (xB : Int32) (xh : Nat → Int32) (xt : Nat → Int32) (so : Int32) (hcn : cn ≤ 4) (hxn : xn ≤ xl) (hxl : xl ≤ 20) : CT l G yX1_makeIn cX1_makeIn 4 (none : Option Jvm.ClassFile.FieldType) ({ frames := 2, cells := 0, slots := 0, locals := 44 }) [.ref cC, .ref xO, .int so] [(cC, .inr (1, [.ref co, .ref cU, .ref cV])), (co, .inr (5, [.ref ca, .ref cb, .ref cc, .ref cd, .int (nI cn)])), (ca, .inl (G.2.1, 4, .inl cw)), (cb, .inl (G.2.1, 4, .inl ck)), (cc, .inl (G.2.1, 4, .inl cm)), (cd, .inl (G.2.1, 4, .inl cf)), (cU, .inl (G.2.1, 4, .inl cu)), (cV, .inl (G.2.1, 4, .inl cv)), (xO, .inr (0, [.ref xo, .ref xH, .ref xM, .int xB])), (xo, .inr (5, [.ref xa, .ref xb, .ref xc, .ref xd, .int (nI xn)])), (xa, .inl (G.2.1, xl, .inl xw)), (xb, .inl (G.2.1, xl, .inl xk)), (xc, .inl (G.2.1, xl, .inl xm)), (xd, .inl (G.2.1, xl, .inl xf)), (xH, .inl (G.2.1, 12, .inl xh)), (xM, .inl (G.2.1, 12, .inl xt))] (fun u => [(cC, .inr (1, [.ref co, .ref cU, .ref cV])), (co, .inr (5, [.ref ca, .ref cb, .ref cc, .ref cd, .int (nI cn)])), (ca, .inl (G.2.1, 4, .inl cw)), (cb, .inl (G.2.1, 4, .inl ck)), (cc, .inl (G.2.1, 4, .inl cm)), (cd, .inl (G.2.1, 4, .inl cf)), (cU, .inl (G.2.1, 4, .inl cu)), (cV, .inl (G.2.1, 4, .inl cv)), (xO, .inr (0, [.ref xo, .ref xH, .ref xM, .int xB])), (xo, .inr (5, [.ref xa, .ref xb, .ref xc, .ref xd, .int (nI xn)])), (xa, .inl (G.2.1, xl, .inl u.1)), (xb, .inl (G.2.1, xl, .inl u.2.1)), (xc, .inl (G.2.1, xl, .inl u.2.2.1)), (xd, .inl (G.2.1, xl, .inl u.2.2.2)), (xH, .inl (G.2.1, 12, .inl xh)), (xM, .inl (G.2.1, 12, .inl xt))]) (fun _ => none) (f_X1_makeIn cn cw ck cm cf cv xn xw xk xm xf so) := by
  obtain ⟨R, hf⟩ : ∃ R, f_X1_makeIn cn cw ck cm cf cv xn xw xk xm xf so = R := ⟨_, rfl⟩
  rw [hf]
  refine CT.mkV RX1 (by decide +kernel) rfl (Nat.le_of_ble_eq_true rfl) ?_
  intro p e s m args below meth c A Q ls hx hb hml hown hK hP hD hS hA hret hl
  have hl : lv_has ls 4 [(0, .ref cC), (1, .ref xO), (2, .int so)] := hl
  rw [f_X1_makeIn] at hf
  refine lv_iconst (v := 0) hx hb dX1_makeIn_0 (by decide) ?_
  refine lv_istore_n (lv' := [(3, .int 0), (0, .ref cC), (1, .ref xO), (2, .int so)]) hx hb dX1_makeIn_1 rfl hl (by decide) rfl (fun ls hl => ?_)
  have L2 : ∀ (k2 : Nat) (i2 : Nat) (r10_2 : Nat → Int32) (r11_2 : Nat → Int32) (r12_2 : Nat → Int32) (r13_2 : Nat → Int32), k2 + i2 = cn → f_X1_makeIn_2 cn cw ck cm cf cv xn so k2 i2 r10_2 r11_2 r12_2 r13_2 = R → ∀ (H : Heap) (locs : List Loc) (ls : Array Slot), va_P G.1 wcl [(cC, .inr (1, [.ref co, .ref cU, .ref cV])), (co, .inr (5, [.ref ca, .ref cb, .ref cc, .ref cd, .int (nI cn)])), (ca, .inl (G.2.1, 4, .inl cw)), (cb, .inl (G.2.1, 4, .inl ck)), (cc, .inl (G.2.1, 4, .inl cm)), (cd, .inl (G.2.1, 4, .inl cf)), (cU, .inl (G.2.1, 4, .inl cu)), (cV, .inl (G.2.1, 4, .inl cv)), (xO, .inr (0, [.ref xo, .ref xH, .ref xM, .int xB])), (xo, .inr (5, [.ref xa, .ref xb, .ref xc, .ref xd, .int (nI xn)])), (xa, .inl (G.2.1, xl, .inl r10_2)), (xb, .inl (G.2.1, xl, .inl r11_2)), (xc, .inl (G.2.1, xl, .inl r12_2)), (xd, .inl (G.2.1, xl, .inl r13_2)), (xH, .inl (G.2.1, 12, .inl xh)), (xM, .inl (G.2.1, 12, .inl xt))] H → va_D A [(cC, .inr (1, [.ref co, .ref cU, .ref cV])), (co, .inr (5, [.ref ca, .ref cb, .ref cc, .ref cd, .int (nI cn)])), (ca, .inl (G.2.1, 4, .inl cw)), (cb, .inl (G.2.1, 4, .inl ck)), (cc, .inl (G.2.1, 4, .inl cm)), (cd, .inl (G.2.1, 4, .inl cf)), (cU, .inl (G.2.1, 4, .inl cu)), (cV, .inl (G.2.1, 4, .inl cv)), (xO, .inr (0, [.ref xo, .ref xH, .ref xM, .int xB])), (xo, .inr (5, [.ref xa, .ref xb, .ref xc, .ref xd, .int (nI xn)])), (xa, .inl (G.2.1, xl, .inl r10_2)), (xb, .inl (G.2.1, xl, .inl r11_2)), (xc, .inl (G.2.1, xl, .inl r12_2)), (xd, .inl (G.2.1, xl, .inl r13_2)), (xH, .inl (G.2.1, 12, .inl xh)), (xM, .inl (G.2.1, 12, .inl xt))] → va_S A s.heap H locs → lv_has ls 4 [(0, .ref cC), (1, .ref xO), (2, .int so), (3, .int (nI i2))] → W p l e ({ frames := 2, cells := 0, slots := 0, locals := 44 }) s m args below meth c H locs 0 0 Q (F0 m 2 ls []) := by
    intro k2
    induction k2 with
    | zero =>
      intro i2 r10_2 r11_2 r12_2 r13_2 hi2  hf _ _ ls hP hD hS hl
      rw [f_X1_makeIn_2_z] at hf
      refine lv_iload_n hx hb dX1_makeIn_2 rfl (lv_at hl 3 rfl) ?_
      refine lv_aload_n hx hb dX1_makeIn_3 rfl (lv_at hl 0 rfl) ?_
      refine va_get (D := G.1) (ci := 1) (v := .ref co) (C := RX1) (T := TX1) (N := 3) hx hb (ku_X1 hK.2) (fun _ h9 => h9) hown hK.1 hP 0 rfl rfl 0 (by decide) (kw_131 hK.2) (fun _ h9 => h9) rfl dX1_makeIn_4 ?_
      refine va_getN (D := G.1) (ci := 5) (v := .int (nI cn)) (C := RX5) (T := TX5) (N := 5) hx hb (ku_X5 hK.2) (fun _ h9 => h9) hown hK.1 hP 1 rfl rfl 4 (by decide) (kw_89 hK.2) (fun _ h9 => h9) rfl dX1_makeIn_7 ?_
      refine lv_icmp_ge (tgt := 45) hx hb dX1_makeIn_10 (by decide) (fun _ => ?_) (fun c => absurd (ile (a := cn) (b := i2) rfl rfl (by omega) (by omega) (by omega)) c)
      exact hret (r10_2, r11_2, r12_2, r13_2) dX1_makeIn_45 hf rfl hP hS
    | succ k2 ih2 =>
      intro i2 r10_2 r11_2 r12_2 r13_2 hi2  hf _ _ ls hP hD hS hl
      rw [f_X1_makeIn_2_s] at hf
      refine lv_iload_n hx hb dX1_makeIn_2 rfl (lv_at hl 3 rfl) ?_
      refine lv_aload_n hx hb dX1_makeIn_3 rfl (lv_at hl 0 rfl) ?_
      refine va_get (D := G.1) (ci := 1) (v := .ref co) (C := RX1) (T := TX1) (N := 3) hx hb (ku_X1 hK.2) (fun _ h9 => h9) hown hK.1 hP 0 rfl rfl 0 (by decide) (kw_131 hK.2) (fun _ h9 => h9) rfl dX1_makeIn_4 ?_
      refine va_getN (D := G.1) (ci := 5) (v := .int (nI cn)) (C := RX5) (T := TX5) (N := 5) hx hb (ku_X5 hK.2) (fun _ h9 => h9) hown hK.1 hP 1 rfl rfl 4 (by decide) (kw_89 hK.2) (fun _ h9 => h9) rfl dX1_makeIn_7 ?_
      refine lv_icmp_ge (tgt := 45) hx hb dX1_makeIn_10 (by decide) (fun c => absurd c (inle (a := cn) (b := i2) rfl rfl (by omega) (by omega) (by omega))) (fun _ => ?_)
      refine lv_iload_n hx hb dX1_makeIn_13 rfl (lv_at hl 2 rfl) ?_
      refine lv_iload_n hx hb dX1_makeIn_14 rfl (lv_at hl 3 rfl) ?_
      refine cl_SN (ws' := [(cC, .inr (1, [.ref co, .ref cU, .ref cV])), (co, .inr (5, [.ref ca, .ref cb, .ref cc, .ref cd, .int (nI cn)])), (ca, .inl (G.2.1, 4, .inl cw)), (cb, .inl (G.2.1, 4, .inl ck)), (cc, .inl (G.2.1, 4, .inl cm)), (cd, .inl (G.2.1, 4, .inl cf)), (cU, .inl (G.2.1, 4, .inl cu)), (cV, .inl (G.2.1, 4, .inl cv)), (xO, .inr (0, [.ref xo, .ref xH, .ref xM, .int xB])), (xo, .inr (5, [.ref xa, .ref xb, .ref xc, .ref xd, .int (nI xn)])), (xa, .inl (G.2.1, xl, .inl r10_2)), (xb, .inl (G.2.1, xl, .inl r11_2)), (xc, .inl (G.2.1, xl, .inl r12_2)), (xd, .inl (G.2.1, xl, .inl r13_2)), (xH, .inl (G.2.1, 12, .inl xh)), (xM, .inl (G.2.1, 12, .inl xt))]) (v := (some (.int (f_X6_hasWord so (nI i2))))) (st1 := [.int (f_X6_hasWord so (nI i2))]) (rest := []) (As := [.int so, .int (nI i2)]) [] hx hb hml hown hK (k_X6_hasWord l G so (nI i2) ) (mf_X6_hasWord hK.2) (kw_379 hK.2) (kw_608 hK.2) ⟨rfl, rfl, Nat.le_of_ble_eq_true rfl, Nat.le_of_ble_eq_true rfl⟩ rfl hP hD hS hA hl (Nat.le_of_ble_eq_true rfl) rfl ⟨Nat.le_of_ble_eq_true rfl, Nat.le_of_ble_eq_true rfl⟩ rfl dX1_makeIn_15 rfl rfl rfl rfl rfl rfl (fun H locs hP hD hS => ?_)
      refine lv_if_eq (tgt := 39) hx hb dX1_makeIn_18 (by decide) (fun c1 => ?_) (fun c1 => ?_)
      · have hf := (if_pos c1).symm.trans hf
        refine lv_iinc (v := nI (i2 + 1)) (lv' := [(3, .int (nI (i2 + 1))), (0, .ref cC), (1, .ref xO), (2, .int so)]) hx hb dX1_makeIn_39 hl (k := 3) rfl (nI_1 i2) (by decide) rfl (fun ls hl => ?_)
        refine lv_goto (tgt := 2) hx hb dX1_makeIn_42 (by decide) ?_
        exact ih2 (i2 + 1) r10_2 r11_2 r12_2 r13_2 (by omega)  hf _ _ ls hP hD hS (lv_sub hl [1, 2, 3, 0] rfl)
      · have hf := (if_neg c1).symm.trans hf
        refine lv_aload_n hx hb dX1_makeIn_21 rfl (lv_at hl 1 rfl) ?_
        refine va_getN (D := G.1) (ci := 0) (v := .ref xo) (C := RX0) (T := TX0) (N := 4) hx hb (ku_X0 hK.2) (fun _ h9 => h9) hown hK.1 hP 8 rfl rfl 0 (by decide) (kw_107 hK.2) (fun _ h9 => h9) rfl dX1_makeIn_22 ?_
        refine lv_aload_n hx hb dX1_makeIn_25 rfl (lv_at hl 0 rfl) ?_
        refine va_get (D := G.1) (ci := 1) (v := .ref cV) (C := RX1) (T := TX1) (N := 3) hx hb (ku_X1 hK.2) (fun _ h9 => h9) hown hK.1 hP 0 rfl rfl 2 (by decide) (kw_134 hK.2) (fun _ h9 => h9) rfl dX1_makeIn_26 ?_
        refine lv_iload_n hx hb dX1_makeIn_29 rfl (lv_at hl 3 rfl) ?_
        refine ww_ild (j := i2) hx hb hK.1 hP 7 0 rfl rfl (by omega) (by omega) dX1_makeIn_30 ?_
        refine lv_aload_n hx hb dX1_makeIn_31 rfl (lv_at hl 0 rfl) ?_
        refine va_get (D := G.1) (ci := 1) (v := .ref co) (C := RX1) (T := TX1) (N := 3) hx hb (ku_X1 hK.2) (fun _ h9 => h9) hown hK.1 hP 0 rfl rfl 0 (by decide) (kw_131 hK.2) (fun _ h9 => h9) rfl dX1_makeIn_32 ?_
        refine lv_iload_n hx hb dX1_makeIn_35 rfl (lv_at hl 3 rfl) ?_
        refine cl_V (q := (RX5, TX5, 5)) (ws' := [(cC, .inr (1, [.ref co, .ref cU, .ref cV])), (co, .inr (5, [.ref ca, .ref cb, .ref cc, .ref cd, .int (nI cn)])), (ca, .inl (G.2.1, 4, .inl cw)), (cb, .inl (G.2.1, 4, .inl ck)), (cc, .inl (G.2.1, 4, .inl cm)), (cd, .inl (G.2.1, 4, .inl cf)), (cU, .inl (G.2.1, 4, .inl cu)), (cV, .inl (G.2.1, 4, .inl cv)), (xO, .inr (0, [.ref xo, .ref xH, .ref xM, .int xB])), (xo, .inr (5, [.ref xa, .ref xb, .ref xc, .ref xd, .int (nI xn)])), (xa, .inl (G.2.1, xl, .inl ((f_X5_replace xn r10_2 r11_2 r12_2 r13_2 cn cw ck cm cf (cv i2) (nI i2)).1))), (xb, .inl (G.2.1, xl, .inl ((f_X5_replace xn r10_2 r11_2 r12_2 r13_2 cn cw ck cm cf (cv i2) (nI i2)).2.1))), (xc, .inl (G.2.1, xl, .inl ((f_X5_replace xn r10_2 r11_2 r12_2 r13_2 cn cw ck cm cf (cv i2) (nI i2)).2.2.1))), (xd, .inl (G.2.1, xl, .inl ((f_X5_replace xn r10_2 r11_2 r12_2 r13_2 cn cw ck cm cf (cv i2) (nI i2)).2.2.2))), (xH, .inl (G.2.1, 12, .inl xh)), (xM, .inl (G.2.1, 12, .inl xt))]) (v := none) (st1 := []) (rest := []) (As := [.int (cv i2), .ref co, .int (nI i2)]) [9, 10, 11, 12, 13, 1, 2, 3, 4, 5] 9 5 hx hb hml hown hK (k_X5_replace l G xo xa xb xc xd xl xn r10_2 r11_2 r12_2 r13_2 co ca cb cc cd 4 cn cw ck cm cf (cv i2) (nI i2) hxn hxl (by omega) (by omega)) (mf_X5_replace hK.2) (kw_600 hK.2) (kw_601 hK.2) (kw_609 hK.2) ⟨rfl, rfl, Nat.le_of_ble_eq_true rfl, Nat.le_of_ble_eq_true rfl⟩ rfl hP hD hS hA rfl rfl hl (Nat.le_of_ble_eq_true rfl) rfl ⟨Nat.le_of_ble_eq_true rfl, Nat.le_of_ble_eq_true rfl⟩ rfl dX1_makeIn_36 rfl rfl (rpl_fast (by decide) rfl rfl) rfl rfl rfl (fun H locs hP hD hS => ?_)
        refine lv_iinc (v := nI (i2 + 1)) (lv' := [(3, .int (nI (i2 + 1))), (0, .ref cC), (1, .ref xO), (2, .int so)]) hx hb dX1_makeIn_39 hl (k := 3) rfl (nI_1 i2) (by decide) rfl (fun ls hl => ?_)
        refine lv_goto (tgt := 2) hx hb dX1_makeIn_42 (by decide) ?_
        exact ih2 (i2 + 1) ((f_X5_replace xn r10_2 r11_2 r12_2 r13_2 cn cw ck cm cf (cv i2) (nI i2)).1) ((f_X5_replace xn r10_2 r11_2 r12_2 r13_2 cn cw ck cm cf (cv i2) (nI i2)).2.1) ((f_X5_replace xn r10_2 r11_2 r12_2 r13_2 cn cw ck cm cf (cv i2) (nI i2)).2.2.1) ((f_X5_replace xn r10_2 r11_2 r12_2 r13_2 cn cw ck cm cf (cv i2) (nI i2)).2.2.2) (by omega)  hf _ _ ls hP hD hS (lv_sub hl [1, 2, 3, 0] rfl)
  exact L2 cn 0 xw xk xm xf (by omega)  hf _ _ ls hP hD hS (lv_sub hl [1, 2, 3, 0] rfl)
def f_X1_copyFrom_13 (cw : Nat → Int32) (ck : Nat → Int32) (cm : Nat → Int32) (cf : Nat → Int32) (gn : Nat) (gw : Nat → Int32) (gk : Nat → Int32) (gm : Nat → Int32) (gf : Nat → Int32) (gu : Nat → Int32) (gv : Nat → Int32) : Nat → Nat → (Nat → Int32) → (Nat → Int32) → ((Nat → Int32) × (Nat → Int32) × (Nat → Int32) × (Nat → Int32) × Nat × (Nat → Int32) × (Nat → Int32))
  | 0, i13, u13, v13 => ((f_X5_copyFrom 4 cw ck cm cf gn gw gk gm gf).1, (f_X5_copyFrom 4 cw ck cm cf gn gw gk gm gf).2.1, (f_X5_copyFrom 4 cw ck cm cf gn gw gk gm gf).2.2.1, (f_X5_copyFrom 4 cw ck cm cf gn gw gk gm gf).2.2.2.1, (f_X5_copyFrom 4 cw ck cm cf gn gw gk gm gf).2.2.2.2, u13, v13)
  | k13 + 1, i13, u13, v13 => f_X1_copyFrom_13 cw ck cm cf gn gw gk gm gf gu gv k13 (i13 + 1) (upd u13 i13 (gu i13)) (upd v13 i13 (gv i13))
theorem f_X1_copyFrom_13_z (cw : Nat → Int32) (ck : Nat → Int32) (cm : Nat → Int32) (cf : Nat → Int32) (gn : Nat) (gw : Nat → Int32) (gk : Nat → Int32) (gm : Nat → Int32) (gf : Nat → Int32) (gu : Nat → Int32) (gv : Nat → Int32) (i13 : Nat) (u13 : Nat → Int32) (v13 : Nat → Int32) : f_X1_copyFrom_13 cw ck cm cf gn gw gk gm gf gu gv 0 i13 u13 v13 = ((f_X5_copyFrom 4 cw ck cm cf gn gw gk gm gf).1, (f_X5_copyFrom 4 cw ck cm cf gn gw gk gm gf).2.1, (f_X5_copyFrom 4 cw ck cm cf gn gw gk gm gf).2.2.1, (f_X5_copyFrom 4 cw ck cm cf gn gw gk gm gf).2.2.2.1, (f_X5_copyFrom 4 cw ck cm cf gn gw gk gm gf).2.2.2.2, u13, v13) := rfl
theorem f_X1_copyFrom_13_s (cw : Nat → Int32) (ck : Nat → Int32) (cm : Nat → Int32) (cf : Nat → Int32) (gn : Nat) (gw : Nat → Int32) (gk : Nat → Int32) (gm : Nat → Int32) (gf : Nat → Int32) (gu : Nat → Int32) (gv : Nat → Int32) (k13 : Nat) (i13 : Nat) (u13 : Nat → Int32) (v13 : Nat → Int32) : f_X1_copyFrom_13 cw ck cm cf gn gw gk gm gf gu gv (k13 + 1) i13 u13 v13 = f_X1_copyFrom_13 cw ck cm cf gn gw gk gm gf gu gv k13 (i13 + 1) (upd u13 i13 (gu i13)) (upd v13 i13 (gv i13)) := rfl
def f_X1_copyFrom (cw : Nat → Int32) (ck : Nat → Int32) (cm : Nat → Int32) (cf : Nat → Int32) (cu : Nat → Int32) (cv : Nat → Int32) (gn : Nat) (gw : Nat → Int32) (gk : Nat → Int32) (gm : Nat → Int32) (gf : Nat → Int32) (gu : Nat → Int32) (gv : Nat → Int32) : (Nat → Int32) × (Nat → Int32) × (Nat → Int32) × (Nat → Int32) × Nat × (Nat → Int32) × (Nat → Int32) := (f_X1_copyFrom_13 cw ck cm cf gn gw gk gm gf gu gv 4 0 cu cv)
set_option maxHeartbeats 4000000 in
set_option maxRecDepth 100000 in
theorem k_X1_copyFrom (l : Launch) (G : wG) (cC : Nat) (co : Nat) (ca : Nat) (cb : Nat) (cc : Nat) (cd : Nat) (cn : Nat) (cw : Nat → Int32) (ck : Nat → Int32) (cm : Nat → Int32) (cf : Nat → Int32) (cU : Nat) (cV : Nat) (cu : Nat → Int32) (cv : Nat → Int32) (gC : Nat) (go : Nat) (ga : Nat) (gb : Nat) (gc : Nat) (gd : Nat) (gn : Nat) (gw : Nat → Int32) (gk : Nat → Int32) (gm : Nat → Int32) (gf : Nat → Int32) (gU : Nat) (gV : Nat) (gu : Nat → Int32) (gv : Nat → Int32) (hcn : cn ≤ 4) (hgn : gn ≤ 4) : CT l G yX1_copyFrom cX1_copyFrom 3 (none : Option Jvm.ClassFile.FieldType) ({ frames := 3, cells := 0, slots := 0, locals := 66 }) [.ref cC, .ref gC] [(cC, .inr (1, [.ref co, .ref cU, .ref cV])), (co, .inr (5, [.ref ca, .ref cb, .ref cc, .ref cd, .int (nI cn)])), (ca, .inl (G.2.1, 4, .inl cw)), (cb, .inl (G.2.1, 4, .inl ck)), (cc, .inl (G.2.1, 4, .inl cm)), (cd, .inl (G.2.1, 4, .inl cf)), (cU, .inl (G.2.1, 4, .inl cu)), (cV, .inl (G.2.1, 4, .inl cv)), (gC, .inr (1, [.ref go, .ref gU, .ref gV])), (go, .inr (5, [.ref ga, .ref gb, .ref gc, .ref gd, .int (nI gn)])), (ga, .inl (G.2.1, 4, .inl gw)), (gb, .inl (G.2.1, 4, .inl gk)), (gc, .inl (G.2.1, 4, .inl gm)), (gd, .inl (G.2.1, 4, .inl gf)), (gU, .inl (G.2.1, 4, .inl gu)), (gV, .inl (G.2.1, 4, .inl gv))] (fun u => [(cC, .inr (1, [.ref co, .ref cU, .ref cV])), (co, .inr (5, [.ref ca, .ref cb, .ref cc, .ref cd, .int (nI u.2.2.2.2.1)])), (ca, .inl (G.2.1, 4, .inl u.1)), (cb, .inl (G.2.1, 4, .inl u.2.1)), (cc, .inl (G.2.1, 4, .inl u.2.2.1)), (cd, .inl (G.2.1, 4, .inl u.2.2.2.1)), (cU, .inl (G.2.1, 4, .inl u.2.2.2.2.2.1)), (cV, .inl (G.2.1, 4, .inl u.2.2.2.2.2.2)), (gC, .inr (1, [.ref go, .ref gU, .ref gV])), (go, .inr (5, [.ref ga, .ref gb, .ref gc, .ref gd, .int (nI gn)])), (ga, .inl (G.2.1, 4, .inl gw)), (gb, .inl (G.2.1, 4, .inl gk)), (gc, .inl (G.2.1, 4, .inl gm)), (gd, .inl (G.2.1, 4, .inl gf)), (gU, .inl (G.2.1, 4, .inl gu)), (gV, .inl (G.2.1, 4, .inl gv))]) (fun _ => none) (f_X1_copyFrom cw ck cm cf cu cv gn gw gk gm gf gu gv) := by
  obtain ⟨R, hf⟩ : ∃ R, f_X1_copyFrom cw ck cm cf cu cv gn gw gk gm gf gu gv = R := ⟨_, rfl⟩
  rw [hf]
  refine CT.mkV RX1 (by decide +kernel) rfl (Nat.le_of_ble_eq_true rfl) ?_
  intro p e s m args below meth c A Q ls hx hb hml hown hK hP hD hS hA hret hl
  have hl : lv_has ls 3 [(0, .ref cC), (1, .ref gC)] := hl
  rw [f_X1_copyFrom] at hf
  refine lv_aload_n hx hb dX1_copyFrom_0 rfl (lv_at hl 0 rfl) ?_
  refine va_get (D := G.1) (ci := 1) (v := .ref co) (C := RX1) (T := TX1) (N := 3) hx hb (ku_X1 hK.2) (fun _ h9 => h9) hown hK.1 hP 0 rfl rfl 0 (by decide) (kw_131 hK.2) (fun _ h9 => h9) rfl dX1_copyFrom_1 ?_
  refine lv_aload_n hx hb dX1_copyFrom_4 rfl (lv_at hl 1 rfl) ?_
  refine va_get (D := G.1) (ci := 1) (v := .ref go) (C := RX1) (T := TX1) (N := 3) hx hb (ku_X1 hK.2) (fun _ h9 => h9) hown hK.1 hP 8 rfl rfl 0 (by decide) (kw_131 hK.2) (fun _ h9 => h9) rfl dX1_copyFrom_5 ?_
  refine cl_V (q := (RX5, TX5, 5)) (ws' := [(cC, .inr (1, [.ref co, .ref cU, .ref cV])), (co, .inr (5, [.ref ca, .ref cb, .ref cc, .ref cd, .int (nI ((f_X5_copyFrom 4 cw ck cm cf gn gw gk gm gf).2.2.2.2))])), (ca, .inl (G.2.1, 4, .inl ((f_X5_copyFrom 4 cw ck cm cf gn gw gk gm gf).1))), (cb, .inl (G.2.1, 4, .inl ((f_X5_copyFrom 4 cw ck cm cf gn gw gk gm gf).2.1))), (cc, .inl (G.2.1, 4, .inl ((f_X5_copyFrom 4 cw ck cm cf gn gw gk gm gf).2.2.1))), (cd, .inl (G.2.1, 4, .inl ((f_X5_copyFrom 4 cw ck cm cf gn gw gk gm gf).2.2.2.1))), (cU, .inl (G.2.1, 4, .inl cu)), (cV, .inl (G.2.1, 4, .inl cv)), (gC, .inr (1, [.ref go, .ref gU, .ref gV])), (go, .inr (5, [.ref ga, .ref gb, .ref gc, .ref gd, .int (nI gn)])), (ga, .inl (G.2.1, 4, .inl gw)), (gb, .inl (G.2.1, 4, .inl gk)), (gc, .inl (G.2.1, 4, .inl gm)), (gd, .inl (G.2.1, 4, .inl gf)), (gU, .inl (G.2.1, 4, .inl gu)), (gV, .inl (G.2.1, 4, .inl gv))]) (v := none) (st1 := []) (rest := []) (As := [.ref go]) [1, 2, 3, 4, 5, 9, 10, 11, 12, 13] 1 5 hx hb hml hown hK (k_X5_copyFrom l G co ca cb cc cd 4 cn cw ck cm cf go ga gb gc gd 4 gn gw gk gm gf (by omega) (by omega) (by omega) (by omega)) (mf_X5_copyFrom hK.2) (kw_595 hK.2) (kw_596 hK.2) (kw_658 hK.2) ⟨rfl, rfl, Nat.le_of_ble_eq_true rfl, Nat.le_of_ble_eq_true rfl⟩ rfl hP hD hS hA rfl rfl hl (Nat.le_of_ble_eq_true rfl) rfl ⟨Nat.le_of_ble_eq_true rfl, Nat.le_of_ble_eq_true rfl⟩ rfl dX1_copyFrom_8 rfl rfl (rpl_fast (by decide) rfl rfl) rfl rfl rfl (fun H locs hP hD hS => ?_)
  refine lv_iconst (v := 0) hx hb dX1_copyFrom_11 (by decide) ?_
  refine lv_istore_n (lv' := [(2, .int 0), (0, .ref cC), (1, .ref gC)]) hx hb dX1_copyFrom_12 rfl hl (by decide) rfl (fun ls hl => ?_)
  have L13 : ∀ (k13 : Nat) (i13 : Nat) (u13 : Nat → Int32) (v13 : Nat → Int32), k13 + i13 = 4 → f_X1_copyFrom_13 cw ck cm cf gn gw gk gm gf gu gv k13 i13 u13 v13 = R → ∀ (H : Heap) (locs : List Loc) (ls : Array Slot), va_P G.1 wcl [(cC, .inr (1, [.ref co, .ref cU, .ref cV])), (co, .inr (5, [.ref ca, .ref cb, .ref cc, .ref cd, .int (nI ((f_X5_copyFrom 4 cw ck cm cf gn gw gk gm gf).2.2.2.2))])), (ca, .inl (G.2.1, 4, .inl ((f_X5_copyFrom 4 cw ck cm cf gn gw gk gm gf).1))), (cb, .inl (G.2.1, 4, .inl ((f_X5_copyFrom 4 cw ck cm cf gn gw gk gm gf).2.1))), (cc, .inl (G.2.1, 4, .inl ((f_X5_copyFrom 4 cw ck cm cf gn gw gk gm gf).2.2.1))), (cd, .inl (G.2.1, 4, .inl ((f_X5_copyFrom 4 cw ck cm cf gn gw gk gm gf).2.2.2.1))), (cU, .inl (G.2.1, 4, .inl u13)), (cV, .inl (G.2.1, 4, .inl v13)), (gC, .inr (1, [.ref go, .ref gU, .ref gV])), (go, .inr (5, [.ref ga, .ref gb, .ref gc, .ref gd, .int (nI gn)])), (ga, .inl (G.2.1, 4, .inl gw)), (gb, .inl (G.2.1, 4, .inl gk)), (gc, .inl (G.2.1, 4, .inl gm)), (gd, .inl (G.2.1, 4, .inl gf)), (gU, .inl (G.2.1, 4, .inl gu)), (gV, .inl (G.2.1, 4, .inl gv))] H → va_D A [(cC, .inr (1, [.ref co, .ref cU, .ref cV])), (co, .inr (5, [.ref ca, .ref cb, .ref cc, .ref cd, .int (nI ((f_X5_copyFrom 4 cw ck cm cf gn gw gk gm gf).2.2.2.2))])), (ca, .inl (G.2.1, 4, .inl ((f_X5_copyFrom 4 cw ck cm cf gn gw gk gm gf).1))), (cb, .inl (G.2.1, 4, .inl ((f_X5_copyFrom 4 cw ck cm cf gn gw gk gm gf).2.1))), (cc, .inl (G.2.1, 4, .inl ((f_X5_copyFrom 4 cw ck cm cf gn gw gk gm gf).2.2.1))), (cd, .inl (G.2.1, 4, .inl ((f_X5_copyFrom 4 cw ck cm cf gn gw gk gm gf).2.2.2.1))), (cU, .inl (G.2.1, 4, .inl u13)), (cV, .inl (G.2.1, 4, .inl v13)), (gC, .inr (1, [.ref go, .ref gU, .ref gV])), (go, .inr (5, [.ref ga, .ref gb, .ref gc, .ref gd, .int (nI gn)])), (ga, .inl (G.2.1, 4, .inl gw)), (gb, .inl (G.2.1, 4, .inl gk)), (gc, .inl (G.2.1, 4, .inl gm)), (gd, .inl (G.2.1, 4, .inl gf)), (gU, .inl (G.2.1, 4, .inl gu)), (gV, .inl (G.2.1, 4, .inl gv))] → va_S A s.heap H locs → lv_has ls 3 [(0, .ref cC), (1, .ref gC), (2, .int (nI i13))] → W p l e ({ frames := 3, cells := 0, slots := 0, locals := 66 }) s m args below meth c H locs 0 0 Q (F0 m 13 ls []) := by
    intro k13
    induction k13 with
    | zero =>
      intro i13 u13 v13 hi13  hf _ _ ls hP hD hS hl
      rw [f_X1_copyFrom_13_z] at hf
      refine lv_iload_n hx hb dX1_copyFrom_13 rfl (lv_at hl 2 rfl) ?_
      refine lv_iconst (v := 4) hx hb dX1_copyFrom_14 (by decide) ?_
      refine lv_icmp_ge (tgt := 48) hx hb dX1_copyFrom_15 (by decide) (fun _ => ?_) (fun c => absurd (ile (a := 4) (b := i13) rfl rfl (by omega) (by omega) (by omega)) c)
      exact hret ((f_X5_copyFrom 4 cw ck cm cf gn gw gk gm gf).1, (f_X5_copyFrom 4 cw ck cm cf gn gw gk gm gf).2.1, (f_X5_copyFrom 4 cw ck cm cf gn gw gk gm gf).2.2.1, (f_X5_copyFrom 4 cw ck cm cf gn gw gk gm gf).2.2.2.1, (f_X5_copyFrom 4 cw ck cm cf gn gw gk gm gf).2.2.2.2, u13, v13) dX1_copyFrom_48 hf rfl hP hS
    | succ k13 ih13 =>
      intro i13 u13 v13 hi13  hf _ _ ls hP hD hS hl
      rw [f_X1_copyFrom_13_s] at hf
      refine lv_iload_n hx hb dX1_copyFrom_13 rfl (lv_at hl 2 rfl) ?_
      refine lv_iconst (v := 4) hx hb dX1_copyFrom_14 (by decide) ?_
      refine lv_icmp_ge (tgt := 48) hx hb dX1_copyFrom_15 (by decide) (fun c => absurd c (inle (a := 4) (b := i13) rfl rfl (by omega) (by omega) (by omega))) (fun _ => ?_)
      refine lv_aload_n hx hb dX1_copyFrom_18 rfl (lv_at hl 0 rfl) ?_
      refine va_get (D := G.1) (ci := 1) (v := .ref cU) (C := RX1) (T := TX1) (N := 3) hx hb (ku_X1 hK.2) (fun _ h9 => h9) hown hK.1 hP 0 rfl rfl 1 (by decide) (kw_133 hK.2) (fun _ h9 => h9) rfl dX1_copyFrom_19 ?_
      refine lv_iload_n hx hb dX1_copyFrom_22 rfl (lv_at hl 2 rfl) ?_
      refine lv_aload_n hx hb dX1_copyFrom_23 rfl (lv_at hl 1 rfl) ?_
      refine va_get (D := G.1) (ci := 1) (v := .ref gU) (C := RX1) (T := TX1) (N := 3) hx hb (ku_X1 hK.2) (fun _ h9 => h9) hown hK.1 hP 8 rfl rfl 1 (by decide) (kw_133 hK.2) (fun _ h9 => h9) rfl dX1_copyFrom_24 ?_
      refine lv_iload_n hx hb dX1_copyFrom_27 rfl (lv_at hl 2 rfl) ?_
      refine ww_ild (j := i13) hx hb hK.1 hP 14 0 rfl rfl (by omega) (by omega) dX1_copyFrom_28 ?_
      refine ww_ist (j := i13) hx hb hK.1 hP hD hS 6 0 rfl rfl (by omega) (by omega) dX1_copyFrom_29 (fun H locs hP hD hS => ?_)
      have hP : va_P G.1 wcl [(cC, .inr (1, [.ref co, .ref cU, .ref cV])), (co, .inr (5, [.ref ca, .ref cb, .ref cc, .ref cd, .int (nI ((f_X5_copyFrom 4 cw ck cm cf gn gw gk gm gf).2.2.2.2))])), (ca, .inl (G.2.1, 4, .inl ((f_X5_copyFrom 4 cw ck cm cf gn gw gk gm gf).1))), (cb, .inl (G.2.1, 4, .inl ((f_X5_copyFrom 4 cw ck cm cf gn gw gk gm gf).2.1))), (cc, .inl (G.2.1, 4, .inl ((f_X5_copyFrom 4 cw ck cm cf gn gw gk gm gf).2.2.1))), (cd, .inl (G.2.1, 4, .inl ((f_X5_copyFrom 4 cw ck cm cf gn gw gk gm gf).2.2.2.1))), (cU, .inl (G.2.1, 4, .inl (upd u13 i13 (gu i13)))), (cV, .inl (G.2.1, 4, .inl v13)), (gC, .inr (1, [.ref go, .ref gU, .ref gV])), (go, .inr (5, [.ref ga, .ref gb, .ref gc, .ref gd, .int (nI gn)])), (ga, .inl (G.2.1, 4, .inl gw)), (gb, .inl (G.2.1, 4, .inl gk)), (gc, .inl (G.2.1, 4, .inl gm)), (gd, .inl (G.2.1, 4, .inl gf)), (gU, .inl (G.2.1, 4, .inl gu)), (gV, .inl (G.2.1, 4, .inl gv))] H := hP
      have hD : va_D A [(cC, .inr (1, [.ref co, .ref cU, .ref cV])), (co, .inr (5, [.ref ca, .ref cb, .ref cc, .ref cd, .int (nI ((f_X5_copyFrom 4 cw ck cm cf gn gw gk gm gf).2.2.2.2))])), (ca, .inl (G.2.1, 4, .inl ((f_X5_copyFrom 4 cw ck cm cf gn gw gk gm gf).1))), (cb, .inl (G.2.1, 4, .inl ((f_X5_copyFrom 4 cw ck cm cf gn gw gk gm gf).2.1))), (cc, .inl (G.2.1, 4, .inl ((f_X5_copyFrom 4 cw ck cm cf gn gw gk gm gf).2.2.1))), (cd, .inl (G.2.1, 4, .inl ((f_X5_copyFrom 4 cw ck cm cf gn gw gk gm gf).2.2.2.1))), (cU, .inl (G.2.1, 4, .inl (upd u13 i13 (gu i13)))), (cV, .inl (G.2.1, 4, .inl v13)), (gC, .inr (1, [.ref go, .ref gU, .ref gV])), (go, .inr (5, [.ref ga, .ref gb, .ref gc, .ref gd, .int (nI gn)])), (ga, .inl (G.2.1, 4, .inl gw)), (gb, .inl (G.2.1, 4, .inl gk)), (gc, .inl (G.2.1, 4, .inl gm)), (gd, .inl (G.2.1, 4, .inl gf)), (gU, .inl (G.2.1, 4, .inl gu)), (gV, .inl (G.2.1, 4, .inl gv))] := hD
      refine lv_aload_n hx hb dX1_copyFrom_30 rfl (lv_at hl 0 rfl) ?_
      refine va_get (D := G.1) (ci := 1) (v := .ref cV) (C := RX1) (T := TX1) (N := 3) hx hb (ku_X1 hK.2) (fun _ h9 => h9) hown hK.1 hP 0 rfl rfl 2 (by decide) (kw_134 hK.2) (fun _ h9 => h9) rfl dX1_copyFrom_31 ?_
      refine lv_iload_n hx hb dX1_copyFrom_34 rfl (lv_at hl 2 rfl) ?_
      refine lv_aload_n hx hb dX1_copyFrom_35 rfl (lv_at hl 1 rfl) ?_
      refine va_get (D := G.1) (ci := 1) (v := .ref gV) (C := RX1) (T := TX1) (N := 3) hx hb (ku_X1 hK.2) (fun _ h9 => h9) hown hK.1 hP 8 rfl rfl 2 (by decide) (kw_134 hK.2) (fun _ h9 => h9) rfl dX1_copyFrom_36 ?_
      refine lv_iload_n hx hb dX1_copyFrom_39 rfl (lv_at hl 2 rfl) ?_
      refine ww_ild (j := i13) hx hb hK.1 hP 15 0 rfl rfl (by omega) (by omega) dX1_copyFrom_40 ?_
      refine ww_ist (j := i13) hx hb hK.1 hP hD hS 7 0 rfl rfl (by omega) (by omega) dX1_copyFrom_41 (fun H locs hP hD hS => ?_)
      have hP : va_P G.1 wcl [(cC, .inr (1, [.ref co, .ref cU, .ref cV])), (co, .inr (5, [.ref ca, .ref cb, .ref cc, .ref cd, .int (nI ((f_X5_copyFrom 4 cw ck cm cf gn gw gk gm gf).2.2.2.2))])), (ca, .inl (G.2.1, 4, .inl ((f_X5_copyFrom 4 cw ck cm cf gn gw gk gm gf).1))), (cb, .inl (G.2.1, 4, .inl ((f_X5_copyFrom 4 cw ck cm cf gn gw gk gm gf).2.1))), (cc, .inl (G.2.1, 4, .inl ((f_X5_copyFrom 4 cw ck cm cf gn gw gk gm gf).2.2.1))), (cd, .inl (G.2.1, 4, .inl ((f_X5_copyFrom 4 cw ck cm cf gn gw gk gm gf).2.2.2.1))), (cU, .inl (G.2.1, 4, .inl (upd u13 i13 (gu i13)))), (cV, .inl (G.2.1, 4, .inl (upd v13 i13 (gv i13)))), (gC, .inr (1, [.ref go, .ref gU, .ref gV])), (go, .inr (5, [.ref ga, .ref gb, .ref gc, .ref gd, .int (nI gn)])), (ga, .inl (G.2.1, 4, .inl gw)), (gb, .inl (G.2.1, 4, .inl gk)), (gc, .inl (G.2.1, 4, .inl gm)), (gd, .inl (G.2.1, 4, .inl gf)), (gU, .inl (G.2.1, 4, .inl gu)), (gV, .inl (G.2.1, 4, .inl gv))] H := hP
      have hD : va_D A [(cC, .inr (1, [.ref co, .ref cU, .ref cV])), (co, .inr (5, [.ref ca, .ref cb, .ref cc, .ref cd, .int (nI ((f_X5_copyFrom 4 cw ck cm cf gn gw gk gm gf).2.2.2.2))])), (ca, .inl (G.2.1, 4, .inl ((f_X5_copyFrom 4 cw ck cm cf gn gw gk gm gf).1))), (cb, .inl (G.2.1, 4, .inl ((f_X5_copyFrom 4 cw ck cm cf gn gw gk gm gf).2.1))), (cc, .inl (G.2.1, 4, .inl ((f_X5_copyFrom 4 cw ck cm cf gn gw gk gm gf).2.2.1))), (cd, .inl (G.2.1, 4, .inl ((f_X5_copyFrom 4 cw ck cm cf gn gw gk gm gf).2.2.2.1))), (cU, .inl (G.2.1, 4, .inl (upd u13 i13 (gu i13)))), (cV, .inl (G.2.1, 4, .inl (upd v13 i13 (gv i13)))), (gC, .inr (1, [.ref go, .ref gU, .ref gV])), (go, .inr (5, [.ref ga, .ref gb, .ref gc, .ref gd, .int (nI gn)])), (ga, .inl (G.2.1, 4, .inl gw)), (gb, .inl (G.2.1, 4, .inl gk)), (gc, .inl (G.2.1, 4, .inl gm)), (gd, .inl (G.2.1, 4, .inl gf)), (gU, .inl (G.2.1, 4, .inl gu)), (gV, .inl (G.2.1, 4, .inl gv))] := hD
      refine lv_iinc (v := nI (i13 + 1)) (lv' := [(2, .int (nI (i13 + 1))), (0, .ref cC), (1, .ref gC)]) hx hb dX1_copyFrom_42 hl (k := 2) rfl (nI_1 i13) (by decide) rfl (fun ls hl => ?_)
      refine lv_goto (tgt := 13) hx hb dX1_copyFrom_45 (by decide) ?_
      exact ih13 (i13 + 1) (upd u13 i13 (gu i13)) (upd v13 i13 (gv i13)) (by omega)  hf _ _ ls hP hD hS (lv_sub hl [1, 2, 0] rfl)
  exact L13 4 0 cu cv (by omega)  hf _ _ ls hP hD hS (lv_sub hl [1, 2, 0] rfl)
def f_X3_bookAt_0 (s0 : Nat) : Nat := s0
set_option maxHeartbeats 4000000 in
set_option maxRecDepth 100000 in
theorem k_X3_bookAt_0 (l : Launch) (G : wG) (SO : Nat) (s0 : Nat) (s1 : Nat) (s2 : Nat)  : CT l G yX3_bookAt cX3_bookAt 2 (some (.object RX0)) ({ frames := 0, cells := 0, slots := 0, locals := 0 }) [.ref SO, .int 0] [(SO, .inr (3, [.ref s0, .ref s1, .ref s2]))] (fun _ => [(SO, .inr (3, [.ref s0, .ref s1, .ref s2]))]) (fun u => some (.ref u)) (f_X3_bookAt_0 s0) := by
  obtain ⟨R, hf⟩ : ∃ R, f_X3_bookAt_0 s0 = R := ⟨_, rfl⟩
  rw [hf]
  refine CT.mkA RX3 (by decide +kernel) rfl (Nat.le_of_ble_eq_true rfl) ?_
  intro p e s m args below meth c A Q ls hx hb hml hown hK hP hD hS hA hret hl
  have hl : lv_has ls 2 [(0, .ref SO), (1, .int 0)] := hl
  rw [f_X3_bookAt_0] at hf
  refine lv_iload_n hx hb dX3_bookAt_0 rfl (lv_at hl 1 rfl) ?_
  refine lv_if_ne (tgt := 11) hx hb dX3_bookAt_1 (by decide) (fun c => absurd (by decide) c) (fun _ => ?_)
  refine lv_aload_n hx hb dX3_bookAt_4 rfl (lv_at hl 0 rfl) ?_
  refine va_get (D := G.1) (ci := 3) (v := .ref s0) (C := RX3) (T := TX3) (N := 3) hx hb (ku_X3 hK.2) (fun _ h9 => h9) hown hK.1 hP 0 rfl rfl 0 (by decide) (kw_142 hK.2) (fun _ h9 => h9) rfl dX3_bookAt_5 ?_
  refine lv_goto (tgt := 15) hx hb dX3_bookAt_8 (by decide) ?_
  exact hret s0 dX3_bookAt_15 hf rfl hP hS
def f_X3_bookAt_1 (s1 : Nat) : Nat := s1
set_option maxHeartbeats 4000000 in
set_option maxRecDepth 100000 in
theorem k_X3_bookAt_1 (l : Launch) (G : wG) (SO : Nat) (s0 : Nat) (s1 : Nat) (s2 : Nat)  : CT l G yX3_bookAt cX3_bookAt 2 (some (.object RX0)) ({ frames := 0, cells := 0, slots := 0, locals := 0 }) [.ref SO, .int 1] [(SO, .inr (3, [.ref s0, .ref s1, .ref s2]))] (fun _ => [(SO, .inr (3, [.ref s0, .ref s1, .ref s2]))]) (fun u => some (.ref u)) (f_X3_bookAt_1 s1) := by
  obtain ⟨R, hf⟩ : ∃ R, f_X3_bookAt_1 s1 = R := ⟨_, rfl⟩
  rw [hf]
  refine CT.mkA RX3 (by decide +kernel) rfl (Nat.le_of_ble_eq_true rfl) ?_
  intro p e s m args below meth c A Q ls hx hb hml hown hK hP hD hS hA hret hl
  have hl : lv_has ls 2 [(0, .ref SO), (1, .int 1)] := hl
  rw [f_X3_bookAt_1] at hf
  refine lv_iload_n hx hb dX3_bookAt_0 rfl (lv_at hl 1 rfl) ?_
  refine lv_if_ne (tgt := 11) hx hb dX3_bookAt_1 (by decide) (fun _ => ?_) (fun c => absurd c (by decide))
  refine lv_aload_n hx hb dX3_bookAt_11 rfl (lv_at hl 0 rfl) ?_
  refine va_get (D := G.1) (ci := 3) (v := .ref s1) (C := RX3) (T := TX3) (N := 3) hx hb (ku_X3 hK.2) (fun _ h9 => h9) hown hK.1 hP 0 rfl rfl 1 (by decide) (kw_143 hK.2) (fun _ h9 => h9) rfl dX3_bookAt_12 ?_
  exact hret s1 dX3_bookAt_15 hf rfl hP hS
def f_X3_howManyTellings (xn : Nat) (yn : Nat) : Int32 := nI (xn + yn)
set_option maxHeartbeats 4000000 in
set_option maxRecDepth 100000 in
theorem k_X3_howManyTellings (l : Launch) (G : wG) (SO : Nat) (cC : Nat) (xO : Nat) (xo : Nat) (xa : Nat) (xb : Nat) (xc : Nat) (xd : Nat) (xH : Nat) (xM : Nat) (yO : Nat) (yo : Nat) (ya : Nat) (yb : Nat) (yc : Nat) (yd : Nat) (yH : Nat) (yM : Nat) (xn : Nat) (yn : Nat) (xB : Int32) (yB : Int32) (hxn : xn ≤ 20) (hyn : yn ≤ 20) : CT l G yX3_howManyTellings cX3_howManyTellings 1 (some .int) ({ frames := 0, cells := 0, slots := 0, locals := 0 }) [.ref SO] [(SO, .inr (3, [.ref xO, .ref yO, .ref cC])), (xO, .inr (0, [.ref xo, .ref xH, .ref xM, .int xB])), (xo, .inr (5, [.ref xa, .ref xb, .ref xc, .ref xd, .int (nI xn)])), (yO, .inr (0, [.ref yo, .ref yH, .ref yM, .int yB])), (yo, .inr (5, [.ref ya, .ref yb, .ref yc, .ref yd, .int (nI yn)]))] (fun _ => [(SO, .inr (3, [.ref xO, .ref yO, .ref cC])), (xO, .inr (0, [.ref xo, .ref xH, .ref xM, .int xB])), (xo, .inr (5, [.ref xa, .ref xb, .ref xc, .ref xd, .int (nI xn)])), (yO, .inr (0, [.ref yo, .ref yH, .ref yM, .int yB])), (yo, .inr (5, [.ref ya, .ref yb, .ref yc, .ref yd, .int (nI yn)]))]) (fun u => some (.int u)) (f_X3_howManyTellings xn yn) := by
  obtain ⟨R, hf⟩ : ∃ R, f_X3_howManyTellings xn yn = R := ⟨_, rfl⟩
  rw [hf]
  refine CT.mkI RX3 (by decide +kernel) rfl (Nat.le_of_ble_eq_true rfl) ?_
  intro p e s m args below meth c A Q ls hx hb hml hown hK hP hD hS hA hret hl
  have hl : lv_has ls 1 [(0, .ref SO)] := hl
  rw [f_X3_howManyTellings] at hf
  refine lv_aload_n hx hb dX3_howManyTellings_0 rfl (lv_at hl 0 rfl) ?_
  refine va_get (D := G.1) (ci := 3) (v := .ref xO) (C := RX3) (T := TX3) (N := 3) hx hb (ku_X3 hK.2) (fun _ h9 => h9) hown hK.1 hP 0 rfl rfl 0 (by decide) (kw_142 hK.2) (fun _ h9 => h9) rfl dX3_howManyTellings_1 ?_
  refine va_getN (D := G.1) (ci := 0) (v := .ref xo) (C := RX0) (T := TX0) (N := 4) hx hb (ku_X0 hK.2) (fun _ h9 => h9) hown hK.1 hP 1 rfl rfl 0 (by decide) (kw_105 hK.2) (fun _ h9 => h9) rfl dX3_howManyTellings_4 ?_
  refine va_getN (D := G.1) (ci := 5) (v := .int (nI xn)) (C := RX5) (T := TX5) (N := 5) hx hb (ku_X5 hK.2) (fun _ h9 => h9) hown hK.1 hP 2 rfl rfl 4 (by decide) (kw_88 hK.2) (fun _ h9 => h9) rfl dX3_howManyTellings_7 ?_
  refine lv_aload_n hx hb dX3_howManyTellings_10 rfl (lv_at hl 0 rfl) ?_
  refine va_get (D := G.1) (ci := 3) (v := .ref yO) (C := RX3) (T := TX3) (N := 3) hx hb (ku_X3 hK.2) (fun _ h9 => h9) hown hK.1 hP 0 rfl rfl 1 (by decide) (kw_143 hK.2) (fun _ h9 => h9) rfl dX3_howManyTellings_11 ?_
  refine va_getN (D := G.1) (ci := 0) (v := .ref yo) (C := RX0) (T := TX0) (N := 4) hx hb (ku_X0 hK.2) (fun _ h9 => h9) hown hK.1 hP 3 rfl rfl 0 (by decide) (kw_105 hK.2) (fun _ h9 => h9) rfl dX3_howManyTellings_14 ?_
  refine va_getN (D := G.1) (ci := 5) (v := .int (nI yn)) (C := RX5) (T := TX5) (N := 5) hx hb (ku_X5 hK.2) (fun _ h9 => h9) hown hK.1 hP 4 rfl rfl 4 (by decide) (kw_88 hK.2) (fun _ h9 => h9) rfl dX3_howManyTellings_17 ?_
  refine lv_iadd hx hb dX3_howManyTellings_20 ?_
  refine ww_e (nI_addE (a := xn) (b := yn) rfl rfl) ?_
  exact hret (nI (xn + yn)) dX3_howManyTellings_21 rfl hf rfl hP hS
