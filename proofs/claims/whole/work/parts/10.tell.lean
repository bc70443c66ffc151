def f_J6_bitCount_0f7a4 (bx : Int32) : Int32 := (((((((bx - (((bx.toUInt32 >>> ((1 : Int32).toUInt32 &&& Int32.toUInt32 31)).toInt32) &&& (1431655765 : Int32))) &&& (858993459 : Int32)) + ((((bx - (((bx.toUInt32 >>> ((1 : Int32).toUInt32 &&& Int32.toUInt32 31)).toInt32) &&& (1431655765 : Int32))).toUInt32 >>> ((2 : Int32).toUInt32 &&& Int32.toUInt32 31)).toInt32) &&& (858993459 : Int32))) + (((((bx - (((bx.toUInt32 >>> ((1 : Int32).toUInt32 &&& Int32.toUInt32 31)).toInt32) &&& (1431655765 : Int32))) &&& (858993459 : Int32)) + ((((bx - (((bx.toUInt32 >>> ((1 : Int32).toUInt32 &&& Int32.toUInt32 31)).toInt32) &&& (1431655765 : Int32))).toUInt32 >>> ((2 : Int32).toUInt32 &&& Int32.toUInt32 31)).toInt32) &&& (858993459 : Int32))).toUInt32 >>> ((4 : Int32).toUInt32 &&& Int32.toUInt32 31)).toInt32)) &&& (252645135 : Int32)) + (((((((bx - (((bx.toUInt32 >>> ((1 : Int32).toUInt32 &&& Int32.toUInt32 31)).toInt32) &&& (1431655765 : Int32))) &&& (858993459 : Int32)) + ((((bx - (((bx.toUInt32 >>> ((1 : Int32).toUInt32 &&& Int32.toUInt32 31)).toInt32) &&& (1431655765 : Int32))).toUInt32 >>> ((2 : Int32).toUInt32 &&& Int32.toUInt32 31)).toInt32) &&& (858993459 : Int32))) + (((((bx - (((bx.toUInt32 >>> ((1 : Int32).toUInt32 &&& Int32.toUInt32 31)).toInt32) &&& (1431655765 : Int32))) &&& (858993459 : Int32)) + ((((bx - (((bx.toUInt32 >>> ((1 : Int32).toUInt32 &&& Int32.toUInt32 31)).toInt32) &&& (1431655765 : Int32))).toUInt32 >>> ((2 : Int32).toUInt32 &&& Int32.toUInt32 31)).toInt32) &&& (858993459 : Int32))).toUInt32 >>> ((4 : Int32).toUInt32 &&& Int32.toUInt32 31)).toInt32)) &&& (252645135 : Int32)).toUInt32 >>> ((8 : Int32).toUInt32 &&& Int32.toUInt32 31)).toInt32)) + ((((((((bx - (((bx.toUInt32 >>> ((1 : Int32).toUInt32 &&& Int32.toUInt32 31)).toInt32) &&& (1431655765 : Int32))) &&& (858993459 : Int32)) + ((((bx - (((bx.toUInt32 >>> ((1 : Int32).toUInt32 &&& Int32.toUInt32 31)).toInt32) &&& (1431655765 : Int32))).toUInt32 >>> ((2 : Int32).toUInt32 &&& Int32.toUInt32 31)).toInt32) &&& (858993459 : Int32))) + (((((bx - (((bx.toUInt32 >>> ((1 : Int32).toUInt32 &&& Int32.toUInt32 31)).toInt32) &&& (1431655765 : Int32))) &&& (858993459 : Int32)) + ((((bx - (((bx.toUInt32 >>> ((1 : Int32).toUInt32 &&& Int32.toUInt32 31)).toInt32) &&& (1431655765 : Int32))).toUInt32 >>> ((2 : Int32).toUInt32 &&& Int32.toUInt32 31)).toInt32) &&& (858993459 : Int32))).toUInt32 >>> ((4 : Int32).toUInt32 &&& Int32.toUInt32 31)).toInt32)) &&& (252645135 : Int32)) + (((((((bx - (((bx.toUInt32 >>> ((1 : Int32).toUInt32 &&& Int32.toUInt32 31)).toInt32) &&& (1431655765 : Int32))) &&& (858993459 : Int32)) + ((((bx - (((bx.toUInt32 >>> ((1 : Int32).toUInt32 &&& Int32.toUInt32 31)).toInt32) &&& (1431655765 : Int32))).toUInt32 >>> ((2 : Int32).toUInt32 &&& Int32.toUInt32 31)).toInt32) &&& (858993459 : Int32))) + (((((bx - (((bx.toUInt32 >>> ((1 : Int32).toUInt32 &&& Int32.toUInt32 31)).toInt32) &&& (1431655765 : Int32))) &&& (858993459 : Int32)) + ((((bx - (((bx.toUInt32 >>> ((1 : Int32).toUInt32 &&& Int32.toUInt32 31)).toInt32) &&& (1431655765 : Int32))).toUInt32 >>> ((2 : Int32).toUInt32 &&& Int32.toUInt32 31)).toInt32) &&& (858993459 : Int32))).toUInt32 >>> ((4 : Int32).toUInt32 &&& Int32.toUInt32 31)).toInt32)) &&& (252645135 : Int32)).toUInt32 >>> ((8 : Int32).toUInt32 &&& Int32.toUInt32 31)).toInt32)).toUInt32 >>> ((16 : Int32).toUInt32 &&& Int32.toUInt32 31)).toInt32)) &&& (63 : Int32)
set_option maxHeartbeats 4000000 in
set_option maxRecDepth 100000 in
theorem k_J6_bitCount_0f7a4 (l : Launch) (G : wG) (bx : Int32)  : CT l G yJ6_bitCount_0f7a4 cJ6_bitCount_0f7a4 1 (some .int) ({ frames := 0, cells := 0, slots := 0, locals := 0 }) [.int bx] [] (fun _ => []) (fun u => some (.int u)) (f_J6_bitCount_0f7a4 bx) := by
  obtain ⟨R, hf⟩ : ∃ R, f_J6_bitCount_0f7a4 bx = R := ⟨_, rfl⟩
  rw [hf]
  refine CT.mkI RJ6 (by decide +kernel) rfl (Nat.le_of_ble_eq_true rfl) ?_
  intro p e s m args below meth c A Q ls hx hb hml hown hK hP hD hS hA hret hl
  have hl : lv_has ls 1 [(0, .int bx)] := hl
  rw [f_J6_bitCount_0f7a4] at hf
  refine lv_iload_n hx hb dJ6_bitCount_0f7a4_0 rfl (lv_at hl 0 rfl) ?_
  refine lv_iload_n hx hb dJ6_bitCount_0f7a4_1 rfl (lv_at hl 0 rfl) ?_
  refine lv_iconst (v := 1) hx hb dJ6_bitCount_0f7a4_2 (by decide) ?_
  refine lv_iushr (v := (bx.toUInt32 >>> ((1 : Int32).toUInt32 &&& Int32.toUInt32 31)).toInt32) hx hb dJ6_bitCount_0f7a4_3 rfl ?_
  refine lv_ldcw (v := 1431655765) hx hb hown (kw_432 hK.2) dJ6_bitCount_0f7a4_4 ?_
  refine lv_iand hx hb dJ6_bitCount_0f7a4_7 ?_
  refine lv_isub hx hb dJ6_bitCount_0f7a4_8 ?_
  refine lv_istore_n (lv' := [(0, .int (bx - (((bx.toUInt32 >>> ((1 : Int32).toUInt32 &&& Int32.toUInt32 31)).toInt32) &&& (1431655765 : Int32))))]) hx hb dJ6_bitCount_0f7a4_9 rfl hl (by decide) rfl (fun ls hl => ?_)
  refine lv_iload_n hx hb dJ6_bitCount_0f7a4_10 rfl (lv_at hl 0 rfl) ?_
  refine lv_ldcw (v := 858993459) hx hb hown (kw_433 hK.2) dJ6_bitCount_0f7a4_11 ?_
  refine lv_iand hx hb dJ6_bitCount_0f7a4_14 ?_
  refine lv_iload_n hx hb dJ6_bitCount_0f7a4_15 rfl (lv_at hl 0 rfl) ?_
  refine lv_iconst (v := 2) hx hb dJ6_bitCount_0f7a4_16 (by decide) ?_
  refine lv_iushr (v := ((bx - (((bx.toUInt32 >>> ((1 : Int32).toUInt32 &&& Int32.toUInt32 31)).toInt32) &&& (1431655765 : Int32))).toUInt32 >>> ((2 : Int32).toUInt32 &&& Int32.toUInt32 31)).toInt32) hx hb dJ6_bitCount_0f7a4_17 rfl ?_
  refine lv_ldcw (v := 858993459) hx hb hown (kw_433 hK.2) dJ6_bitCount_0f7a4_18 ?_
  refine lv_iand hx hb dJ6_bitCount_0f7a4_21 ?_
  refine lv_iadd hx hb dJ6_bitCount_0f7a4_22 ?_
  refine lv_istore_n (lv' := [(0, .int (((bx - (((bx.toUInt32 >>> ((1 : Int32).toUInt32 &&& Int32.toUInt32 31)).toInt32) &&& (1431655765 : Int32))) &&& (858993459 : Int32)) + ((((bx - (((bx.toUInt32 >>> ((1 : Int32).toUInt32 &&& Int32.toUInt32 31)).toInt32) &&& (1431655765 : Int32))).toUInt32 >>> ((2 : Int32).toUInt32 &&& Int32.toUInt32 31)).toInt32) &&& (858993459 : Int32))))]) hx hb dJ6_bitCount_0f7a4_23 rfl hl (by decide) rfl (fun ls hl => ?_)
  refine lv_iload_n hx hb dJ6_bitCount_0f7a4_24 rfl (lv_at hl 0 rfl) ?_
  refine lv_iload_n hx hb dJ6_bitCount_0f7a4_25 rfl (lv_at hl 0 rfl) ?_
  refine lv_iconst (v := 4) hx hb dJ6_bitCount_0f7a4_26 (by decide) ?_
  refine lv_iushr (v := ((((bx - (((bx.toUInt32 >>> ((1 : Int32).toUInt32 &&& Int32.toUInt32 31)).toInt32) &&& (1431655765 : Int32))) &&& (858993459 : Int32)) + ((((bx - (((bx.toUInt32 >>> ((1 : Int32).toUInt32 &&& Int32.toUInt32 31)).toInt32) &&& (1431655765 : Int32))).toUInt32 >>> ((2 : Int32).toUInt32 &&& Int32.toUInt32 31)).toInt32) &&& (858993459 : Int32))).toUInt32 >>> ((4 : Int32).toUInt32 &&& Int32.toUInt32 31)).toInt32) hx hb dJ6_bitCount_0f7a4_27 rfl ?_
  refine lv_iadd hx hb dJ6_bitCount_0f7a4_28 ?_
  refine lv_ldcw (v := 252645135) hx hb hown (kw_434 hK.2) dJ6_bitCount_0f7a4_29 ?_
  refine lv_iand hx hb dJ6_bitCount_0f7a4_32 ?_
  refine lv_istore_n (lv' := [(0, .int (((((bx - (((bx.toUInt32 >>> ((1 : Int32).toUInt32 &&& Int32.toUInt32 31)).toInt32) &&& (1431655765 : Int32))) &&& (858993459 : Int32)) + ((((bx - (((bx.toUInt32 >>> ((1 : Int32).toUInt32 &&& Int32.toUInt32 31)).toInt32) &&& (1431655765 : Int32))).toUInt32 >>> ((2 : Int32).toUInt32 &&& Int32.toUInt32 31)).toInt32) &&& (858993459 : Int32))) + (((((bx - (((bx.toUInt32 >>> ((1 : Int32).toUInt32 &&& Int32.toUInt32 31)).toInt32) &&& (1431655765 : Int32))) &&& (858993459 : Int32)) + ((((bx - (((bx.toUInt32 >>> ((1 : Int32).toUInt32 &&& Int32.toUInt32 31)).toInt32) &&& (1431655765 : Int32))).toUInt32 >>> ((2 : Int32).toUInt32 &&& Int32.toUInt32 31)).toInt32) &&& (858993459 : Int32))).toUInt32 >>> ((4 : Int32).toUInt32 &&& Int32.toUInt32 31)).toInt32)) &&& (252645135 : Int32)))]) hx hb dJ6_bitCount_0f7a4_33 rfl hl (by decide) rfl (fun ls hl => ?_)
  refine lv_iload_n hx hb dJ6_bitCount_0f7a4_34 rfl (lv_at hl 0 rfl) ?_
  refine lv_iload_n hx hb dJ6_bitCount_0f7a4_35 rfl (lv_at hl 0 rfl) ?_
  refine lv_bipush (v := 8) hx hb dJ6_bitCount_0f7a4_36 (by decide) ?_
  refine lv_iushr (v := ((((((bx - (((bx.toUInt32 >>> ((1 : Int32).toUInt32 &&& Int32.toUInt32 31)).toInt32) &&& (1431655765 : Int32))) &&& (858993459 : Int32)) + ((((bx - (((bx.toUInt32 >>> ((1 : Int32).toUInt32 &&& Int32.toUInt32 31)).toInt32) &&& (1431655765 : Int32))).toUInt32 >>> ((2 : Int32).toUInt32 &&& Int32.toUInt32 31)).toInt32) &&& (858993459 : Int32))) + (((((bx - (((bx.toUInt32 >>> ((1 : Int32).toUInt32 &&& Int32.toUInt32 31)).toInt32) &&& (1431655765 : Int32))) &&& (858993459 : Int32)) + ((((bx - (((bx.toUInt32 >>> ((1 : Int32).toUInt32 &&& Int32.toUInt32 31)).toInt32) &&& (1431655765 : Int32))).toUInt32 >>> ((2 : Int32).toUInt32 &&& Int32.toUInt32 31)).toInt32) &&& (858993459 : Int32))).toUInt32 >>> ((4 : Int32).toUInt32 &&& Int32.toUInt32 31)).toInt32)) &&& (252645135 : Int32)).toUInt32 >>> ((8 : Int32).toUInt32 &&& Int32.toUInt32 31)).toInt32) hx hb dJ6_bitCount_0f7a4_38 rfl ?_
  refine lv_iadd hx hb dJ6_bitCount_0f7a4_39 ?_
  refine lv_istore_n (lv' := [(0, .int ((((((bx - (((bx.toUInt32 >>> ((1 : Int32).toUInt32 &&& Int32.toUInt32 31)).toInt32) &&& (1431655765 : Int32))) &&& (858993459 : Int32)) + ((((bx - (((bx.toUInt32 >>> ((1 : Int32).toUInt32 &&& Int32.toUInt32 31)).toInt32) &&& (1431655765 : Int32))).toUInt32 >>> ((2 : Int32).toUInt32 &&& Int32.toUInt32 31)).toInt32) &&& (858993459 : Int32))) + (((((bx - (((bx.toUInt32 >>> ((1 : Int32).toUInt32 &&& Int32.toUInt32 31)).toInt32) &&& (1431655765 : Int32))) &&& (858993459 : Int32)) + ((((bx - (((bx.toUInt32 >>> ((1 : Int32).toUInt32 &&& Int32.toUInt32 31)).toInt32) &&& (1431655765 : Int32))).toUInt32 >>> ((2 : Int32).toUInt32 &&& Int32.toUInt32 31)).toInt32) &&& (858993459 : Int32))).toUInt32 >>> ((4 : Int32).toUInt32 &&& Int32.toUInt32 31)).toInt32)) &&& (252645135 : Int32)) + (((((((bx - (((bx.toUInt32 >>> ((1 : Int32).toUInt32 &&& Int32.toUInt32 31)).toInt32) &&& (1431655765 : Int32))) &&& (858993459 : Int32)) + ((((bx - (((bx.toUInt32 >>> ((1 : Int32).toUInt32 &&& Int32.toUInt32 31)).toInt32) &&& (1431655765 : Int32))).toUInt32 >>> ((2 : Int32).toUInt32 &&& Int32.toUInt32 31)).toInt32) &&& (858993459 : Int32))) + (((((bx - (((bx.toUInt32 >>> ((1 : Int32).toUInt32 &&& Int32.toUInt32 31)).toInt32) &&& (1431655765 : Int32))) &&& (858993459 : Int32)) + ((((bx - (((bx.toUInt32 >>> ((1 : Int32).toUInt32 &&& Int32.toUInt32 31)).toInt32) &&& (1431655765 : Int32))).toUInt32 >>> ((2 : Int32).toUInt32 &&& Int32.toUInt32 31)).toInt32) &&& (858993459 : Int32))).toUInt32 >>> ((4 : Int32).toUInt32 &&& Int32.toUInt32 31)).toInt32)) &&& (252645135 : Int32)).toUInt32 >>> ((8 : Int32).toUInt32 &&& Int32.toUInt32 31)).toInt32)))]) hx hb dJ6_bitCount_0f7a4_40 rfl hl (by decide) rfl (fun ls hl => ?_)
  refine lv_iload_n hx hb dJ6_bitCount_0f7a4_41 rfl (lv_at hl 0 rfl) ?_
  refine lv_iload_n hx hb dJ6_bitCount_0f7a4_42 rfl (lv_at hl 0 rfl) ?_
  refine lv_bipush (v := 16) hx hb dJ6_bitCount_0f7a4_43 (by decide) ?_
  refine lv_iushr (v := (((((((bx - (((bx.toUInt32 >>> ((1 : Int32).toUInt32 &&& Int32.toUInt32 31)).toInt32) &&& (1431655765 : Int32))) &&& (858993459 : Int32)) + ((((bx - (((bx.toUInt32 >>> ((1 : Int32).toUInt32 &&& Int32.toUInt32 31)).toInt32) &&& (1431655765 : Int32))).toUInt32 >>> ((2 : Int32).toUInt32 &&& Int32.toUInt32 31)).toInt32) &&& (858993459 : Int32))) + (((((bx - (((bx.toUInt32 >>> ((1 : Int32).toUInt32 &&& Int32.toUInt32 31)).toInt32) &&& (1431655765 : Int32))) &&& (858993459 : Int32)) + ((((bx - (((bx.toUInt32 >>> ((1 : Int32).toUInt32 &&& Int32.toUInt32 31)).toInt32) &&& (1431655765 : Int32))).toUInt32 >>> ((2 : Int32).toUInt32 &&& Int32.toUInt32 31)).toInt32) &&& (858993459 : Int32))).toUInt32 >>> ((4 : Int32).toUInt32 &&& Int32.toUInt32 31)).toInt32)) &&& (252645135 : Int32)) + (((((((bx - (((bx.toUInt32 >>> ((1 : Int32).toUInt32 &&& Int32.toUInt32 31)).toInt32) &&& (1431655765 : Int32))) &&& (858993459 : Int32)) + ((((bx - (((bx.toUInt32 >>> ((1 : Int32).toUInt32 &&& Int32.toUInt32 31)).toInt32) &&& (1431655765 : Int32))).toUInt32 >>> ((2 : Int32).toUInt32 &&& Int32.toUInt32 31)).toInt32) &&& (858993459 : Int32))) + (((((bx - (((bx.toUInt32 >>> ((1 : Int32).toUInt32 &&& Int32.toUInt32 31)).toInt32) &&& (1431655765 : Int32))) &&& (858993459 : Int32)) + ((((bx - (((bx.toUInt32 >>> ((1 : Int32).toUInt32 &&& Int32.toUInt32 31)).toInt32) &&& (1431655765 : Int32))).toUInt32 >>> ((2 : Int32).toUInt32 &&& Int32.toUInt32 31)).toInt32) &&& (858993459 : Int32))).toUInt32 >>> ((4 : Int32).toUInt32 &&& Int32.toUInt32 31)).toInt32)) &&& (252645135 : Int32)).toUInt32 >>> ((8 : Int32).toUInt32 &&& Int32.toUInt32 31)).toInt32)).toUInt32 >>> ((16 : Int32).toUInt32 &&& Int32.toUInt32 31)).toInt32) hx hb dJ6_bitCount_0f7a4_45 rfl ?_
  refine lv_iadd hx hb dJ6_bitCount_0f7a4_46 ?_
  refine lv_istore_n (lv' := [(0, .int (((((((bx - (((bx.toUInt32 >>> ((1 : Int32).toUInt32 &&& Int32.toUInt32 31)).toInt32) &&& (1431655765 : Int32))) &&& (858993459 : Int32)) + ((((bx - (((bx.toUInt32 >>> ((1 : Int32).toUInt32 &&& Int32.toUInt32 31)).toInt32) &&& (1431655765 : Int32))).toUInt32 >>> ((2 : Int32).toUInt32 &&& Int32.toUInt32 31)).toInt32) &&& (858993459 : Int32))) + (((((bx - (((bx.toUInt32 >>> ((1 : Int32).toUInt32 &&& Int32.toUInt32 31)).toInt32) &&& (1431655765 : Int32))) &&& (858993459 : Int32)) + ((((bx - (((bx.toUInt32 >>> ((1 : Int32).toUInt32 &&& Int32.toUInt32 31)).toInt32) &&& (1431655765 : Int32))).toUInt32 >>> ((2 : Int32).toUInt32 &&& Int32.toUInt32 31)).toInt32) &&& (858993459 : Int32))).toUInt32 >>> ((4 : Int32).toUInt32 &&& Int32.toUInt32 31)).toInt32)) &&& (252645135 : Int32)) + (((((((bx - (((bx.toUInt32 >>> ((1 : Int32).toUInt32 &&& Int32.toUInt32 31)).toInt32) &&& (1431655765 : Int32))) &&& (858993459 : Int32)) + ((((bx - (((bx.toUInt32 >>> ((1 : Int32).toUInt32 &&& Int32.toUInt32 31)).toInt32) &&& (1431655765 : Int32))).toUInt32 >>> ((2 : Int32).toUInt32 &&& Int32.toUInt32 31)).toInt32) &&& (858993459 : Int32))) + (((((bx - (((bx.toUInt32 >>> ((1 : Int32).toUInt32 &&& Int32.toUInt32 31)).toInt32) &&& (1431655765 : Int32))) &&& (858993459 : Int32)) + ((((bx - (((bx.toUInt32 >>> ((1 : Int32).toUInt32 &&& Int32.toUInt32 31)).toInt32) &&& (1431655765 : Int32))).toUInt32 >>> ((2 : Int32).toUInt32 &&& Int32.toUInt32 31)).toInt32) &&& (858993459 : Int32))).toUInt32 >>> ((4 : Int32).toUInt32 &&& Int32.toUInt32 31)).toInt32)) &&& (252645135 : Int32)).toUInt32 >>> ((8 : Int32).toUInt32 &&& Int32.toUInt32 31)).toInt32)) + ((((((((bx - (((bx.toUInt32 >>> ((1 : Int32).toUInt32 &&& Int32.toUInt32 31)).toInt32) &&& (1431655765 : Int32))) &&& (858993459 : Int32)) + ((((bx - (((bx.toUInt32 >>> ((1 : Int32).toUInt32 &&& Int32.toUInt32 31)).toInt32) &&& (1431655765 : Int32))).toUInt32 >>> ((2 : Int32).toUInt32 &&& Int32.toUInt32 31)).toInt32) &&& (858993459 : Int32))) + (((((bx - (((bx.toUInt32 >>> ((1 : Int32).toUInt32 &&& Int32.toUInt32 31)).toInt32) &&& (1431655765 : Int32))) &&& (858993459 : Int32)) + ((((bx - (((bx.toUInt32 >>> ((1 : Int32).toUInt32 &&& Int32.toUInt32 31)).toInt32) &&& (1431655765 : Int32))).toUInt32 >>> ((2 : Int32).toUInt32 &&& Int32.toUInt32 31)).toInt32) &&& (858993459 : Int32))).toUInt32 >>> ((4 : Int32).toUInt32 &&& Int32.toUInt32 31)).toInt32)) &&& (252645135 : Int32)) + (((((((bx - (((bx.toUInt32 >>> ((1 : Int32).toUInt32 &&& Int32.toUInt32 31)).toInt32) &&& (1431655765 : Int32))) &&& (858993459 : Int32)) + ((((bx - (((bx.toUInt32 >>> ((1 : Int32).toUInt32 &&& Int32.toUInt32 31)).toInt32) &&& (1431655765 : Int32))).toUInt32 >>> ((2 : Int32).toUInt32 &&& Int32.toUInt32 31)).toInt32) &&& (858993459 : Int32))) + (((((bx - (((bx.toUInt32 >>> ((1 : Int32).toUInt32 &&& Int32.toUInt32 31)).toInt32) &&& (1431655765 : Int32))) &&& (858993459 : Int32)) + ((((bx - (((bx.toUInt32 >>> ((1 : Int32).toUInt32 &&& Int32.toUInt32 31)).toInt32) &&& (1431655765 : Int32))).toUInt32 >>> ((2 : Int32).toUInt32 &&& Int32.toUInt32 31)).toInt32) &&& (858993459 : Int32))).toUInt32 >>> ((4 : Int32).toUInt32 &&& Int32.toUInt32 31)).toInt32)) &&& (252645135 : Int32)).toUInt32 >>> ((8 : Int32).toUInt32 &&& Int32.toUInt32 31)).toInt32)).toUInt32 >>> ((16 : Int32).toUInt32 &&& Int32.toUInt32 31)).toInt32)))]) hx hb dJ6_bitCount_0f7a4_47 rfl hl (by decide) rfl (fun ls hl => ?_)
  refine lv_iload_n hx hb dJ6_bitCount_0f7a4_48 rfl (lv_at hl 0 rfl) ?_
  refine lv_bipush (v := 63) hx hb dJ6_bitCount_0f7a4_49 (by decide) ?_
  refine lv_iand hx hb dJ6_bitCount_0f7a4_51 ?_
  exact hret ((((((((bx - (((bx.toUInt32 >>> ((1 : Int32).toUInt32 &&& Int32.toUInt32 31)).toInt32) &&& (1431655765 : Int32))) &&& (858993459 : Int32)) + ((((bx - (((bx.toUInt32 >>> ((1 : Int32).toUInt32 &&& Int32.toUInt32 31)).toInt32) &&& (1431655765 : Int32))).toUInt32 >>> ((2 : Int32).toUInt32 &&& Int32.toUInt32 31)).toInt32) &&& (858993459 : Int32))) + (((((bx - (((bx.toUInt32 >>> ((1 : Int32).toUInt32 &&& Int32.toUInt32 31)).toInt32) &&& (1431655765 : Int32))) &&& (858993459 : Int32)) + ((((bx - (((bx.toUInt32 >>> ((1 : Int32).toUInt32 &&& Int32.toUInt32 31)).toInt32) &&& (1431655765 : Int32))).toUInt32 >>> ((2 : Int32).toUInt32 &&& Int32.toUInt32 31)).toInt32) &&& (858993459 : Int32))).toUInt32 >>> ((4 : Int32).toUInt32 &&& Int32.toUInt32 31)).toInt32)) &&& (252645135 : Int32)) + (((((((bx - (((bx.toUInt32 >>> ((1 : Int32).toUInt32 &&& Int32.toUInt32 31)).toInt32) &&& (1431655765 : Int32))) &&& (858993459 : Int32)) + ((((bx - (((bx.toUInt32 >>> ((1 : Int32).toUInt32 &&& Int32.toUInt32 31)).toInt32) &&& (1431655765 : Int32))).toUInt32 >>> ((2 : Int32).toUInt32 &&& Int32.toUInt32 31)).toInt32) &&& (858993459 : Int32))) + (((((bx - (((bx.toUInt32 >>> ((1 : Int32).toUInt32 &&& Int32.toUInt32 31)).toInt32) &&& (1431655765 : Int32))) &&& (858993459 : Int32)) + ((((bx - (((bx.toUInt32 >>> ((1 : Int32).toUInt32 &&& Int32.toUInt32 31)).toInt32) &&& (1431655765 : Int32))).toUInt32 >>> ((2 : Int32).toUInt32 &&& Int32.toUInt32 31)).toInt32) &&& (858993459 : Int32))).toUInt32 >>> ((4 : Int32).toUInt32 &&& Int32.toUInt32 31)).toInt32)) &&& (252645135 : Int32)).toUInt32 >>> ((8 : Int32).toUInt32 &&& Int32.toUInt32 31)).toInt32)) + ((((((((bx - (((bx.toUInt32 >>> ((1 : Int32).toUInt32 &&& Int32.toUInt32 31)).toInt32) &&& (1431655765 : Int32))) &&& (858993459 : Int32)) + ((((bx - (((bx.toUInt32 >>> ((1 : Int32).toUInt32 &&& Int32.toUInt32 31)).toInt32) &&& (1431655765 : Int32))).toUInt32 >>> ((2 : Int32).toUInt32 &&& Int32.toUInt32 31)).toInt32) &&& (858993459 : Int32))) + (((((bx - (((bx.toUInt32 >>> ((1 : Int32).toUInt32 &&& Int32.toUInt32 31)).toInt32) &&& (1431655765 : Int32))) &&& (858993459 : Int32)) + ((((bx - (((bx.toUInt32 >>> ((1 : Int32).toUInt32 &&& Int32.toUInt32 31)).toInt32) &&& (1431655765 : Int32))).toUInt32 >>> ((2 : Int32).toUInt32 &&& Int32.toUInt32 31)).toInt32) &&& (858993459 : Int32))).toUInt32 >>> ((4 : Int32).toUInt32 &&& Int32.toUInt32 31)).toInt32)) &&& (252645135 : Int32)) + (((((((bx - (((bx.toUInt32 >>> ((1 : Int32).toUInt32 &&& Int32.toUInt32 31)).toInt32) &&& (1431655765 : Int32))) &&& (858993459 : Int32)) + ((((bx - (((bx.toUInt32 >>> ((1 : Int32).toUInt32 &&& Int32.toUInt32 31)).toInt32) &&& (1431655765 : Int32))).toUInt32 >>> ((2 : Int32).toUInt32 &&& Int32.toUInt32 31)).toInt32) &&& (858993459 : Int32))) + (((((bx - (((bx.toUInt32 >>> ((1 : Int32).toUInt32 &&& Int32.toUInt32 31)).toInt32) &&& (1431655765 : Int32))) &&& (858993459 : Int32)) + ((((bx - (((bx.toUInt32 >>> ((1 : Int32).toUInt32 &&& Int32.toUInt32 31)).toInt32) &&& (1431655765 : Int32))).toUInt32 >>> ((2 : Int32).toUInt32 &&& Int32.toUInt32 31)).toInt32) &&& (858993459 : Int32))).toUInt32 >>> ((4 : Int32).toUInt32 &&& Int32.toUInt32 31)).toInt32)) &&& (252645135 : Int32)).toUInt32 >>> ((8 : Int32).toUInt32 &&& Int32.toUInt32 31)).toInt32)).toUInt32 >>> ((16 : Int32).toUInt32 &&& Int32.toUInt32 31)).toInt32)) &&& (63 : Int32)) dJ6_bitCount_0f7a4_52 rfl hf rfl hP hS
def f_X6_hasWord (sx : Int32) (wx : Int32) : Int32 := (if ((sx >>> (wx &&& 31)) &&& (1 : Int32)) = 0 then 0 else 1)
set_option maxHeartbeats 4000000 in
set_option maxRecDepth 100000 in
theorem k_X6_hasWord (l : Launch) (G : wG) (sx : Int32) (wx : Int32)  : CT l G yX6_hasWord cX6_hasWord 2 (some .boolean) ({ frames := 0, cells := 0, slots := 0, locals := 0 }) [.int sx, .int wx] [] (fun _ => []) (fun u => some (.int u)) (f_X6_hasWord sx wx) := by
  obtain ⟨R, hf⟩ : ∃ R, f_X6_hasWord sx wx = R := ⟨_, rfl⟩
  rw [hf]
  refine CT.mkI RX6 (by decide +kernel) rfl (Nat.le_of_ble_eq_true rfl) ?_
  intro p e s m args below meth c A Q ls hx hb hml hown hK hP hD hS hA hret hl
  have hl : lv_has ls 2 [(0, .int sx), (1, .int wx)] := hl
  rw [f_X6_hasWord] at hf
  refine lv_iload_n hx hb dX6_hasWord_0 rfl (lv_at hl 0 rfl) ?_
  refine lv_iload_n hx hb dX6_hasWord_1 rfl (lv_at hl 1 rfl) ?_
  refine lv_ishr hx hb dX6_hasWord_2 ?_
  refine lv_iconst (v := 1) hx hb dX6_hasWord_3 (by decide) ?_
  refine lv_iand hx hb dX6_hasWord_4 ?_
  refine lv_if_eq (tgt := 12) hx hb dX6_hasWord_5 (by decide) (fun c1 => ?_) (fun c1 => ?_)
  · have hf := (if_pos c1).symm.trans hf
    refine lv_iconst (v := 0) hx hb dX6_hasWord_12 (by decide) ?_
    exact hret 0 dX6_hasWord_13 rfl hf rfl hP hS
  · have hf := (if_neg c1).symm.trans hf
    refine lv_iconst (v := 1) hx hb dX6_hasWord_8 (by decide) ?_
    refine lv_goto (tgt := 13) hx hb dX6_hasWord_9 (by decide) ?_
    exact hret 1 dX6_hasWord_13 rfl hf rfl hP hS
def f_X5_teaches (xk : Nat → Int32) (xm : Nat → Int32) (xf : Nat → Int32) (j : Nat) (s0 : Int32) : Int32 := (if (xk j) = 0 then (if ((xm j) &&& s0) = (xm j) then 1 else 0) else (if (xk j) = 1 then (if ((2 : Int32) * (f_J6_bitCount_0f7a4 ((xm j) &&& s0))) ≤ (f_J6_bitCount_0f7a4 (xm j)) then 0 else 1) else (if (xk j) = 2 then (if (((xm j) &&& s0) &&& ((1 : Int32) <<< ((xf j) &&& 31))) = 0 then 0 else (if ((xm j) &&& s0) = ((1 : Int32) <<< ((xf j) &&& 31)) then (if (xm j) = ((1 : Int32) <<< ((xf j) &&& 31)) then 1 else 0) else 1)) else (if (xk j) = 3 then (if ((xm j) &&& s0) = 0 then 0 else 1) else (if (xk j) = 4 then 1 else 0)))))
set_option maxHeartbeats 4000000 in
set_option maxRecDepth 100000 in
theorem k_X5_teaches (l : Launch) (G : wG) (xo : Nat) (xa : Nat) (xb : Nat) (xc : Nat) (xd : Nat) (xl : Nat) (xn : Nat) (xw : Nat → Int32) (xk : Nat → Int32) (xm : Nat → Int32) (xf : Nat → Int32) (j : Nat) (s0 : Int32) (hxn : xn ≤ xl) (hxl : xl ≤ 20) (hj : j < xn) : CT l G yX5_teaches cX5_teaches 6 (some .boolean) ({ frames := 1, cells := 0, slots := 0, locals := 20 }) [.ref xo, .int (nI j), .int s0] [(xo, .inr (5, [.ref xa, .ref xb, .ref xc, .ref xd, .int (nI xn)])), (xa, .inl (G.2.1, xl, .inl xw)), (xb, .inl (G.2.1, xl, .inl xk)), (xc, .inl (G.2.1, xl, .inl xm)), (xd, .inl (G.2.1, xl, .inl xf))] (fun _ => [(xo, .inr (5, [.ref xa, .ref xb, .ref xc, .ref xd, .int (nI xn)])), (xa, .inl (G.2.1, xl, .inl xw)), (xb, .inl (G.2.1, xl, .inl xk)), (xc, .inl (G.2.1, xl, .inl xm)), (xd, .inl (G.2.1, xl, .inl xf))]) (fun u => some (.int u)) (f_X5_teaches xk xm xf j s0) := by
  obtain ⟨R, hf⟩ : ∃ R, f_X5_teaches xk xm xf j s0 = R := ⟨_, rfl⟩
  rw [hf]
  refine CT.mkI RX5 (by decide +kernel) rfl (Nat.le_of_ble_eq_true rfl) ?_
  intro p e s m args below meth c A Q ls hx hb hml hown hK hP hD hS hA hret hl
  have hl : lv_has ls 6 [(0, .ref xo), (1, .int (nI j)), (2, .int s0)] := hl
  rw [f_X5_teaches] at hf
  refine lv_aload_n hx hb dX5_teaches_0 rfl (lv_at hl 0 rfl) ?_
  refine va_get (D := G.1) (ci := 5) (v := .ref xc) (C := RX5) (T := TX5) (N := 5) hx hb (ku_X5 hK.2) (fun _ h9 => h9) hown hK.1 hP 0 rfl rfl 2 (by decide) (kw_82 hK.2) (fun _ h9 => h9) rfl dX5_teaches_1 ?_
  refine lv_iload_n hx hb dX5_teaches_4 rfl (lv_at hl 1 rfl) ?_
  refine ww_ild (j := j) hx hb hK.1 hP 3 0 rfl rfl (by omega) (by omega) dX5_teaches_5 ?_
  refine lv_istore_n (lv' := [(3, .int (xm j)), (0, .ref xo), (1, .int (nI j)), (2, .int s0)]) hx hb dX5_teaches_6 rfl hl (by decide) rfl (fun ls hl => ?_)
  refine lv_iload_n hx hb dX5_teaches_7 rfl (lv_at hl 0 rfl) ?_
  refine lv_iload_n hx hb dX5_teaches_8 rfl (lv_at hl 3 rfl) ?_
  refine lv_iand hx hb dX5_teaches_9 ?_
  refine lv_istore (lv' := [(4, .int ((xm j) &&& s0)), (3, .int (xm j)), (0, .ref xo), (1, .int (nI j)), (2, .int s0)]) hx hb dX5_teaches_10 hl (by decide) rfl (fun ls hl => ?_)
  refine lv_aload_n hx hb dX5_teaches_12 rfl (lv_at hl 2 rfl) ?_
  refine va_get (D := G.1) (ci := 5) (v := .ref xb) (C := RX5) (T := TX5) (N := 5) hx hb (ku_X5 hK.2) (fun _ h9 => h9) hown hK.1 hP 0 rfl rfl 1 (by decide) (kw_80 hK.2) (fun _ h9 => h9) rfl dX5_teaches_13 ?_
  refine lv_iload_n hx hb dX5_teaches_16 rfl (lv_at hl 3 rfl) ?_
  refine ww_ild (j := j) hx hb hK.1 hP 2 0 rfl rfl (by omega) (by omega) dX5_teaches_17 ?_
  by_cases c1 : (xk j) = 0
  · have hf := (if_pos c1).symm.trans hf
    refine ww_tsw (tgt := 52) hx hb c1 dX5_teaches_18 (by decide) (by decide) rfl (by decide) ?_
    refine lv_iload hx hb dX5_teaches_52 (lv_at hl 0 rfl) ?_
    refine lv_iload_n hx hb dX5_teaches_54 rfl (lv_at hl 1 rfl) ?_
    refine lv_icmp_ne (tgt := 62) hx hb dX5_teaches_55 (by decide) (fun c2 => ?_) (fun c2 => ?_)
    · have hf := (if_neg c2).symm.trans hf
      refine lv_iconst (v := 0) hx hb dX5_teaches_62 (by decide) ?_
      exact hret 0 dX5_teaches_63 rfl hf rfl hP hS
    · have hf := (if_pos c2).symm.trans hf
      refine lv_iconst (v := 1) hx hb dX5_teaches_58 (by decide) ?_
      refine lv_goto (tgt := 63) hx hb dX5_teaches_59 (by decide) ?_
      exact hret 1 dX5_teaches_63 rfl hf rfl hP hS
  · have hf := (if_neg c1).symm.trans hf
    by_cases c3 : (xk j) = 1
    · have hf := (if_pos c3).symm.trans hf
      refine ww_tsw (tgt := 64) hx hb c3 dX5_teaches_18 (by decide) (by decide) rfl (by decide) ?_
      refine lv_iconst (v := 2) hx hb dX5_teaches_64 (by decide) ?_
      refine lv_iload hx hb dX5_teaches_65 (lv_at hl 0 rfl) ?_
      refine cl_S (ws' := [(xo, .inr (5, [.ref xa, .ref xb, .ref xc, .ref xd, .int (nI xn)])), (xa, .inl (G.2.1, xl, .inl xw)), (xb, .inl (G.2.1, xl, .inl xk)), (xc, .inl (G.2.1, xl, .inl xm)), (xd, .inl (G.2.1, xl, .inl xf))]) (v := (some (.int (f_J6_bitCount_0f7a4 ((xm j) &&& s0))))) (st1 := [.int (f_J6_bitCount_0f7a4 ((xm j) &&& s0)), .int 2]) (rest := [.int 2]) (As := [.int ((xm j) &&& s0)]) [] hx hb hml hown hK (k_J6_bitCount_0f7a4 l G ((xm j) &&& s0) ) (mf_J6_bitCount_0f7a4 hK.2) (kw_430 hK.2) (kw_429 hK.2) ⟨rfl, rfl, Nat.le_of_ble_eq_true rfl, Nat.le_of_ble_eq_true rfl⟩ rfl hP hD hS hA hl (Nat.le_of_ble_eq_true rfl) rfl ⟨Nat.le_of_ble_eq_true rfl, Nat.le_of_ble_eq_true rfl⟩ rfl dX5_teaches_67 rfl rfl rfl rfl rfl rfl (fun H locs hP hD hS => ?_)
      refine lv_imul hx hb dX5_teaches_70 ?_
      refine lv_iload_n hx hb dX5_teaches_71 rfl (lv_at hl 1 rfl) ?_
      refine cl_S (ws' := [(xo, .inr (5, [.ref xa, .ref xb, .ref xc, .ref xd, .int (nI xn)])), (xa, .inl (G.2.1, xl, .inl xw)), (xb, .inl (G.2.1, xl, .inl xk)), (xc, .inl (G.2.1, xl, .inl xm)), (xd, .inl (G.2.1, xl, .inl xf))]) (v := (some (.int (f_J6_bitCount_0f7a4 (xm j))))) (st1 := [.int (f_J6_bitCount_0f7a4 (xm j)), .int ((2 : Int32) * (f_J6_bitCount_0f7a4 ((xm j) &&& s0)))]) (rest := [.int ((2 : Int32) * (f_J6_bitCount_0f7a4 ((xm j) &&& s0)))]) (As := [.int (xm j)]) [] hx hb hml hown hK (k_J6_bitCount_0f7a4 l G (xm j) ) (mf_J6_bitCount_0f7a4 hK.2) (kw_430 hK.2) (kw_429 hK.2) ⟨rfl, rfl, Nat.le_of_ble_eq_true rfl, Nat.le_of_ble_eq_true rfl⟩ rfl hP hD hS hA hl (Nat.le_of_ble_eq_true rfl) rfl ⟨Nat.le_of_ble_eq_true rfl, Nat.le_of_ble_eq_true rfl⟩ rfl dX5_teaches_72 rfl rfl rfl rfl rfl rfl (fun H locs hP hD hS => ?_)
      refine lv_icmp_le (tgt := 82) hx hb dX5_teaches_75 (by decide) (fun c4 => ?_) (fun c4 => ?_)
      · have hf := (if_pos c4).symm.trans hf
        refine lv_iconst (v := 0) hx hb dX5_teaches_82 (by decide) ?_
        exact hret 0 dX5_teaches_83 rfl hf rfl hP hS
      · have hf := (if_neg c4).symm.trans hf
        refine lv_iconst (v := 1) hx hb dX5_teaches_78 (by decide) ?_
        refine lv_goto (tgt := 83) hx hb dX5_teaches_79 (by decide) ?_
        exact hret 1 dX5_teaches_83 rfl hf rfl hP hS
    · have hf := (if_neg c3).symm.trans hf
      by_cases c5 : (xk j) = 2
      · have hf := (if_pos c5).symm.trans hf
        refine ww_tsw (tgt := 84) hx hb c5 dX5_teaches_18 (by decide) (by decide) rfl (by decide) ?_
        refine lv_iconst (v := 1) hx hb dX5_teaches_84 (by decide) ?_
        refine lv_aload_n hx hb dX5_teaches_85 rfl (lv_at hl 2 rfl) ?_
        refine va_get (D := G.1) (ci := 5) (v := .ref xd) (C := RX5) (T := TX5) (N := 5) hx hb (ku_X5 hK.2) (fun _ h9 => h9) hown hK.1 hP 0 rfl rfl 3 (by decide) (kw_85 hK.2) (fun _ h9 => h9) rfl dX5_teaches_86 ?_
        refine lv_iload_n hx hb dX5_teaches_89 rfl (lv_at hl 3 rfl) ?_
        refine ww_ild (j := j) hx hb hK.1 hP 4 0 rfl rfl (by omega) (by omega) dX5_teaches_90 ?_
        refine lv_ishl hx hb dX5_teaches_91 ?_
        refine lv_istore (lv' := [(5, .int ((1 : Int32) <<< ((xf j) &&& 31))), (4, .int ((xm j) &&& s0)), (3, .int (xm j)), (0, .ref xo), (1, .int (nI j)), (2, .int s0)]) hx hb dX5_teaches_92 hl (by decide) rfl (fun ls hl => ?_)
        refine lv_iload hx hb dX5_teaches_94 (lv_at hl 1 rfl) ?_
        refine lv_iload hx hb dX5_teaches_96 (lv_at hl 0 rfl) ?_
        refine lv_iand hx hb dX5_teaches_98 ?_
        refine lv_if_eq (tgt := 119) hx hb dX5_teaches_99 (by decide) (fun c6 => ?_) (fun c6 => ?_)
        · have hf := (if_pos c6).symm.trans hf
          refine lv_iconst (v := 0) hx hb dX5_teaches_119 (by decide) ?_
          exact hret 0 dX5_teaches_120 rfl hf rfl hP hS
        · have hf := (if_neg c6).symm.trans hf
          refine lv_iload hx hb dX5_teaches_102 (lv_at hl 1 rfl) ?_
          refine lv_iload hx hb dX5_teaches_104 (lv_at hl 0 rfl) ?_
          refine lv_icmp_ne (tgt := 115) hx hb dX5_teaches_106 (by decide) (fun c7 => ?_) (fun c7 => ?_)
          · have hf := (if_neg c7).symm.trans hf
            refine lv_iconst (v := 1) hx hb dX5_teaches_115 (by decide) ?_
            refine lv_goto (tgt := 120) hx hb dX5_teaches_116 (by decide) ?_
            exact hret 1 dX5_teaches_120 rfl hf rfl hP hS
          · have hf := (if_pos c7).symm.trans hf
            refine lv_iload_n hx hb dX5_teaches_109 rfl (lv_at hl 2 rfl) ?_
            refine lv_iload hx hb dX5_teaches_110 (lv_at hl 0 rfl) ?_
            refine lv_icmp_ne (tgt := 119) hx hb dX5_teaches_112 (by decide) (fun c8 => ?_) (fun c8 => ?_)
            · have hf := (if_neg c8).symm.trans hf
              refine lv_iconst (v := 0) hx hb dX5_teaches_119 (by decide) ?_
              exact hret 0 dX5_teaches_120 rfl hf rfl hP hS
            · have hf := (if_pos c8).symm.trans hf
              refine lv_iconst (v := 1) hx hb dX5_teaches_115 (by decide) ?_
              refine lv_goto (tgt := 120) hx hb dX5_teaches_116 (by decide) ?_
              exact hret 1 dX5_teaches_120 rfl hf rfl hP hS
      · have hf := (if_neg c5).symm.trans hf
        by_cases c9 : (xk j) = 3
        · have hf := (if_pos c9).symm.trans hf
          refine ww_tsw (tgt := 121) hx hb c9 dX5_teaches_18 (by decide) (by decide) rfl (by decide) ?_
          refine lv_iload hx hb dX5_teaches_121 (lv_at hl 0 rfl) ?_
          refine lv_if_eq (tgt := 130) hx hb dX5_teaches_123 (by decide) (fun c10 => ?_) (fun c10 => ?_)
          · have hf := (if_pos c10).symm.trans hf
            refine lv_iconst (v := 0) hx hb dX5_teaches_130 (by decide) ?_
            exact hret 0 dX5_teaches_131 rfl hf rfl hP hS
          · have hf := (if_neg c10).symm.trans hf
            refine lv_iconst (v := 1) hx hb dX5_teaches_126 (by decide) ?_
            refine lv_goto (tgt := 131) hx hb dX5_teaches_127 (by decide) ?_
            exact hret 1 dX5_teaches_131 rfl hf rfl hP hS
        · have hf := (if_neg c9).symm.trans hf
          by_cases c11 : (xk j) = 4
          · have hf := (if_pos c11).symm.trans hf
            refine ww_tsw (tgt := 132) hx hb c11 dX5_teaches_18 (by decide) (by decide) rfl (by decide) ?_
            refine lv_iconst (v := 1) hx hb dX5_teaches_132 (by decide) ?_
            exact hret 1 dX5_teaches_133 rfl hf rfl hP hS
          · have hf := (if_neg c11).symm.trans hf
            refine lv_tableOut (tgt := 134) hx hb dX5_teaches_18 (ts_out 4 (by decide) (fun j hj => ?_)) (by decide) ?_
            · match j, hj with
              | 0, _ => exact c1
              | 1, _ => exact c3
              | 2, _ => exact c5
              | 3, _ => exact c9
              | 4, _ => exact c11
              | j + 5, hj => exact absurd hj (by omega)
            refine lv_iconst (v := 0) hx hb dX5_teaches_134 (by decide) ?_
            exact hret 0 dX5_teaches_135 rfl hf rfl hP hS
def f_X5_isFull (xl : Nat) (xn : Nat) : Int32 := (if (nI xn) < (nI xl) then 0 else 1)
set_option maxHeartbeats 4000000 in
set_option maxRecDepth 100000 in
theorem k_X5_isFull (l : Launch) (G : wG) (xo : Nat) (xa : Nat) (xb : Nat) (xc : Nat) (xd : Nat) (xl : Nat) (xn : Nat) (xw : Nat → Int32) (xk : Nat → Int32) (xm : Nat → Int32) (xf : Nat → Int32) (hxn : xn ≤ xl) (hxl : xl ≤ 20) : CT l G yX5_isFull cX5_isFull 1 (some .boolean) ({ frames := 0, cells := 0, slots := 0, locals := 0 }) [.ref xo] [(xo, .inr (5, [.ref xa, .ref xb, .ref xc, .ref xd, .int (nI xn)])), (xa, .inl (G.2.1, xl, .inl xw)), (xb, .inl (G.2.1, xl, .inl xk)), (xc, .inl (G.2.1, xl, .inl xm)), (xd, .inl (G.2.1, xl, .inl xf))] (fun _ => [(xo, .inr (5, [.ref xa, .ref xb, .ref xc, .ref xd, .int (nI xn)])), (xa, .inl (G.2.1, xl, .inl xw)), (xb, .inl (G.2.1, xl, .inl xk)), (xc, .inl (G.2.1, xl, .inl xm)), (xd, .inl (G.2.1, xl, .inl xf))]) (fun u => some (.int u)) (f_X5_isFull xl xn) := by
  obtain ⟨R, hf⟩ : ∃ R, f_X5_isFull xl xn = R := ⟨_, rfl⟩
  rw [hf]
  refine CT.mkI RX5 (by decide +kernel) rfl (Nat.le_of_ble_eq_true rfl) ?_
  intro p e s m args below meth c A Q ls hx hb hml hown hK hP hD hS hA hret hl
  have hl : lv_has ls 1 [(0, .ref xo)] := hl
  rw [f_X5_isFull] at hf
  refine lv_aload_n hx hb dX5_isFull_0 rfl (lv_at hl 0 rfl) ?_
  refine va_get (D := G.1) (ci := 5) (v := .int (nI xn)) (C := RX5) (T := TX5) (N := 5) hx hb (ku_X5 hK.2) (fun _ h9 => h9) hown hK.1 hP 0 rfl rfl 4 (by decide) (kw_87 hK.2) (fun _ h9 => h9) rfl dX5_isFull_1 ?_
  refine lv_aload_n hx hb dX5_isFull_4 rfl (lv_at hl 0 rfl) ?_
  refine va_get (D := G.1) (ci := 5) (v := .ref xa) (C := RX5) (T := TX5) (N := 5) hx hb (ku_X5 hK.2) (fun _ h9 => h9) hown hK.1 hP 0 rfl rfl 0 (by decide) (kw_77 hK.2) (fun _ h9 => h9) rfl dX5_isFull_5 ?_
  refine va_alen hx hb hK.1 hP 1 0 rfl rfl (v := nI xl) rfl dX5_isFull_8 ?_
  refine lv_icmp_lt (tgt := 16) hx hb dX5_isFull_9 (by decide) (fun c1 => ?_) (fun c1 => ?_)
  · have hf := (if_pos c1).symm.trans hf
    refine lv_iconst (v := 0) hx hb dX5_isFull_16 (by decide) ?_
    exact hret 0 dX5_isFull_17 rfl hf rfl hP hS
  · have hf := (if_neg c1).symm.trans hf
    refine lv_iconst (v := 1) hx hb dX5_isFull_12 (by decide) ?_
    refine lv_goto (tgt := 17) hx hb dX5_isFull_13 (by decide) ?_
    exact hret 1 dX5_isFull_17 rfl hf rfl hP hS
def f_X5_has (xn : Nat) (nu : Int32) : Int32 := (if nu < 0 then 0 else (if (nI xn) ≤ nu then 0 else 1))
set_option maxHeartbeats 4000000 in
set_option maxRecDepth 100000 in
theorem k_X5_has (l : Launch) (G : wG) (xo : Nat) (xa : Nat) (xb : Nat) (xc : Nat) (xd : Nat) (xl : Nat) (xn : Nat) (xw : Nat → Int32) (xk : Nat → Int32) (xm : Nat → Int32) (xf : Nat → Int32) (nu : Int32) (hxn : xn ≤ xl) (hxl : xl ≤ 20) : CT l G yX5_has cX5_has 2 (some .boolean) ({ frames := 0, cells := 0, slots := 0, locals := 0 }) [.ref xo, .int nu] [(xo, .inr (5, [.ref xa, .ref xb, .ref xc, .ref xd, .int (nI xn)])), (xa, .inl (G.2.1, xl, .inl xw)), (xb, .inl (G.2.1, xl, .inl xk)), (xc, .inl (G.2.1, xl, .inl xm)), (xd, .inl (G.2.1, xl, .inl xf))] (fun _ => [(xo, .inr (5, [.ref xa, .ref xb, .ref xc, .ref xd, .int (nI xn)])), (xa, .inl (G.2.1, xl, .inl xw)), (xb, .inl (G.2.1, xl, .inl xk)), (xc, .inl (G.2.1, xl, .inl xm)), (xd, .inl (G.2.1, xl, .inl xf))]) (fun u => some (.int u)) (f_X5_has xn nu) := by
  obtain ⟨R, hf⟩ : ∃ R, f_X5_has xn nu = R := ⟨_, rfl⟩
  rw [hf]
  refine CT.mkI RX5 (by decide +kernel) rfl (Nat.le_of_ble_eq_true rfl) ?_
  intro p e s m args below meth c A Q ls hx hb hml hown hK hP hD hS hA hret hl
  have hl : lv_has ls 2 [(0, .ref xo), (1, .int nu)] := hl
  rw [f_X5_has] at hf
  refine lv_iload_n hx hb dX5_has_0 rfl (lv_at hl 1 rfl) ?_
  refine lv_if_lt (tgt := 16) hx hb dX5_has_1 (by decide) (fun c1 => ?_) (fun c1 => ?_)
  · have hf := (if_pos c1).symm.trans hf
    refine lv_iconst (v := 0) hx hb dX5_has_16 (by decide) ?_
    exact hret 0 dX5_has_17 rfl hf rfl hP hS
  · have hf := (if_neg c1).symm.trans hf
    refine lv_iload_n hx hb dX5_has_4 rfl (lv_at hl 1 rfl) ?_
    refine lv_aload_n hx hb dX5_has_5 rfl (lv_at hl 0 rfl) ?_
    refine va_get (D := G.1) (ci := 5) (v := .int (nI xn)) (C := RX5) (T := TX5) (N := 5) hx hb (ku_X5 hK.2) (fun _ h9 => h9) hown hK.1 hP 0 rfl rfl 4 (by decide) (kw_87 hK.2) (fun _ h9 => h9) rfl dX5_has_6 ?_
    refine lv_icmp_ge (tgt := 16) hx hb dX5_has_9 (by decide) (fun c2 => ?_) (fun c2 => ?_)
    · have hf := (if_pos c2).symm.trans hf
      refine lv_iconst (v := 0) hx hb dX5_has_16 (by decide) ?_
      exact hret 0 dX5_has_17 rfl hf rfl hP hS
    · have hf := (if_neg c2).symm.trans hf
      refine lv_iconst (v := 1) hx hb dX5_has_12 (by decide) ?_
      refine lv_goto (tgt := 17) hx hb dX5_has_13 (by decide) ?_
      exact hret 1 dX5_has_17 rfl hf rfl hP hS
def f_X5_howManyOf_4 (xw : Nat → Int32) (wo : Int32) : Nat → Nat → Int32 → Int32
  | 0, i4, v2_4 => v2_4
  | k4 + 1, i4, v2_4 => (if (xw i4) = wo then f_X5_howManyOf_4 xw wo k4 (i4 + 1) (v2_4 + 1) else f_X5_howManyOf_4 xw wo k4 (i4 + 1) v2_4)
theorem f_X5_howManyOf_4_z (xw : Nat → Int32) (wo : Int32) (i4 : Nat) (v2_4 : Int32) : f_X5_howManyOf_4 xw wo 0 i4 v2_4 = v2_4 := rfl
theorem f_X5_howManyOf_4_s (xw : Nat → Int32) (wo : Int32) (k4 : Nat) (i4 : Nat) (v2_4 : Int32) : f_X5_howManyOf_4 xw wo (k4 + 1) i4 v2_4 = (if (xw i4) = wo then f_X5_howManyOf_4 xw wo k4 (i4 + 1) (v2_4 + 1) else f_X5_howManyOf_4 xw wo k4 (i4 + 1) v2_4) := rfl
def f_X5_howManyOf (xn : Nat) (xw : Nat → Int32) (wo : Int32) : Int32 := (f_X5_howManyOf_4 xw wo xn 0 0)
set_option maxHeartbeats 4000000 in
set_option maxRecDepth 100000 in
theorem k_X5_howManyOf (l : Launch) (G : wG) (xo : Nat) (xa : Nat) (xb : Nat) (xc : Nat) (xd : Nat) (xl : Nat) (xn : Nat) (xw : Nat → Int32) (xk : Nat → Int32) (xm : Nat → Int32) (xf : Nat → Int32) (wo : Int32) (hxn : xn ≤ xl) (hxl : xl ≤ 20) : CT l G yX5_howManyOf cX5_howManyOf 4 (some .int) ({ frames := 0, cells := 0, slots := 0, locals := 0 }) [.ref xo, .int wo] [(xo, .inr (5, [.ref xa, .ref xb, .ref xc, .ref xd, .int (nI xn)])), (xa, .inl (G.2.1, xl, .inl xw)), (xb, .inl (G.2.1, xl, .inl xk)), (xc, .inl (G.2.1, xl, .inl xm)), (xd, .inl (G.2.1, xl, .inl xf))] (fun _ => [(xo, .inr (5, [.ref xa, .ref xb, .ref xc, .ref xd, .int (nI xn)])), (xa, .inl (G.2.1, xl, .inl xw)), (xb, .inl (G.2.1, xl, .inl xk)), (xc, .inl (G.2.1, xl, .inl xm)), (xd, .inl (G.2.1, xl, .inl xf))]) (fun u => some (.int u)) (f_X5_howManyOf xn xw wo) := by
  obtain ⟨R, hf⟩ : ∃ R, f_X5_howManyOf xn xw wo = R := ⟨_, rfl⟩
  rw [hf]
  refine CT.mkI RX5 (by decide +kernel) rfl (Nat.le_of_ble_eq_true rfl) ?_
  intro p e s m args below meth c A Q ls hx hb hml hown hK hP hD hS hA hret hl
  have hl : lv_has ls 4 [(0, .ref xo), (1, .int wo)] := hl
  rw [f_X5_howManyOf] at hf
  refine lv_iconst (v := 0) hx hb dX5_howManyOf_0 (by decide) ?_
  refine lv_istore_n (lv' := [(2, .int 0), (0, .ref xo), (1, .int wo)]) hx hb dX5_howManyOf_1 rfl hl (by decide) rfl (fun ls hl => ?_)
  refine lv_iconst (v := 0) hx hb dX5_howManyOf_2 (by decide) ?_
  refine lv_istore_n (lv' := [(3, .int 0), (2, .int 0), (0, .ref xo), (1, .int wo)]) hx hb dX5_howManyOf_3 rfl hl (by decide) rfl (fun ls hl => ?_)
  have L4 : ∀ (k4 : Nat) (i4 : Nat) (v2_4 : Int32), k4 + i4 = xn → f_X5_howManyOf_4 xw wo k4 i4 v2_4 = R → ∀ (H : Heap) (locs : List Loc) (ls : Array Slot), va_P G.1 wcl [(xo, .inr (5, [.ref xa, .ref xb, .ref xc, .ref xd, .int (nI xn)])), (xa, .inl (G.2.1, xl, .inl xw)), (xb, .inl (G.2.1, xl, .inl xk)), (xc, .inl (G.2.1, xl, .inl xm)), (xd, .inl (G.2.1, xl, .inl xf))] H → va_D A [(xo, .inr (5, [.ref xa, .ref xb, .ref xc, .ref xd, .int (nI xn)])), (xa, .inl (G.2.1, xl, .inl xw)), (xb, .inl (G.2.1, xl, .inl xk)), (xc, .inl (G.2.1, xl, .inl xm)), (xd, .inl (G.2.1, xl, .inl xf))] → va_S A s.heap H locs → lv_has ls 4 [(0, .ref xo), (1, .int wo), (2, .int v2_4), (3, .int (nI i4))] → W p l e ({ frames := 0, cells := 0, slots := 0, locals := 0 }) s m args below meth c H locs 0 0 Q (F0 m 4 ls []) := by
    intro k4
    induction k4 with
    | zero =>
      intro i4 v2_4 hi4  hf _ _ ls hP hD hS hl
      rw [f_X5_howManyOf_4_z] at hf
      refine lv_iload_n hx hb dX5_howManyOf_4 rfl (lv_at hl 3 rfl) ?_
      refine lv_aload_n hx hb dX5_howManyOf_5 rfl (lv_at hl 0 rfl) ?_
      refine va_get (D := G.1) (ci := 5) (v := .int (nI xn)) (C := RX5) (T := TX5) (N := 5) hx hb (ku_X5 hK.2) (fun _ h9 => h9) hown hK.1 hP 0 rfl rfl 4 (by decide) (kw_87 hK.2) (fun _ h9 => h9) rfl dX5_howManyOf_6 ?_
      refine lv_icmp_ge (tgt := 31) hx hb dX5_howManyOf_9 (by decide) (fun _ => ?_) (fun c => absurd (ile (a := xn) (b := i4) rfl rfl (by omega) (by omega) (by omega)) c)
      refine lv_iload_n hx hb dX5_howManyOf_31 rfl (lv_at hl 2 rfl) ?_
      exact hret v2_4 dX5_howManyOf_32 rfl hf rfl hP hS
    | succ k4 ih4 =>
      intro i4 v2_4 hi4  hf _ _ ls hP hD hS hl
      rw [f_X5_howManyOf_4_s] at hf
      refine lv_iload_n hx hb dX5_howManyOf_4 rfl (lv_at hl 3 rfl) ?_
      refine lv_aload_n hx hb dX5_howManyOf_5 rfl (lv_at hl 0 rfl) ?_
      refine va_get (D := G.1) (ci := 5) (v := .int (nI xn)) (C := RX5) (T := TX5) (N := 5) hx hb (ku_X5 hK.2) (fun _ h9 => h9) hown hK.1 hP 0 rfl rfl 4 (by decide) (kw_87 hK.2) (fun _ h9 => h9) rfl dX5_howManyOf_6 ?_
      refine lv_icmp_ge (tgt := 31) hx hb dX5_howManyOf_9 (by decide) (fun c => absurd c (inle (a := xn) (b := i4) rfl rfl (by omega) (by omega) (by omega))) (fun _ => ?_)
      refine lv_aload_n hx hb dX5_howManyOf_12 rfl (lv_at hl 0 rfl) ?_
      refine va_get (D := G.1) (ci := 5) (v := .ref xa) (C := RX5) (T := TX5) (N := 5) hx hb (ku_X5 hK.2) (fun _ h9 => h9) hown hK.1 hP 0 rfl rfl 0 (by decide) (kw_77 hK.2) (fun _ h9 => h9) rfl dX5_howManyOf_13 ?_
      refine lv_iload_n hx hb dX5_howManyOf_16 rfl (lv_at hl 3 rfl) ?_
      refine ww_ild (j := i4) hx hb hK.1 hP 1 0 rfl rfl (by omega) (by omega) dX5_howManyOf_17 ?_
      refine lv_iload_n hx hb dX5_howManyOf_18 rfl (lv_at hl 1 rfl) ?_
      refine lv_icmp_ne (tgt := 25) hx hb dX5_howManyOf_19 (by decide) (fun c1 => ?_) (fun c1 => ?_)
      · have hf := (if_neg c1).symm.trans hf
        refine lv_iinc (v := nI (i4 + 1)) (lv' := [(3, .int (nI (i4 + 1))), (0, .ref xo), (1, .int wo), (2, .int v2_4)]) hx hb dX5_howManyOf_25 hl (k := 3) rfl (nI_1 i4) (by decide) rfl (fun ls hl => ?_)
        refine lv_goto (tgt := 4) hx hb dX5_howManyOf_28 (by decide) ?_
        exact ih4 (i4 + 1) v2_4 (by omega)  hf _ _ ls hP hD hS (lv_sub hl [1, 2, 3, 0] rfl)
      · have hf := (if_pos c1).symm.trans hf
        refine lv_iinc (v := v2_4 + 1) (lv' := [(2, .int (v2_4 + 1)), (0, .ref xo), (1, .int wo), (3, .int (nI i4))]) hx hb dX5_howManyOf_22 hl (k := 2) rfl rfl (by decide) rfl (fun ls hl => ?_)
        refine lv_iinc (v := nI (i4 + 1)) (lv' := [(3, .int (nI (i4 + 1))), (2, .int (v2_4 + 1)), (0, .ref xo), (1, .int wo)]) hx hb dX5_howManyOf_25 hl (k := 3) rfl (nI_1 i4) (by decide) rfl (fun ls hl => ?_)
        refine lv_goto (tgt := 4) hx hb dX5_howManyOf_28 (by decide) ?_
        exact ih4 (i4 + 1) (v2_4 + 1) (by omega)  hf _ _ ls hP hD hS (lv_sub hl [2, 3, 1, 0] rfl)
  exact L4 xn 0 0 (by omega)  hf _ _ ls hP hD hS (lv_sub hl [2, 3, 1, 0] rfl)
def f_X5_neededBy_4 (xw : Nat → Int32) (xm : Nat → Int32) (wo : Int32) : Nat → Nat → Int32 → Int32
  | 0, i4, v2_4 => v2_4
  | k4 + 1, i4, v2_4 => (if (xw i4) = wo then f_X5_neededBy_4 xw xm wo k4 (i4 + 1) (v2_4 ||| (xm i4)) else f_X5_neededBy_4 xw xm wo k4 (i4 + 1) v2_4)
theorem f_X5_neededBy_4_z (xw : Nat → Int32) (xm : Nat → Int32) (wo : Int32) (i4 : Nat) (v2_4 : Int32) : f_X5_neededBy_4 xw xm wo 0 i4 v2_4 = v2_4 := rfl
theorem f_X5_neededBy_4_s (xw : Nat → Int32) (xm : Nat → Int32) (wo : Int32) (k4 : Nat) (i4 : Nat) (v2_4 : Int32) : f_X5_neededBy_4 xw xm wo (k4 + 1) i4 v2_4 = (if (xw i4) = wo then f_X5_neededBy_4 xw xm wo k4 (i4 + 1) (v2_4 ||| (xm i4)) else f_X5_neededBy_4 xw xm wo k4 (i4 + 1) v2_4) := rfl
def f_X5_neededBy (xn : Nat) (xw : Nat → Int32) (xm : Nat → Int32) (wo : Int32) : Int32 := (f_X5_neededBy_4 xw xm wo xn 0 0)
set_option maxHeartbeats 4000000 in
set_option maxRecDepth 100000 in
theorem k_X5_neededBy (l : Launch) (G : wG) (xo : Nat) (xa : Nat) (xb : Nat) (xc : Nat) (xd : Nat) (xl : Nat) (xn : Nat) (xw : Nat → Int32) (xk : Nat → Int32) (xm : Nat → Int32) (xf : Nat → Int32) (wo : Int32) (hxn : xn ≤ xl) (hxl : xl ≤ 20) : CT l G yX5_neededBy cX5_neededBy 4 (some .int) ({ frames := 0, cells := 0, slots := 0, locals := 0 }) [.ref xo, .int wo] [(xo, .inr (5, [.ref xa, .ref xb, .ref xc, .ref xd, .int (nI xn)])), (xa, .inl (G.2.1, xl, .inl xw)), (xb, .inl (G.2.1, xl, .inl xk)), (xc, .inl (G.2.1, xl, .inl xm)), (xd, .inl (G.2.1, xl, .inl xf))] (fun _ => [(xo, .inr (5, [.ref xa, .ref xb, .ref xc, .ref xd, .int (nI xn)])), (xa, .inl (G.2.1, xl, .inl xw)), (xb, .inl (G.2.1, xl, .inl xk)), (xc, .inl (G.2.1, xl, .inl xm)), (xd, .inl (G.2.1, xl, .inl xf))]) (fun u => some (.int u)) (f_X5_neededBy xn xw xm wo) := by
  obtain ⟨R, hf⟩ : ∃ R, f_X5_neededBy xn xw xm wo = R := ⟨_, rfl⟩
  rw [hf]
  refine CT.mkI RX5 (by decide +kernel) rfl (Nat.le_of_ble_eq_true rfl) ?_
  intro p e s m args below meth c A Q ls hx hb hml hown hK hP hD hS hA hret hl
  have hl : lv_has ls 4 [(0, .ref xo), (1, .int wo)] := hl
  rw [f_X5_neededBy] at hf
  refine lv_iconst (v := 0) hx hb dX5_neededBy_0 (by decide) ?_
  refine lv_istore_n (lv' := [(2, .int 0), (0, .ref xo), (1, .int wo)]) hx hb dX5_neededBy_1 rfl hl (by decide) rfl (fun ls hl => ?_)
  refine lv_iconst (v := 0) hx hb dX5_neededBy_2 (by decide) ?_
  refine lv_istore_n (lv' := [(3, .int 0), (2, .int 0), (0, .ref xo), (1, .int wo)]) hx hb dX5_neededBy_3 rfl hl (by decide) rfl (fun ls hl => ?_)
  have L4 : ∀ (k4 : Nat) (i4 : Nat) (v2_4 : Int32), k4 + i4 = xn → f_X5_neededBy_4 xw xm wo k4 i4 v2_4 = R → ∀ (H : Heap) (locs : List Loc) (ls : Array Slot), va_P G.1 wcl [(xo, .inr (5, [.ref xa, .ref xb, .ref xc, .ref xd, .int (nI xn)])), (xa, .inl (G.2.1, xl, .inl xw)), (xb, .inl (G.2.1, xl, .inl xk)), (xc, .inl (G.2.1, xl, .inl xm)), (xd, .inl (G.2.1, xl, .inl xf))] H → va_D A [(xo, .inr (5, [.ref xa, .ref xb, .ref xc, .ref xd, .int (nI xn)])), (xa, .inl (G.2.1, xl, .inl xw)), (xb, .inl (G.2.1, xl, .inl xk)), (xc, .inl (G.2.1, xl, .inl xm)), (xd, .inl (G.2.1, xl, .inl xf))] → va_S A s.heap H locs → lv_has ls 4 [(0, .ref xo), (1, .int wo), (2, .int v2_4), (3, .int (nI i4))] → W p l e ({ frames := 0, cells := 0, slots := 0, locals := 0 }) s m args below meth c H locs 0 0 Q (F0 m 4 ls []) := by
    intro k4
    induction k4 with
    | zero =>
      intro i4 v2_4 hi4  hf _ _ ls hP hD hS hl
      rw [f_X5_neededBy_4_z] at hf
      refine lv_iload_n hx hb dX5_neededBy_4 rfl (lv_at hl 3 rfl) ?_
      refine lv_aload_n hx hb dX5_neededBy_5 rfl (lv_at hl 0 rfl) ?_
      refine va_get (D := G.1) (ci := 5) (v := .int (nI xn)) (C := RX5) (T := TX5) (N := 5) hx hb (ku_X5 hK.2) (fun _ h9 => h9) hown hK.1 hP 0 rfl rfl 4 (by decide) (kw_87 hK.2) (fun _ h9 => h9) rfl dX5_neededBy_6 ?_
      refine lv_icmp_ge (tgt := 37) hx hb dX5_neededBy_9 (by decide) (fun _ => ?_) (fun c => absurd (ile (a := xn) (b := i4) rfl rfl (by omega) (by omega) (by omega)) c)
      refine lv_iload_n hx hb dX5_neededBy_37 rfl (lv_at hl 2 rfl) ?_
      exact hret v2_4 dX5_neededBy_38 rfl hf rfl hP hS
    | succ k4 ih4 =>
      intro i4 v2_4 hi4  hf _ _ ls hP hD hS hl
      rw [f_X5_neededBy_4_s] at hf
      refine lv_iload_n hx hb dX5_neededBy_4 rfl (lv_at hl 3 rfl) ?_
      refine lv_aload_n hx hb dX5_neededBy_5 rfl (lv_at hl 0 rfl) ?_
      refine va_get (D := G.1) (ci := 5) (v := .int (nI xn)) (C := RX5) (T := TX5) (N := 5) hx hb (ku_X5 hK.2) (fun _ h9 => h9) hown hK.1 hP 0 rfl rfl 4 (by decide) (kw_87 hK.2) (fun _ h9 => h9) rfl dX5_neededBy_6 ?_
      refine lv_icmp_ge (tgt := 37) hx hb dX5_neededBy_9 (by decide) (fun c => absurd c (inle (a := xn) (b := i4) rfl rfl (by omega) (by omega) (by omega))) (fun _ => ?_)
      refine lv_aload_n hx hb dX5_neededBy_12 rfl (lv_at hl 0 rfl) ?_
      refine va_get (D := G.1) (ci := 5) (v := .ref xa) (C := RX5) (T := TX5) (N := 5) hx hb (ku_X5 hK.2) (fun _ h9 => h9) hown hK.1 hP 0 rfl rfl 0 (by decide) (kw_77 hK.2) (fun _ h9 => h9) rfl dX5_neededBy_13 ?_
      refine lv_iload_n hx hb dX5_neededBy_16 rfl (lv_at hl 3 rfl) ?_
      refine ww_ild (j := i4) hx hb hK.1 hP 1 0 rfl rfl (by omega) (by omega) dX5_neededBy_17 ?_
      refine lv_iload_n hx hb dX5_neededBy_18 rfl (lv_at hl 1 rfl) ?_
      refine lv_icmp_ne (tgt := 31) hx hb dX5_neededBy_19 (by decide) (fun c1 => ?_) (fun c1 => ?_)
      · have hf := (if_neg c1).symm.trans hf
        refine lv_iinc (v := nI (i4 + 1)) (lv' := [(3, .int (nI (i4 + 1))), (0, .ref xo), (1, .int wo), (2, .int v2_4)]) hx hb dX5_neededBy_31 hl (k := 3) rfl (nI_1 i4) (by decide) rfl (fun ls hl => ?_)
        refine lv_goto (tgt := 4) hx hb dX5_neededBy_34 (by decide) ?_
        exact ih4 (i4 + 1) v2_4 (by omega)  hf _ _ ls hP hD hS (lv_sub hl [1, 2, 3, 0] rfl)
      · have hf := (if_pos c1).symm.trans hf
        refine lv_iload_n hx hb dX5_neededBy_22 rfl (lv_at hl 2 rfl) ?_
        refine lv_aload_n hx hb dX5_neededBy_23 rfl (lv_at hl 0 rfl) ?_
        refine va_get (D := G.1) (ci := 5) (v := .ref xc) (C := RX5) (T := TX5) (N := 5) hx hb (ku_X5 hK.2) (fun _ h9 => h9) hown hK.1 hP 0 rfl rfl 2 (by decide) (kw_82 hK.2) (fun _ h9 => h9) rfl dX5_neededBy_24 ?_
        refine lv_iload_n hx hb dX5_neededBy_27 rfl (lv_at hl 3 rfl) ?_
        refine ww_ild (j := i4) hx hb hK.1 hP 3 0 rfl rfl (by omega) (by omega) dX5_neededBy_28 ?_
        refine lv_ior hx hb dX5_neededBy_29 ?_
        refine lv_istore_n (lv' := [(2, .int (v2_4 ||| (xm i4))), (0, .ref xo), (1, .int wo), (3, .int (nI i4))]) hx hb dX5_neededBy_30 rfl hl (by decide) rfl (fun ls hl => ?_)
        refine lv_iinc (v := nI (i4 + 1)) (lv' := [(3, .int (nI (i4 + 1))), (2, .int (v2_4 ||| (xm i4))), (0, .ref xo), (1, .int wo)]) hx hb dX5_neededBy_31 hl (k := 3) rfl (nI_1 i4) (by decide) rfl (fun ls hl => ?_)
        refine lv_goto (tgt := 4) hx hb dX5_neededBy_34 (by decide) ?_
        exact ih4 (i4 + 1) (v2_4 ||| (xm i4)) (by omega)  hf _ _ ls hP hD hS (lv_sub hl [2, 3, 1, 0] rfl)
  exact L4 xn 0 0 (by omega)  hf _ _ ls hP hD hS (lv_sub hl [2, 3, 1, 0] rfl)
def f_X5_neededByAny_4 (xm : Nat → Int32) : Nat → Nat → Int32 → Int32
  | 0, i4, v1_4 => v1_4
  | k4 + 1, i4, v1_4 => f_X5_neededByAny_4 xm k4 (i4 + 1) (v1_4 ||| (xm i4))
theorem f_X5_neededByAny_4_z (xm : Nat → Int32) (i4 : Nat) (v1_4 : Int32) : f_X5_neededByAny_4 xm 0 i4 v1_4 = v1_4 := rfl
theorem f_X5_neededByAny_4_s (xm : Nat → Int32) (k4 : Nat) (i4 : Nat) (v1_4 : Int32) : f_X5_neededByAny_4 xm (k4 + 1) i4 v1_4 = f_X5_neededByAny_4 xm k4 (i4 + 1) (v1_4 ||| (xm i4)) := rfl
def f_X5_neededByAny (xn : Nat) (xm : Nat → Int32) : Int32 := (f_X5_neededByAny_4 xm xn 0 0)
set_option maxHeartbeats 4000000 in
set_option maxRecDepth 100000 in
theorem k_X5_neededByAny (l : Launch) (G : wG) (xo : Nat) (xa : Nat) (xb : Nat) (xc : Nat) (xd : Nat) (xl : Nat) (xn : Nat) (xw : Nat → Int32) (xk : Nat → Int32) (xm : Nat → Int32) (xf : Nat → Int32) (hxn : xn ≤ xl) (hxl : xl ≤ 20) : CT l G yX5_neededByAny cX5_neededByAny 3 (some .int) ({ frames := 0, cells := 0, slots := 0, locals := 0 }) [.ref xo] [(xo, .inr (5, [.ref xa, .ref xb, .ref xc, .ref xd, .int (nI xn)])), (xa, .inl (G.2.1, xl, .inl xw)), (xb, .inl (G.2.1, xl, .inl xk)), (xc, .inl (G.2.1, xl, .inl xm)), (xd, .inl (G.2.1, xl, .inl xf))] (fun _ => [(xo, .inr (5, [.ref xa, .ref xb, .ref xc, .ref xd, .int (nI xn)])), (xa, .inl (G.2.1, xl, .inl xw)), (xb, .inl (G.2.1, xl, .inl xk)), (xc, .inl (G.2.1, xl, .inl xm)), (xd, .inl (G.2.1, xl, .inl xf))]) (fun u => some (.int u)) (f_X5_neededByAny xn xm) := by
  obtain ⟨R, hf⟩ : ∃ R, f_X5_neededByAny xn xm = R := ⟨_, rfl⟩
  rw [hf]
  refine CT.mkI RX5 (by decide +kernel) rfl (Nat.le_of_ble_eq_true rfl) ?_
  intro p e s m args below meth c A Q ls hx hb hml hown hK hP hD hS hA hret hl
  have hl : lv_has ls 3 [(0, .ref xo)] := hl
  rw [f_X5_neededByAny] at hf
  refine lv_iconst (v := 0) hx hb dX5_neededByAny_0 (by decide) ?_
  refine lv_istore_n (lv' := [(1, .int 0), (0, .ref xo)]) hx hb dX5_neededByAny_1 rfl hl (by decide) rfl (fun ls hl => ?_)
  refine lv_iconst (v := 0) hx hb dX5_neededByAny_2 (by decide) ?_
  refine lv_istore_n (lv' := [(2, .int 0), (1, .int 0), (0, .ref xo)]) hx hb dX5_neededByAny_3 rfl hl (by decide) rfl (fun ls hl => ?_)
  have L4 : ∀ (k4 : Nat) (i4 : Nat) (v1_4 : Int32), k4 + i4 = xn → f_X5_neededByAny_4 xm k4 i4 v1_4 = R → ∀ (H : Heap) (locs : List Loc) (ls : Array Slot), va_P G.1 wcl [(xo, .inr (5, [.ref xa, .ref xb, .ref xc, .ref xd, .int (nI xn)])), (xa, .inl (G.2.1, xl, .inl xw)), (xb, .inl (G.2.1, xl, .inl xk)), (xc, .inl (G.2.1, xl, .inl xm)), (xd, .inl (G.2.1, xl, .inl xf))] H → va_D A [(xo, .inr (5, [.ref xa, .ref xb, .ref xc, .ref xd, .int (nI xn)])), (xa, .inl (G.2.1, xl, .inl xw)), (xb, .inl (G.2.1, xl, .inl xk)), (xc, .inl (G.2.1, xl, .inl xm)), (xd, .inl (G.2.1, xl, .inl xf))] → va_S A s.heap H locs → lv_has ls 3 [(0, .ref xo), (1, .int v1_4), (2, .int (nI i4))] → W p l e ({ frames := 0, cells := 0, slots := 0, locals := 0 }) s m args below meth c H locs 0 0 Q (F0 m 4 ls []) := by
    intro k4
    induction k4 with
    | zero =>
      intro i4 v1_4 hi4  hf _ _ ls hP hD hS hl
      rw [f_X5_neededByAny_4_z] at hf
      refine lv_iload_n hx hb dX5_neededByAny_4 rfl (lv_at hl 2 rfl) ?_
      refine lv_aload_n hx hb dX5_neededByAny_5 rfl (lv_at hl 0 rfl) ?_
      refine va_get (D := G.1) (ci := 5) (v := .int (nI xn)) (C := RX5) (T := TX5) (N := 5) hx hb (ku_X5 hK.2) (fun _ h9 => h9) hown hK.1 hP 0 rfl rfl 4 (by decide) (kw_87 hK.2) (fun _ h9 => h9) rfl dX5_neededByAny_6 ?_
      refine lv_icmp_ge (tgt := 27) hx hb dX5_neededByAny_9 (by decide) (fun _ => ?_) (fun c => absurd (ile (a := xn) (b := i4) rfl rfl (by omega) (by omega) (by omega)) c)
      refine lv_iload_n hx hb dX5_neededByAny_27 rfl (lv_at hl 1 rfl) ?_
      exact hret v1_4 dX5_neededByAny_28 rfl hf rfl hP hS
    | succ k4 ih4 =>
      intro i4 v1_4 hi4  hf _ _ ls hP hD hS hl
      rw [f_X5_neededByAny_4_s] at hf
      refine lv_iload_n hx hb dX5_neededByAny_4 rfl (lv_at hl 2 rfl) ?_
      refine lv_aload_n hx hb dX5_neededByAny_5 rfl (lv_at hl 0 rfl) ?_
      refine va_get (D := G.1) (ci := 5) (v := .int (nI xn)) (C := RX5) (T := TX5) (N := 5) hx hb (ku_X5 hK.2) (fun _ h9 => h9) hown hK.1 hP 0 rfl rfl 4 (by decide) (kw_87 hK.2) (fun _ h9 => h9) rfl dX5_neededByAny_6 ?_
      refine lv_icmp_ge (tgt := 27) hx hb dX5_neededByAny_9 (by decide) (fun c => absurd c (inle (a := xn) (b := i4) rfl rfl (by omega) (by omega) (by omega))) (fun _ => ?_)
      refine lv_iload_n hx hb dX5_neededByAny_12 rfl (lv_at hl 1 rfl) ?_
      refine lv_aload_n hx hb dX5_neededByAny_13 rfl (lv_at hl 0 rfl) ?_
      refine va_get (D := G.1) (ci := 5) (v := .ref xc) (C := RX5) (T := TX5) (N := 5) hx hb (ku_X5 hK.2) (fun _ h9 => h9) hown hK.1 hP 0 rfl rfl 2 (by decide) (kw_82 hK.2) (fun _ h9 => h9) rfl dX5_neededByAny_14 ?_
      refine lv_iload_n hx hb dX5_neededByAny_17 rfl (lv_at hl 2 rfl) ?_
      refine ww_ild (j := i4) hx hb hK.1 hP 3 0 rfl rfl (by omega) (by omega) dX5_neededByAny_18 ?_
      refine lv_ior hx hb dX5_neededByAny_19 ?_
      refine lv_istore_n (lv' := [(1, .int (v1_4 ||| (xm i4))), (0, .ref xo), (2, .int (nI i4))]) hx hb dX5_neededByAny_20 rfl hl (by decide) rfl (fun ls hl => ?_)
      refine lv_iinc (v := nI (i4 + 1)) (lv' := [(2, .int (nI (i4 + 1))), (1, .int (v1_4 ||| (xm i4))), (0, .ref xo)]) hx hb dX5_neededByAny_21 hl (k := 2) rfl (nI_1 i4) (by decide) rfl (fun ls hl => ?_)
      refine lv_goto (tgt := 4) hx hb dX5_neededByAny_24 (by decide) ?_
      exact ih4 (i4 + 1) (v1_4 ||| (xm i4)) (by omega)  hf _ _ ls hP hD hS (lv_sub hl [2, 1, 0] rfl)
  exact L4 xn 0 0 (by omega)  hf _ _ ls hP hD hS (lv_sub hl [2, 1, 0] rfl)
def f_X5_shownWords_4 (xw : Nat → Int32) (xk : Nat → Int32) : Nat → Nat → Int32 → Int32
  | 0, i4, v1_4 => v1_4
  | k4 + 1, i4, v1_4 => (if (xk i4) = 4 then f_X5_shownWords_4 xw xk k4 (i4 + 1) (v1_4 ||| ((1 : Int32) <<< ((xw i4) &&& 31))) else f_X5_shownWords_4 xw xk k4 (i4 + 1) v1_4)
theorem f_X5_shownWords_4_z (xw : Nat → Int32) (xk : Nat → Int32) (i4 : Nat) (v1_4 : Int32) : f_X5_shownWords_4 xw xk 0 i4 v1_4 = v1_4 := rfl
theorem f_X5_shownWords_4_s (xw : Nat → Int32) (xk : Nat → Int32) (k4 : Nat) (i4 : Nat) (v1_4 : Int32) : f_X5_shownWords_4 xw xk (k4 + 1) i4 v1_4 = (if (xk i4) = 4 then f_X5_shownWords_4 xw xk k4 (i4 + 1) (v1_4 ||| ((1 : Int32) <<< ((xw i4) &&& 31))) else f_X5_shownWords_4 xw xk k4 (i4 + 1) v1_4) := rfl
def f_X5_shownWords (xn : Nat) (xw : Nat → Int32) (xk : Nat → Int32) : Int32 := (f_X5_shownWords_4 xw xk xn 0 0)
set_option maxHeartbeats 4000000 in
set_option maxRecDepth 100000 in
theorem k_X5_shownWords (l : Launch) (G : wG) (xo : Nat) (xa : Nat) (xb : Nat) (xc : Nat) (xd : Nat) (xl : Nat) (xn : Nat) (xw : Nat → Int32) (xk : Nat → Int32) (xm : Nat → Int32) (xf : Nat → Int32) (hxn : xn ≤ xl) (hxl : xl ≤ 20) : CT l G yX5_shownWords cX5_shownWords 3 (some .int) ({ frames := 0, cells := 0, slots := 0, locals := 0 }) [.ref xo] [(xo, .inr (5, [.ref xa, .ref xb, .ref xc, .ref xd, .int (nI xn)])), (xa, .inl (G.2.1, xl, .inl xw)), (xb, .inl (G.2.1, xl, .inl xk)), (xc, .inl (G.2.1, xl, .inl xm)), (xd, .inl (G.2.1, xl, .inl xf))] (fun _ => [(xo, .inr (5, [.ref xa, .ref xb, .ref xc, .ref xd, .int (nI xn)])), (xa, .inl (G.2.1, xl, .inl xw)), (xb, .inl (G.2.1, xl, .inl xk)), (xc, .inl (G.2.1, xl, .inl xm)), (xd, .inl (G.2.1, xl, .inl xf))]) (fun u => some (.int u)) (f_X5_shownWords xn xw xk) := by
  obtain ⟨R, hf⟩ : ∃ R, f_X5_shownWords xn xw xk = R := ⟨_, rfl⟩
  rw [hf]
  refine CT.mkI RX5 (by decide +kernel) rfl (Nat.le_of_ble_eq_true rfl) ?_
  intro p e s m args below meth c A Q ls hx hb hml hown hK hP hD hS hA hret hl
  have hl : lv_has ls 3 [(0, .ref xo)] := hl
  rw [f_X5_shownWords] at hf
  refine lv_iconst (v := 0) hx hb dX5_shownWords_0 (by decide) ?_
  refine lv_istore_n (lv' := [(1, .int 0), (0, .ref xo)]) hx hb dX5_shownWords_1 rfl hl (by decide) rfl (fun ls hl => ?_)
  refine lv_iconst (v := 0) hx hb dX5_shownWords_2 (by decide) ?_
  refine lv_istore_n (lv' := [(2, .int 0), (1, .int 0), (0, .ref xo)]) hx hb dX5_shownWords_3 rfl hl (by decide) rfl (fun ls hl => ?_)
  have L4 : ∀ (k4 : Nat) (i4 : Nat) (v1_4 : Int32), k4 + i4 = xn → f_X5_shownWords_4 xw xk k4 i4 v1_4 = R → ∀ (H : Heap) (locs : List Loc) (ls : Array Slot), va_P G.1 wcl [(xo, .inr (5, [.ref xa, .ref xb, .ref xc, .ref xd, .int (nI xn)])), (xa, .inl (G.2.1, xl, .inl xw)), (xb, .inl (G.2.1, xl, .inl xk)), (xc, .inl (G.2.1, xl, .inl xm)), (xd, .inl (G.2.1, xl, .inl xf))] H → va_D A [(xo, .inr (5, [.ref xa, .ref xb, .ref xc, .ref xd, .int (nI xn)])), (xa, .inl (G.2.1, xl, .inl xw)), (xb, .inl (G.2.1, xl, .inl xk)), (xc, .inl (G.2.1, xl, .inl xm)), (xd, .inl (G.2.1, xl, .inl xf))] → va_S A s.heap H locs → lv_has ls 3 [(0, .ref xo), (1, .int v1_4), (2, .int (nI i4))] → W p l e ({ frames := 0, cells := 0, slots := 0, locals := 0 }) s m args below meth c H locs 0 0 Q (F0 m 4 ls []) := by
    intro k4
    induction k4 with
    | zero =>
      intro i4 v1_4 hi4  hf _ _ ls hP hD hS hl
      rw [f_X5_shownWords_4_z] at hf
      refine lv_iload_n hx hb dX5_shownWords_4 rfl (lv_at hl 2 rfl) ?_
      refine lv_aload_n hx hb dX5_shownWords_5 rfl (lv_at hl 0 rfl) ?_
      refine va_get (D := G.1) (ci := 5) (v := .int (nI xn)) (C := RX5) (T := TX5) (N := 5) hx hb (ku_X5 hK.2) (fun _ h9 => h9) hown hK.1 hP 0 rfl rfl 4 (by decide) (kw_87 hK.2) (fun _ h9 => h9) rfl dX5_shownWords_6 ?_
      refine lv_icmp_ge (tgt := 39) hx hb dX5_shownWords_9 (by decide) (fun _ => ?_) (fun c => absurd (ile (a := xn) (b := i4) rfl rfl (by omega) (by omega) (by omega)) c)
      refine lv_iload_n hx hb dX5_shownWords_39 rfl (lv_at hl 1 rfl) ?_
      exact hret v1_4 dX5_shownWords_40 rfl hf rfl hP hS
    | succ k4 ih4 =>
      intro i4 v1_4 hi4  hf _ _ ls hP hD hS hl
      rw [f_X5_shownWords_4_s] at hf
      refine lv_iload_n hx hb dX5_shownWords_4 rfl (lv_at hl 2 rfl) ?_
      refine lv_aload_n hx hb dX5_shownWords_5 rfl (lv_at hl 0 rfl) ?_
      refine va_get (D := G.1) (ci := 5) (v := .int (nI xn)) (C := RX5) (T := TX5) (N := 5) hx hb (ku_X5 hK.2) (fun _ h9 => h9) hown hK.1 hP 0 rfl rfl 4 (by decide) (kw_87 hK.2) (fun _ h9 => h9) rfl dX5_shownWords_6 ?_
      refine lv_icmp_ge (tgt := 39) hx hb dX5_shownWords_9 (by decide) (fun c => absurd c (inle (a := xn) (b := i4) rfl rfl (by omega) (by omega) (by omega))) (fun _ => ?_)
      refine lv_aload_n hx hb dX5_shownWords_12 rfl (lv_at hl 0 rfl) ?_
      refine va_get (D := G.1) (ci := 5) (v := .ref xb) (C := RX5) (T := TX5) (N := 5) hx hb (ku_X5 hK.2) (fun _ h9 => h9) hown hK.1 hP 0 rfl rfl 1 (by decide) (kw_80 hK.2) (fun _ h9 => h9) rfl dX5_shownWords_13 ?_
      refine lv_iload_n hx hb dX5_shownWords_16 rfl (lv_at hl 2 rfl) ?_
      refine ww_ild (j := i4) hx hb hK.1 hP 2 0 rfl rfl (by omega) (by omega) dX5_shownWords_17 ?_
      refine lv_iconst (v := 4) hx hb dX5_shownWords_18 (by decide) ?_
      refine lv_icmp_ne (tgt := 33) hx hb dX5_shownWords_19 (by decide) (fun c1 => ?_) (fun c1 => ?_)
      · have hf := (if_neg c1).symm.trans hf
        refine lv_iinc (v := nI (i4 + 1)) (lv' := [(2, .int (nI (i4 + 1))), (0, .ref xo), (1, .int v1_4)]) hx hb dX5_shownWords_33 hl (k := 2) rfl (nI_1 i4) (by decide) rfl (fun ls hl => ?_)
        refine lv_goto (tgt := 4) hx hb dX5_shownWords_36 (by decide) ?_
        exact ih4 (i4 + 1) v1_4 (by omega)  hf _ _ ls hP hD hS (lv_sub hl [1, 2, 0] rfl)
      · have hf := (if_pos c1).symm.trans hf
        refine lv_iload_n hx hb dX5_shownWords_22 rfl (lv_at hl 1 rfl) ?_
        refine lv_iconst (v := 1) hx hb dX5_shownWords_23 (by decide) ?_
        refine lv_aload_n hx hb dX5_shownWords_24 rfl (lv_at hl 0 rfl) ?_
        refine va_get (D := G.1) (ci := 5) (v := .ref xa) (C := RX5) (T := TX5) (N := 5) hx hb (ku_X5 hK.2) (fun _ h9 => h9) hown hK.1 hP 0 rfl rfl 0 (by decide) (kw_77 hK.2) (fun _ h9 => h9) rfl dX5_shownWords_25 ?_
        refine lv_iload_n hx hb dX5_shownWords_28 rfl (lv_at hl 2 rfl) ?_
        refine ww_ild (j := i4) hx hb hK.1 hP 1 0 rfl rfl (by omega) (by omega) dX5_shownWords_29 ?_
        refine lv_ishl hx hb dX5_shownWords_30 ?_
        refine lv_ior hx hb dX5_shownWords_31 ?_
        refine lv_istore_n (lv' := [(1, .int (v1_4 ||| ((1 : Int32) <<< ((xw i4) &&& 31)))), (0, .ref xo), (2, .int (nI i4))]) hx hb dX5_shownWords_32 rfl hl (by decide) rfl (fun ls hl => ?_)
        refine lv_iinc (v := nI (i4 + 1)) (lv' := [(2, .int (nI (i4 + 1))), (1, .int (v1_4 ||| ((1 : Int32) <<< ((xw i4) &&& 31)))), (0, .ref xo)]) hx hb dX5_shownWords_33 hl (k := 2) rfl (nI_1 i4) (by decide) rfl (fun ls hl => ?_)
        refine lv_goto (tgt := 4) hx hb dX5_shownWords_36 (by decide) ?_
        exact ih4 (i4 + 1) (v1_4 ||| ((1 : Int32) <<< ((xw i4) &&& 31))) (by omega)  hf _ _ ls hP hD hS (lv_sub hl [2, 1, 0] rfl)
  exact L4 xn 0 0 (by omega)  hf _ _ ls hP hD hS (lv_sub hl [2, 1, 0] rfl)
def f_X5_reachedFrom_20 (xw : Nat → Int32) (xm : Nat → Int32) : Nat → Nat → Int32 → Int32
  | 0, i20, v4_20 => v4_20
  | k20 + 1, i20, v4_20 => (if (f_X6_hasWord v4_20 (xw i20)) = 0 then f_X5_reachedFrom_20 xw xm k20 (i20 + 1) v4_20 else f_X5_reachedFrom_20 xw xm k20 (i20 + 1) (v4_20 ||| (xm i20)))
theorem f_X5_reachedFrom_20_z (xw : Nat → Int32) (xm : Nat → Int32) (i20 : Nat) (v4_20 : Int32) : f_X5_reachedFrom_20 xw xm 0 i20 v4_20 = v4_20 := rfl
theorem f_X5_reachedFrom_20_s (xw : Nat → Int32) (xm : Nat → Int32) (k20 : Nat) (i20 : Nat) (v4_20 : Int32) : f_X5_reachedFrom_20 xw xm (k20 + 1) i20 v4_20 = (if (f_X6_hasWord v4_20 (xw i20)) = 0 then f_X5_reachedFrom_20 xw xm k20 (i20 + 1) v4_20 else f_X5_reachedFrom_20 xw xm k20 (i20 + 1) (v4_20 ||| (xm i20))) := rfl
def f_X5_reachedFrom_8 (xn : Nat) (xw : Nat → Int32) (xm : Nat → Int32) : Nat → Nat → Int32 → Int32
  | 0, i8, v2_8 => v2_8
  | k8 + 1, i8, v2_8 => (if (f_X5_reachedFrom_20 xw xm xn 0 v2_8) = v2_8 then v2_8 else f_X5_reachedFrom_8 xn xw xm k8 (i8 + 1) (f_X5_reachedFrom_20 xw xm xn 0 v2_8))
theorem f_X5_reachedFrom_8_z (xn : Nat) (xw : Nat → Int32) (xm : Nat → Int32) (i8 : Nat) (v2_8 : Int32) : f_X5_reachedFrom_8 xn xw xm 0 i8 v2_8 = v2_8 := rfl
theorem f_X5_reachedFrom_8_s (xn : Nat) (xw : Nat → Int32) (xm : Nat → Int32) (k8 : Nat) (i8 : Nat) (v2_8 : Int32) : f_X5_reachedFrom_8 xn xw xm (k8 + 1) i8 v2_8 = (if (f_X5_reachedFrom_20 xw xm xn 0 v2_8) = v2_8 then v2_8 else f_X5_reachedFrom_8 xn xw xm k8 (i8 + 1) (f_X5_reachedFrom_20 xw xm xn 0 v2_8)) := rfl
def f_X5_reachedFrom (xn : Nat) (xw : Nat → Int32) (xm : Nat → Int32) (wo : Int32) : Int32 := (f_X5_reachedFrom_8 xn xw xm 12 0 (f_X5_neededBy xn xw xm wo))
set_option maxHeartbeats 4000000 in
set_option maxRecDepth 100000 in
theorem k_X5_reachedFrom (l : Launch) (G : wG) (xo : Nat) (xa : Nat) (xb : Nat) (xc : Nat) (xd : Nat) (xl : Nat) (xn : Nat) (xw : Nat → Int32) (xk : Nat → Int32) (xm : Nat → Int32) (xf : Nat → Int32) (wo : Int32) (hxn : xn ≤ xl) (hxl : xl ≤ 20) : CT l G yX5_reachedFrom cX5_reachedFrom 6 (some .int) ({ frames := 1, cells := 0, slots := 0, locals := 23 }) [.ref xo, .int wo] [(xo, .inr (5, [.ref xa, .ref xb, .ref xc, .ref xd, .int (nI xn)])), (xa, .inl (G.2.1, xl, .inl xw)), (xb, .inl (G.2.1, xl, .inl xk)), (xc, .inl (G.2.1, xl, .inl xm)), (xd, .inl (G.2.1, xl, .inl xf))] (fun _ => [(xo, .inr (5, [.ref xa, .ref xb, .ref xc, .ref xd, .int (nI xn)])), (xa, .inl (G.2.1, xl, .inl xw)), (xb, .inl (G.2.1, xl, .inl xk)), (xc, .inl (G.2.1, xl, .inl xm)), (xd, .inl (G.2.1, xl, .inl xf))]) (fun u => some (.int u)) (f_X5_reachedFrom xn xw xm wo) := by
  obtain ⟨R, hf⟩ : ∃ R, f_X5_reachedFrom xn xw xm wo = R := ⟨_, rfl⟩
  rw [hf]
  refine CT.mkI RX5 (by decide +kernel) rfl (Nat.le_of_ble_eq_true rfl) ?_
  intro p e s m args below meth c A Q ls hx hb hml hown hK hP hD hS hA hret hl
  have hl : lv_has ls 6 [(0, .ref xo), (1, .int wo)] := hl
  rw [f_X5_reachedFrom] at hf
  refine lv_aload_n hx hb dX5_reachedFrom_0 rfl (lv_at hl 0 rfl) ?_
  refine lv_iload_n hx hb dX5_reachedFrom_1 rfl (lv_at hl 1 rfl) ?_
  refine cl_V (q := (RX5, TX5, 5)) (ws' := [(xo, .inr (5, [.ref xa, .ref xb, .ref xc, .ref xd, .int (nI xn)])), (xa, .inl (G.2.1, xl, .inl xw)), (xb, .inl (G.2.1, xl, .inl xk)), (xc, .inl (G.2.1, xl, .inl xm)), (xd, .inl (G.2.1, xl, .inl xf))]) (v := (some (.int (f_X5_neededBy xn xw xm wo)))) (st1 := [.int (f_X5_neededBy xn xw xm wo)]) (rest := []) (As := [.int wo]) [0, 1, 2, 3, 4] 0 5 hx hb hml hown hK (k_X5_neededBy l G xo xa xb xc xd xl xn xw xk xm xf wo hxn hxl) (mf_X5_neededBy hK.2) (kw_461 hK.2) (kw_462 hK.2) (kw_480 hK.2) ⟨rfl, rfl, Nat.le_of_ble_eq_true rfl, Nat.le_of_ble_eq_true rfl⟩ rfl hP hD hS hA rfl rfl hl (Nat.le_of_ble_eq_true rfl) rfl ⟨Nat.le_of_ble_eq_true rfl, Nat.le_of_ble_eq_true rfl⟩ rfl dX5_reachedFrom_2 rfl rfl (rpl_fast (by decide) rfl rfl) rfl rfl rfl (fun H locs hP hD hS => ?_)
  refine lv_istore_n (lv' := [(2, .int (f_X5_neededBy xn xw xm wo)), (0, .ref xo), (1, .int wo)]) hx hb dX5_reachedFrom_5 rfl hl (by decide) rfl (fun ls hl => ?_)
  refine lv_iconst (v := 0) hx hb dX5_reachedFrom_6 (by decide) ?_
  refine lv_istore_n (lv' := [(3, .int 0), (2, .int (f_X5_neededBy xn xw xm wo)), (0, .ref xo), (1, .int wo)]) hx hb dX5_reachedFrom_7 rfl hl (by decide) rfl (fun ls hl => ?_)
  have L8 : ∀ (k8 : Nat) (i8 : Nat) (v2_8 : Int32), k8 + i8 = 12 → f_X5_reachedFrom_8 xn xw xm k8 i8 v2_8 = R → ∀ (H : Heap) (locs : List Loc) (ls : Array Slot), va_P G.1 wcl [(xo, .inr (5, [.ref xa, .ref xb, .ref xc, .ref xd, .int (nI xn)])), (xa, .inl (G.2.1, xl, .inl xw)), (xb, .inl (G.2.1, xl, .inl xk)), (xc, .inl (G.2.1, xl, .inl xm)), (xd, .inl (G.2.1, xl, .inl xf))] H → va_D A [(xo, .inr (5, [.ref xa, .ref xb, .ref xc, .ref xd, .int (nI xn)])), (xa, .inl (G.2.1, xl, .inl xw)), (xb, .inl (G.2.1, xl, .inl xk)), (xc, .inl (G.2.1, xl, .inl xm)), (xd, .inl (G.2.1, xl, .inl xf))] → va_S A s.heap H locs → lv_has ls 6 [(0, .ref xo), (2, .int v2_8), (3, .int (nI i8))] → W p l e ({ frames := 1, cells := 0, slots := 0, locals := 23 }) s m args below meth c H locs 0 0 Q (F0 m 8 ls []) := by
    intro k8
    induction k8 with
    | zero =>
      intro i8 v2_8 hi8  hf _ _ ls hP hD hS hl
      rw [f_X5_reachedFrom_8_z] at hf
      refine lv_iload_n hx hb dX5_reachedFrom_8 rfl (lv_at hl 2 rfl) ?_
      refine lv_bipush (v := 12) hx hb dX5_reachedFrom_9 (by decide) ?_
      refine lv_icmp_ge (tgt := 79) hx hb dX5_reachedFrom_11 (by decide) (fun _ => ?_) (fun c => absurd (ile (a := 12) (b := i8) rfl rfl (by omega) (by omega) (by omega)) c)
      refine lv_iload_n hx hb dX5_reachedFrom_79 rfl (lv_at hl 1 rfl) ?_
      exact hret v2_8 dX5_reachedFrom_80 rfl hf rfl hP hS
    | succ k8 ih8 =>
      intro i8 v2_8 hi8  hf _ _ ls hP hD hS hl
      rw [f_X5_reachedFrom_8_s] at hf
      refine lv_iload_n hx hb dX5_reachedFrom_8 rfl (lv_at hl 2 rfl) ?_
      refine lv_bipush (v := 12) hx hb dX5_reachedFrom_9 (by decide) ?_
      refine lv_icmp_ge (tgt := 79) hx hb dX5_reachedFrom_11 (by decide) (fun c => absurd c (inle (a := 12) (b := i8) rfl rfl (by omega) (by omega) (by omega))) (fun _ => ?_)
      refine lv_iload_n hx hb dX5_reachedFrom_14 rfl (lv_at hl 1 rfl) ?_
      refine lv_istore (lv' := [(4, .int v2_8), (0, .ref xo), (2, .int v2_8), (3, .int (nI i8))]) hx hb dX5_reachedFrom_15 hl (by decide) rfl (fun ls hl => ?_)
      refine lv_iconst (v := 0) hx hb dX5_reachedFrom_17 (by decide) ?_
      refine lv_istore (lv' := [(5, .int 0), (4, .int v2_8), (0, .ref xo), (2, .int v2_8), (3, .int (nI i8))]) hx hb dX5_reachedFrom_18 hl (by decide) rfl (fun ls hl => ?_)
      have X20 : ∀ (H : Heap) (locs : List Loc) (ls : Array Slot), va_P G.1 wcl [(xo, .inr (5, [.ref xa, .ref xb, .ref xc, .ref xd, .int (nI xn)])), (xa, .inl (G.2.1, xl, .inl xw)), (xb, .inl (G.2.1, xl, .inl xk)), (xc, .inl (G.2.1, xl, .inl xm)), (xd, .inl (G.2.1, xl, .inl xf))] H → va_D A [(xo, .inr (5, [.ref xa, .ref xb, .ref xc, .ref xd, .int (nI xn)])), (xa, .inl (G.2.1, xl, .inl xw)), (xb, .inl (G.2.1, xl, .inl xk)), (xc, .inl (G.2.1, xl, .inl xm)), (xd, .inl (G.2.1, xl, .inl xf))] → va_S A s.heap H locs → lv_has ls 6 [(0, .ref xo), (2, .int v2_8), (3, .int (nI i8)), (4, .int (f_X5_reachedFrom_20 xw xm xn 0 v2_8))] → W p l e ({ frames := 1, cells := 0, slots := 0, locals := 23 }) s m args below meth c H locs 0 0 Q (F0 m 62 ls []) := by
        intro H locs ls hP hD hS hl
        refine lv_iload hx hb dX5_reachedFrom_62 (lv_at hl 3 rfl) ?_
        refine lv_iload_n hx hb dX5_reachedFrom_64 rfl (lv_at hl 1 rfl) ?_
        refine lv_icmp_ne (tgt := 70) hx hb dX5_reachedFrom_65 (by decide) (fun c2 => ?_) (fun c2 => ?_)
        · have hf := (if_neg c2).symm.trans hf
          refine lv_iload hx hb dX5_reachedFrom_70 (lv_at hl 3 rfl) ?_
          refine lv_istore_n (lv' := [(2, .int (f_X5_reachedFrom_20 xw xm xn 0 v2_8)), (0, .ref xo), (3, .int (nI i8)), (4, .int (f_X5_reachedFrom_20 xw xm xn 0 v2_8))]) hx hb dX5_reachedFrom_72 rfl hl (by decide) rfl (fun ls hl => ?_)
          refine lv_iinc (v := nI (i8 + 1)) (lv' := [(3, .int (nI (i8 + 1))), (2, .int (f_X5_reachedFrom_20 xw xm xn 0 v2_8)), (0, .ref xo), (4, .int (f_X5_reachedFrom_20 xw xm xn 0 v2_8))]) hx hb dX5_reachedFrom_73 hl (k := 2) rfl (nI_1 i8) (by decide) rfl (fun ls hl => ?_)
          refine lv_goto (tgt := 8) hx hb dX5_reachedFrom_76 (by decide) ?_
          exact ih8 (i8 + 1) (f_X5_reachedFrom_20 xw xm xn 0 v2_8) (by omega)  hf _ _ ls hP hD hS (lv_sub hl [2, 1, 0] rfl)
        · have hf := (if_pos c2).symm.trans hf
          refine lv_iload_n hx hb dX5_reachedFrom_68 rfl (lv_at hl 1 rfl) ?_
          exact hret v2_8 dX5_reachedFrom_69 rfl hf rfl hP hS
      have L20 : ∀ (k20 : Nat) (i20 : Nat) (v4_20 : Int32), k20 + i20 = xn → f_X5_reachedFrom_20 xw xm k20 i20 v4_20 = (f_X5_reachedFrom_20 xw xm xn 0 v2_8) → ∀ (H : Heap) (locs : List Loc) (ls : Array Slot), va_P G.1 wcl [(xo, .inr (5, [.ref xa, .ref xb, .ref xc, .ref xd, .int (nI xn)])), (xa, .inl (G.2.1, xl, .inl xw)), (xb, .inl (G.2.1, xl, .inl xk)), (xc, .inl (G.2.1, xl, .inl xm)), (xd, .inl (G.2.1, xl, .inl xf))] H → va_D A [(xo, .inr (5, [.ref xa, .ref xb, .ref xc, .ref xd, .int (nI xn)])), (xa, .inl (G.2.1, xl, .inl xw)), (xb, .inl (G.2.1, xl, .inl xk)), (xc, .inl (G.2.1, xl, .inl xm)), (xd, .inl (G.2.1, xl, .inl xf))] → va_S A s.heap H locs → lv_has ls 6 [(0, .ref xo), (2, .int v2_8), (3, .int (nI i8)), (4, .int v4_20), (5, .int (nI i20))] → W p l e ({ frames := 1, cells := 0, slots := 0, locals := 23 }) s m args below meth c H locs 0 0 Q (F0 m 20 ls []) := by
        intro k20
        induction k20 with
        | zero =>
          intro i20 v4_20 hi20  hf _ _ ls hP hD hS hl
          rw [f_X5_reachedFrom_20_z] at hf
          refine lv_iload hx hb dX5_reachedFrom_20 (lv_at hl 4 rfl) ?_
          refine lv_aload_n hx hb dX5_reachedFrom_22 rfl (lv_at hl 0 rfl) ?_
          refine va_get (D := G.1) (ci := 5) (v := .int (nI xn)) (C := RX5) (T := TX5) (N := 5) hx hb (ku_X5 hK.2) (fun _ h9 => h9) hown hK.1 hP 0 rfl rfl 4 (by decide) (kw_87 hK.2) (fun _ h9 => h9) rfl dX5_reachedFrom_23 ?_
          refine lv_icmp_ge (tgt := 62) hx hb dX5_reachedFrom_26 (by decide) (fun _ => ?_) (fun c => absurd (ile (a := xn) (b := i20) rfl rfl (by omega) (by omega) (by omega)) c)
          exact X20 _ _ ls (by first | exact hP | (rw [← hf]; exact hP)) (by first | exact hD | (rw [← hf]; exact hD)) hS (by first | exact (lv_sub hl [0, 1, 2, 3] rfl) | (rw [← hf]; exact (lv_sub hl [0, 1, 2, 3] rfl)))
        | succ k20 ih20 =>
          intro i20 v4_20 hi20  hf _ _ ls hP hD hS hl
          rw [f_X5_reachedFrom_20_s] at hf
          refine lv_iload hx hb dX5_reachedFrom_20 (lv_at hl 4 rfl) ?_
          refine lv_aload_n hx hb dX5_reachedFrom_22 rfl (lv_at hl 0 rfl) ?_
          refine va_get (D := G.1) (ci := 5) (v := .int (nI xn)) (C := RX5) (T := TX5) (N := 5) hx hb (ku_X5 hK.2) (fun _ h9 => h9) hown hK.1 hP 0 rfl rfl 4 (by decide) (kw_87 hK.2) (fun _ h9 => h9) rfl dX5_reachedFrom_23 ?_
          refine lv_icmp_ge (tgt := 62) hx hb dX5_reachedFrom_26 (by decide) (fun c => absurd c (inle (a := xn) (b := i20) rfl rfl (by omega) (by omega) (by omega))) (fun _ => ?_)
          refine lv_iload hx hb dX5_reachedFrom_29 (lv_at hl 3 rfl) ?_
          refine lv_aload_n hx hb dX5_reachedFrom_31 rfl (lv_at hl 0 rfl) ?_
          refine va_get (D := G.1) (ci := 5) (v := .ref xa) (C := RX5) (T := TX5) (N := 5) hx hb (ku_X5 hK.2) (fun _ h9 => h9) hown hK.1 hP 0 rfl rfl 0 (by decide) (kw_77 hK.2) (fun _ h9 => h9) rfl dX5_reachedFrom_32 ?_
          refine lv_iload hx hb dX5_reachedFrom_35 (lv_at hl 4 rfl) ?_
          refine ww_ild (j := i20) hx hb hK.1 hP 1 0 rfl rfl (by omega) (by omega) dX5_reachedFrom_37 ?_
          refine cl_SN (ws' := [(xo, .inr (5, [.ref xa, .ref xb, .ref xc, .ref xd, .int (nI xn)])), (xa, .inl (G.2.1, xl, .inl xw)), (xb, .inl (G.2.1, xl, .inl xk)), (xc, .inl (G.2.1, xl, .inl xm)), (xd, .inl (G.2.1, xl, .inl xf))]) (v := (some (.int (f_X6_hasWord v4_20 (xw i20))))) (st1 := [.int (f_X6_hasWord v4_20 (xw i20))]) (rest := []) (As := [.int v4_20, .int (xw i20)]) [] hx hb hml hown hK (k_X6_hasWord l G v4_20 (xw i20) ) (mf_X6_hasWord hK.2) (kw_379 hK.2) (kw_481 hK.2) ⟨rfl, rfl, Nat.le_of_ble_eq_true rfl, Nat.le_of_ble_eq_true rfl⟩ rfl hP hD hS hA hl (Nat.le_of_ble_eq_true rfl) rfl ⟨Nat.le_of_ble_eq_true rfl, Nat.le_of_ble_eq_true rfl⟩ rfl dX5_reachedFrom_38 rfl rfl rfl rfl rfl rfl (fun H locs hP hD hS => ?_)
          refine lv_if_eq (tgt := 56) hx hb dX5_reachedFrom_41 (by decide) (fun c1 => ?_) (fun c1 => ?_)
          · have hf := (if_pos c1).symm.trans hf
            refine lv_iinc (v := nI (i20 + 1)) (lv' := [(5, .int (nI (i20 + 1))), (0, .ref xo), (2, .int v2_8), (3, .int (nI i8)), (4, .int v4_20)]) hx hb dX5_reachedFrom_56 hl (k := 4) rfl (nI_1 i20) (by decide) rfl (fun ls hl => ?_)
            refine lv_goto (tgt := 20) hx hb dX5_reachedFrom_59 (by decide) ?_
            exact ih20 (i20 + 1) v4_20 (by omega)  hf _ _ ls hP hD hS (lv_sub hl [1, 2, 3, 4, 0] rfl)
          · have hf := (if_neg c1).symm.trans hf
            refine lv_iload hx hb dX5_reachedFrom_44 (lv_at hl 3 rfl) ?_
            refine lv_aload_n hx hb dX5_reachedFrom_46 rfl (lv_at hl 0 rfl) ?_
            refine va_get (D := G.1) (ci := 5) (v := .ref xc) (C := RX5) (T := TX5) (N := 5) hx hb (ku_X5 hK.2) (fun _ h9 => h9) hown hK.1 hP 0 rfl rfl 2 (by decide) (kw_82 hK.2) (fun _ h9 => h9) rfl dX5_reachedFrom_47 ?_
            refine lv_iload hx hb dX5_reachedFrom_50 (lv_at hl 4 rfl) ?_
            refine ww_ild (j := i20) hx hb hK.1 hP 3 0 rfl rfl (by omega) (by omega) dX5_reachedFrom_52 ?_
            refine lv_ior hx hb dX5_reachedFrom_53 ?_
            refine lv_istore (lv' := [(4, .int (v4_20 ||| (xm i20))), (0, .ref xo), (2, .int v2_8), (3, .int (nI i8)), (5, .int (nI i20))]) hx hb dX5_reachedFrom_54 hl (by decide) rfl (fun ls hl => ?_)
            refine lv_iinc (v := nI (i20 + 1)) (lv' := [(5, .int (nI (i20 + 1))), (4, .int (v4_20 ||| (xm i20))), (0, .ref xo), (2, .int v2_8), (3, .int (nI i8))]) hx hb dX5_reachedFrom_56 hl (k := 4) rfl (nI_1 i20) (by decide) rfl (fun ls hl => ?_)
            refine lv_goto (tgt := 20) hx hb dX5_reachedFrom_59 (by decide) ?_
            exact ih20 (i20 + 1) (v4_20 ||| (xm i20)) (by omega)  hf _ _ ls hP hD hS (lv_sub hl [2, 3, 4, 1, 0] rfl)
      exact L20 xn 0 v2_8 (by omega)  rfl _ _ ls hP hD hS (lv_sub hl [2, 3, 4, 1, 0] rfl)
  exact L8 12 0 (f_X5_neededBy xn xw xm wo) (by omega)  hf _ _ ls hP hD hS (lv_sub hl [2, 1, 0] rfl)
def f_X5_knotOf_13 (xn : Nat) (xw : Nat → Int32) (xm : Nat → Int32) (wo : Int32) : Nat → Nat → Int32 → Int32
  | 0, i13, v2_13 => v2_13
  | k13 + 1, i13, v2_13 => (if (f_X6_hasWord (f_X5_reachedFrom xn xw xm wo) (nI i13)) = 0 then f_X5_knotOf_13 xn xw xm wo k13 (i13 + 1) v2_13 else (if (f_X6_hasWord (f_X5_reachedFrom xn xw xm (nI i13)) wo) = 0 then f_X5_knotOf_13 xn xw xm wo k13 (i13 + 1) v2_13 else f_X5_knotOf_13 xn xw xm wo k13 (i13 + 1) (v2_13 ||| ((1 : Int32) <<< ((nI i13) &&& 31)))))
theorem f_X5_knotOf_13_z (xn : Nat) (xw : Nat → Int32) (xm : Nat → Int32) (wo : Int32) (i13 : Nat) (v2_13 : Int32) : f_X5_knotOf_13 xn xw xm wo 0 i13 v2_13 = v2_13 := rfl
theorem f_X5_knotOf_13_s (xn : Nat) (xw : Nat → Int32) (xm : Nat → Int32) (wo : Int32) (k13 : Nat) (i13 : Nat) (v2_13 : Int32) : f_X5_knotOf_13 xn xw xm wo (k13 + 1) i13 v2_13 = (if (f_X6_hasWord (f_X5_reachedFrom xn xw xm wo) (nI i13)) = 0 then f_X5_knotOf_13 xn xw xm wo k13 (i13 + 1) v2_13 else (if (f_X6_hasWord (f_X5_reachedFrom xn xw xm (nI i13)) wo) = 0 then f_X5_knotOf_13 xn xw xm wo k13 (i13 + 1) v2_13 else f_X5_knotOf_13 xn xw xm wo k13 (i13 + 1) (v2_13 ||| ((1 : Int32) <<< ((nI i13) &&& 31))))) := rfl
def f_X5_knotOf (xn : Nat) (xw : Nat → Int32) (xm : Nat → Int32) (wo : Int32) : Int32 := (f_X5_knotOf_13 xn xw xm wo 12 0 ((1 : Int32) <<< (wo &&& 31)))
set_option maxHeartbeats 4000000 in
set_option maxRecDepth 100000 in
theorem k_X5_knotOf (l : Launch) (G : wG) (xo : Nat) (xa : Nat) (xb : Nat) (xc : Nat) (xd : Nat) (xl : Nat) (xn : Nat) (xw : Nat → Int32) (xk : Nat → Int32) (xm : Nat → Int32) (xf : Nat → Int32) (wo : Int32) (hxn : xn ≤ xl) (hxl : xl ≤ 20) : CT l G yX5_knotOf cX5_knotOf 5 (some .int) ({ frames := 2, cells := 0, slots := 0, locals := 48 }) [.ref xo, .int wo] [(xo, .inr (5, [.ref xa, .ref xb, .ref xc, .ref xd, .int (nI xn)])), (xa, .inl (G.2.1, xl, .inl xw)), (xb, .inl (G.2.1, xl, .inl xk)), (xc, .inl (G.2.1, xl, .inl xm)), (xd, .inl (G.2.1, xl, .inl xf))] (fun _ => [(xo, .inr (5, [.ref xa, .ref xb, .ref xc, .ref xd, .int (nI xn)])), (xa, .inl (G.2.1, xl, .inl xw)), (xb, .inl (G.2.1, xl, .inl xk)), (xc, .inl (G.2.1, xl, .inl xm)), (xd, .inl (G.2.1, xl, .inl xf))]) (fun u => some (.int u)) (f_X5_knotOf xn xw xm wo) := by
  obtain ⟨R, hf⟩ : ∃ R, f_X5_knotOf xn xw xm wo = R := ⟨_, rfl⟩
  rw [hf]
  refine CT.mkI RX5 (by decide +kernel) rfl (Nat.le_of_ble_eq_true rfl) ?_
  intro p e s m args below meth c A Q ls hx hb hml hown hK hP hD hS hA hret hl
  have hl : lv_has ls 5 [(0, .ref xo), (1, .int wo)] := hl
  rw [f_X5_knotOf] at hf
  refine lv_iconst (v := 1) hx hb dX5_knotOf_0 (by decide) ?_
  refine lv_iload_n hx hb dX5_knotOf_1 rfl (lv_at hl 1 rfl) ?_
  refine lv_ishl hx hb dX5_knotOf_2 ?_
  refine lv_istore_n (lv' := [(2, .int ((1 : Int32) <<< (wo &&& 31))), (0, .ref xo), (1, .int wo)]) hx hb dX5_knotOf_3 rfl hl (by decide) rfl (fun ls hl => ?_)
  refine lv_aload_n hx hb dX5_knotOf_4 rfl (lv_at hl 1 rfl) ?_
  refine lv_iload_n hx hb dX5_knotOf_5 rfl (lv_at hl 2 rfl) ?_
  refine cl_V (q := (RX5, TX5, 5)) (ws' := [(xo, .inr (5, [.ref xa, .ref xb, .ref xc, .ref xd, .int (nI xn)])), (xa, .inl (G.2.1, xl, .inl xw)), (xb, .inl (G.2.1, xl, .inl xk)), (xc, .inl (G.2.1, xl, .inl xm)), (xd, .inl (G.2.1, xl, .inl xf))]) (v := (some (.int (f_X5_reachedFrom xn xw xm wo)))) (st1 := [.int (f_X5_reachedFrom xn xw xm wo)]) (rest := []) (As := [.int wo]) [0, 1, 2, 3, 4] 0 5 hx hb hml hown hK (k_X5_reachedFrom l G xo xa xb xc xd xl xn xw xk xm xf wo hxn hxl) (mf_X5_reachedFrom hK.2) (kw_477 hK.2) (kw_478 hK.2) (kw_490 hK.2) ⟨rfl, rfl, Nat.le_of_ble_eq_true rfl, Nat.le_of_ble_eq_true rfl⟩ rfl hP hD hS hA rfl rfl hl (Nat.le_of_ble_eq_true rfl) rfl ⟨Nat.le_of_ble_eq_true rfl, Nat.le_of_ble_eq_true rfl⟩ rfl dX5_knotOf_6 rfl rfl (rpl_fast (by decide) rfl rfl) rfl rfl rfl (fun H locs hP hD hS => ?_)
  refine lv_istore_n (lv' := [(3, .int (f_X5_reachedFrom xn xw xm wo)), (2, .int ((1 : Int32) <<< (wo &&& 31))), (0, .ref xo), (1, .int wo)]) hx hb dX5_knotOf_9 rfl hl (by decide) rfl (fun ls hl => ?_)
  refine lv_iconst (v := 0) hx hb dX5_knotOf_10 (by decide) ?_
  refine lv_istore (lv' := [(4, .int 0), (3, .int (f_X5_reachedFrom xn xw xm wo)), (2, .int ((1 : Int32) <<< (wo &&& 31))), (0, .ref xo), (1, .int wo)]) hx hb dX5_knotOf_11 hl (by decide) rfl (fun ls hl => ?_)
  have L13 : ∀ (k13 : Nat) (i13 : Nat) (v2_13 : Int32), k13 + i13 = 12 → f_X5_knotOf_13 xn xw xm wo k13 i13 v2_13 = R → ∀ (H : Heap) (locs : List Loc) (ls : Array Slot), va_P G.1 wcl [(xo, .inr (5, [.ref xa, .ref xb, .ref xc, .ref xd, .int (nI xn)])), (xa, .inl (G.2.1, xl, .inl xw)), (xb, .inl (G.2.1, xl, .inl xk)), (xc, .inl (G.2.1, xl, .inl xm)), (xd, .inl (G.2.1, xl, .inl xf))] H → va_D A [(xo, .inr (5, [.ref xa, .ref xb, .ref xc, .ref xd, .int (nI xn)])), (xa, .inl (G.2.1, xl, .inl xw)), (xb, .inl (G.2.1, xl, .inl xk)), (xc, .inl (G.2.1, xl, .inl xm)), (xd, .inl (G.2.1, xl, .inl xf))] → va_S A s.heap H locs → lv_has ls 5 [(0, .ref xo), (1, .int wo), (2, .int v2_13), (3, .int (f_X5_reachedFrom xn xw xm wo)), (4, .int (nI i13))] → W p l e ({ frames := 2, cells := 0, slots := 0, locals := 48 }) s m args below meth c H locs 0 0 Q (F0 m 13 ls []) := by
    intro k13
    induction k13 with
    | zero =>
      intro i13 v2_13 hi13  hf _ _ ls hP hD hS hl
      rw [f_X5_knotOf_13_z] at hf
      refine lv_iload hx hb dX5_knotOf_13 (lv_at hl 4 rfl) ?_
      refine lv_bipush (v := 12) hx hb dX5_knotOf_15 (by decide) ?_
      refine lv_icmp_ge (tgt := 55) hx hb dX5_knotOf_17 (by decide) (fun _ => ?_) (fun c => absurd (ile (a := 12) (b := i13) rfl rfl (by omega) (by omega) (by omega)) c)
      refine lv_iload_n hx hb dX5_knotOf_55 rfl (lv_at hl 2 rfl) ?_
      exact hret v2_13 dX5_knotOf_56 rfl hf rfl hP hS
    | succ k13 ih13 =>
      intro i13 v2_13 hi13  hf _ _ ls hP hD hS hl
      rw [f_X5_knotOf_13_s] at hf
      refine lv_iload hx hb dX5_knotOf_13 (lv_at hl 4 rfl) ?_
      refine lv_bipush (v := 12) hx hb dX5_knotOf_15 (by decide) ?_
      refine lv_icmp_ge (tgt := 55) hx hb dX5_knotOf_17 (by decide) (fun c => absurd c (inle (a := 12) (b := i13) rfl rfl (by omega) (by omega) (by omega))) (fun _ => ?_)
      refine lv_iload_n hx hb dX5_knotOf_20 rfl (lv_at hl 3 rfl) ?_
      refine lv_iload hx hb dX5_knotOf_21 (lv_at hl 4 rfl) ?_
      refine cl_SN (ws' := [(xo, .inr (5, [.ref xa, .ref xb, .ref xc, .ref xd, .int (nI xn)])), (xa, .inl (G.2.1, xl, .inl xw)), (xb, .inl (G.2.1, xl, .inl xk)), (xc, .inl (G.2.1, xl, .inl xm)), (xd, .inl (G.2.1, xl, .inl xf))]) (v := (some (.int (f_X6_hasWord (f_X5_reachedFrom xn xw xm wo) (nI i13))))) (st1 := [.int (f_X6_hasWord (f_X5_reachedFrom xn xw xm wo) (nI i13))]) (rest := []) (As := [.int (f_X5_reachedFrom xn xw xm wo), .int (nI i13)]) [] hx hb hml hown hK (k_X6_hasWord l G (f_X5_reachedFrom xn xw xm wo) (nI i13) ) (mf_X6_hasWord hK.2) (kw_379 hK.2) (kw_481 hK.2) ⟨rfl, rfl, Nat.le_of_ble_eq_true rfl, Nat.le_of_ble_eq_true rfl⟩ rfl hP hD hS hA hl (Nat.le_of_ble_eq_true rfl) rfl ⟨Nat.le_of_ble_eq_true rfl, Nat.le_of_ble_eq_true rfl⟩ rfl dX5_knotOf_23 rfl rfl rfl rfl rfl rfl (fun H locs hP hD hS => ?_)
      refine lv_if_eq (tgt := 49) hx hb dX5_knotOf_26 (by decide) (fun c1 => ?_) (fun c1 => ?_)
      · have hf := (if_pos c1).symm.trans hf
        refine lv_iinc (v := nI (i13 + 1)) (lv' := [(4, .int (nI (i13 + 1))), (0, .ref xo), (1, .int wo), (2, .int v2_13), (3, .int (f_X5_reachedFrom xn xw xm wo))]) hx hb dX5_knotOf_49 hl (k := 4) rfl (nI_1 i13) (by decide) rfl (fun ls hl => ?_)
        refine lv_goto (tgt := 13) hx hb dX5_knotOf_52 (by decide) ?_
        exact ih13 (i13 + 1) v2_13 (by omega)  hf _ _ ls hP hD hS (lv_sub hl [1, 2, 3, 4, 0] rfl)
      · have hf := (if_neg c1).symm.trans hf
        refine lv_aload_n hx hb dX5_knotOf_29 rfl (lv_at hl 0 rfl) ?_
        refine lv_iload hx hb dX5_knotOf_30 (lv_at hl 4 rfl) ?_
        refine cl_V (q := (RX5, TX5, 5)) (ws' := [(xo, .inr (5, [.ref xa, .ref xb, .ref xc, .ref xd, .int (nI xn)])), (xa, .inl (G.2.1, xl, .inl xw)), (xb, .inl (G.2.1, xl, .inl xk)), (xc, .inl (G.2.1, xl, .inl xm)), (xd, .inl (G.2.1, xl, .inl xf))]) (v := (some (.int (f_X5_reachedFrom xn xw xm (nI i13))))) (st1 := [.int (f_X5_reachedFrom xn xw xm (nI i13))]) (rest := []) (As := [.int (nI i13)]) [0, 1, 2, 3, 4] 0 5 hx hb hml hown hK (k_X5_reachedFrom l G xo xa xb xc xd xl xn xw xk xm xf (nI i13) hxn hxl) (mf_X5_reachedFrom hK.2) (kw_477 hK.2) (kw_478 hK.2) (kw_490 hK.2) ⟨rfl, rfl, Nat.le_of_ble_eq_true rfl, Nat.le_of_ble_eq_true rfl⟩ rfl hP hD hS hA rfl rfl hl (Nat.le_of_ble_eq_true rfl) rfl ⟨Nat.le_of_ble_eq_true rfl, Nat.le_of_ble_eq_true rfl⟩ rfl dX5_knotOf_32 rfl rfl (rpl_fast (by decide) rfl rfl) rfl rfl rfl (fun H locs hP hD hS => ?_)
        refine lv_iload_n hx hb dX5_knotOf_35 rfl (lv_at hl 1 rfl) ?_
        refine cl_SN (ws' := [(xo, .inr (5, [.ref xa, .ref xb, .ref xc, .ref xd, .int (nI xn)])), (xa, .inl (G.2.1, xl, .inl xw)), (xb, .inl (G.2.1, xl, .inl xk)), (xc, .inl (G.2.1, xl, .inl xm)), (xd, .inl (G.2.1, xl, .inl xf))]) (v := (some (.int (f_X6_hasWord (f_X5_reachedFrom xn xw xm (nI i13)) wo)))) (st1 := [.int (f_X6_hasWord (f_X5_reachedFrom xn xw xm (nI i13)) wo)]) (rest := []) (As := [.int (f_X5_reachedFrom xn xw xm (nI i13)), .int wo]) [] hx hb hml hown hK (k_X6_hasWord l G (f_X5_reachedFrom xn xw xm (nI i13)) wo ) (mf_X6_hasWord hK.2) (kw_379 hK.2) (kw_481 hK.2) ⟨rfl, rfl, Nat.le_of_ble_eq_true rfl, Nat.le_of_ble_eq_true rfl⟩ rfl hP hD hS hA hl (Nat.le_of_ble_eq_true rfl) rfl ⟨Nat.le_of_ble_eq_true rfl, Nat.le_of_ble_eq_true rfl⟩ rfl dX5_knotOf_36 rfl rfl rfl rfl rfl rfl (fun H locs hP hD hS => ?_)
        refine lv_if_eq (tgt := 49) hx hb dX5_knotOf_39 (by decide) (fun c2 => ?_) (fun c2 => ?_)
        · have hf := (if_pos c2).symm.trans hf
          refine lv_iinc (v := nI (i13 + 1)) (lv' := [(4, .int (nI (i13 + 1))), (0, .ref xo), (1, .int wo), (2, .int v2_13), (3, .int (f_X5_reachedFrom xn xw xm wo))]) hx hb dX5_knotOf_49 hl (k := 4) rfl (nI_1 i13) (by decide) rfl (fun ls hl => ?_)
          refine lv_goto (tgt := 13) hx hb dX5_knotOf_52 (by decide) ?_
          exact ih13 (i13 + 1) v2_13 (by omega)  hf _ _ ls hP hD hS (lv_sub hl [1, 2, 3, 4, 0] rfl)
        · have hf := (if_neg c2).symm.trans hf
          refine lv_iload_n hx hb dX5_knotOf_42 rfl (lv_at hl 2 rfl) ?_
          refine lv_iconst (v := 1) hx hb dX5_knotOf_43 (by decide) ?_
          refine lv_iload hx hb dX5_knotOf_44 (lv_at hl 4 rfl) ?_
          refine lv_ishl hx hb dX5_knotOf_46 ?_
          refine lv_ior hx hb dX5_knotOf_47 ?_
          refine lv_istore_n (lv' := [(2, .int (v2_13 ||| ((1 : Int32) <<< ((nI i13) &&& 31)))), (0, .ref xo), (1, .int wo), (3, .int (f_X5_reachedFrom xn xw xm wo)), (4, .int (nI i13))]) hx hb dX5_knotOf_48 rfl hl (by decide) rfl (fun ls hl => ?_)
          refine lv_iinc (v := nI (i13 + 1)) (lv' := [(4, .int (nI (i13 + 1))), (2, .int (v2_13 ||| ((1 : Int32) <<< ((nI i13) &&& 31)))), (0, .ref xo), (1, .int wo), (3, .int (f_X5_reachedFrom xn xw xm wo))]) hx hb dX5_knotOf_49 hl (k := 4) rfl (nI_1 i13) (by decide) rfl (fun ls hl => ?_)
          refine lv_goto (tgt := 13) hx hb dX5_knotOf_52 (by decide) ?_
          exact ih13 (i13 + 1) (v2_13 ||| ((1 : Int32) <<< ((nI i13) &&& 31))) (by omega)  hf _ _ ls hP hD hS (lv_sub hl [2, 3, 1, 4, 0] rfl)
  exact L13 12 0 ((1 : Int32) <<< (wo &&& 31)) (by omega)  hf _ _ ls hP hD hS (lv_sub hl [3, 4, 2, 1, 0] rfl)
def f_X6_leastWord_2 (so : Int32) : Nat → Nat → Int32
  | 0, i2 => (-9)
  | k2 + 1, i2 => (if (f_X6_hasWord so (nI i2)) = 0 then f_X6_leastWord_2 so k2 (i2 + 1) else nI i2)
theorem f_X6_leastWord_2_z (so : Int32) (i2 : Nat) : f_X6_leastWord_2 so 0 i2 = (-9) := rfl
theorem f_X6_leastWord_2_s (so : Int32) (k2 : Nat) (i2 : Nat) : f_X6_leastWord_2 so (k2 + 1) i2 = (if (f_X6_hasWord so (nI i2)) = 0 then f_X6_leastWord_2 so k2 (i2 + 1) else nI i2) := rfl
def f_X6_leastWord (so : Int32) : Int32 := (f_X6_leastWord_2 so 12 0)
set_option maxHeartbeats 4000000 in
set_option maxRecDepth 100000 in
theorem k_X6_leastWord (l : Launch) (G : wG) (so : Int32)  : CT l G yX6_leastWord cX6_leastWord 2 (some .int) ({ frames := 1, cells := 0, slots := 0, locals := 21 }) [.int so] [] (fun _ => []) (fun u => some (.int u)) (f_X6_leastWord so) := by
  obtain ⟨R, hf⟩ : ∃ R, f_X6_leastWord so = R := ⟨_, rfl⟩
  rw [hf]
  refine CT.mkI RX6 (by decide +kernel) rfl (Nat.le_of_ble_eq_true rfl) ?_
  intro p e s m args below meth c A Q ls hx hb hml hown hK hP hD hS hA hret hl
  have hl : lv_has ls 2 [(0, .int so)] := hl
  rw [f_X6_leastWord] at hf
  refine lv_iconst (v := 0) hx hb dX6_leastWord_0 (by decide) ?_
  refine lv_istore_n (lv' := [(1, .int 0), (0, .int so)]) hx hb dX6_leastWord_1 rfl hl (by decide) rfl (fun ls hl => ?_)
  have L2 : ∀ (k2 : Nat) (i2 : Nat), k2 + i2 = 12 → f_X6_leastWord_2 so k2 i2 = R → ∀ (H : Heap) (locs : List Loc) (ls : Array Slot), va_P G.1 wcl [] H → va_D A [] → va_S A s.heap H locs → lv_has ls 2 [(0, .int so), (1, .int (nI i2))] → W p l e ({ frames := 1, cells := 0, slots := 0, locals := 21 }) s m args below meth c H locs 0 0 Q (F0 m 2 ls []) := by
    intro k2
    induction k2 with
    | zero =>
      intro i2 hi2  hf _ _ ls hP hD hS hl
      rw [f_X6_leastWord_2_z] at hf
      refine lv_iload_n hx hb dX6_leastWord_2 rfl (lv_at hl 1 rfl) ?_
      refine lv_bipush (v := 12) hx hb dX6_leastWord_3 (by decide) ?_
      refine lv_icmp_ge (tgt := 24) hx hb dX6_leastWord_5 (by decide) (fun _ => ?_) (fun c => absurd (ile (a := 12) (b := i2) rfl rfl (by omega) (by omega) (by omega)) c)
      refine lv_bipush (v := -9) hx hb dX6_leastWord_24 (by decide) ?_
      exact hret (-9) dX6_leastWord_26 rfl hf rfl hP hS
    | succ k2 ih2 =>
      intro i2 hi2  hf _ _ ls hP hD hS hl
      rw [f_X6_leastWord_2_s] at hf
      refine lv_iload_n hx hb dX6_leastWord_2 rfl (lv_at hl 1 rfl) ?_
      refine lv_bipush (v := 12) hx hb dX6_leastWord_3 (by decide) ?_
      refine lv_icmp_ge (tgt := 24) hx hb dX6_leastWord_5 (by decide) (fun c => absurd c (inle (a := 12) (b := i2) rfl rfl (by omega) (by omega) (by omega))) (fun _ => ?_)
      refine lv_iload_n hx hb dX6_leastWord_8 rfl (lv_at hl 0 rfl) ?_
      refine lv_iload_n hx hb dX6_leastWord_9 rfl (lv_at hl 1 rfl) ?_
      refine cl_S (ws' := []) (v := (some (.int (f_X6_hasWord so (nI i2))))) (st1 := [.int (f_X6_hasWord so (nI i2))]) (rest := []) (As := [.int so, .int (nI i2)]) [] hx hb hml hown hK (k_X6_hasWord l G so (nI i2) ) (mf_X6_hasWord hK.2) (kw_379 hK.2) (kw_408 hK.2) ⟨rfl, rfl, Nat.le_of_ble_eq_true rfl, Nat.le_of_ble_eq_true rfl⟩ rfl hP hD hS hA hl (Nat.le_of_ble_eq_true rfl) rfl ⟨Nat.le_of_ble_eq_true rfl, Nat.le_of_ble_eq_true rfl⟩ rfl dX6_leastWord_10 rfl rfl rfl rfl rfl rfl (fun H locs hP hD hS => ?_)
      refine lv_if_eq (tgt := 18) hx hb dX6_leastWord_13 (by decide) (fun c1 => ?_) (fun c1 => ?_)
      · have hf := (if_pos c1).symm.trans hf
        refine lv_iinc (v := nI (i2 + 1)) (lv' := [(1, .int (nI (i2 + 1))), (0, .int so)]) hx hb dX6_leastWord_18 hl (k := 1) rfl (nI_1 i2) (by decide) rfl (fun ls hl => ?_)
        refine lv_goto (tgt := 2) hx hb dX6_leastWord_21 (by decide) ?_
        exact ih2 (i2 + 1) (by omega)  hf _ _ ls hP hD hS (lv_sub hl [1, 0] rfl)
      · have hf := (if_neg c1).symm.trans hf
        refine lv_iload_n hx hb dX6_leastWord_16 rfl (lv_at hl 1 rfl) ?_
        exact hret (nI i2) dX6_leastWord_17 rfl hf rfl hP hS
  exact L2 12 0 (by omega)  hf _ _ ls hP hD hS (lv_sub hl [1, 0] rfl)
def f_X5_howManyKnots_4 (xn : Nat) (xw : Nat → Int32) (xm : Nat → Int32) : Nat → Nat → Int32 → Int32
  | 0, i4, v1_4 => v1_4
  | k4 + 1, i4, v1_4 => (if (f_X6_leastWord (f_X5_knotOf xn xw xm (nI i4))) = (nI i4) then (if (f_J6_bitCount_0f7a4 (f_X5_knotOf xn xw xm (nI i4))) ≤ 1 then f_X5_howManyKnots_4 xn xw xm k4 (i4 + 1) v1_4 else f_X5_howManyKnots_4 xn xw xm k4 (i4 + 1) (v1_4 + 1)) else f_X5_howManyKnots_4 xn xw xm k4 (i4 + 1) v1_4)
theorem f_X5_howManyKnots_4_z (xn : Nat) (xw : Nat → Int32) (xm : Nat → Int32) (i4 : Nat) (v1_4 : Int32) : f_X5_howManyKnots_4 xn xw xm 0 i4 v1_4 = v1_4 := rfl
theorem f_X5_howManyKnots_4_s (xn : Nat) (xw : Nat → Int32) (xm : Nat → Int32) (k4 : Nat) (i4 : Nat) (v1_4 : Int32) : f_X5_howManyKnots_4 xn xw xm (k4 + 1) i4 v1_4 = (if (f_X6_leastWord (f_X5_knotOf xn xw xm (nI i4))) = (nI i4) then (if (f_J6_bitCount_0f7a4 (f_X5_knotOf xn xw xm (nI i4))) ≤ 1 then f_X5_howManyKnots_4 xn xw xm k4 (i4 + 1) v1_4 else f_X5_howManyKnots_4 xn xw xm k4 (i4 + 1) (v1_4 + 1)) else f_X5_howManyKnots_4 xn xw xm k4 (i4 + 1) v1_4) := rfl
def f_X5_howManyKnots (xn : Nat) (xw : Nat → Int32) (xm : Nat → Int32) : Int32 := (f_X5_howManyKnots_4 xn xw xm 12 0 0)
set_option maxHeartbeats 4000000 in
set_option maxRecDepth 100000 in
theorem k_X5_howManyKnots (l : Launch) (G : wG) (xo : Nat) (xa : Nat) (xb : Nat) (xc : Nat) (xd : Nat) (xl : Nat) (xn : Nat) (xw : Nat → Int32) (xk : Nat → Int32) (xm : Nat → Int32) (xf : Nat → Int32) (hxn : xn ≤ xl) (hxl : xl ≤ 20) : CT l G yX5_howManyKnots cX5_howManyKnots 4 (some .int) ({ frames := 3, cells := 0, slots := 0, locals := 72 }) [.ref xo] [(xo, .inr (5, [.ref xa, .ref xb, .ref xc, .ref xd, .int (nI xn)])), (xa, .inl (G.2.1, xl, .inl xw)), (xb, .inl (G.2.1, xl, .inl xk)), (xc, .inl (G.2.1, xl, .inl xm)), (xd, .inl (G.2.1, xl, .inl xf))] (fun _ => [(xo, .inr (5, [.ref xa, .ref xb, .ref xc, .ref xd, .int (nI xn)])), (xa, .inl (G.2.1, xl, .inl xw)), (xb, .inl (G.2.1, xl, .inl xk)), (xc, .inl (G.2.1, xl, .inl xm)), (xd, .inl (G.2.1, xl, .inl xf))]) (fun u => some (.int u)) (f_X5_howManyKnots xn xw xm) := by
  obtain ⟨R, hf⟩ : ∃ R, f_X5_howManyKnots xn xw xm = R := ⟨_, rfl⟩
  rw [hf]
  refine CT.mkI RX5 (by decide +kernel) rfl (Nat.le_of_ble_eq_true rfl) ?_
  intro p e s m args below meth c A Q ls hx hb hml hown hK hP hD hS hA hret hl
  have hl : lv_has ls 4 [(0, .ref xo)] := hl
  rw [f_X5_howManyKnots] at hf
  refine lv_iconst (v := 0) hx hb dX5_howManyKnots_0 (by decide) ?_
  refine lv_istore_n (lv' := [(1, .int 0), (0, .ref xo)]) hx hb dX5_howManyKnots_1 rfl hl (by decide) rfl (fun ls hl => ?_)
  refine lv_iconst (v := 0) hx hb dX5_howManyKnots_2 (by decide) ?_
  refine lv_istore_n (lv' := [(2, .int 0), (1, .int 0), (0, .ref xo)]) hx hb dX5_howManyKnots_3 rfl hl (by decide) rfl (fun ls hl => ?_)
  have L4 : ∀ (k4 : Nat) (i4 : Nat) (v1_4 : Int32), k4 + i4 = 12 → f_X5_howManyKnots_4 xn xw xm k4 i4 v1_4 = R → ∀ (H : Heap) (locs : List Loc) (ls : Array Slot), va_P G.1 wcl [(xo, .inr (5, [.ref xa, .ref xb, .ref xc, .ref xd, .int (nI xn)])), (xa, .inl (G.2.1, xl, .inl xw)), (xb, .inl (G.2.1, xl, .inl xk)), (xc, .inl (G.2.1, xl, .inl xm)), (xd, .inl (G.2.1, xl, .inl xf))] H → va_D A [(xo, .inr (5, [.ref xa, .ref xb, .ref xc, .ref xd, .int (nI xn)])), (xa, .inl (G.2.1, xl, .inl xw)), (xb, .inl (G.2.1, xl, .inl xk)), (xc, .inl (G.2.1, xl, .inl xm)), (xd, .inl (G.2.1, xl, .inl xf))] → va_S A s.heap H locs → lv_has ls 4 [(0, .ref xo), (1, .int v1_4), (2, .int (nI i4))] → W p l e ({ frames := 3, cells := 0, slots := 0, locals := 72 }) s m args below meth c H locs 0 0 Q (F0 m 4 ls []) := by
    intro k4
    induction k4 with
    | zero =>
      intro i4 v1_4 hi4  hf _ _ ls hP hD hS hl
      rw [f_X5_howManyKnots_4_z] at hf
      refine lv_iload_n hx hb dX5_howManyKnots_4 rfl (lv_at hl 2 rfl) ?_
      refine lv_bipush (v := 12) hx hb dX5_howManyKnots_5 (by decide) ?_
      refine lv_icmp_ge (tgt := 41) hx hb dX5_howManyKnots_7 (by decide) (fun _ => ?_) (fun c => absurd (ile (a := 12) (b := i4) rfl rfl (by omega) (by omega) (by omega)) c)
      refine lv_iload_n hx hb dX5_howManyKnots_41 rfl (lv_at hl 1 rfl) ?_
      exact hret v1_4 dX5_howManyKnots_42 rfl hf rfl hP hS
    | succ k4 ih4 =>
      intro i4 v1_4 hi4  hf _ _ ls hP hD hS hl
      rw [f_X5_howManyKnots_4_s] at hf
      refine lv_iload_n hx hb dX5_howManyKnots_4 rfl (lv_at hl 2 rfl) ?_
      refine lv_bipush (v := 12) hx hb dX5_howManyKnots_5 (by decide) ?_
      refine lv_icmp_ge (tgt := 41) hx hb dX5_howManyKnots_7 (by decide) (fun c => absurd c (inle (a := 12) (b := i4) rfl rfl (by omega) (by omega) (by omega))) (fun _ => ?_)
      refine lv_aload_n hx hb dX5_howManyKnots_10 rfl (lv_at hl 0 rfl) ?_
      refine lv_iload_n hx hb dX5_howManyKnots_11 rfl (lv_at hl 2 rfl) ?_
      refine cl_V (q := (RX5, TX5, 5)) (ws' := [(xo, .inr (5, [.ref xa, .ref xb, .ref xc, .ref xd, .int (nI xn)])), (xa, .inl (G.2.1, xl, .inl xw)), (xb, .inl (G.2.1, xl, .inl xk)), (xc, .inl (G.2.1, xl, .inl xm)), (xd, .inl (G.2.1, xl, .inl xf))]) (v := (some (.int (f_X5_knotOf xn xw xm (nI i4))))) (st1 := [.int (f_X5_knotOf xn xw xm (nI i4))]) (rest := []) (As := [.int (nI i4)]) [0, 1, 2, 3, 4] 0 5 hx hb hml hown hK (k_X5_knotOf l G xo xa xb xc xd xl xn xw xk xm xf (nI i4) hxn hxl) (mf_X5_knotOf hK.2) (kw_487 hK.2) (kw_488 hK.2) (kw_499 hK.2) ⟨rfl, rfl, Nat.le_of_ble_eq_true rfl, Nat.le_of_ble_eq_true rfl⟩ rfl hP hD hS hA rfl rfl hl (Nat.le_of_ble_eq_true rfl) rfl ⟨Nat.le_of_ble_eq_true rfl, Nat.le_of_ble_eq_true rfl⟩ rfl dX5_howManyKnots_12 rfl rfl (rpl_fast (by decide) rfl rfl) rfl rfl rfl (fun H locs hP hD hS => ?_)
      refine lv_istore_n (lv' := [(3, .int (f_X5_knotOf xn xw xm (nI i4))), (0, .ref xo), (1, .int v1_4), (2, .int (nI i4))]) hx hb dX5_howManyKnots_15 rfl hl (by decide) rfl (fun ls hl => ?_)
      refine lv_iload_n hx hb dX5_howManyKnots_16 rfl (lv_at hl 0 rfl) ?_
      refine cl_SN (ws' := [(xo, .inr (5, [.ref xa, .ref xb, .ref xc, .ref xd, .int (nI xn)])), (xa, .inl (G.2.1, xl, .inl xw)), (xb, .inl (G.2.1, xl, .inl xk)), (xc, .inl (G.2.1, xl, .inl xm)), (xd, .inl (G.2.1, xl, .inl xf))]) (v := (some (.int (f_X6_leastWord (f_X5_knotOf xn xw xm (nI i4)))))) (st1 := [.int (f_X6_leastWord (f_X5_knotOf xn xw xm (nI i4)))]) (rest := []) (As := [.int (f_X5_knotOf xn xw xm (nI i4))]) [] hx hb hml hown hK (k_X6_leastWord l G (f_X5_knotOf xn xw xm (nI i4)) ) (mf_X6_leastWord hK.2) (kw_501 hK.2) (kw_500 hK.2) ⟨rfl, rfl, Nat.le_of_ble_eq_true rfl, Nat.le_of_ble_eq_true rfl⟩ rfl hP hD hS hA hl (Nat.le_of_ble_eq_true rfl) rfl ⟨Nat.le_of_ble_eq_true rfl, Nat.le_of_ble_eq_true rfl⟩ rfl dX5_howManyKnots_17 rfl rfl rfl rfl rfl rfl (fun H locs hP hD hS => ?_)
      refine lv_iload_n hx hb dX5_howManyKnots_20 rfl (lv_at hl 3 rfl) ?_
      refine lv_icmp_ne (tgt := 35) hx hb dX5_howManyKnots_21 (by decide) (fun c1 => ?_) (fun c1 => ?_)
      · have hf := (if_neg c1).symm.trans hf
        refine lv_iinc (v := nI (i4 + 1)) (lv' := [(2, .int (nI (i4 + 1))), (3, .int (f_X5_knotOf xn xw xm (nI i4))), (0, .ref xo), (1, .int v1_4)]) hx hb dX5_howManyKnots_35 hl (k := 3) rfl (nI_1 i4) (by decide) rfl (fun ls hl => ?_)
        refine lv_goto (tgt := 4) hx hb dX5_howManyKnots_38 (by decide) ?_
        exact ih4 (i4 + 1) v1_4 (by omega)  hf _ _ ls hP hD hS (lv_sub hl [2, 3, 0] rfl)
      · have hf := (if_pos c1).symm.trans hf
        refine lv_iload_n hx hb dX5_howManyKnots_24 rfl (lv_at hl 0 rfl) ?_
        refine cl_S (ws' := [(xo, .inr (5, [.ref xa, .ref xb, .ref xc, .ref xd, .int (nI xn)])), (xa, .inl (G.2.1, xl, .inl xw)), (xb, .inl (G.2.1, xl, .inl xk)), (xc, .inl (G.2.1, xl, .inl xm)), (xd, .inl (G.2.1, xl, .inl xf))]) (v := (some (.int (f_J6_bitCount_0f7a4 (f_X5_knotOf xn xw xm (nI i4)))))) (st1 := [.int (f_J6_bitCount_0f7a4 (f_X5_knotOf xn xw xm (nI i4)))]) (rest := []) (As := [.int (f_X5_knotOf xn xw xm (nI i4))]) [] hx hb hml hown hK (k_J6_bitCount_0f7a4 l G (f_X5_knotOf xn xw xm (nI i4)) ) (mf_J6_bitCount_0f7a4 hK.2) (kw_430 hK.2) (kw_429 hK.2) ⟨rfl, rfl, Nat.le_of_ble_eq_true rfl, Nat.le_of_ble_eq_true rfl⟩ rfl hP hD hS hA hl (Nat.le_of_ble_eq_true rfl) rfl ⟨Nat.le_of_ble_eq_true rfl, Nat.le_of_ble_eq_true rfl⟩ rfl dX5_howManyKnots_25 rfl rfl rfl rfl rfl rfl (fun H locs hP hD hS => ?_)
        refine lv_iconst (v := 1) hx hb dX5_howManyKnots_28 (by decide) ?_
        refine lv_icmp_le (tgt := 35) hx hb dX5_howManyKnots_29 (by decide) (fun c2 => ?_) (fun c2 => ?_)
        · have hf := (if_pos c2).symm.trans hf
          refine lv_iinc (v := nI (i4 + 1)) (lv' := [(2, .int (nI (i4 + 1))), (3, .int (f_X5_knotOf xn xw xm (nI i4))), (0, .ref xo), (1, .int v1_4)]) hx hb dX5_howManyKnots_35 hl (k := 3) rfl (nI_1 i4) (by decide) rfl (fun ls hl => ?_)
          refine lv_goto (tgt := 4) hx hb dX5_howManyKnots_38 (by decide) ?_
          exact ih4 (i4 + 1) v1_4 (by omega)  hf _ _ ls hP hD hS (lv_sub hl [2, 3, 0] rfl)
        · have hf := (if_neg c2).symm.trans hf
          refine lv_iinc (v := v1_4 + 1) (lv' := [(1, .int (v1_4 + 1)), (3, .int (f_X5_knotOf xn xw xm (nI i4))), (0, .ref xo), (2, .int (nI i4))]) hx hb dX5_howManyKnots_32 hl (k := 2) rfl rfl (by decide) rfl (fun ls hl => ?_)
          refine lv_iinc (v := nI (i4 + 1)) (lv' := [(2, .int (nI (i4 + 1))), (1, .int (v1_4 + 1)), (3, .int (f_X5_knotOf xn xw xm (nI i4))), (0, .ref xo)]) hx hb dX5_howManyKnots_35 hl (k := 3) rfl (nI_1 i4) (by decide) rfl (fun ls hl => ?_)
          refine lv_goto (tgt := 4) hx hb dX5_howManyKnots_38 (by decide) ?_
          exact ih4 (i4 + 1) (v1_4 + 1) (by omega)  hf _ _ ls hP hD hS (lv_sub hl [3, 1, 0] rfl)
  exact L4 12 0 0 (by omega)  hf _ _ ls hP hD hS (lv_sub hl [2, 1, 0] rfl)
