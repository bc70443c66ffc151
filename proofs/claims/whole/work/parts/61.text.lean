theorem dJ0_indexOf_0f7a4_0 : decode cJ0_indexOf_0f7a4 0 = .ok (.aload_n 0, 1) := by decide +kernel
theorem dJ0_indexOf_0f7a4_1 : decode cJ0_indexOf_0f7a4 1 = .ok (.iload_n 1, 1) := by decide +kernel
theorem dJ0_indexOf_0f7a4_2 : decode cJ0_indexOf_0f7a4 2 = .ok (.iconst 0, 1) := by decide +kernel
theorem dJ0_indexOf_0f7a4_3 : decode cJ0_indexOf_0f7a4 3 = .ok (.invokevirtual 633, 3) := by decide +kernel
theorem dJ0_indexOf_0f7a4_6 : decode cJ0_indexOf_0f7a4 6 = .ok (.ireturn, 1) := by decide +kernel
theorem mf_J0_indexOf_0f7a4 {s : State} (h : KW s) : MF s yJ0_indexOf_0f7a4 cJ0_indexOf_0f7a4 2 (some .int) 1 := ⟨kw_293 h, kw_42 h, by decide +kernel⟩
theorem dJ0_indexOf_7cf53_0 : decode cJ0_indexOf_7cf53 0 = .ok (.aload_n 0, 1) := by decide +kernel
theorem dJ0_indexOf_7cf53_1 : decode cJ0_indexOf_7cf53 1 = .ok (.invokevirtual 492, 3) := by decide +kernel
theorem dJ0_indexOf_7cf53_4 : decode cJ0_indexOf_7cf53 4 = .ok (.ifCond .eq 19, 3) := by decide +kernel
theorem dJ0_indexOf_7cf53_7 : decode cJ0_indexOf_7cf53 7 = .ok (.aload_n 0, 1) := by decide +kernel
theorem dJ0_indexOf_7cf53_8 : decode cJ0_indexOf_7cf53 8 = .ok (.getfield 9, 3) := by decide +kernel
theorem dJ0_indexOf_7cf53_11 : decode cJ0_indexOf_7cf53 11 = .ok (.iload_n 1, 1) := by decide +kernel
theorem dJ0_indexOf_7cf53_12 : decode cJ0_indexOf_7cf53 12 = .ok (.iload_n 2, 1) := by decide +kernel
theorem dJ0_indexOf_7cf53_13 : decode cJ0_indexOf_7cf53 13 = .ok (.aload_n 0, 1) := by decide +kernel
theorem dJ0_indexOf_7cf53_14 : decode cJ0_indexOf_7cf53 14 = .ok (.invokevirtual 505, 3) := by decide +kernel
theorem dJ0_indexOf_7cf53_17 : decode cJ0_indexOf_7cf53 17 = .ok (.invokestatic 637, 3) := by decide +kernel
theorem dJ0_indexOf_7cf53_20 : decode cJ0_indexOf_7cf53 20 = .ok (.goto 16, 3) := by decide +kernel
theorem dJ0_indexOf_7cf53_23 : decode cJ0_indexOf_7cf53 23 = .ok (.aload_n 0, 1) := by decide +kernel
theorem dJ0_indexOf_7cf53_24 : decode cJ0_indexOf_7cf53 24 = .ok (.getfield 9, 3) := by decide +kernel
theorem dJ0_indexOf_7cf53_27 : decode cJ0_indexOf_7cf53 27 = .ok (.iload_n 1, 1) := by decide +kernel
theorem dJ0_indexOf_7cf53_28 : decode cJ0_indexOf_7cf53 28 = .ok (.iload_n 2, 1) := by decide +kernel
theorem dJ0_indexOf_7cf53_29 : decode cJ0_indexOf_7cf53 29 = .ok (.aload_n 0, 1) := by decide +kernel
theorem dJ0_indexOf_7cf53_30 : decode cJ0_indexOf_7cf53 30 = .ok (.invokevirtual 505, 3) := by decide +kernel
theorem dJ0_indexOf_7cf53_33 : decode cJ0_indexOf_7cf53 33 = .ok (.invokestatic 640, 3) := by decide +kernel
theorem dJ0_indexOf_7cf53_36 : decode cJ0_indexOf_7cf53 36 = .ok (.ireturn, 1) := by decide +kernel
theorem mf_J0_indexOf_7cf53 {s : State} (h : KW s) : MF s yJ0_indexOf_7cf53 cJ0_indexOf_7cf53 3 (some .int) 2 := ⟨kw_297 h, kw_42 h, by decide +kernel⟩
theorem dJ0_isLatin1_aae02_0 : decode cJ0_isLatin1_aae02 0 = .ok (.getstatic 38, 3) := by decide +kernel
theorem dJ0_isLatin1_aae02_3 : decode cJ0_isLatin1_aae02 3 = .ok (.ifCond .eq 14, 3) := by decide +kernel
theorem dJ0_isLatin1_aae02_6 : decode cJ0_isLatin1_aae02 6 = .ok (.aload_n 0, 1) := by decide +kernel
theorem dJ0_isLatin1_aae02_7 : decode cJ0_isLatin1_aae02 7 = .ok (.getfield 15, 3) := by decide +kernel
theorem dJ0_isLatin1_aae02_10 : decode cJ0_isLatin1_aae02 10 = .ok (.ifCond .ne 7, 3) := by decide +kernel
theorem dJ0_isLatin1_aae02_13 : decode cJ0_isLatin1_aae02 13 = .ok (.iconst 1, 1) := by decide +kernel
theorem dJ0_isLatin1_aae02_14 : decode cJ0_isLatin1_aae02 14 = .ok (.goto 4, 3) := by decide +kernel
theorem dJ0_isLatin1_aae02_17 : decode cJ0_isLatin1_aae02 17 = .ok (.iconst 0, 1) := by decide +kernel
theorem dJ0_isLatin1_aae02_18 : decode cJ0_isLatin1_aae02 18 = .ok (.ireturn, 1) := by decide +kernel
theorem mf_J0_isLatin1_aae02 {s : State} (h : KW s) : MF s yJ0_isLatin1_aae02 cJ0_isLatin1_aae02 1 (some .boolean) 0 := ⟨kw_301 h, kw_42 h, by decide +kernel⟩
theorem dJ0_length_8abf5_0 : decode cJ0_length_8abf5 0 = .ok (.aload_n 0, 1) := by decide +kernel
theorem dJ0_length_8abf5_1 : decode cJ0_length_8abf5 1 = .ok (.getfield 9, 3) := by decide +kernel
theorem dJ0_length_8abf5_4 : decode cJ0_length_8abf5 4 = .ok (.arraylength, 1) := by decide +kernel
theorem dJ0_length_8abf5_5 : decode cJ0_length_8abf5 5 = .ok (.aload_n 0, 1) := by decide +kernel
theorem dJ0_length_8abf5_6 : decode cJ0_length_8abf5 6 = .ok (.invokevirtual 335, 3) := by decide +kernel
theorem dJ0_length_8abf5_9 : decode cJ0_length_8abf5 9 = .ok (.ishr, 1) := by decide +kernel
theorem dJ0_length_8abf5_10 : decode cJ0_length_8abf5 10 = .ok (.ireturn, 1) := by decide +kernel
theorem mf_J0_length_8abf5 {s : State} (h : KW s) : MF s yJ0_length_8abf5 cJ0_length_8abf5 1 (some .int) 0 := ⟨kw_307 h, kw_42 h, by decide +kernel⟩
theorem dJ0_coder_7d493_0 : decode cJ0_coder_7d493 0 = .ok (.getstatic 38, 3) := by decide +kernel
theorem dJ0_coder_7d493_3 : decode cJ0_coder_7d493 3 = .ok (.ifCond .eq 10, 3) := by decide +kernel
theorem dJ0_coder_7d493_6 : decode cJ0_coder_7d493 6 = .ok (.aload_n 0, 1) := by decide +kernel
theorem dJ0_coder_7d493_7 : decode cJ0_coder_7d493 7 = .ok (.getfield 15, 3) := by decide +kernel
theorem dJ0_coder_7d493_10 : decode cJ0_coder_7d493 10 = .ok (.goto 4, 3) := by decide +kernel
theorem dJ0_coder_7d493_13 : decode cJ0_coder_7d493 13 = .ok (.iconst 1, 1) := by decide +kernel
theorem dJ0_coder_7d493_14 : decode cJ0_coder_7d493 14 = .ok (.ireturn, 1) := by decide +kernel
theorem mf_J0_coder_7d493 {s : State} (h : KW s) : MF s yJ0_coder_7d493 cJ0_coder_7d493 1 (some .byte) 0 := ⟨kw_311 h, kw_42 h, by decide +kernel⟩
theorem dJ1_indexOf_4cfef_0 : decode cJ1_indexOf_4cfef 0 = .ok (.iload_n 1, 1) := by decide +kernel
theorem dJ1_indexOf_4cfef_1 : decode cJ1_indexOf_4cfef 1 = .ok (.invokestatic 88, 3) := by decide +kernel
theorem dJ1_indexOf_4cfef_4 : decode cJ1_indexOf_4cfef 4 = .ok (.ifCond .ne 5, 3) := by decide +kernel
theorem dJ1_indexOf_4cfef_7 : decode cJ1_indexOf_4cfef 7 = .ok (.iconst (-1), 1) := by decide +kernel
theorem dJ1_indexOf_4cfef_8 : decode cJ1_indexOf_4cfef 8 = .ok (.ireturn, 1) := by decide +kernel
theorem dJ1_indexOf_4cfef_9 : decode cJ1_indexOf_4cfef 9 = .ok (.iload_n 2, 1) := by decide +kernel
theorem dJ1_indexOf_4cfef_10 : decode cJ1_indexOf_4cfef 10 = .ok (.iconst 0, 1) := by decide +kernel
theorem dJ1_indexOf_4cfef_11 : decode cJ1_indexOf_4cfef 11 = .ok (.invokestatic 92, 3) := by decide +kernel
theorem dJ1_indexOf_4cfef_14 : decode cJ1_indexOf_4cfef 14 = .ok (.istore_n 2, 1) := by decide +kernel
theorem dJ1_indexOf_4cfef_15 : decode cJ1_indexOf_4cfef 15 = .ok (.iload_n 3, 1) := by decide +kernel
theorem dJ1_indexOf_4cfef_16 : decode cJ1_indexOf_4cfef 16 = .ok (.aload_n 0, 1) := by decide +kernel
theorem dJ1_indexOf_4cfef_17 : decode cJ1_indexOf_4cfef 17 = .ok (.arraylength, 1) := by decide +kernel
theorem dJ1_indexOf_4cfef_18 : decode cJ1_indexOf_4cfef 18 = .ok (.invokestatic 38, 3) := by decide +kernel
theorem dJ1_indexOf_4cfef_21 : decode cJ1_indexOf_4cfef 21 = .ok (.istore_n 3, 1) := by decide +kernel
theorem dJ1_indexOf_4cfef_22 : decode cJ1_indexOf_4cfef 22 = .ok (.iload_n 2, 1) := by decide +kernel
theorem dJ1_indexOf_4cfef_23 : decode cJ1_indexOf_4cfef 23 = .ok (.iload_n 3, 1) := by decide +kernel
theorem dJ1_indexOf_4cfef_24 : decode cJ1_indexOf_4cfef 24 = .ok (.if_icmp .lt 5, 3) := by decide +kernel
theorem dJ1_indexOf_4cfef_27 : decode cJ1_indexOf_4cfef 27 = .ok (.iconst (-1), 1) := by decide +kernel
theorem dJ1_indexOf_4cfef_28 : decode cJ1_indexOf_4cfef 28 = .ok (.ireturn, 1) := by decide +kernel
theorem dJ1_indexOf_4cfef_29 : decode cJ1_indexOf_4cfef 29 = .ok (.aload_n 0, 1) := by decide +kernel
theorem dJ1_indexOf_4cfef_30 : decode cJ1_indexOf_4cfef 30 = .ok (.iload_n 1, 1) := by decide +kernel
theorem dJ1_indexOf_4cfef_31 : decode cJ1_indexOf_4cfef 31 = .ok (.iload_n 2, 1) := by decide +kernel
theorem dJ1_indexOf_4cfef_32 : decode cJ1_indexOf_4cfef 32 = .ok (.iload_n 3, 1) := by decide +kernel
theorem dJ1_indexOf_4cfef_33 : decode cJ1_indexOf_4cfef 33 = .ok (.invokestatic 95, 3) := by decide +kernel
theorem dJ1_indexOf_4cfef_36 : decode cJ1_indexOf_4cfef 36 = .ok (.ireturn, 1) := by decide +kernel
theorem mf_J1_indexOf_4cfef {s : State} (h : KW s) : MF s yJ1_indexOf_4cfef cJ1_indexOf_4cfef 4 (some .int) 4 := ⟨kw_314 h, kw_43 h, by decide +kernel⟩
theorem dJ1_canEncode_9a6ad_0 : decode cJ1_canEncode_9a6ad 0 = .ok (.iload_n 0, 1) := by decide +kernel
theorem dJ1_canEncode_9a6ad_1 : decode cJ1_canEncode_9a6ad 1 = .ok (.ifCond .lt 14, 3) := by decide +kernel
theorem dJ1_canEncode_9a6ad_4 : decode cJ1_canEncode_9a6ad 4 = .ok (.iload_n 0, 1) := by decide +kernel
theorem dJ1_canEncode_9a6ad_5 : decode cJ1_canEncode_9a6ad 5 = .ok (.sipush 255, 3) := by decide +kernel
theorem dJ1_canEncode_9a6ad_8 : decode cJ1_canEncode_9a6ad 8 = .ok (.if_icmp .gt 7, 3) := by decide +kernel
theorem dJ1_canEncode_9a6ad_11 : decode cJ1_canEncode_9a6ad 11 = .ok (.iconst 1, 1) := by decide +kernel
theorem dJ1_canEncode_9a6ad_12 : decode cJ1_canEncode_9a6ad 12 = .ok (.goto 4, 3) := by decide +kernel
theorem dJ1_canEncode_9a6ad_15 : decode cJ1_canEncode_9a6ad 15 = .ok (.iconst 0, 1) := by decide +kernel
theorem dJ1_canEncode_9a6ad_16 : decode cJ1_canEncode_9a6ad 16 = .ok (.ireturn, 1) := by decide +kernel
theorem mf_J1_canEncode_9a6ad {s : State} (h : KW s) : MF s yJ1_canEncode_9a6ad cJ1_canEncode_9a6ad 1 (some .boolean) 1 := ⟨kw_317 h, kw_43 h, by decide +kernel⟩
theorem dJ1_indexOfChar_4cfef_0 : decode cJ1_indexOfChar_4cfef 0 = .ok (.iload_n 1, 1) := by decide +kernel
theorem dJ1_indexOfChar_4cfef_1 : decode cJ1_indexOfChar_4cfef 1 = .ok (.i2b, 1) := by decide +kernel
theorem dJ1_indexOfChar_4cfef_2 : decode cJ1_indexOfChar_4cfef 2 = .ok (.istore 4, 2) := by decide +kernel
theorem dJ1_indexOfChar_4cfef_4 : decode cJ1_indexOfChar_4cfef 4 = .ok (.iload_n 2, 1) := by decide +kernel
theorem dJ1_indexOfChar_4cfef_5 : decode cJ1_indexOfChar_4cfef 5 = .ok (.istore 5, 2) := by decide +kernel
theorem dJ1_indexOfChar_4cfef_7 : decode cJ1_indexOfChar_4cfef 7 = .ok (.iload 5, 2) := by decide +kernel
theorem dJ1_indexOfChar_4cfef_9 : decode cJ1_indexOfChar_4cfef 9 = .ok (.iload_n 3, 1) := by decide +kernel
theorem dJ1_indexOfChar_4cfef_10 : decode cJ1_indexOfChar_4cfef 10 = .ok (.if_icmp .ge 21, 3) := by decide +kernel
theorem dJ1_indexOfChar_4cfef_13 : decode cJ1_indexOfChar_4cfef 13 = .ok (.aload_n 0, 1) := by decide +kernel
theorem dJ1_indexOfChar_4cfef_14 : decode cJ1_indexOfChar_4cfef 14 = .ok (.iload 5, 2) := by decide +kernel
theorem dJ1_indexOfChar_4cfef_16 : decode cJ1_indexOfChar_4cfef 16 = .ok (.baload, 1) := by decide +kernel
theorem dJ1_indexOfChar_4cfef_17 : decode cJ1_indexOfChar_4cfef 17 = .ok (.iload 4, 2) := by decide +kernel
theorem dJ1_indexOfChar_4cfef_19 : decode cJ1_indexOfChar_4cfef 19 = .ok (.if_icmp .ne 6, 3) := by decide +kernel
theorem dJ1_indexOfChar_4cfef_22 : decode cJ1_indexOfChar_4cfef 22 = .ok (.iload 5, 2) := by decide +kernel
theorem dJ1_indexOfChar_4cfef_24 : decode cJ1_indexOfChar_4cfef 24 = .ok (.ireturn, 1) := by decide +kernel
theorem dJ1_indexOfChar_4cfef_25 : decode cJ1_indexOfChar_4cfef 25 = .ok (.iinc 5 1, 3) := by decide +kernel
theorem dJ1_indexOfChar_4cfef_28 : decode cJ1_indexOfChar_4cfef 28 = .ok (.goto (-21), 3) := by decide +kernel
theorem dJ1_indexOfChar_4cfef_31 : decode cJ1_indexOfChar_4cfef 31 = .ok (.iconst (-1), 1) := by decide +kernel
theorem dJ1_indexOfChar_4cfef_32 : decode cJ1_indexOfChar_4cfef 32 = .ok (.ireturn, 1) := by decide +kernel
theorem mf_J1_indexOfChar_4cfef {s : State} (h : KW s) : MF s yJ1_indexOfChar_4cfef cJ1_indexOfChar_4cfef 6 (some .int) 4 := ⟨kw_324 h, kw_43 h, by decide +kernel⟩
def f_J0_coder_7d493  : Int32 := 0
set_option maxHeartbeats 4000000 in
set_option maxRecDepth 100000 in
theorem k_J0_coder_7d493 (l : Launch) (G : wG) (sq : Nat) (sv : Nat)  : CTX sq sv l G yJ0_coder_7d493 cJ0_coder_7d493 1 (some .byte) ({ frames := 0, cells := 0, slots := 0, locals := 0 }) [.ref sq] [] (fun _ => []) (fun u => some (.int u)) f_J0_coder_7d493 := by
  obtain ⟨R, hf⟩ : ∃ R, f_J0_coder_7d493 = R := ⟨_, rfl⟩
  rw [hf]
  refine CTX.mkI RJ0 (by decide +kernel) rfl (Nat.le_of_ble_eq_true rfl) ?_
  intro p e s m args below meth c A Q ls hx hb hml hown hK hP hD hS hA hX hret hl
  have hl : lv_has ls 1 [(0, .ref sq)] := hl
  rw [f_J0_coder_7d493] at hf
  refine va_gets hx hb hX.2.2 hS hown (kw_302 hK.2) (fun _ h9 => h9) dJ0_coder_7d493_0 ?_
  refine lv_if_eq (tgt := 13) hx hb dJ0_coder_7d493_3 (by decide) (fun c => absurd c (by decide)) (fun _ => ?_)
  refine lv_aload_n hx hb dJ0_coder_7d493_6 rfl (lv_at hl 0 rfl) ?_
  refine vk_getf hx hb (hX.2.1.1 0 (by decide)).2.1 hS hown (kw_927 hK.2) (fun _ h9 => h9) dJ0_coder_7d493_7 ?_
  refine lv_goto (tgt := 14) hx hb dJ0_coder_7d493_10 (by decide) ?_
  exact hret 0 dJ0_coder_7d493_14 rfl hf rfl hP hS
def f_J0_isLatin1_aae02  : Int32 := 1
set_option maxHeartbeats 4000000 in
set_option maxRecDepth 100000 in
theorem k_J0_isLatin1_aae02 (l : Launch) (G : wG) (sq : Nat) (sv : Nat)  : CTX sq sv l G yJ0_isLatin1_aae02 cJ0_isLatin1_aae02 1 (some .boolean) ({ frames := 0, cells := 0, slots := 0, locals := 0 }) [.ref sq] [] (fun _ => []) (fun u => some (.int u)) f_J0_isLatin1_aae02 := by
  obtain ⟨R, hf⟩ : ∃ R, f_J0_isLatin1_aae02 = R := ⟨_, rfl⟩
  rw [hf]
  refine CTX.mkI RJ0 (by decide +kernel) rfl (Nat.le_of_ble_eq_true rfl) ?_
  intro p e s m args below meth c A Q ls hx hb hml hown hK hP hD hS hA hX hret hl
  have hl : lv_has ls 1 [(0, .ref sq)] := hl
  rw [f_J0_isLatin1_aae02] at hf
  refine va_gets hx hb hX.2.2 hS hown (kw_302 hK.2) (fun _ h9 => h9) dJ0_isLatin1_aae02_0 ?_
  refine lv_if_eq (tgt := 17) hx hb dJ0_isLatin1_aae02_3 (by decide) (fun c => absurd c (by decide)) (fun _ => ?_)
  refine lv_aload_n hx hb dJ0_isLatin1_aae02_6 rfl (lv_at hl 0 rfl) ?_
  refine vk_getf hx hb (hX.2.1.1 0 (by decide)).2.1 hS hown (kw_927 hK.2) (fun _ h9 => h9) dJ0_isLatin1_aae02_7 ?_
  refine lv_if_ne (tgt := 17) hx hb dJ0_isLatin1_aae02_10 (by decide) (fun c => absurd (by decide) c) (fun _ => ?_)
  refine lv_iconst (v := 1) hx hb dJ0_isLatin1_aae02_13 (by decide) ?_
  refine lv_goto (tgt := 18) hx hb dJ0_isLatin1_aae02_14 (by decide) ?_
  exact hret 1 dJ0_isLatin1_aae02_18 rfl hf rfl hP hS
def f_J0_length_8abf5  : Int32 := nI 6
set_option maxHeartbeats 4000000 in
set_option maxRecDepth 100000 in
theorem k_J0_length_8abf5 (l : Launch) (G : wG) (sq : Nat) (sv : Nat)  : CTX sq sv l G yJ0_length_8abf5 cJ0_length_8abf5 1 (some .int) ({ frames := 1, cells := 0, slots := 0, locals := 20 }) [.ref sq] [] (fun _ => []) (fun u => some (.int u)) f_J0_length_8abf5 := by
  obtain ⟨R, hf⟩ : ∃ R, f_J0_length_8abf5 = R := ⟨_, rfl⟩
  rw [hf]
  refine CTX.mkI RJ0 (by decide +kernel) rfl (Nat.le_of_ble_eq_true rfl) ?_
  intro p e s m args below meth c A Q ls hx hb hml hown hK hP hD hS hA hX hret hl
  have hl : lv_has ls 1 [(0, .ref sq)] := hl
  rw [f_J0_length_8abf5] at hf
  refine lv_aload_n hx hb dJ0_length_8abf5_0 rfl (lv_at hl 0 rfl) ?_
  refine vk_getf hx hb (hX.2.1.1 0 (by decide)).2.2.1 hS hown (kw_928 hK.2) (fun _ h9 => h9) dJ0_length_8abf5_1 ?_
  refine va_tlen hx hb (hX.2.1.1 0 (by decide)).2.2.2 hS (v := nI 6) rfl dJ0_length_8abf5_4 ?_
  refine lv_aload_n hx hb dJ0_length_8abf5_5 rfl (lv_at hl 0 rfl) ?_
  refine cl_VX (ws' := []) (v := (some (.int f_J0_coder_7d493))) (st1 := [.int f_J0_coder_7d493, .int (nI 6)]) (rest := [.int (nI 6)]) (As := []) [] hx hb hml hown hK hX (k_J0_coder_7d493 l G sq sv ) (mf_J0_coder_7d493 hK.2) (kw_309 hK.2) (kw_310 hK.2) (kw_308 hK.2) ⟨rfl, rfl, Nat.le_of_ble_eq_true rfl, Nat.le_of_ble_eq_true rfl⟩ rfl hP hD hS hA (vk_recv hX.2.1 (i := 0) (by decide) hS) hl (Nat.le_of_ble_eq_true rfl) rfl ⟨Nat.le_of_ble_eq_true rfl, Nat.le_of_ble_eq_true rfl⟩ rfl dJ0_length_8abf5_6 rfl rfl rfl rfl rfl rfl (fun H locs hP hD hS => ?_)
  refine lv_ishr hx hb dJ0_length_8abf5_9 ?_
  refine ww_e (sb_shr0 _) ?_
  exact hret (nI 6) dJ0_length_8abf5_10 rfl hf rfl hP hS
def f_J1_canEncode_9a6ad (cx : Int32) : Int32 := (if cx < 0 then 0 else (if (255 : Int32) < cx then 0 else 1))
set_option maxHeartbeats 4000000 in
set_option maxRecDepth 100000 in
theorem k_J1_canEncode_9a6ad (l : Launch) (G : wG) (cx : Int32)  : CT l G yJ1_canEncode_9a6ad cJ1_canEncode_9a6ad 1 (some .boolean) ({ frames := 0, cells := 0, slots := 0, locals := 0 }) [.int cx] [] (fun _ => []) (fun u => some (.int u)) (f_J1_canEncode_9a6ad cx) := by
  obtain ⟨R, hf⟩ : ∃ R, f_J1_canEncode_9a6ad cx = R := ⟨_, rfl⟩
  rw [hf]
  refine CT.mkI RJ1 (by decide +kernel) rfl (Nat.le_of_ble_eq_true rfl) ?_
  intro p e s m args below meth c A Q ls hx hb hml hown hK hP hD hS hA hret hl
  have hl : lv_has ls 1 [(0, .int cx)] := hl
  rw [f_J1_canEncode_9a6ad] at hf
  refine lv_iload_n hx hb dJ1_canEncode_9a6ad_0 rfl (lv_at hl 0 rfl) ?_
  refine lv_if_lt (tgt := 15) hx hb dJ1_canEncode_9a6ad_1 (by decide) (fun c1 => ?_) (fun c1 => ?_)
  · have hf := (if_pos c1).symm.trans hf
    refine lv_iconst (v := 0) hx hb dJ1_canEncode_9a6ad_15 (by decide) ?_
    exact hret 0 dJ1_canEncode_9a6ad_16 rfl hf rfl hP hS
  · have hf := (if_neg c1).symm.trans hf
    refine lv_iload_n hx hb dJ1_canEncode_9a6ad_4 rfl (lv_at hl 0 rfl) ?_
    refine lv_sipush (v := 255) hx hb dJ1_canEncode_9a6ad_5 (by decide) ?_
    refine lv_icmp_gt (tgt := 15) hx hb dJ1_canEncode_9a6ad_8 (by decide) (fun c2 => ?_) (fun c2 => ?_)
    · have hf := (if_pos c2).symm.trans hf
      refine lv_iconst (v := 0) hx hb dJ1_canEncode_9a6ad_15 (by decide) ?_
      exact hret 0 dJ1_canEncode_9a6ad_16 rfl hf rfl hP hS
    · have hf := (if_neg c2).symm.trans hf
      refine lv_iconst (v := 1) hx hb dJ1_canEncode_9a6ad_11 (by decide) ?_
      refine lv_goto (tgt := 16) hx hb dJ1_canEncode_9a6ad_12 (by decide) ?_
      exact hret 1 dJ1_canEncode_9a6ad_16 rfl hf rfl hP hS
def f_J1_indexOfChar_4cfef_7 (cx : Int32) : Nat → Nat → Int32
  | 0, i7 => (-1)
  | k7 + 1, i7 => (if (kbyt i7) = cx.toInt8.toInt32 then nI i7 else f_J1_indexOfChar_4cfef_7 cx k7 (i7 + 1))
theorem f_J1_indexOfChar_4cfef_7_z (cx : Int32) (i7 : Nat) : f_J1_indexOfChar_4cfef_7 cx 0 i7 = (-1) := rfl
theorem f_J1_indexOfChar_4cfef_7_s (cx : Int32) (k7 : Nat) (i7 : Nat) : f_J1_indexOfChar_4cfef_7 cx (k7 + 1) i7 = (if (kbyt i7) = cx.toInt8.toInt32 then nI i7 else f_J1_indexOfChar_4cfef_7 cx k7 (i7 + 1)) := rfl
def f_J1_indexOfChar_4cfef (cx : Int32) (fr : Nat) (tl : Nat) : Int32 := (f_J1_indexOfChar_4cfef_7 cx (tl - fr) fr)
set_option maxHeartbeats 4000000 in
set_option maxRecDepth 100000 in
theorem k_J1_indexOfChar_4cfef (l : Launch) (G : wG) (sq : Nat) (sv : Nat) (cx : Int32) (fr : Nat) (tl : Nat) (hfr : fr ≤ tl) (htl : tl ≤ 6) : CTX sq sv l G yJ1_indexOfChar_4cfef cJ1_indexOfChar_4cfef 6 (some .int) ({ frames := 0, cells := 0, slots := 0, locals := 0 }) [.ref sv, .int cx, .int (nI fr), .int (nI tl)] [] (fun _ => []) (fun u => some (.int u)) (f_J1_indexOfChar_4cfef cx fr tl) := by
  obtain ⟨R, hf⟩ : ∃ R, f_J1_indexOfChar_4cfef cx fr tl = R := ⟨_, rfl⟩
  rw [hf]
  refine CTX.mkI RJ1 (by decide +kernel) rfl (Nat.le_of_ble_eq_true rfl) ?_
  intro p e s m args below meth c A Q ls hx hb hml hown hK hP hD hS hA hX hret hl
  have hl : lv_has ls 6 [(0, .ref sv), (1, .int cx), (2, .int (nI fr)), (3, .int (nI tl))] := hl
  rw [f_J1_indexOfChar_4cfef] at hf
  refine lv_iload_n hx hb dJ1_indexOfChar_4cfef_0 rfl (lv_at hl 1 rfl) ?_
  refine lv_i2b (v := cx.toInt8.toInt32) hx hb dJ1_indexOfChar_4cfef_1 rfl ?_
  refine lv_istore (lv' := [(4, .int cx.toInt8.toInt32), (0, .ref sv), (1, .int cx), (2, .int (nI fr)), (3, .int (nI tl))]) hx hb dJ1_indexOfChar_4cfef_2 hl (by decide) rfl (fun ls hl => ?_)
  refine lv_iload_n hx hb dJ1_indexOfChar_4cfef_4 rfl (lv_at hl 3 rfl) ?_
  refine lv_istore (lv' := [(5, .int (nI fr)), (4, .int cx.toInt8.toInt32), (0, .ref sv), (1, .int cx), (2, .int (nI fr)), (3, .int (nI tl))]) hx hb dJ1_indexOfChar_4cfef_5 hl (by decide) rfl (fun ls hl => ?_)
  have L7 : ∀ (k7 : Nat) (i7 : Nat), k7 + i7 = tl → f_J1_indexOfChar_4cfef_7 cx k7 i7 = R → ∀ (H : Heap) (locs : List Loc) (ls : Array Slot), va_P G.1 wcl [] H → va_D A [] → va_S A s.heap H locs → lv_has ls 6 [(0, .ref sv), (3, .int (nI tl)), (4, .int cx.toInt8.toInt32), (5, .int (nI i7))] → W p l e ({ frames := 0, cells := 0, slots := 0, locals := 0 }) s m args below meth c H locs 0 0 Q (F0 m 7 ls []) := by
    intro k7
    induction k7 with
    | zero =>
      intro i7 hi7  hf _ _ ls hP hD hS hl
      rw [f_J1_indexOfChar_4cfef_7_z] at hf
      refine lv_iload hx hb dJ1_indexOfChar_4cfef_7 (lv_at hl 3 rfl) ?_
      refine lv_iload_n hx hb dJ1_indexOfChar_4cfef_9 rfl (lv_at hl 1 rfl) ?_
      refine lv_icmp_ge (tgt := 31) hx hb dJ1_indexOfChar_4cfef_10 (by decide) (fun _ => ?_) (fun c => absurd (ile (a := tl) (b := i7) rfl rfl (by omega) (by omega) (by omega)) c)
      refine lv_iconst (v := -1) hx hb dJ1_indexOfChar_4cfef_31 (by decide) ?_
      exact hret (-1) dJ1_indexOfChar_4cfef_32 rfl hf rfl hP hS
    | succ k7 ih7 =>
      intro i7 hi7  hf _ _ ls hP hD hS hl
      rw [f_J1_indexOfChar_4cfef_7_s] at hf
      refine lv_iload hx hb dJ1_indexOfChar_4cfef_7 (lv_at hl 3 rfl) ?_
      refine lv_iload_n hx hb dJ1_indexOfChar_4cfef_9 rfl (lv_at hl 1 rfl) ?_
      refine lv_icmp_ge (tgt := 31) hx hb dJ1_indexOfChar_4cfef_10 (by decide) (fun c => absurd c (inle (a := tl) (b := i7) rfl rfl (by omega) (by omega) (by omega))) (fun _ => ?_)
      refine lv_aload_n hx hb dJ1_indexOfChar_4cfef_13 rfl (lv_at hl 0 rfl) ?_
      refine lv_iload hx hb dJ1_indexOfChar_4cfef_14 (lv_at hl 3 rfl) ?_
      refine va_tb hx hb (hX.2.1.1 0 (by decide)).2.2.2 hS (i := nI i7) (vp_in_nI (by omega) (by decide) : vp_in (nI i7) 6) (v := .int (kbyt i7)) (by rw [nI_clamp (by omega)]; rfl) dJ1_indexOfChar_4cfef_16 ?_
      refine lv_iload hx hb dJ1_indexOfChar_4cfef_17 (lv_at hl 2 rfl) ?_
      refine lv_icmp_ne (tgt := 25) hx hb dJ1_indexOfChar_4cfef_19 (by decide) (fun c1 => ?_) (fun c1 => ?_)
      · have hf := (if_neg c1).symm.trans hf
        refine lv_iinc (v := nI (i7 + 1)) (lv' := [(5, .int (nI (i7 + 1))), (0, .ref sv), (3, .int (nI tl)), (4, .int cx.toInt8.toInt32)]) hx hb dJ1_indexOfChar_4cfef_25 hl (k := 3) rfl (nI_1 i7) (by decide) rfl (fun ls hl => ?_)
        refine lv_goto (tgt := 7) hx hb dJ1_indexOfChar_4cfef_28 (by decide) ?_
        exact ih7 (i7 + 1) (by omega)  hf _ _ ls hP hD hS (lv_sub hl [1, 2, 3, 0] rfl)
      · have hf := (if_pos c1).symm.trans hf
        refine lv_iload hx hb dJ1_indexOfChar_4cfef_22 (lv_at hl 3 rfl) ?_
        exact hret (nI i7) dJ1_indexOfChar_4cfef_24 rfl hf rfl hP hS
  exact L7 (tl - fr) fr (by omega)  hf _ _ ls hP hD hS (lv_sub hl [2, 5, 1, 0] rfl)
def f_J1_indexOf_4cfef (cx : Int32) (fr : Nat) (tl : Nat) : Int32 := (if (f_J1_canEncode_9a6ad cx) = 0 then (-1) else (if (nI (max fr 0)) < (nI (min tl 6)) then f_J1_indexOfChar_4cfef cx (max fr 0) (min tl 6) else (-1)))
set_option maxHeartbeats 4000000 in
set_option maxRecDepth 100000 in
theorem k_J1_indexOf_4cfef (l : Launch) (G : wG) (sq : Nat) (sv : Nat) (cx : Int32) (fr : Nat) (tl : Nat) (hfr : fr ≤ tl) (htl : tl ≤ 6) : CTX sq sv l G yJ1_indexOf_4cfef cJ1_indexOf_4cfef 4 (some .int) ({ frames := 1, cells := 0, slots := 0, locals := 25 }) [.ref sv, .int cx, .int (nI fr), .int (nI tl)] [] (fun _ => []) (fun u => some (.int u)) (f_J1_indexOf_4cfef cx fr tl) := by
  obtain ⟨R, hf⟩ : ∃ R, f_J1_indexOf_4cfef cx fr tl = R := ⟨_, rfl⟩
  rw [hf]
  refine CTX.mkI RJ1 (by decide +kernel) rfl (Nat.le_of_ble_eq_true rfl) ?_
  intro p e s m args below meth c A Q ls hx hb hml hown hK hP hD hS hA hX hret hl
  have hl : lv_has ls 4 [(0, .ref sv), (1, .int cx), (2, .int (nI fr)), (3, .int (nI tl))] := hl
  rw [f_J1_indexOf_4cfef] at hf
  refine lv_iload_n hx hb dJ1_indexOf_4cfef_0 rfl (lv_at hl 1 rfl) ?_
  refine cl_S (ws' := []) (v := (some (.int (f_J1_canEncode_9a6ad cx)))) (st1 := [.int (f_J1_canEncode_9a6ad cx)]) (rest := []) (As := [.int cx]) [] hx hb hml hown hK (k_J1_canEncode_9a6ad l G cx ) (mf_J1_canEncode_9a6ad hK.2) (kw_316 hK.2) (kw_315 hK.2) ⟨rfl, rfl, Nat.le_of_ble_eq_true rfl, Nat.le_of_ble_eq_true rfl⟩ rfl hP hD hS hA hl (Nat.le_of_ble_eq_true rfl) rfl ⟨Nat.le_of_ble_eq_true rfl, Nat.le_of_ble_eq_true rfl⟩ rfl dJ1_indexOf_4cfef_1 rfl rfl rfl rfl rfl rfl (fun H locs hP hD hS => ?_)
  refine lv_if_ne (tgt := 9) hx hb dJ1_indexOf_4cfef_4 (by decide) (fun c1 => ?_) (fun c1 => ?_)
  · have hf := (if_neg c1).symm.trans hf
    refine lv_iload_n hx hb dJ1_indexOf_4cfef_9 rfl (lv_at hl 2 rfl) ?_
    refine lv_iconst (v := 0) hx hb dJ1_indexOf_4cfef_10 (by decide) ?_
    refine va_mmax hx hb (by rw [hml]; exact hl.1.symm) hown (kw_318 hK.2) (kw_75 hK.2) (kw_37 hK.2) (kw_76 hK.2) (Nat.le_of_ble_eq_true rfl) (Nat.le_of_ble_eq_true rfl) (Nat.zero_le _) (Nat.zero_le _) dJ1_indexOf_4cfef_11 ?_
    refine ww_e (nI_maxE (a := fr) (b := 0) (by omega) (by omega)) ?_
    refine lv_istore_n (lv' := [(2, .int (nI (max fr 0))), (0, .ref sv), (1, .int cx), (3, .int (nI tl))]) hx hb dJ1_indexOf_4cfef_14 rfl hl (by decide) rfl (fun ls hl => ?_)
    refine lv_iload_n hx hb dJ1_indexOf_4cfef_15 rfl (lv_at hl 3 rfl) ?_
    refine lv_aload_n hx hb dJ1_indexOf_4cfef_16 rfl (lv_at hl 1 rfl) ?_
    refine va_tlen hx hb (hX.2.1.1 0 (by decide)).2.2.2 hS (v := nI 6) rfl dJ1_indexOf_4cfef_17 ?_
    refine va_mmin hx hb (by rw [hml]; exact hl.1.symm) hown (kw_319 hK.2) (kw_320 hK.2) (kw_37 hK.2) (kw_321 hK.2) (Nat.le_of_ble_eq_true rfl) (Nat.le_of_ble_eq_true rfl) (Nat.zero_le _) (Nat.zero_le _) dJ1_indexOf_4cfef_18 ?_
    refine ww_e (nI_minE (a := tl) (b := 6) (by omega) (by omega)) ?_
    refine lv_istore_n (lv' := [(3, .int (nI (min tl 6))), (2, .int (nI (max fr 0))), (0, .ref sv), (1, .int cx)]) hx hb dJ1_indexOf_4cfef_21 rfl hl (by decide) rfl (fun ls hl => ?_)
    refine lv_iload_n hx hb dJ1_indexOf_4cfef_22 rfl (lv_at hl 1 rfl) ?_
    refine lv_iload_n hx hb dJ1_indexOf_4cfef_23 rfl (lv_at hl 0 rfl) ?_
    refine lv_icmp_lt (tgt := 29) hx hb dJ1_indexOf_4cfef_24 (by decide) (fun c2 => ?_) (fun c2 => ?_)
    · have hf := (if_pos c2).symm.trans hf
      refine lv_aload_n hx hb dJ1_indexOf_4cfef_29 rfl (lv_at hl 2 rfl) ?_
      refine lv_iload_n hx hb dJ1_indexOf_4cfef_30 rfl (lv_at hl 3 rfl) ?_
      refine lv_iload_n hx hb dJ1_indexOf_4cfef_31 rfl (lv_at hl 1 rfl) ?_
      refine lv_iload_n hx hb dJ1_indexOf_4cfef_32 rfl (lv_at hl 0 rfl) ?_
      refine cl_SX (ws' := []) (v := (some (.int (f_J1_indexOfChar_4cfef cx (max fr 0) (min tl 6))))) (st1 := [.int (f_J1_indexOfChar_4cfef cx (max fr 0) (min tl 6))]) (rest := []) (As := [.ref sv, .int cx, .int (nI (max fr 0)), .int (nI (min tl 6))]) [] hx hb hml hown hK hX (k_J1_indexOfChar_4cfef l G sq sv cx (max fr 0) (min tl 6) (by omega) (by omega)) (mf_J1_indexOfChar_4cfef hK.2) (kw_323 hK.2) (kw_322 hK.2) ⟨rfl, rfl, Nat.le_of_ble_eq_true rfl, Nat.le_of_ble_eq_true rfl⟩ rfl hP hD hS hA hl (Nat.le_of_ble_eq_true rfl) rfl ⟨Nat.le_of_ble_eq_true rfl, Nat.le_of_ble_eq_true rfl⟩ rfl dJ1_indexOf_4cfef_33 rfl rfl rfl rfl rfl rfl (fun H locs hP hD hS => ?_)
      exact hret (f_J1_indexOfChar_4cfef cx (max fr 0) (min tl 6)) dJ1_indexOf_4cfef_36 rfl hf rfl hP hS
    · have hf := (if_neg c2).symm.trans hf
      refine lv_iconst (v := -1) hx hb dJ1_indexOf_4cfef_27 (by decide) ?_
      exact hret (-1) dJ1_indexOf_4cfef_28 rfl hf rfl hP hS
  · have hf := (if_pos c1).symm.trans hf
    refine lv_iconst (v := -1) hx hb dJ1_indexOf_4cfef_7 (by decide) ?_
    exact hret (-1) dJ1_indexOf_4cfef_8 rfl hf rfl hP hS
def f_J0_indexOf_7cf53 (cx : Int32) : Int32 := f_J1_indexOf_4cfef cx 0 6
set_option maxHeartbeats 4000000 in
set_option maxRecDepth 100000 in
theorem k_J0_indexOf_7cf53 (l : Launch) (G : wG) (sq : Nat) (sv : Nat) (cx : Int32)  : CTX sq sv l G yJ0_indexOf_7cf53 cJ0_indexOf_7cf53 3 (some .int) ({ frames := 2, cells := 0, slots := 0, locals := 48 }) [.ref sq, .int cx, .int 0] [] (fun _ => []) (fun u => some (.int u)) (f_J0_indexOf_7cf53 cx) := by
  obtain ⟨R, hf⟩ : ∃ R, f_J0_indexOf_7cf53 cx = R := ⟨_, rfl⟩
  rw [hf]
  refine CTX.mkI RJ0 (by decide +kernel) rfl (Nat.le_of_ble_eq_true rfl) ?_
  intro p e s m args below meth c A Q ls hx hb hml hown hK hP hD hS hA hX hret hl
  have hl : lv_has ls 3 [(0, .ref sq), (1, .int cx), (2, .int 0)] := hl
  rw [f_J0_indexOf_7cf53] at hf
  refine lv_aload_n hx hb dJ0_indexOf_7cf53_0 rfl (lv_at hl 0 rfl) ?_
  refine cl_VX (ws' := []) (v := (some (.int f_J0_isLatin1_aae02))) (st1 := [.int f_J0_isLatin1_aae02]) (rest := []) (As := []) [] hx hb hml hown hK hX (k_J0_isLatin1_aae02 l G sq sv ) (mf_J0_isLatin1_aae02 hK.2) (kw_299 hK.2) (kw_300 hK.2) (kw_298 hK.2) ⟨rfl, rfl, Nat.le_of_ble_eq_true rfl, Nat.le_of_ble_eq_true rfl⟩ rfl hP hD hS hA (vk_recv hX.2.1 (i := 0) (by decide) hS) hl (Nat.le_of_ble_eq_true rfl) rfl ⟨Nat.le_of_ble_eq_true rfl, Nat.le_of_ble_eq_true rfl⟩ rfl dJ0_indexOf_7cf53_1 rfl rfl rfl rfl rfl rfl (fun H locs hP hD hS => ?_)
  refine lv_if_eq (tgt := 23) hx hb dJ0_indexOf_7cf53_4 (by decide) (fun c => absurd c (by decide)) (fun _ => ?_)
  refine lv_aload_n hx hb dJ0_indexOf_7cf53_7 rfl (lv_at hl 0 rfl) ?_
  refine vk_getf hx hb (hX.2.1.1 0 (by decide)).2.2.1 hS hown (kw_928 hK.2) (fun _ h9 => h9) dJ0_indexOf_7cf53_8 ?_
  refine lv_iload_n hx hb dJ0_indexOf_7cf53_11 rfl (lv_at hl 1 rfl) ?_
  refine lv_iload_n hx hb dJ0_indexOf_7cf53_12 rfl (lv_at hl 2 rfl) ?_
  refine lv_aload_n hx hb dJ0_indexOf_7cf53_13 rfl (lv_at hl 0 rfl) ?_
  refine cl_VX (ws' := []) (v := (some (.int f_J0_length_8abf5))) (st1 := [.int f_J0_length_8abf5, .int 0, .int cx, .ref sv]) (rest := [.int 0, .int cx, .ref sv]) (As := []) [] hx hb hml hown hK hX (k_J0_length_8abf5 l G sq sv ) (mf_J0_length_8abf5 hK.2) (kw_305 hK.2) (kw_306 hK.2) (kw_304 hK.2) ⟨rfl, rfl, Nat.le_of_ble_eq_true rfl, Nat.le_of_ble_eq_true rfl⟩ rfl hP hD hS hA (vk_recv hX.2.1 (i := 0) (by decide) hS) hl (Nat.le_of_ble_eq_true rfl) rfl ⟨Nat.le_of_ble_eq_true rfl, Nat.le_of_ble_eq_true rfl⟩ rfl dJ0_indexOf_7cf53_14 rfl rfl rfl rfl rfl rfl (fun H locs hP hD hS => ?_)
  refine ww_e (rfl : f_J0_length_8abf5 = nI 6) ?_
  refine cl_SX (ws' := []) (v := (some (.int (f_J1_indexOf_4cfef cx 0 6)))) (st1 := [.int (f_J1_indexOf_4cfef cx 0 6)]) (rest := []) (As := [.ref sv, .int cx, .int 0, .int (nI 6)]) [] hx hb hml hown hK hX (k_J1_indexOf_4cfef l G sq sv cx 0 6 (by omega) (by omega)) (mf_J1_indexOf_4cfef hK.2) (kw_313 hK.2) (kw_312 hK.2) ⟨rfl, rfl, Nat.le_of_ble_eq_true rfl, Nat.le_of_ble_eq_true rfl⟩ rfl hP hD hS hA hl (Nat.le_of_ble_eq_true rfl) rfl ⟨Nat.le_of_ble_eq_true rfl, Nat.le_of_ble_eq_true rfl⟩ rfl dJ0_indexOf_7cf53_17 rfl rfl rfl rfl rfl rfl (fun H locs hP hD hS => ?_)
  refine lv_goto (tgt := 36) hx hb dJ0_indexOf_7cf53_20 (by decide) ?_
  exact hret (f_J1_indexOf_4cfef cx 0 6) dJ0_indexOf_7cf53_36 rfl hf rfl hP hS
def f_J0_indexOf_0f7a4 (cx : Int32) : Int32 := f_J0_indexOf_7cf53 cx
set_option maxHeartbeats 4000000 in
set_option maxRecDepth 100000 in
theorem k_J0_indexOf_0f7a4 (l : Launch) (G : wG) (sq : Nat) (sv : Nat) (cx : Int32)  : CTX sq sv l G yJ0_indexOf_0f7a4 cJ0_indexOf_0f7a4 2 (some .int) ({ frames := 3, cells := 0, slots := 0, locals := 70 }) [.ref sq, .int cx] [] (fun _ => []) (fun u => some (.int u)) (f_J0_indexOf_0f7a4 cx) := by
  obtain ⟨R, hf⟩ : ∃ R, f_J0_indexOf_0f7a4 cx = R := ⟨_, rfl⟩
  rw [hf]
  refine CTX.mkI RJ0 (by decide +kernel) rfl (Nat.le_of_ble_eq_true rfl) ?_
  intro p e s m args below meth c A Q ls hx hb hml hown hK hP hD hS hA hX hret hl
  have hl : lv_has ls 2 [(0, .ref sq), (1, .int cx)] := hl
  rw [f_J0_indexOf_0f7a4] at hf
  refine lv_aload_n hx hb dJ0_indexOf_0f7a4_0 rfl (lv_at hl 0 rfl) ?_
  refine lv_iload_n hx hb dJ0_indexOf_0f7a4_1 rfl (lv_at hl 1 rfl) ?_
  refine lv_iconst (v := 0) hx hb dJ0_indexOf_0f7a4_2 (by decide) ?_
  refine cl_VX (ws' := []) (v := (some (.int (f_J0_indexOf_7cf53 cx)))) (st1 := [.int (f_J0_indexOf_7cf53 cx)]) (rest := []) (As := [.int cx, .int 0]) [] hx hb hml hown hK hX (k_J0_indexOf_7cf53 l G sq sv cx ) (mf_J0_indexOf_7cf53 hK.2) (kw_295 hK.2) (kw_296 hK.2) (kw_294 hK.2) ⟨rfl, rfl, Nat.le_of_ble_eq_true rfl, Nat.le_of_ble_eq_true rfl⟩ rfl hP hD hS hA (vk_recv hX.2.1 (i := 0) (by decide) hS) hl (Nat.le_of_ble_eq_true rfl) rfl ⟨Nat.le_of_ble_eq_true rfl, Nat.le_of_ble_eq_true rfl⟩ rfl dJ0_indexOf_0f7a4_3 rfl rfl rfl rfl rfl rfl (fun H locs hP hD hS => ?_)
  exact hret (f_J0_indexOf_7cf53 cx) dJ0_indexOf_0f7a4_6 rfl hf rfl hP hS
