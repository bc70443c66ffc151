set_option maxHeartbeats 4000000 in
set_option maxRecDepth 100000 in
theorem b_fewest (l : Launch) (G : wG) {A : Nat → Nat} {ws : va_W} (h : INV G A ws) (bo : Int32) : BTH l G A ws yX6_fewest cX6_fewest 2 yX7_fewest cX7_fewest 2 [.int bo] := by
  obtain ⟨we, rz, ff, rr, tp, bx, bz, cg, bu, bv, cj, bY, fo, mm, zf, zs, zi, zv, zt, zr, zw, zn, rfl, hrel⟩ := h
  obtain ⟨me, mz, ma, mr⟩ := mm
  obtain ⟨hsh, him, hu20, hv20, hj4, hY20, hmz, htp, hmr, hrz, hrow, hff⟩ := hrel
  dsimp only at him hmz hmr
  subst hmz
  replace hmr := hmr.symm
  subst hmr
  obtain ⟨hx, hz, hc, hx3, hz3⟩ := hsh
  have hxn : bx.1 ≤ 20 := hx.2.1.1
  have hzn : bz.1 ≤ 20 := hz.2.1.1
  have hcn : cg.1 ≤ 4 := hc.1
  by_cases q0 : bo = 0
  · subst q0
    have pw := pw_fewest (Fm := fo.2.2.2.2.1) (Fa := fo.2.2.2.2.2.1) (Fs := fo.2.2.2.2.2.2.1) (Fd := fo.2.2.2.2.2.2.2) hx hff
    obtain ⟨Cc, hCc⟩ : ∃ C, (f_X6_fewest_0 ff bx.1 bx.2.1 bx.2.2.1 bx.2.2.2.1 bx.2.2.2.2.1 bx.2.2.2.2.2.1 fo.2.2.2.2.1 fo.2.2.2.2.2.1 fo.2.2.2.2.2.2.1 fo.2.2.2.2.2.2.2) = C := ⟨_, rfl⟩
    rw [hCc] at pw
    obtain ⟨Cm, hCm⟩ : ∃ C, (f_X7_fewest zf zs 0 bx.1) = C := ⟨_, rfl⟩
    rw [hCm] at pw
    refine ⟨Cc.1, (LWL G A we rz (Cc.2.1) rr tp bx bz cg bu bv cj bY (Cc.2.2.2.1, Cc.2.2.2.2.1, Cc.2.2.2.2.2.1, Cc.2.2.2.2.2.2.1, Cc.2.2.2.2.2.2.2.1, Cc.2.2.2.2.2.2.2.2.1, Cc.2.2.2.2.2.2.2.2.2, Cc.2.2.1) (me, tp.1, ma, rz) zf zs zi zv zt zr zw zn), (LWL G A we rz (Cc.2.1) rr tp bx bz cg bu bv cj bY (Cc.2.2.2.1, Cc.2.2.2.2.1, Cc.2.2.2.2.2.1, Cc.2.2.2.2.2.2.1, Cc.2.2.2.2.2.2.2.1, Cc.2.2.2.2.2.2.2.2.1, Cc.2.2.2.2.2.2.2.2.2, Cc.2.2.1) (me, tp.1, ma, rz) (Cm.2) zs zi zv zt zr zw zn), ?_, ⟨_, rfl⟩, ?_, ?_⟩
    · exact ⟨_, [0, 1, 5, 6, 7, 8, 9, 10, 11, 12, 13, 63, 64], _, _, CT.norm (CT_nm hCc (k_X6_fewest_0 l G (A 0) (A 5) (A 30) (A 3) (A 2) (A 1) (A 55) (A 63) we rz ff (A 14) (A 22) (A 6) (A 7) (A 8) (A 9) (A 10) (A 11) 20 bx.1 bx.2.1 bx.2.2.1 bx.2.2.2.1 bx.2.2.2.2.1 (A 12) (A 13) bx.2.2.2.2.2.1 bx.2.2.2.2.2.2.1 bx.2.2.2.2.2.2.2 (A 64) fo.1 fo.2.1 fo.2.2.1 fo.2.2.2.1 fo.2.2.2.2.1 fo.2.2.2.2.2.1 fo.2.2.2.2.2.2.1 fo.2.2.2.2.2.2.2 hxn (Nat.le_refl 20) (BB.v hx.2.1))) rfl rfl, rfl, rfl, (Nat.le_of_ble_eq_true rfl), (Nat.le_of_ble_eq_true rfl), rfl, by decide, rfl, rpl_fast (by decide) rfl rfl, rfl⟩
    · exact ⟨_, [65, 66, 67], _, _, CT.norm (CT_nm hCm (k_X7_fewest l G (A 65) (A 66) (A 67) (A 68) (A 69) (A 70) (A 71) (A 72) (A 73) me tp.1 ma rz zf zs 0 bx.1 (by decide) hx.2.2.1 hxn (RB.nd hx) (RB.wd hx))) rfl (congrArg (fun z => some (Value.int z)) pw.1), rfl, rfl, (Nat.le_of_ble_eq_true rfl), (Nat.le_of_ble_eq_true rfl), rfl, by decide, rfl, rpl_fast (by decide) rfl rfl, rfl⟩
    · exact ⟨we, rz, (Cc.2.1), rr, tp, bx, bz, cg, bu, bv, cj, bY, (Cc.2.2.2.1, Cc.2.2.2.2.1, Cc.2.2.2.2.2.1, Cc.2.2.2.2.2.2.1, Cc.2.2.2.2.2.2.2.1, Cc.2.2.2.2.2.2.2.2.1, Cc.2.2.2.2.2.2.2.2.2, Cc.2.2.1), (me, tp.1, ma, rz), (Cm.2), zs, zi, zv, zt, zr, zw, zn, rfl, ⟨⟨hx, hz, hc, hx3, hz3⟩, him, hu20, hv20, hj4, hY20, rfl, htp, rfl, hrz, hrow, (by rw [show Cc.2.1 = ff from by rw [← hCc]; rfl]; exact pw.2)⟩⟩
  by_cases q1 : bo = 1
  · subst q1
    have pw := pw_fewest (Fm := fo.2.2.2.2.1) (Fa := fo.2.2.2.2.2.1) (Fs := fo.2.2.2.2.2.2.1) (Fd := fo.2.2.2.2.2.2.2) hz hff
    obtain ⟨Cc, hCc⟩ : ∃ C, (f_X6_fewest_0 ff bz.1 bz.2.1 bz.2.2.1 bz.2.2.2.1 bz.2.2.2.2.1 bz.2.2.2.2.2.1 fo.2.2.2.2.1 fo.2.2.2.2.2.1 fo.2.2.2.2.2.2.1 fo.2.2.2.2.2.2.2) = C := ⟨_, rfl⟩
    rw [hCc] at pw
    obtain ⟨Cm, hCm⟩ : ∃ C, (f_X7_fewest zf zs 1 bz.1) = C := ⟨_, rfl⟩
    rw [hCm] at pw
    refine ⟨Cc.1, (LWL G A we rz (Cc.2.1) rr tp bx bz cg bu bv cj bY (Cc.2.2.2.1, Cc.2.2.2.2.1, Cc.2.2.2.2.2.1, Cc.2.2.2.2.2.2.1, Cc.2.2.2.2.2.2.2.1, Cc.2.2.2.2.2.2.2.2.1, Cc.2.2.2.2.2.2.2.2.2, Cc.2.2.1) (me, tp.1, ma, rz) zf zs zi zv zt zr zw zn), (LWL G A we rz (Cc.2.1) rr tp bx bz cg bu bv cj bY (Cc.2.2.2.1, Cc.2.2.2.2.1, Cc.2.2.2.2.2.1, Cc.2.2.2.2.2.2.1, Cc.2.2.2.2.2.2.2.1, Cc.2.2.2.2.2.2.2.2.1, Cc.2.2.2.2.2.2.2.2.2, Cc.2.2.1) (me, tp.1, ma, rz) (Cm.2) zs zi zv zt zr zw zn), ?_, ⟨_, rfl⟩, ?_, ?_⟩
    · exact ⟨_, [0, 1, 5, 14, 15, 16, 17, 18, 19, 20, 21, 63, 64], _, _, CT.norm (CT_nm hCc (k_X6_fewest_1 l G (A 0) (A 5) (A 30) (A 3) (A 2) (A 1) (A 55) (A 63) we rz ff (A 6) (A 22) (A 14) (A 15) (A 16) (A 17) (A 18) (A 19) 20 bz.1 bz.2.1 bz.2.2.1 bz.2.2.2.1 bz.2.2.2.2.1 (A 20) (A 21) bz.2.2.2.2.2.1 bz.2.2.2.2.2.2.1 bz.2.2.2.2.2.2.2 (A 64) fo.1 fo.2.1 fo.2.2.1 fo.2.2.2.1 fo.2.2.2.2.1 fo.2.2.2.2.2.1 fo.2.2.2.2.2.2.1 fo.2.2.2.2.2.2.2 hzn (Nat.le_refl 20) (BB.v hz.2.1))) rfl rfl, rfl, rfl, (Nat.le_of_ble_eq_true rfl), (Nat.le_of_ble_eq_true rfl), rfl, by decide, rfl, rpl_fast (by decide) rfl rfl, rfl⟩
    · exact ⟨_, [65, 66, 67], _, _, CT.norm (CT_nm hCm (k_X7_fewest l G (A 65) (A 66) (A 67) (A 68) (A 69) (A 70) (A 71) (A 72) (A 73) me tp.1 ma rz zf zs 1 bz.1 (by decide) hz.2.2.1 hzn (RB.nd hz) (RB.wd hz))) rfl (congrArg (fun z => some (Value.int z)) pw.1), rfl, rfl, (Nat.le_of_ble_eq_true rfl), (Nat.le_of_ble_eq_true rfl), rfl, by decide, rfl, rpl_fast (by decide) rfl rfl, rfl⟩
    · exact ⟨we, rz, (Cc.2.1), rr, tp, bx, bz, cg, bu, bv, cj, bY, (Cc.2.2.2.1, Cc.2.2.2.2.1, Cc.2.2.2.2.2.1, Cc.2.2.2.2.2.2.1, Cc.2.2.2.2.2.2.2.1, Cc.2.2.2.2.2.2.2.2.1, Cc.2.2.2.2.2.2.2.2.2, Cc.2.2.1), (me, tp.1, ma, rz), (Cm.2), zs, zi, zv, zt, zr, zw, zn, rfl, ⟨⟨hx, hz, hc, hx3, hz3⟩, him, hu20, hv20, hj4, hY20, rfl, htp, rfl, hrz, hrow, (by rw [show Cc.2.1 = ff from by rw [← hCc]; rfl]; exact pw.2)⟩⟩
  have hbad := bk_no q0 q1
  have pw := pw_r1 hff
  refine ⟨(f_X6_fewest_A ff).1, (LWL G A we rz ((f_X6_fewest_A ff).2) rr tp bx bz cg bu bv cj bY fo (me, tp.1, ma, rz) zf zs zi zv zt zr zw zn), (LWL G A we rz ((f_X6_fewest_A ff).2) rr tp bx bz cg bu bv cj bY fo (me, tp.1, ma, rz) ((f_X7_fewest_A zf).2) zs zi zv zt zr zw zn), ?_, ⟨_, rfl⟩, ?_, ?_⟩
  · exact ⟨_, [0, 1], _, _, CT.norm (k_X6_fewest_A l G (A 0) (A 5) (A 30) (A 3) (A 2) (A 1) (A 55) (A 63) we rz ff bo hbad.1) rfl rfl, rfl, rfl, (Nat.le_of_ble_eq_true rfl), (Nat.le_of_ble_eq_true rfl), rfl, by decide, rfl, rpl_fast (by decide) rfl rfl, rfl⟩
  · exact ⟨_, [65, 66], _, _, CT.norm (k_X7_fewest_A l G (A 65) (A 66) (A 67) (A 68) (A 69) (A 70) (A 71) (A 72) (A 73) me tp.1 ma rz zf bo hbad.2) rfl (congrArg (fun z => some (Value.int z)) pw.1), rfl, rfl, (Nat.le_of_ble_eq_true rfl), (Nat.le_of_ble_eq_true rfl), rfl, by decide, rfl, rpl_fast (by decide) rfl rfl, rfl⟩
  · exact ⟨we, rz, ((f_X6_fewest_A ff).2), rr, tp, bx, bz, cg, bu, bv, cj, bY, fo, (me, tp.1, ma, rz), ((f_X7_fewest_A zf).2), zs, zi, zv, zt, zr, zw, zn, rfl, ⟨⟨hx, hz, hc, hx3, hz3⟩, him, hu20, hv20, hj4, hY20, rfl, htp, rfl, hrz, hrow, pw.2⟩⟩

set_option maxHeartbeats 4000000 in
set_option maxRecDepth 100000 in
theorem b_lightest (l : Launch) (G : wG) {A : Nat → Nat} {ws : va_W} (h : INV G A ws) (bo : Int32) : BTH l G A ws yX6_lightest cX6_lightest 2 yX7_lightest cX7_lightest 6 [.int bo] := by
  obtain ⟨we, rz, ff, rr, tp, bx, bz, cg, bu, bv, cj, bY, fo, mm, zf, zs, zi, zv, zt, zr, zw, zn, rfl, hrel⟩ := h
  obtain ⟨me, mz, ma, mr⟩ := mm
  obtain ⟨hsh, him, hu20, hv20, hj4, hY20, hmz, htp, hmr, hrz, hrow, hff⟩ := hrel
  dsimp only at him hmz hmr
  subst hmz
  replace hmr := hmr.symm
  subst hmr
  obtain ⟨hx, hz, hc, hx3, hz3⟩ := hsh
  have hxn : bx.1 ≤ 20 := hx.2.1.1
  have hzn : bz.1 ≤ 20 := hz.2.1.1
  have hcn : cg.1 ≤ 4 := hc.1
  by_cases q0 : bo = 0
  · subst q0
    have pw := pw_lightest (Fm := fo.2.2.2.2.1) (Fa := fo.2.2.2.2.2.1) (Fs := fo.2.2.2.2.2.2.1) (Fd := fo.2.2.2.2.2.2.2) hx hff
    obtain ⟨Cc, hCc⟩ : ∃ C, (f_X6_lightest_0 ff bx.1 bx.2.1 bx.2.2.1 bx.2.2.2.1 bx.2.2.2.2.1 bx.2.2.2.2.2.1 bx.2.2.2.2.2.2.1 fo.2.2.2.2.1 fo.2.2.2.2.2.1 fo.2.2.2.2.2.2.1 fo.2.2.2.2.2.2.2) = C := ⟨_, rfl⟩
    rw [hCc] at pw
    obtain ⟨Cm, hCm⟩ : ∃ C, (f_X7_lightest zf zs 0 bx.1) = C := ⟨_, rfl⟩
    rw [hCm] at pw
    refine ⟨Cc.1, (LWL G A we rz (Cc.2.1) rr tp bx bz cg bu bv cj bY (Cc.2.2.2.1, Cc.2.2.2.2.1, Cc.2.2.2.2.2.1, Cc.2.2.2.2.2.2.1, Cc.2.2.2.2.2.2.2.1, Cc.2.2.2.2.2.2.2.2.1, Cc.2.2.2.2.2.2.2.2.2, Cc.2.2.1) (me, tp.1, ma, rz) zf zs zi zv zt zr zw zn), (LWL G A we rz (Cc.2.1) rr tp bx bz cg bu bv cj bY (Cc.2.2.2.1, Cc.2.2.2.2.1, Cc.2.2.2.2.2.1, Cc.2.2.2.2.2.2.1, Cc.2.2.2.2.2.2.2.1, Cc.2.2.2.2.2.2.2.2.1, Cc.2.2.2.2.2.2.2.2.2, Cc.2.2.1) (me, tp.1, ma, rz) (Cm.2) zs zi zv zt zr zw zn), ?_, ⟨_, rfl⟩, ?_, ?_⟩
    · exact ⟨_, [0, 1, 5, 6, 7, 8, 9, 10, 11, 12, 13, 63, 64], _, _, CT.norm (CT_nm hCc (k_X6_lightest_0 l G (A 0) (A 5) (A 30) (A 3) (A 2) (A 1) (A 55) (A 63) we rz ff (A 14) (A 22) (A 6) (A 7) (A 8) (A 9) (A 10) (A 11) 20 bx.1 bx.2.1 bx.2.2.1 bx.2.2.2.1 bx.2.2.2.2.1 (A 12) (A 13) bx.2.2.2.2.2.1 bx.2.2.2.2.2.2.1 bx.2.2.2.2.2.2.2 (A 64) fo.1 fo.2.1 fo.2.2.1 fo.2.2.2.1 fo.2.2.2.2.1 fo.2.2.2.2.2.1 fo.2.2.2.2.2.2.1 fo.2.2.2.2.2.2.2 hxn (Nat.le_refl 20) (BB.v hx.2.1))) rfl rfl, rfl, rfl, (Nat.le_of_ble_eq_true rfl), (Nat.le_of_ble_eq_true rfl), rfl, by decide, rfl, rpl_fast (by decide) rfl rfl, rfl⟩
    · exact ⟨_, [65, 66, 67], _, _, CT.norm (CT_nm hCm (k_X7_lightest l G (A 65) (A 66) (A 67) (A 68) (A 69) (A 70) (A 71) (A 72) (A 73) me tp.1 ma rz zf zs 0 bx.1 (by decide) hx.2.2.1 hxn (RB.nd hx) (RB.wd hx))) rfl (congrArg (fun z => some (Value.int z)) pw.1), rfl, rfl, (Nat.le_of_ble_eq_true rfl), (Nat.le_of_ble_eq_true rfl), rfl, by decide, rfl, rpl_fast (by decide) rfl rfl, rfl⟩
    · exact ⟨we, rz, (Cc.2.1), rr, tp, bx, bz, cg, bu, bv, cj, bY, (Cc.2.2.2.1, Cc.2.2.2.2.1, Cc.2.2.2.2.2.1, Cc.2.2.2.2.2.2.1, Cc.2.2.2.2.2.2.2.1, Cc.2.2.2.2.2.2.2.2.1, Cc.2.2.2.2.2.2.2.2.2, Cc.2.2.1), (me, tp.1, ma, rz), (Cm.2), zs, zi, zv, zt, zr, zw, zn, rfl, ⟨⟨hx, hz, hc, hx3, hz3⟩, him, hu20, hv20, hj4, hY20, rfl, htp, rfl, hrz, hrow, (by rw [show Cc.2.1 = ff from by rw [← hCc]; rfl]; exact pw.2)⟩⟩
  by_cases q1 : bo = 1
  · subst q1
    have pw := pw_lightest (Fm := fo.2.2.2.2.1) (Fa := fo.2.2.2.2.2.1) (Fs := fo.2.2.2.2.2.2.1) (Fd := fo.2.2.2.2.2.2.2) hz hff
    obtain ⟨Cc, hCc⟩ : ∃ C, (f_X6_lightest_0 ff bz.1 bz.2.1 bz.2.2.1 bz.2.2.2.1 bz.2.2.2.2.1 bz.2.2.2.2.2.1 bz.2.2.2.2.2.2.1 fo.2.2.2.2.1 fo.2.2.2.2.2.1 fo.2.2.2.2.2.2.1 fo.2.2.2.2.2.2.2) = C := ⟨_, rfl⟩
    rw [hCc] at pw
    obtain ⟨Cm, hCm⟩ : ∃ C, (f_X7_lightest zf zs 1 bz.1) = C := ⟨_, rfl⟩
    rw [hCm] at pw
    refine ⟨Cc.1, (LWL G A we rz (Cc.2.1) rr tp bx bz cg bu bv cj bY (Cc.2.2.2.1, Cc.2.2.2.2.1, Cc.2.2.2.2.2.1, Cc.2.2.2.2.2.2.1, Cc.2.2.2.2.2.2.2.1, Cc.2.2.2.2.2.2.2.2.1, Cc.2.2.2.2.2.2.2.2.2, Cc.2.2.1) (me, tp.1, ma, rz) zf zs zi zv zt zr zw zn), (LWL G A we rz (Cc.2.1) rr tp bx bz cg bu bv cj bY (Cc.2.2.2.1, Cc.2.2.2.2.1, Cc.2.2.2.2.2.1, Cc.2.2.2.2.2.2.1, Cc.2.2.2.2.2.2.2.1, Cc.2.2.2.2.2.2.2.2.1, Cc.2.2.2.2.2.2.2.2.2, Cc.2.2.1) (me, tp.1, ma, rz) (Cm.2) zs zi zv zt zr zw zn), ?_, ⟨_, rfl⟩, ?_, ?_⟩
    · exact ⟨_, [0, 1, 5, 14, 15, 16, 17, 18, 19, 20, 21, 63, 64], _, _, CT.norm (CT_nm hCc (k_X6_lightest_1 l G (A 0) (A 5) (A 30) (A 3) (A 2) (A 1) (A 55) (A 63) we rz ff (A 6) (A 22) (A 14) (A 15) (A 16) (A 17) (A 18) (A 19) 20 bz.1 bz.2.1 bz.2.2.1 bz.2.2.2.1 bz.2.2.2.2.1 (A 20) (A 21) bz.2.2.2.2.2.1 bz.2.2.2.2.2.2.1 bz.2.2.2.2.2.2.2 (A 64) fo.1 fo.2.1 fo.2.2.1 fo.2.2.2.1 fo.2.2.2.2.1 fo.2.2.2.2.2.1 fo.2.2.2.2.2.2.1 fo.2.2.2.2.2.2.2 hzn (Nat.le_refl 20) (BB.v hz.2.1))) rfl rfl, rfl, rfl, (Nat.le_of_ble_eq_true rfl), (Nat.le_of_ble_eq_true rfl), rfl, by decide, rfl, rpl_fast (by decide) rfl rfl, rfl⟩
    · exact ⟨_, [65, 66, 67], _, _, CT.norm (CT_nm hCm (k_X7_lightest l G (A 65) (A 66) (A 67) (A 68) (A 69) (A 70) (A 71) (A 72) (A 73) me tp.1 ma rz zf zs 1 bz.1 (by decide) hz.2.2.1 hzn (RB.nd hz) (RB.wd hz))) rfl (congrArg (fun z => some (Value.int z)) pw.1), rfl, rfl, (Nat.le_of_ble_eq_true rfl), (Nat.le_of_ble_eq_true rfl), rfl, by decide, rfl, rpl_fast (by decide) rfl rfl, rfl⟩
    · exact ⟨we, rz, (Cc.2.1), rr, tp, bx, bz, cg, bu, bv, cj, bY, (Cc.2.2.2.1, Cc.2.2.2.2.1, Cc.2.2.2.2.2.1, Cc.2.2.2.2.2.2.1, Cc.2.2.2.2.2.2.2.1, Cc.2.2.2.2.2.2.2.2.1, Cc.2.2.2.2.2.2.2.2.2, Cc.2.2.1), (me, tp.1, ma, rz), (Cm.2), zs, zi, zv, zt, zr, zw, zn, rfl, ⟨⟨hx, hz, hc, hx3, hz3⟩, him, hu20, hv20, hj4, hY20, rfl, htp, rfl, hrz, hrow, (by rw [show Cc.2.1 = ff from by rw [← hCc]; rfl]; exact pw.2)⟩⟩
  have hbad := bk_no q0 q1
  have pw := pw_r1 hff
  refine ⟨(f_X6_lightest_A ff).1, (LWL G A we rz ((f_X6_lightest_A ff).2) rr tp bx bz cg bu bv cj bY fo (me, tp.1, ma, rz) zf zs zi zv zt zr zw zn), (LWL G A we rz ((f_X6_lightest_A ff).2) rr tp bx bz cg bu bv cj bY fo (me, tp.1, ma, rz) ((f_X7_lightest_A zf).2) zs zi zv zt zr zw zn), ?_, ⟨_, rfl⟩, ?_, ?_⟩
  · exact ⟨_, [0, 1], _, _, CT.norm (k_X6_lightest_A l G (A 0) (A 5) (A 30) (A 3) (A 2) (A 1) (A 55) (A 63) we rz ff bo hbad.1) rfl rfl, rfl, rfl, (Nat.le_of_ble_eq_true rfl), (Nat.le_of_ble_eq_true rfl), rfl, by decide, rfl, rpl_fast (by decide) rfl rfl, rfl⟩
  · exact ⟨_, [65, 66], _, _, CT.norm (k_X7_lightest_A l G (A 65) (A 66) (A 67) (A 68) (A 69) (A 70) (A 71) (A 72) (A 73) me tp.1 ma rz zf bo hbad.2) rfl (congrArg (fun z => some (Value.int z)) pw.1), rfl, rfl, (Nat.le_of_ble_eq_true rfl), (Nat.le_of_ble_eq_true rfl), rfl, by decide, rfl, rpl_fast (by decide) rfl rfl, rfl⟩
  · exact ⟨we, rz, ((f_X6_lightest_A ff).2), rr, tp, bx, bz, cg, bu, bv, cj, bY, fo, (me, tp.1, ma, rz), ((f_X7_lightest_A zf).2), zs, zi, zv, zt, zr, zw, zn, rfl, ⟨⟨hx, hz, hc, hx3, hz3⟩, him, hu20, hv20, hj4, hY20, rfl, htp, rfl, hrz, hrow, pw.2⟩⟩

set_option maxHeartbeats 4000000 in
set_option maxRecDepth 100000 in
theorem b_sets (l : Launch) (G : wG) {A : Nat → Nat} {ws : va_W} (h : INV G A ws) (bo : Int32) (wh : Int32) : BTH l G A ws yX6_sets cX6_sets 3 yX7_sets cX7_sets 8 [.int bo, .int wh] := by
  obtain ⟨we, rz, ff, rr, tp, bx, bz, cg, bu, bv, cj, bY, fo, mm, zf, zs, zi, zv, zt, zr, zw, zn, rfl, hrel⟩ := h
  obtain ⟨me, mz, ma, mr⟩ := mm
  obtain ⟨hsh, him, hu20, hv20, hj4, hY20, hmz, htp, hmr, hrz, hrow, hff⟩ := hrel
  dsimp only at him hmz hmr
  subst hmz
  replace hmr := hmr.symm
  subst hmr
  obtain ⟨hx, hz, hc, hx3, hz3⟩ := hsh
  have hxn : bx.1 ≤ 20 := hx.2.1.1
  have hzn : bz.1 ≤ 20 := hz.2.1.1
  have hcn : cg.1 ≤ 4 := hc.1
  by_cases q0 : bo = 0
  · subst q0
    have pw := pw_sets (Fc := fo.1) (Fg := fo.2.1) (Fw := fo.2.2.1) (Fn := fo.2.2.2.1) (Fm := fo.2.2.2.2.1) (Fa := fo.2.2.2.2.2.1) (Fs := fo.2.2.2.2.2.2.1) (Fd := fo.2.2.2.2.2.2.2) hx hff wh
    obtain ⟨Cc, hCc⟩ : ∃ C, (f_X6_sets_0 ff bx.1 bx.2.1 bx.2.2.1 bx.2.2.2.1 bx.2.2.2.2.1 bx.2.2.2.2.2.1 fo.1 fo.2.1 fo.2.2.1 fo.2.2.2.1 fo.2.2.2.2.1 fo.2.2.2.2.2.1 fo.2.2.2.2.2.2.1 fo.2.2.2.2.2.2.2 wh) = C := ⟨_, rfl⟩
    rw [hCc] at pw
    obtain ⟨Cm, hCm⟩ : ∃ C, (f_X7_sets zf zs 0 bx.1 wh) = C := ⟨_, rfl⟩
    rw [hCm] at pw
    refine ⟨Cc.1, (LWL G A we rz (Cc.2.1) rr tp bx bz cg bu bv cj bY (Cc.2.2.2.1, Cc.2.2.2.2.1, Cc.2.2.2.2.2.1, Cc.2.2.2.2.2.2.1, Cc.2.2.2.2.2.2.2.1, Cc.2.2.2.2.2.2.2.2.1, Cc.2.2.2.2.2.2.2.2.2, Cc.2.2.1) (me, tp.1, ma, rz) zf zs zi zv zt zr zw zn), (LWL G A we rz (Cc.2.1) rr tp bx bz cg bu bv cj bY (Cc.2.2.2.1, Cc.2.2.2.2.1, Cc.2.2.2.2.2.1, Cc.2.2.2.2.2.2.1, Cc.2.2.2.2.2.2.2.1, Cc.2.2.2.2.2.2.2.2.1, Cc.2.2.2.2.2.2.2.2.2, Cc.2.2.1) (me, tp.1, ma, rz) (Cm.2) zs zi zv zt zr zw zn), ?_, ⟨_, rfl⟩, ?_, ?_⟩
    · exact ⟨_, [0, 1, 5, 6, 7, 8, 9, 10, 11, 12, 13, 63, 64], _, _, CT.norm (CT_nm hCc (k_X6_sets_0 l G (A 0) (A 5) (A 30) (A 3) (A 2) (A 1) (A 55) (A 63) we rz ff (A 14) (A 22) (A 6) (A 7) (A 8) (A 9) (A 10) (A 11) 20 bx.1 bx.2.1 bx.2.2.1 bx.2.2.2.1 bx.2.2.2.2.1 (A 12) (A 13) bx.2.2.2.2.2.1 bx.2.2.2.2.2.2.1 bx.2.2.2.2.2.2.2 (A 64) fo.1 fo.2.1 fo.2.2.1 fo.2.2.2.1 fo.2.2.2.2.1 fo.2.2.2.2.2.1 fo.2.2.2.2.2.2.1 fo.2.2.2.2.2.2.2 wh hxn (Nat.le_refl 20) (BB.v hx.2.1))) rfl rfl, rfl, rfl, (Nat.le_of_ble_eq_true rfl), (Nat.le_of_ble_eq_true rfl), rfl, by decide, rfl, rpl_fast (by decide) rfl rfl, rfl⟩
    · exact ⟨_, [65, 66, 67], _, _, CT.norm (CT_nm hCm (k_X7_sets l G (A 65) (A 66) (A 67) (A 68) (A 69) (A 70) (A 71) (A 72) (A 73) me tp.1 ma rz zf zs 0 bx.1 wh (by decide) hx.2.2.1 hxn (RB.nd hx) (RB.wd hx))) rfl (congrArg (fun z => some (Value.int z)) pw.1), rfl, rfl, (Nat.le_of_ble_eq_true rfl), (Nat.le_of_ble_eq_true rfl), rfl, by decide, rfl, rpl_fast (by decide) rfl rfl, rfl⟩
    · exact ⟨we, rz, (Cc.2.1), rr, tp, bx, bz, cg, bu, bv, cj, bY, (Cc.2.2.2.1, Cc.2.2.2.2.1, Cc.2.2.2.2.2.1, Cc.2.2.2.2.2.2.1, Cc.2.2.2.2.2.2.2.1, Cc.2.2.2.2.2.2.2.2.1, Cc.2.2.2.2.2.2.2.2.2, Cc.2.2.1), (me, tp.1, ma, rz), (Cm.2), zs, zi, zv, zt, zr, zw, zn, rfl, ⟨⟨hx, hz, hc, hx3, hz3⟩, him, hu20, hv20, hj4, hY20, rfl, htp, rfl, hrz, hrow, pw.2⟩⟩
  by_cases q1 : bo = 1
  · subst q1
    have pw := pw_sets (Fc := fo.1) (Fg := fo.2.1) (Fw := fo.2.2.1) (Fn := fo.2.2.2.1) (Fm := fo.2.2.2.2.1) (Fa := fo.2.2.2.2.2.1) (Fs := fo.2.2.2.2.2.2.1) (Fd := fo.2.2.2.2.2.2.2) hz hff wh
    obtain ⟨Cc, hCc⟩ : ∃ C, (f_X6_sets_0 ff bz.1 bz.2.1 bz.2.2.1 bz.2.2.2.1 bz.2.2.2.2.1 bz.2.2.2.2.2.1 fo.1 fo.2.1 fo.2.2.1 fo.2.2.2.1 fo.2.2.2.2.1 fo.2.2.2.2.2.1 fo.2.2.2.2.2.2.1 fo.2.2.2.2.2.2.2 wh) = C := ⟨_, rfl⟩
    rw [hCc] at pw
    obtain ⟨Cm, hCm⟩ : ∃ C, (f_X7_sets zf zs 1 bz.1 wh) = C := ⟨_, rfl⟩
    rw [hCm] at pw
    refine ⟨Cc.1, (LWL G A we rz (Cc.2.1) rr tp bx bz cg bu bv cj bY (Cc.2.2.2.1, Cc.2.2.2.2.1, Cc.2.2.2.2.2.1, Cc.2.2.2.2.2.2.1, Cc.2.2.2.2.2.2.2.1, Cc.2.2.2.2.2.2.2.2.1, Cc.2.2.2.2.2.2.2.2.2, Cc.2.2.1) (me, tp.1, ma, rz) zf zs zi zv zt zr zw zn), (LWL G A we rz (Cc.2.1) rr tp bx bz cg bu bv cj bY (Cc.2.2.2.1, Cc.2.2.2.2.1, Cc.2.2.2.2.2.1, Cc.2.2.2.2.2.2.1, Cc.2.2.2.2.2.2.2.1, Cc.2.2.2.2.2.2.2.2.1, Cc.2.2.2.2.2.2.2.2.2, Cc.2.2.1) (me, tp.1, ma, rz) (Cm.2) zs zi zv zt zr zw zn), ?_, ⟨_, rfl⟩, ?_, ?_⟩
    · exact ⟨_, [0, 1, 5, 14, 15, 16, 17, 18, 19, 20, 21, 63, 64], _, _, CT.norm (CT_nm hCc (k_X6_sets_1 l G (A 0) (A 5) (A 30) (A 3) (A 2) (A 1) (A 55) (A 63) we rz ff (A 6) (A 22) (A 14) (A 15) (A 16) (A 17) (A 18) (A 19) 20 bz.1 bz.2.1 bz.2.2.1 bz.2.2.2.1 bz.2.2.2.2.1 (A 20) (A 21) bz.2.2.2.2.2.1 bz.2.2.2.2.2.2.1 bz.2.2.2.2.2.2.2 (A 64) fo.1 fo.2.1 fo.2.2.1 fo.2.2.2.1 fo.2.2.2.2.1 fo.2.2.2.2.2.1 fo.2.2.2.2.2.2.1 fo.2.2.2.2.2.2.2 wh hzn (Nat.le_refl 20) (BB.v hz.2.1))) rfl rfl, rfl, rfl, (Nat.le_of_ble_eq_true rfl), (Nat.le_of_ble_eq_true rfl), rfl, by decide, rfl, rpl_fast (by decide) rfl rfl, rfl⟩
    · exact ⟨_, [65, 66, 67], _, _, CT.norm (CT_nm hCm (k_X7_sets l G (A 65) (A 66) (A 67) (A 68) (A 69) (A 70) (A 71) (A 72) (A 73) me tp.1 ma rz zf zs 1 bz.1 wh (by decide) hz.2.2.1 hzn (RB.nd hz) (RB.wd hz))) rfl (congrArg (fun z => some (Value.int z)) pw.1), rfl, rfl, (Nat.le_of_ble_eq_true rfl), (Nat.le_of_ble_eq_true rfl), rfl, by decide, rfl, rpl_fast (by decide) rfl rfl, rfl⟩
    · exact ⟨we, rz, (Cc.2.1), rr, tp, bx, bz, cg, bu, bv, cj, bY, (Cc.2.2.2.1, Cc.2.2.2.2.1, Cc.2.2.2.2.2.1, Cc.2.2.2.2.2.2.1, Cc.2.2.2.2.2.2.2.1, Cc.2.2.2.2.2.2.2.2.1, Cc.2.2.2.2.2.2.2.2.2, Cc.2.2.1), (me, tp.1, ma, rz), (Cm.2), zs, zi, zv, zt, zr, zw, zn, rfl, ⟨⟨hx, hz, hc, hx3, hz3⟩, him, hu20, hv20, hj4, hY20, rfl, htp, rfl, hrz, hrow, pw.2⟩⟩
  have hbad := bk_no q0 q1
  have pw := pw_r1 hff
  refine ⟨(f_X6_sets_A ff).1, (LWL G A we rz ((f_X6_sets_A ff).2) rr tp bx bz cg bu bv cj bY fo (me, tp.1, ma, rz) zf zs zi zv zt zr zw zn), (LWL G A we rz ((f_X6_sets_A ff).2) rr tp bx bz cg bu bv cj bY fo (me, tp.1, ma, rz) ((f_X7_sets_A zf).2) zs zi zv zt zr zw zn), ?_, ⟨_, rfl⟩, ?_, ?_⟩
  · exact ⟨_, [0, 1], _, _, CT.norm (k_X6_sets_A l G (A 0) (A 5) (A 30) (A 3) (A 2) (A 1) (A 55) (A 63) we rz ff bo wh hbad.1) rfl rfl, rfl, rfl, (Nat.le_of_ble_eq_true rfl), (Nat.le_of_ble_eq_true rfl), rfl, by decide, rfl, rpl_fast (by decide) rfl rfl, rfl⟩
  · exact ⟨_, [65, 66], _, _, CT.norm (k_X7_sets_A l G (A 65) (A 66) (A 67) (A 68) (A 69) (A 70) (A 71) (A 72) (A 73) me tp.1 ma rz zf bo wh hbad.2) rfl (congrArg (fun z => some (Value.int z)) pw.1), rfl, rfl, (Nat.le_of_ble_eq_true rfl), (Nat.le_of_ble_eq_true rfl), rfl, by decide, rfl, rpl_fast (by decide) rfl rfl, rfl⟩
  · exact ⟨we, rz, ((f_X6_sets_A ff).2), rr, tp, bx, bz, cg, bu, bv, cj, bY, fo, (me, tp.1, ma, rz), ((f_X7_sets_A zf).2), zs, zi, zv, zt, zr, zw, zn, rfl, ⟨⟨hx, hz, hc, hx3, hz3⟩, him, hu20, hv20, hj4, hY20, rfl, htp, rfl, hrz, hrow, pw.2⟩⟩

set_option maxHeartbeats 4000000 in
set_option maxRecDepth 100000 in
theorem b_carries (l : Launch) (G : wG) {A : Nat → Nat} {ws : va_W} (h : INV G A ws) (bo : Int32) : BTH l G A ws yX6_carries cX6_carries 3 yX7_carries cX7_carries 2 [.int bo] := by
  obtain ⟨we, rz, ff, rr, tp, bx, bz, cg, bu, bv, cj, bY, fo, mm, zf, zs, zi, zv, zt, zr, zw, zn, rfl, hrel⟩ := h
  obtain ⟨me, mz, ma, mr⟩ := mm
  obtain ⟨hsh, him, hu20, hv20, hj4, hY20, hmz, htp, hmr, hrz, hrow, hff⟩ := hrel
  dsimp only at him hmz hmr
  subst hmz
  replace hmr := hmr.symm
  subst hmr
  obtain ⟨hx, hz, hc, hx3, hz3⟩ := hsh
  have hxn : bx.1 ≤ 20 := hx.2.1.1
  have hzn : bz.1 ≤ 20 := hz.2.1.1
  have hcn : cg.1 ≤ 4 := hc.1
  by_cases q0 : bo = 0
  · subst q0
    have pw := pw_carries (Fm := fo.2.2.2.2.1) (Fa := fo.2.2.2.2.2.1) (Fs := fo.2.2.2.2.2.2.1) (Fd := fo.2.2.2.2.2.2.2) (b := 0) hx hz hff
    obtain ⟨Cc, hCc⟩ : ∃ C, (f_X6_carries_0 ff bx.1 bx.2.1 bx.2.2.1 bx.2.2.2.1 bx.2.2.2.2.1 bx.2.2.2.2.2.1 bz.1 bz.2.1 bz.2.2.1 bz.2.2.2.1 bz.2.2.2.2.1 bz.2.2.2.2.2.1 fo.2.2.2.2.1 fo.2.2.2.2.2.1 fo.2.2.2.2.2.2.1 fo.2.2.2.2.2.2.2) = C := ⟨_, rfl⟩
    rw [hCc] at pw
    obtain ⟨Cm, hCm⟩ : ∃ C, (f_X7_carries zf zs 0 bx.1 bz.1) = C := ⟨_, rfl⟩
    rw [hCm] at pw
    refine ⟨Cc.1, (LWL G A we rz (Cc.2.1) rr tp bx bz cg bu bv cj bY (Cc.2.2.2.1, Cc.2.2.2.2.1, Cc.2.2.2.2.2.1, Cc.2.2.2.2.2.2.1, Cc.2.2.2.2.2.2.2.1, Cc.2.2.2.2.2.2.2.2.1, Cc.2.2.2.2.2.2.2.2.2, Cc.2.2.1) (me, tp.1, ma, rz) zf zs zi zv zt zr zw zn), (LWL G A we rz (Cc.2.1) rr tp bx bz cg bu bv cj bY (Cc.2.2.2.1, Cc.2.2.2.2.1, Cc.2.2.2.2.2.1, Cc.2.2.2.2.2.2.1, Cc.2.2.2.2.2.2.2.1, Cc.2.2.2.2.2.2.2.2.1, Cc.2.2.2.2.2.2.2.2.2, Cc.2.2.1) (me, tp.1, ma, rz) (Cm.2) zs zi zv zt zr zw zn), ?_, ⟨_, rfl⟩, ?_, ?_⟩
    · exact ⟨_, [0, 1, 5, 6, 7, 8, 9, 10, 11, 12, 13, 14, 15, 16, 17, 18, 19, 20, 21, 63, 64], _, _, CT.norm (CT_nm hCc (k_X6_carries_0 l G (A 0) (A 5) (A 30) (A 3) (A 2) (A 1) (A 55) (A 63) we rz ff (A 14) (A 22) (A 6) (A 7) (A 8) (A 9) (A 10) (A 11) 20 bx.1 bx.2.1 bx.2.2.1 bx.2.2.2.1 bx.2.2.2.2.1 (A 12) (A 13) bx.2.2.2.2.2.1 bx.2.2.2.2.2.2.1 bx.2.2.2.2.2.2.2 (A 15) (A 16) (A 17) (A 18) (A 19) 20 bz.1 bz.2.1 bz.2.2.1 bz.2.2.2.1 bz.2.2.2.2.1 (A 20) (A 21) bz.2.2.2.2.2.1 bz.2.2.2.2.2.2.1 bz.2.2.2.2.2.2.2 (A 64) fo.1 fo.2.1 fo.2.2.1 fo.2.2.2.1 fo.2.2.2.2.1 fo.2.2.2.2.2.1 fo.2.2.2.2.2.2.1 fo.2.2.2.2.2.2.2 hxn (Nat.le_refl 20) (BB.v hx.2.1) hzn (Nat.le_refl 20) (BB.v hz.2.1))) rfl rfl, rfl, rfl, (Nat.le_of_ble_eq_true rfl), (Nat.le_of_ble_eq_true rfl), rfl, by decide, rfl, rpl_fast (by decide) rfl rfl, rfl⟩
    · exact ⟨_, [65, 66, 67], _, _, CT.norm (CT_nm hCm (k_X7_carries l G (A 65) (A 66) (A 67) (A 68) (A 69) (A 70) (A 71) (A 72) (A 73) me tp.1 ma rz zf zs 0 bx.1 bz.1 (by decide) hx.2.2.1 hxn (RB.nd hx) (RB.wd hx) hz.2.2.1 hzn (RB.nd hz) (RB.wd hz))) rfl (congrArg (fun z => some (Value.int z)) pw.1), rfl, rfl, (Nat.le_of_ble_eq_true rfl), (Nat.le_of_ble_eq_true rfl), rfl, by decide, rfl, rpl_fast (by decide) rfl rfl, rfl⟩
    · exact ⟨we, rz, (Cc.2.1), rr, tp, bx, bz, cg, bu, bv, cj, bY, (Cc.2.2.2.1, Cc.2.2.2.2.1, Cc.2.2.2.2.2.1, Cc.2.2.2.2.2.2.1, Cc.2.2.2.2.2.2.2.1, Cc.2.2.2.2.2.2.2.2.1, Cc.2.2.2.2.2.2.2.2.2, Cc.2.2.1), (me, tp.1, ma, rz), (Cm.2), zs, zi, zv, zt, zr, zw, zn, rfl, ⟨⟨hx, hz, hc, hx3, hz3⟩, him, hu20, hv20, hj4, hY20, rfl, htp, rfl, hrz, hrow, pw.2⟩⟩
  by_cases q1 : bo = 1
  · subst q1
    have pw := pw_carries (Fm := fo.2.2.2.2.1) (Fa := fo.2.2.2.2.2.1) (Fs := fo.2.2.2.2.2.2.1) (Fd := fo.2.2.2.2.2.2.2) (b := 1) hz hx hff
    obtain ⟨Cc, hCc⟩ : ∃ C, (f_X6_carries_0 ff bz.1 bz.2.1 bz.2.2.1 bz.2.2.2.1 bz.2.2.2.2.1 bz.2.2.2.2.2.1 bx.1 bx.2.1 bx.2.2.1 bx.2.2.2.1 bx.2.2.2.2.1 bx.2.2.2.2.2.1 fo.2.2.2.2.1 fo.2.2.2.2.2.1 fo.2.2.2.2.2.2.1 fo.2.2.2.2.2.2.2) = C := ⟨_, rfl⟩
    rw [hCc] at pw
    obtain ⟨Cm, hCm⟩ : ∃ C, (f_X7_carries zf zs 1 bz.1 bx.1) = C := ⟨_, rfl⟩
    rw [hCm] at pw
    refine ⟨Cc.1, (LWL G A we rz (Cc.2.1) rr tp bx bz cg bu bv cj bY (Cc.2.2.2.1, Cc.2.2.2.2.1, Cc.2.2.2.2.2.1, Cc.2.2.2.2.2.2.1, Cc.2.2.2.2.2.2.2.1, Cc.2.2.2.2.2.2.2.2.1, Cc.2.2.2.2.2.2.2.2.2, Cc.2.2.1) (me, tp.1, ma, rz) zf zs zi zv zt zr zw zn), (LWL G A we rz (Cc.2.1) rr tp bx bz cg bu bv cj bY (Cc.2.2.2.1, Cc.2.2.2.2.1, Cc.2.2.2.2.2.1, Cc.2.2.2.2.2.2.1, Cc.2.2.2.2.2.2.2.1, Cc.2.2.2.2.2.2.2.2.1, Cc.2.2.2.2.2.2.2.2.2, Cc.2.2.1) (me, tp.1, ma, rz) (Cm.2) zs zi zv zt zr zw zn), ?_, ⟨_, rfl⟩, ?_, ?_⟩
    · exact ⟨_, [0, 1, 5, 14, 15, 16, 17, 18, 19, 20, 21, 6, 7, 8, 9, 10, 11, 12, 13, 63, 64], _, _, CT.norm (CT_nm hCc (k_X6_carries_1 l G (A 0) (A 5) (A 30) (A 3) (A 2) (A 1) (A 55) (A 63) we rz ff (A 6) (A 22) (A 14) (A 15) (A 16) (A 17) (A 18) (A 19) 20 bz.1 bz.2.1 bz.2.2.1 bz.2.2.2.1 bz.2.2.2.2.1 (A 20) (A 21) bz.2.2.2.2.2.1 bz.2.2.2.2.2.2.1 bz.2.2.2.2.2.2.2 (A 7) (A 8) (A 9) (A 10) (A 11) 20 bx.1 bx.2.1 bx.2.2.1 bx.2.2.2.1 bx.2.2.2.2.1 (A 12) (A 13) bx.2.2.2.2.2.1 bx.2.2.2.2.2.2.1 bx.2.2.2.2.2.2.2 (A 64) fo.1 fo.2.1 fo.2.2.1 fo.2.2.2.1 fo.2.2.2.2.1 fo.2.2.2.2.2.1 fo.2.2.2.2.2.2.1 fo.2.2.2.2.2.2.2 hzn (Nat.le_refl 20) (BB.v hz.2.1) hxn (Nat.le_refl 20) (BB.v hx.2.1))) rfl rfl, rfl, rfl, (Nat.le_of_ble_eq_true rfl), (Nat.le_of_ble_eq_true rfl), rfl, by decide, rfl, rpl_fast (by decide) rfl rfl, rfl⟩
    · exact ⟨_, [65, 66, 67], _, _, CT.norm (CT_nm hCm (k_X7_carries l G (A 65) (A 66) (A 67) (A 68) (A 69) (A 70) (A 71) (A 72) (A 73) me tp.1 ma rz zf zs 1 bz.1 bx.1 (by decide) hz.2.2.1 hzn (RB.nd hz) (RB.wd hz) hx.2.2.1 hxn (RB.nd hx) (RB.wd hx))) rfl (congrArg (fun z => some (Value.int z)) pw.1), rfl, rfl, (Nat.le_of_ble_eq_true rfl), (Nat.le_of_ble_eq_true rfl), rfl, by decide, rfl, rpl_fast (by decide) rfl rfl, rfl⟩
    · exact ⟨we, rz, (Cc.2.1), rr, tp, bx, bz, cg, bu, bv, cj, bY, (Cc.2.2.2.1, Cc.2.2.2.2.1, Cc.2.2.2.2.2.1, Cc.2.2.2.2.2.2.1, Cc.2.2.2.2.2.2.2.1, Cc.2.2.2.2.2.2.2.2.1, Cc.2.2.2.2.2.2.2.2.2, Cc.2.2.1), (me, tp.1, ma, rz), (Cm.2), zs, zi, zv, zt, zr, zw, zn, rfl, ⟨⟨hx, hz, hc, hx3, hz3⟩, him, hu20, hv20, hj4, hY20, rfl, htp, rfl, hrz, hrow, pw.2⟩⟩
  have hbad := bk_no q0 q1
  have pw := pw_r1 hff
  refine ⟨(f_X6_carries_A ff).1, (LWL G A we rz ((f_X6_carries_A ff).2) rr tp bx bz cg bu bv cj bY fo (me, tp.1, ma, rz) zf zs zi zv zt zr zw zn), (LWL G A we rz ((f_X6_carries_A ff).2) rr tp bx bz cg bu bv cj bY fo (me, tp.1, ma, rz) ((f_X7_carries_A zf).2) zs zi zv zt zr zw zn), ?_, ⟨_, rfl⟩, ?_, ?_⟩
  · exact ⟨_, [0, 1], _, _, CT.norm (k_X6_carries_A l G (A 0) (A 5) (A 30) (A 3) (A 2) (A 1) (A 55) (A 63) we rz ff bo hbad.1) rfl rfl, rfl, rfl, (Nat.le_of_ble_eq_true rfl), (Nat.le_of_ble_eq_true rfl), rfl, by decide, rfl, rpl_fast (by decide) rfl rfl, rfl⟩
  · exact ⟨_, [65, 66], _, _, CT.norm (k_X7_carries_A l G (A 65) (A 66) (A 67) (A 68) (A 69) (A 70) (A 71) (A 72) (A 73) me tp.1 ma rz zf bo hbad.2) rfl (congrArg (fun z => some (Value.int z)) pw.1), rfl, rfl, (Nat.le_of_ble_eq_true rfl), (Nat.le_of_ble_eq_true rfl), rfl, by decide, rfl, rpl_fast (by decide) rfl rfl, rfl⟩
  · exact ⟨we, rz, ((f_X6_carries_A ff).2), rr, tp, bx, bz, cg, bu, bv, cj, bY, fo, (me, tp.1, ma, rz), ((f_X7_carries_A zf).2), zs, zi, zv, zt, zr, zw, zn, rfl, ⟨⟨hx, hz, hc, hx3, hz3⟩, him, hu20, hv20, hj4, hY20, rfl, htp, rfl, hrz, hrow, pw.2⟩⟩

set_option maxHeartbeats 4000000 in
set_option maxRecDepth 100000 in
theorem b_lacks (l : Launch) (G : wG) {A : Nat → Nat} {ws : va_W} (h : INV G A ws) (bo : Int32) : BTH l G A ws yX6_lacks cX6_lacks 3 yX7_lacks cX7_lacks 5 [.int bo] := by
  obtain ⟨we, rz, ff, rr, tp, bx, bz, cg, bu, bv, cj, bY, fo, mm, zf, zs, zi, zv, zt, zr, zw, zn, rfl, hrel⟩ := h
  obtain ⟨me, mz, ma, mr⟩ := mm
  obtain ⟨hsh, him, hu20, hv20, hj4, hY20, hmz, htp, hmr, hrz, hrow, hff⟩ := hrel
  dsimp only at him hmz hmr
  subst hmz
  replace hmr := hmr.symm
  subst hmr
  obtain ⟨hx, hz, hc, hx3, hz3⟩ := hsh
  have hxn : bx.1 ≤ 20 := hx.2.1.1
  have hzn : bz.1 ≤ 20 := hz.2.1.1
  have hcn : cg.1 ≤ 4 := hc.1
  by_cases q0 : bo = 0
  · subst q0
    have pw := pw_lacks (Fm := fo.2.2.2.2.1) (Fa := fo.2.2.2.2.2.1) (Fs := fo.2.2.2.2.2.2.1) (Fd := fo.2.2.2.2.2.2.2) (b := 0) hx hz hff
    obtain ⟨Cc, hCc⟩ : ∃ C, (f_X6_lacks_0 ff bx.1 bx.2.1 bx.2.2.1 bx.2.2.2.1 bx.2.2.2.2.1 bx.2.2.2.2.2.1 bz.1 bz.2.1 bz.2.2.1 bz.2.2.2.1 bz.2.2.2.2.1 bz.2.2.2.2.2.1 fo.2.2.2.2.1 fo.2.2.2.2.2.1 fo.2.2.2.2.2.2.1 fo.2.2.2.2.2.2.2) = C := ⟨_, rfl⟩
    rw [hCc] at pw
    obtain ⟨Cm, hCm⟩ : ∃ C, (f_X7_lacks zf zs 0 bx.1 bz.1) = C := ⟨_, rfl⟩
    rw [hCm] at pw
    refine ⟨Cc.1, (LWL G A we rz (Cc.2.1) rr tp bx bz cg bu bv cj bY (Cc.2.2.2.1, Cc.2.2.2.2.1, Cc.2.2.2.2.2.1, Cc.2.2.2.2.2.2.1, Cc.2.2.2.2.2.2.2.1, Cc.2.2.2.2.2.2.2.2.1, Cc.2.2.2.2.2.2.2.2.2, Cc.2.2.1) (me, tp.1, ma, rz) zf zs zi zv zt zr zw zn), (LWL G A we rz (Cc.2.1) rr tp bx bz cg bu bv cj bY (Cc.2.2.2.1, Cc.2.2.2.2.1, Cc.2.2.2.2.2.1, Cc.2.2.2.2.2.2.1, Cc.2.2.2.2.2.2.2.1, Cc.2.2.2.2.2.2.2.2.1, Cc.2.2.2.2.2.2.2.2.2, Cc.2.2.1) (me, tp.1, ma, rz) (Cm.2) zs zi zv zt zr zw zn), ?_, ⟨_, rfl⟩, ?_, ?_⟩
    · exact ⟨_, [0, 1, 5, 6, 7, 8, 9, 10, 11, 12, 13, 14, 15, 16, 17, 18, 19, 20, 21, 63, 64], _, _, CT.norm (CT_nm hCc (k_X6_lacks_0 l G (A 0) (A 5) (A 30) (A 3) (A 2) (A 1) (A 55) (A 63) we rz ff (A 14) (A 22) (A 6) (A 7) (A 8) (A 9) (A 10) (A 11) 20 bx.1 bx.2.1 bx.2.2.1 bx.2.2.2.1 bx.2.2.2.2.1 (A 12) (A 13) bx.2.2.2.2.2.1 bx.2.2.2.2.2.2.1 bx.2.2.2.2.2.2.2 (A 15) (A 16) (A 17) (A 18) (A 19) 20 bz.1 bz.2.1 bz.2.2.1 bz.2.2.2.1 bz.2.2.2.2.1 (A 20) (A 21) bz.2.2.2.2.2.1 bz.2.2.2.2.2.2.1 bz.2.2.2.2.2.2.2 (A 64) fo.1 fo.2.1 fo.2.2.1 fo.2.2.2.1 fo.2.2.2.2.1 fo.2.2.2.2.2.1 fo.2.2.2.2.2.2.1 fo.2.2.2.2.2.2.2 hxn (Nat.le_refl 20) (BB.v hx.2.1) hzn (Nat.le_refl 20) (BB.v hz.2.1))) rfl rfl, rfl, rfl, (Nat.le_of_ble_eq_true rfl), (Nat.le_of_ble_eq_true rfl), rfl, by decide, rfl, rpl_fast (by decide) rfl rfl, rfl⟩
    · exact ⟨_, [65, 66, 67], _, _, CT.norm (CT_nm hCm (k_X7_lacks l G (A 65) (A 66) (A 67) (A 68) (A 69) (A 70) (A 71) (A 72) (A 73) me tp.1 ma rz zf zs 0 bx.1 bz.1 (by decide) hx.2.2.1 hxn (RB.nd hx) (RB.wd hx) hz.2.2.1 hzn (RB.nd hz) (RB.wd hz))) rfl (congrArg (fun z => some (Value.int z)) pw.1), rfl, rfl, (Nat.le_of_ble_eq_true rfl), (Nat.le_of_ble_eq_true rfl), rfl, by decide, rfl, rpl_fast (by decide) rfl rfl, rfl⟩
    · exact ⟨we, rz, (Cc.2.1), rr, tp, bx, bz, cg, bu, bv, cj, bY, (Cc.2.2.2.1, Cc.2.2.2.2.1, Cc.2.2.2.2.2.1, Cc.2.2.2.2.2.2.1, Cc.2.2.2.2.2.2.2.1, Cc.2.2.2.2.2.2.2.2.1, Cc.2.2.2.2.2.2.2.2.2, Cc.2.2.1), (me, tp.1, ma, rz), (Cm.2), zs, zi, zv, zt, zr, zw, zn, rfl, ⟨⟨hx, hz, hc, hx3, hz3⟩, him, hu20, hv20, hj4, hY20, rfl, htp, rfl, hrz, hrow, pw.2⟩⟩
  by_cases q1 : bo = 1
  · subst q1
    have pw := pw_lacks (Fm := fo.2.2.2.2.1) (Fa := fo.2.2.2.2.2.1) (Fs := fo.2.2.2.2.2.2.1) (Fd := fo.2.2.2.2.2.2.2) (b := 1) hz hx hff
    obtain ⟨Cc, hCc⟩ : ∃ C, (f_X6_lacks_0 ff bz.1 bz.2.1 bz.2.2.1 bz.2.2.2.1 bz.2.2.2.2.1 bz.2.2.2.2.2.1 bx.1 bx.2.1 bx.2.2.1 bx.2.2.2.1 bx.2.2.2.2.1 bx.2.2.2.2.2.1 fo.2.2.2.2.1 fo.2.2.2.2.2.1 fo.2.2.2.2.2.2.1 fo.2.2.2.2.2.2.2) = C := ⟨_, rfl⟩
    rw [hCc] at pw
    obtain ⟨Cm, hCm⟩ : ∃ C, (f_X7_lacks zf zs 1 bz.1 bx.1) = C := ⟨_, rfl⟩
    rw [hCm] at pw
    refine ⟨Cc.1, (LWL G A we rz (Cc.2.1) rr tp bx bz cg bu bv cj bY (Cc.2.2.2.1, Cc.2.2.2.2.1, Cc.2.2.2.2.2.1, Cc.2.2.2.2.2.2.1, Cc.2.2.2.2.2.2.2.1, Cc.2.2.2.2.2.2.2.2.1, Cc.2.2.2.2.2.2.2.2.2, Cc.2.2.1) (me, tp.1, ma, rz) zf zs zi zv zt zr zw zn), (LWL G A we rz (Cc.2.1) rr tp bx bz cg bu bv cj bY (Cc.2.2.2.1, Cc.2.2.2.2.1, Cc.2.2.2.2.2.1, Cc.2.2.2.2.2.2.1, Cc.2.2.2.2.2.2.2.1, Cc.2.2.2.2.2.2.2.2.1, Cc.2.2.2.2.2.2.2.2.2, Cc.2.2.1) (me, tp.1, ma, rz) (Cm.2) zs zi zv zt zr zw zn), ?_, ⟨_, rfl⟩, ?_, ?_⟩
    · exact ⟨_, [0, 1, 5, 14, 15, 16, 17, 18, 19, 20, 21, 6, 7, 8, 9, 10, 11, 12, 13, 63, 64], _, _, CT.norm (CT_nm hCc (k_X6_lacks_1 l G (A 0) (A 5) (A 30) (A 3) (A 2) (A 1) (A 55) (A 63) we rz ff (A 6) (A 22) (A 14) (A 15) (A 16) (A 17) (A 18) (A 19) 20 bz.1 bz.2.1 bz.2.2.1 bz.2.2.2.1 bz.2.2.2.2.1 (A 20) (A 21) bz.2.2.2.2.2.1 bz.2.2.2.2.2.2.1 bz.2.2.2.2.2.2.2 (A 7) (A 8) (A 9) (A 10) (A 11) 20 bx.1 bx.2.1 bx.2.2.1 bx.2.2.2.1 bx.2.2.2.2.1 (A 12) (A 13) bx.2.2.2.2.2.1 bx.2.2.2.2.2.2.1 bx.2.2.2.2.2.2.2 (A 64) fo.1 fo.2.1 fo.2.2.1 fo.2.2.2.1 fo.2.2.2.2.1 fo.2.2.2.2.2.1 fo.2.2.2.2.2.2.1 fo.2.2.2.2.2.2.2 hzn (Nat.le_refl 20) (BB.v hz.2.1) hxn (Nat.le_refl 20) (BB.v hx.2.1))) rfl rfl, rfl, rfl, (Nat.le_of_ble_eq_true rfl), (Nat.le_of_ble_eq_true rfl), rfl, by decide, rfl, rpl_fast (by decide) rfl rfl, rfl⟩
    · exact ⟨_, [65, 66, 67], _, _, CT.norm (CT_nm hCm (k_X7_lacks l G (A 65) (A 66) (A 67) (A 68) (A 69) (A 70) (A 71) (A 72) (A 73) me tp.1 ma rz zf zs 1 bz.1 bx.1 (by decide) hz.2.2.1 hzn (RB.nd hz) (RB.wd hz) hx.2.2.1 hxn (RB.nd hx) (RB.wd hx))) rfl (congrArg (fun z => some (Value.int z)) pw.1), rfl, rfl, (Nat.le_of_ble_eq_true rfl), (Nat.le_of_ble_eq_true rfl), rfl, by decide, rfl, rpl_fast (by decide) rfl rfl, rfl⟩
    · exact ⟨we, rz, (Cc.2.1), rr, tp, bx, bz, cg, bu, bv, cj, bY, (Cc.2.2.2.1, Cc.2.2.2.2.1, Cc.2.2.2.2.2.1, Cc.2.2.2.2.2.2.1, Cc.2.2.2.2.2.2.2.1, Cc.2.2.2.2.2.2.2.2.1, Cc.2.2.2.2.2.2.2.2.2, Cc.2.2.1), (me, tp.1, ma, rz), (Cm.2), zs, zi, zv, zt, zr, zw, zn, rfl, ⟨⟨hx, hz, hc, hx3, hz3⟩, him, hu20, hv20, hj4, hY20, rfl, htp, rfl, hrz, hrow, pw.2⟩⟩
  have hbad := bk_no q0 q1
  have pw := pw_r1 hff
  refine ⟨(f_X6_lacks_A ff).1, (LWL G A we rz ((f_X6_lacks_A ff).2) rr tp bx bz cg bu bv cj bY fo (me, tp.1, ma, rz) zf zs zi zv zt zr zw zn), (LWL G A we rz ((f_X6_lacks_A ff).2) rr tp bx bz cg bu bv cj bY fo (me, tp.1, ma, rz) ((f_X7_lacks_A zf).2) zs zi zv zt zr zw zn), ?_, ⟨_, rfl⟩, ?_, ?_⟩
  · exact ⟨_, [0, 1], _, _, CT.norm (k_X6_lacks_A l G (A 0) (A 5) (A 30) (A 3) (A 2) (A 1) (A 55) (A 63) we rz ff bo hbad.1) rfl rfl, rfl, rfl, (Nat.le_of_ble_eq_true rfl), (Nat.le_of_ble_eq_true rfl), rfl, by decide, rfl, rpl_fast (by decide) rfl rfl, rfl⟩
  · exact ⟨_, [65, 66], _, _, CT.norm (k_X7_lacks_A l G (A 65) (A 66) (A 67) (A 68) (A 69) (A 70) (A 71) (A 72) (A 73) me tp.1 ma rz zf bo hbad.2) rfl (congrArg (fun z => some (Value.int z)) pw.1), rfl, rfl, (Nat.le_of_ble_eq_true rfl), (Nat.le_of_ble_eq_true rfl), rfl, by decide, rfl, rpl_fast (by decide) rfl rfl, rfl⟩
  · exact ⟨we, rz, ((f_X6_lacks_A ff).2), rr, tp, bx, bz, cg, bu, bv, cj, bY, fo, (me, tp.1, ma, rz), ((f_X7_lacks_A zf).2), zs, zi, zv, zt, zr, zw, zn, rfl, ⟨⟨hx, hz, hc, hx3, hz3⟩, him, hu20, hv20, hj4, hY20, rfl, htp, rfl, hrz, hrow, pw.2⟩⟩
