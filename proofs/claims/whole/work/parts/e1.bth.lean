set_option maxHeartbeats 4000000 in
set_option maxRecDepth 100000 in
theorem b_needed (l : Launch) (G : wG) {A : Nat → Nat} {ws : va_W} (h : INV G A ws) (bo : Int32) (wo : Int32) : BTH l G A ws yX6_needed cX6_needed 3 yX7_needed cX7_needed 3 [.int bo, .int wo] := by
  obtain ⟨we, rz, ff, rr, tp, bx, bz, cg, bu, bv, cj, bY, fo, mm, zf, zs, zi, zv, zt, zr, zw, zn, rfl, hrel⟩ := h
  obtain ⟨me, mz, ma, mr⟩ := mm
  obtain ⟨hsh, him, hu20, hv20, hj4, hY20, hmz, htp, hmr, hrz, hrow, hff⟩ := hrel
  dsimp only at him hmz hmr
  subst hmz
  replace hmr := hmr.symm
  subst hmr
  obtain ⟨hx, hz, hc, hx3, hz3⟩ := hsh
  have hxn : bx.1 ≤ 20 := hx.2.1.1
  have hzn : bz.1 ≤ 20 := hz.2.1.1
  have hcn : cg.1 ≤ 4 := hc.1
  by_cases q0 : bo = 0
  · subst q0
    have pw := pw_needed hx hff wo
    refine ⟨(f_X6_needed_0 ff bx.1 bx.2.1 bx.2.2.2.1 wo).1, (LWL G A we rz ((f_X6_needed_0 ff bx.1 bx.2.1 bx.2.2.2.1 wo).2) rr tp bx bz cg bu bv cj bY fo (me, tp.1, ma, rz) zf zs zi zv zt zr zw zn), (LWL G A we rz ((f_X6_needed_0 ff bx.1 bx.2.1 bx.2.2.2.1 wo).2) rr tp bx bz cg bu bv cj bY fo (me, tp.1, ma, rz) ((f_X7_needed zf zs 0 bx.1 wo).2) zs zi zv zt zr zw zn), ?_, ⟨_, rfl⟩, ?_, ?_⟩
    · exact ⟨_, [0, 1, 5, 6, 7, 8, 9, 10, 11, 12, 13], _, _, CT.norm (k_X6_needed_0 l G (A 0) (A 5) (A 30) (A 3) (A 2) (A 1) (A 55) (A 63) we rz ff (A 14) (A 22) (A 6) (A 7) (A 8) (A 9) (A 10) (A 11) 20 bx.1 bx.2.1 bx.2.2.1 bx.2.2.2.1 bx.2.2.2.2.1 (A 12) (A 13) bx.2.2.2.2.2.1 bx.2.2.2.2.2.2.1 bx.2.2.2.2.2.2.2 wo hxn (Nat.le_refl 20)) rfl rfl, rfl, rfl, (Nat.le_of_ble_eq_true rfl), (Nat.le_of_ble_eq_true rfl), rfl, by decide, rfl, rpl_fast (by decide) rfl rfl, rfl⟩
    · exact ⟨_, [65, 66, 67], _, _, CT.norm (k_X7_needed l G (A 65) (A 66) (A 67) (A 68) (A 69) (A 70) (A 71) (A 72) (A 73) me tp.1 ma rz zf zs 0 bx.1 wo (by decide) hx.2.2.1 hxn (RB.nd hx) (RB.wd hx)) rfl (congrArg (fun z => some (Value.int z)) pw.1), rfl, rfl, (Nat.le_of_ble_eq_true rfl), (Nat.le_of_ble_eq_true rfl), rfl, by decide, rfl, rpl_fast (by decide) rfl rfl, rfl⟩
    · exact ⟨we, rz, ((f_X6_needed_0 ff bx.1 bx.2.1 bx.2.2.2.1 wo).2), rr, tp, bx, bz, cg, bu, bv, cj, bY, fo, (me, tp.1, ma, rz), ((f_X7_needed zf zs 0 bx.1 wo).2), zs, zi, zv, zt, zr, zw, zn, rfl, ⟨⟨hx, hz, hc, hx3, hz3⟩, him, hu20, hv20, hj4, hY20, rfl, htp, rfl, hrz, hrow, pw.2⟩⟩
  by_cases q1 : bo = 1
  · subst q1
    have pw := pw_needed hz hff wo
    refine ⟨(f_X6_needed_1 ff bz.1 bz.2.1 bz.2.2.2.1 wo).1, (LWL G A we rz ((f_X6_needed_1 ff bz.1 bz.2.1 bz.2.2.2.1 wo).2) rr tp bx bz cg bu bv cj bY fo (me, tp.1, ma, rz) zf zs zi zv zt zr zw zn), (LWL G A we rz ((f_X6_needed_1 ff bz.1 bz.2.1 bz.2.2.2.1 wo).2) rr tp bx bz cg bu bv cj bY fo (me, tp.1, ma, rz) ((f_X7_needed zf zs 1 bz.1 wo).2) zs zi zv zt zr zw zn), ?_, ⟨_, rfl⟩, ?_, ?_⟩
    · exact ⟨_, [0, 1, 5, 14, 15, 16, 17, 18, 19, 20, 21], _, _, CT.norm (k_X6_needed_1 l G (A 0) (A 5) (A 30) (A 3) (A 2) (A 1) (A 55) (A 63) we rz ff (A 6) (A 22) (A 14) (A 15) (A 16) (A 17) (A 18) (A 19) 20 bz.1 bz.2.1 bz.2.2.1 bz.2.2.2.1 bz.2.2.2.2.1 (A 20) (A 21) bz.2.2.2.2.2.1 bz.2.2.2.2.2.2.1 bz.2.2.2.2.2.2.2 wo hzn (Nat.le_refl 20)) rfl rfl, rfl, rfl, (Nat.le_of_ble_eq_true rfl), (Nat.le_of_ble_eq_true rfl), rfl, by decide, rfl, rpl_fast (by decide) rfl rfl, rfl⟩
    · exact ⟨_, [65, 66, 67], _, _, CT.norm (k_X7_needed l G (A 65) (A 66) (A 67) (A 68) (A 69) (A 70) (A 71) (A 72) (A 73) me tp.1 ma rz zf zs 1 bz.1 wo (by decide) hz.2.2.1 hzn (RB.nd hz) (RB.wd hz)) rfl (congrArg (fun z => some (Value.int z)) pw.1), rfl, rfl, (Nat.le_of_ble_eq_true rfl), (Nat.le_of_ble_eq_true rfl), rfl, by decide, rfl, rpl_fast (by decide) rfl rfl, rfl⟩
    · exact ⟨we, rz, ((f_X6_needed_1 ff bz.1 bz.2.1 bz.2.2.2.1 wo).2), rr, tp, bx, bz, cg, bu, bv, cj, bY, fo, (me, tp.1, ma, rz), ((f_X7_needed zf zs 1 bz.1 wo).2), zs, zi, zv, zt, zr, zw, zn, rfl, ⟨⟨hx, hz, hc, hx3, hz3⟩, him, hu20, hv20, hj4, hY20, rfl, htp, rfl, hrz, hrow, pw.2⟩⟩
  have hbad := bk_no q0 q1
  have pw := pw_r1 hff
  refine ⟨(f_X6_needed_A ff).1, (LWL G A we rz ((f_X6_needed_A ff).2) rr tp bx bz cg bu bv cj bY fo (me, tp.1, ma, rz) zf zs zi zv zt zr zw zn), (LWL G A we rz ((f_X6_needed_A ff).2) rr tp bx bz cg bu bv cj bY fo (me, tp.1, ma, rz) ((f_X7_needed_A zf).2) zs zi zv zt zr zw zn), ?_, ⟨_, rfl⟩, ?_, ?_⟩
  · exact ⟨_, [0, 1], _, _, CT.norm (k_X6_needed_A l G (A 0) (A 5) (A 30) (A 3) (A 2) (A 1) (A 55) (A 63) we rz ff bo wo hbad.1) rfl rfl, rfl, rfl, (Nat.le_of_ble_eq_true rfl), (Nat.le_of_ble_eq_true rfl), rfl, by decide, rfl, rpl_fast (by decide) rfl rfl, rfl⟩
  · exact ⟨_, [65, 66], _, _, CT.norm (k_X7_needed_A l G (A 65) (A 66) (A 67) (A 68) (A 69) (A 70) (A 71) (A 72) (A 73) me tp.1 ma rz zf bo wo hbad.2) rfl (congrArg (fun z => some (Value.int z)) pw.1), rfl, rfl, (Nat.le_of_ble_eq_true rfl), (Nat.le_of_ble_eq_true rfl), rfl, by decide, rfl, rpl_fast (by decide) rfl rfl, rfl⟩
  · exact ⟨we, rz, ((f_X6_needed_A ff).2), rr, tp, bx, bz, cg, bu, bv, cj, bY, fo, (me, tp.1, ma, rz), ((f_X7_needed_A zf).2), zs, zi, zv, zt, zr, zw, zn, rfl, ⟨⟨hx, hz, hc, hx3, hz3⟩, him, hu20, hv20, hj4, hY20, rfl, htp, rfl, hrz, hrow, pw.2⟩⟩

set_option maxHeartbeats 4000000 in
set_option maxRecDepth 100000 in
theorem b_leads (l : Launch) (G : wG) {A : Nat → Nat} {ws : va_W} (h : INV G A ws) (bo : Int32) (wo : Int32) : BTH l G A ws yX6_leads cX6_leads 3 yX7_leads cX7_leads 3 [.int bo, .int wo] := by
  obtain ⟨we, rz, ff, rr, tp, bx, bz, cg, bu, bv, cj, bY, fo, mm, zf, zs, zi, zv, zt, zr, zw, zn, rfl, hrel⟩ := h
  obtain ⟨me, mz, ma, mr⟩ := mm
  obtain ⟨hsh, him, hu20, hv20, hj4, hY20, hmz, htp, hmr, hrz, hrow, hff⟩ := hrel
  dsimp only at him hmz hmr
  subst hmz
  replace hmr := hmr.symm
  subst hmr
  obtain ⟨hx, hz, hc, hx3, hz3⟩ := hsh
  have hxn : bx.1 ≤ 20 := hx.2.1.1
  have hzn : bz.1 ≤ 20 := hz.2.1.1
  have hcn : cg.1 ≤ 4 := hc.1
  by_cases q0 : bo = 0
  · subst q0
    have pw := pw_leads hx hff wo
    refine ⟨(f_X6_leads_0 ff bx.1 bx.2.1 bx.2.2.2.1 wo).1, (LWL G A we rz ((f_X6_leads_0 ff bx.1 bx.2.1 bx.2.2.2.1 wo).2) rr tp bx bz cg bu bv cj bY fo (me, tp.1, ma, rz) zf zs zi zv zt zr zw zn), (LWL G A we rz ((f_X6_leads_0 ff bx.1 bx.2.1 bx.2.2.2.1 wo).2) rr tp bx bz cg bu bv cj bY fo (me, tp.1, ma, rz) ((f_X7_leads zf zs 0 bx.1 wo).2) zs zi zv zt zr zw zn), ?_, ⟨_, rfl⟩, ?_, ?_⟩
    · exact ⟨_, [0, 1, 5, 6, 7, 8, 9, 10, 11, 12, 13], _, _, CT.norm (k_X6_leads_0 l G (A 0) (A 5) (A 30) (A 3) (A 2) (A 1) (A 55) (A 63) we rz ff (A 14) (A 22) (A 6) (A 7) (A 8) (A 9) (A 10) (A 11) 20 bx.1 bx.2.1 bx.2.2.1 bx.2.2.2.1 bx.2.2.2.2.1 (A 12) (A 13) bx.2.2.2.2.2.1 bx.2.2.2.2.2.2.1 bx.2.2.2.2.2.2.2 wo hxn (Nat.le_refl 20)) rfl rfl, rfl, rfl, (Nat.le_of_ble_eq_true rfl), (Nat.le_of_ble_eq_true rfl), rfl, by decide, rfl, rpl_fast (by decide) rfl rfl, rfl⟩
    · exact ⟨_, [65, 66, 67], _, _, CT.norm (k_X7_leads l G (A 65) (A 66) (A 67) (A 68) (A 69) (A 70) (A 71) (A 72) (A 73) me tp.1 ma rz zf zs 0 bx.1 wo (by decide) hx.2.2.1 hxn (RB.nd hx) (RB.wd hx)) rfl (congrArg (fun z => some (Value.int z)) pw.1), rfl, rfl, (Nat.le_of_ble_eq_true rfl), (Nat.le_of_ble_eq_true rfl), rfl, by decide, rfl, rpl_fast (by decide) rfl rfl, rfl⟩
    · exact ⟨we, rz, ((f_X6_leads_0 ff bx.1 bx.2.1 bx.2.2.2.1 wo).2), rr, tp, bx, bz, cg, bu, bv, cj, bY, fo, (me, tp.1, ma, rz), ((f_X7_leads zf zs 0 bx.1 wo).2), zs, zi, zv, zt, zr, zw, zn, rfl, ⟨⟨hx, hz, hc, hx3, hz3⟩, him, hu20, hv20, hj4, hY20, rfl, htp, rfl, hrz, hrow, pw.2⟩⟩
  by_cases q1 : bo = 1
  · subst q1
    have pw := pw_leads hz hff wo
    refine ⟨(f_X6_leads_1 ff bz.1 bz.2.1 bz.2.2.2.1 wo).1, (LWL G A we rz ((f_X6_leads_1 ff bz.1 bz.2.1 bz.2.2.2.1 wo).2) rr tp bx bz cg bu bv cj bY fo (me, tp.1, ma, rz) zf zs zi zv zt zr zw zn), (LWL G A we rz ((f_X6_leads_1 ff bz.1 bz.2.1 bz.2.2.2.1 wo).2) rr tp bx bz cg bu bv cj bY fo (me, tp.1, ma, rz) ((f_X7_leads zf zs 1 bz.1 wo).2) zs zi zv zt zr zw zn), ?_, ⟨_, rfl⟩, ?_, ?_⟩
    · exact ⟨_, [0, 1, 5, 14, 15, 16, 17, 18, 19, 20, 21], _, _, CT.norm (k_X6_leads_1 l G (A 0) (A 5) (A 30) (A 3) (A 2) (A 1) (A 55) (A 63) we rz ff (A 6) (A 22) (A 14) (A 15) (A 16) (A 17) (A 18) (A 19) 20 bz.1 bz.2.1 bz.2.2.1 bz.2.2.2.1 bz.2.2.2.2.1 (A 20) (A 21) bz.2.2.2.2.2.1 bz.2.2.2.2.2.2.1 bz.2.2.2.2.2.2.2 wo hzn (Nat.le_refl 20)) rfl rfl, rfl, rfl, (Nat.le_of_ble_eq_true rfl), (Nat.le_of_ble_eq_true rfl), rfl, by decide, rfl, rpl_fast (by decide) rfl rfl, rfl⟩
    · exact ⟨_, [65, 66, 67], _, _, CT.norm (k_X7_leads l G (A 65) (A 66) (A 67) (A 68) (A 69) (A 70) (A 71) (A 72) (A 73) me tp.1 ma rz zf zs 1 bz.1 wo (by decide) hz.2.2.1 hzn (RB.nd hz) (RB.wd hz)) rfl (congrArg (fun z => some (Value.int z)) pw.1), rfl, rfl, (Nat.le_of_ble_eq_true rfl), (Nat.le_of_ble_eq_true rfl), rfl, by decide, rfl, rpl_fast (by decide) rfl rfl, rfl⟩
    · exact ⟨we, rz, ((f_X6_leads_1 ff bz.1 bz.2.1 bz.2.2.2.1 wo).2), rr, tp, bx, bz, cg, bu, bv, cj, bY, fo, (me, tp.1, ma, rz), ((f_X7_leads zf zs 1 bz.1 wo).2), zs, zi, zv, zt, zr, zw, zn, rfl, ⟨⟨hx, hz, hc, hx3, hz3⟩, him, hu20, hv20, hj4, hY20, rfl, htp, rfl, hrz, hrow, pw.2⟩⟩
  have hbad := bk_no q0 q1
  have pw := pw_r1 hff
  refine ⟨(f_X6_leads_A ff).1, (LWL G A we rz ((f_X6_leads_A ff).2) rr tp bx bz cg bu bv cj bY fo (me, tp.1, ma, rz) zf zs zi zv zt zr zw zn), (LWL G A we rz ((f_X6_leads_A ff).2) rr tp bx bz cg bu bv cj bY fo (me, tp.1, ma, rz) ((f_X7_leads_A zf).2) zs zi zv zt zr zw zn), ?_, ⟨_, rfl⟩, ?_, ?_⟩
  · exact ⟨_, [0, 1], _, _, CT.norm (k_X6_leads_A l G (A 0) (A 5) (A 30) (A 3) (A 2) (A 1) (A 55) (A 63) we rz ff bo wo hbad.1) rfl rfl, rfl, rfl, (Nat.le_of_ble_eq_true rfl), (Nat.le_of_ble_eq_true rfl), rfl, by decide, rfl, rpl_fast (by decide) rfl rfl, rfl⟩
  · exact ⟨_, [65, 66], _, _, CT.norm (k_X7_leads_A l G (A 65) (A 66) (A 67) (A 68) (A 69) (A 70) (A 71) (A 72) (A 73) me tp.1 ma rz zf bo wo hbad.2) rfl (congrArg (fun z => some (Value.int z)) pw.1), rfl, rfl, (Nat.le_of_ble_eq_true rfl), (Nat.le_of_ble_eq_true rfl), rfl, by decide, rfl, rpl_fast (by decide) rfl rfl, rfl⟩
  · exact ⟨we, rz, ((f_X6_leads_A ff).2), rr, tp, bx, bz, cg, bu, bv, cj, bY, fo, (me, tp.1, ma, rz), ((f_X7_leads_A zf).2), zs, zi, zv, zt, zr, zw, zn, rfl, ⟨⟨hx, hz, hc, hx3, hz3⟩, him, hu20, hv20, hj4, hY20, rfl, htp, rfl, hrz, hrow, pw.2⟩⟩

set_option maxHeartbeats 4000000 in
set_option maxRecDepth 100000 in
theorem b_knot (l : Launch) (G : wG) {A : Nat → Nat} {ws : va_W} (h : INV G A ws) (bo : Int32) (wo : Int32) : BTH l G A ws yX6_knot cX6_knot 3 yX7_knot cX7_knot 3 [.int bo, .int wo] := by
  obtain ⟨we, rz, ff, rr, tp, bx, bz, cg, bu, bv, cj, bY, fo, mm, zf, zs, zi, zv, zt, zr, zw, zn, rfl, hrel⟩ := h
  obtain ⟨me, mz, ma, mr⟩ := mm
  obtain ⟨hsh, him, hu20, hv20, hj4, hY20, hmz, htp, hmr, hrz, hrow, hff⟩ := hrel
  dsimp only at him hmz hmr
  subst hmz
  replace hmr := hmr.symm
  subst hmr
  obtain ⟨hx, hz, hc, hx3, hz3⟩ := hsh
  have hxn : bx.1 ≤ 20 := hx.2.1.1
  have hzn : bz.1 ≤ 20 := hz.2.1.1
  have hcn : cg.1 ≤ 4 := hc.1
  by_cases q0 : bo = 0
  · subst q0
    have pw := pw_knot hx hff wo
    refine ⟨(f_X6_knot_0 ff bx.1 bx.2.1 bx.2.2.2.1 wo).1, (LWL G A we rz ((f_X6_knot_0 ff bx.1 bx.2.1 bx.2.2.2.1 wo).2) rr tp bx bz cg bu bv cj bY fo (me, tp.1, ma, rz) zf zs zi zv zt zr zw zn), (LWL G A we rz ((f_X6_knot_0 ff bx.1 bx.2.1 bx.2.2.2.1 wo).2) rr tp bx bz cg bu bv cj bY fo (me, tp.1, ma, rz) ((f_X7_knot zf zs 0 bx.1 wo).2) zs zi zv zt zr zw zn), ?_, ⟨_, rfl⟩, ?_, ?_⟩
    · exact ⟨_, [0, 1, 5, 6, 7, 8, 9, 10, 11, 12, 13], _, _, CT.norm (k_X6_knot_0 l G (A 0) (A 5) (A 30) (A 3) (A 2) (A 1) (A 55) (A 63) we rz ff (A 14) (A 22) (A 6) (A 7) (A 8) (A 9) (A 10) (A 11) 20 bx.1 bx.2.1 bx.2.2.1 bx.2.2.2.1 bx.2.2.2.2.1 (A 12) (A 13) bx.2.2.2.2.2.1 bx.2.2.2.2.2.2.1 bx.2.2.2.2.2.2.2 wo hxn (Nat.le_refl 20)) rfl rfl, rfl, rfl, (Nat.le_of_ble_eq_true rfl), (Nat.le_of_ble_eq_true rfl), rfl, by decide, rfl, rpl_fast (by decide) rfl rfl, rfl⟩
    · exact ⟨_, [65, 66, 67], _, _, CT.norm (k_X7_knot l G (A 65) (A 66) (A 67) (A 68) (A 69) (A 70) (A 71) (A 72) (A 73) me tp.1 ma rz zf zs 0 bx.1 wo (by decide) hx.2.2.1 hxn (RB.nd hx) (RB.wd hx)) rfl (congrArg (fun z => some (Value.int z)) pw.1), rfl, rfl, (Nat.le_of_ble_eq_true rfl), (Nat.le_of_ble_eq_true rfl), rfl, by decide, rfl, rpl_fast (by decide) rfl rfl, rfl⟩
    · exact ⟨we, rz, ((f_X6_knot_0 ff bx.1 bx.2.1 bx.2.2.2.1 wo).2), rr, tp, bx, bz, cg, bu, bv, cj, bY, fo, (me, tp.1, ma, rz), ((f_X7_knot zf zs 0 bx.1 wo).2), zs, zi, zv, zt, zr, zw, zn, rfl, ⟨⟨hx, hz, hc, hx3, hz3⟩, him, hu20, hv20, hj4, hY20, rfl, htp, rfl, hrz, hrow, pw.2⟩⟩
  by_cases q1 : bo = 1
  · subst q1
    have pw := pw_knot hz hff wo
    refine ⟨(f_X6_knot_1 ff bz.1 bz.2.1 bz.2.2.2.1 wo).1, (LWL G A we rz ((f_X6_knot_1 ff bz.1 bz.2.1 bz.2.2.2.1 wo).2) rr tp bx bz cg bu bv cj bY fo (me, tp.1, ma, rz) zf zs zi zv zt zr zw zn), (LWL G A we rz ((f_X6_knot_1 ff bz.1 bz.2.1 bz.2.2.2.1 wo).2) rr tp bx bz cg bu bv cj bY fo (me, tp.1, ma, rz) ((f_X7_knot zf zs 1 bz.1 wo).2) zs zi zv zt zr zw zn), ?_, ⟨_, rfl⟩, ?_, ?_⟩
    · exact ⟨_, [0, 1, 5, 14, 15, 16, 17, 18, 19, 20, 21], _, _, CT.norm (k_X6_knot_1 l G (A 0) (A 5) (A 30) (A 3) (A 2) (A 1) (A 55) (A 63) we rz ff (A 6) (A 22) (A 14) (A 15) (A 16) (A 17) (A 18) (A 19) 20 bz.1 bz.2.1 bz.2.2.1 bz.2.2.2.1 bz.2.2.2.2.1 (A 20) (A 21) bz.2.2.2.2.2.1 bz.2.2.2.2.2.2.1 bz.2.2.2.2.2.2.2 wo hzn (Nat.le_refl 20)) rfl rfl, rfl, rfl, (Nat.le_of_ble_eq_true rfl), (Nat.le_of_ble_eq_true rfl), rfl, by decide, rfl, rpl_fast (by decide) rfl rfl, rfl⟩
    · exact ⟨_, [65, 66, 67], _, _, CT.norm (k_X7_knot l G (A 65) (A 66) (A 67) (A 68) (A 69) (A 70) (A 71) (A 72) (A 73) me tp.1 ma rz zf zs 1 bz.1 wo (by decide) hz.2.2.1 hzn (RB.nd hz) (RB.wd hz)) rfl (congrArg (fun z => some (Value.int z)) pw.1), rfl, rfl, (Nat.le_of_ble_eq_true rfl), (Nat.le_of_ble_eq_true rfl), rfl, by decide, rfl, rpl_fast (by decide) rfl rfl, rfl⟩
    · exact ⟨we, rz, ((f_X6_knot_1 ff bz.1 bz.2.1 bz.2.2.2.1 wo).2), rr, tp, bx, bz, cg, bu, bv, cj, bY, fo, (me, tp.1, ma, rz), ((f_X7_knot zf zs 1 bz.1 wo).2), zs, zi, zv, zt, zr, zw, zn, rfl, ⟨⟨hx, hz, hc, hx3, hz3⟩, him, hu20, hv20, hj4, hY20, rfl, htp, rfl, hrz, hrow, pw.2⟩⟩
  have hbad := bk_no q0 q1
  have pw := pw_r1 hff
  refine ⟨(f_X6_knot_A ff).1, (LWL G A we rz ((f_X6_knot_A ff).2) rr tp bx bz cg bu bv cj bY fo (me, tp.1, ma, rz) zf zs zi zv zt zr zw zn), (LWL G A we rz ((f_X6_knot_A ff).2) rr tp bx bz cg bu bv cj bY fo (me, tp.1, ma, rz) ((f_X7_knot_A zf).2) zs zi zv zt zr zw zn), ?_, ⟨_, rfl⟩, ?_, ?_⟩
  · exact ⟨_, [0, 1], _, _, CT.norm (k_X6_knot_A l G (A 0) (A 5) (A 30) (A 3) (A 2) (A 1) (A 55) (A 63) we rz ff bo wo hbad.1) rfl rfl, rfl, rfl, (Nat.le_of_ble_eq_true rfl), (Nat.le_of_ble_eq_true rfl), rfl, by decide, rfl, rpl_fast (by decide) rfl rfl, rfl⟩
  · exact ⟨_, [65, 66], _, _, CT.norm (k_X7_knot_A l G (A 65) (A 66) (A 67) (A 68) (A 69) (A 70) (A 71) (A 72) (A 73) me tp.1 ma rz zf bo wo hbad.2) rfl (congrArg (fun z => some (Value.int z)) pw.1), rfl, rfl, (Nat.le_of_ble_eq_true rfl), (Nat.le_of_ble_eq_true rfl), rfl, by decide, rfl, rpl_fast (by decide) rfl rfl, rfl⟩
  · exact ⟨we, rz, ((f_X6_knot_A ff).2), rr, tp, bx, bz, cg, bu, bv, cj, bY, fo, (me, tp.1, ma, rz), ((f_X7_knot_A zf).2), zs, zi, zv, zt, zr, zw, zn, rfl, ⟨⟨hx, hz, hc, hx3, hz3⟩, him, hu20, hv20, hj4, hY20, rfl, htp, rfl, hrz, hrow, pw.2⟩⟩

set_option maxHeartbeats 4000000 in
set_option maxRecDepth 100000 in
theorem b_idle (l : Launch) (G : wG) {A : Nat → Nat} {ws : va_W} (h : INV G A ws) (bo : Int32) : BTH l G A ws yX6_idle cX6_idle 2 yX7_idle cX7_idle 4 [.int bo] := by
  obtain ⟨we, rz, ff, rr, tp, bx, bz, cg, bu, bv, cj, bY, fo, mm, zf, zs, zi, zv, zt, zr, zw, zn, rfl, hrel⟩ := h
  obtain ⟨me, mz, ma, mr⟩ := mm
  obtain ⟨hsh, him, hu20, hv20, hj4, hY20, hmz, htp, hmr, hrz, hrow, hff⟩ := hrel
  dsimp only at him hmz hmr
  subst hmz
  replace hmr := hmr.symm
  subst hmr
  obtain ⟨hx, hz, hc, hx3, hz3⟩ := hsh
  have hxn : bx.1 ≤ 20 := hx.2.1.1
  have hzn : bz.1 ≤ 20 := hz.2.1.1
  have hcn : cg.1 ≤ 4 := hc.1
  by_cases q0 : bo = 0
  · subst q0
    have pw := pw_idle hx hff
    refine ⟨(f_X6_idle_0 ff bx.1 bx.2.2.2.1).1, (LWL G A we rz ((f_X6_idle_0 ff bx.1 bx.2.2.2.1).2) rr tp bx bz cg bu bv cj bY fo (me, tp.1, ma, rz) zf zs zi zv zt zr zw zn), (LWL G A we rz ((f_X6_idle_0 ff bx.1 bx.2.2.2.1).2) rr tp bx bz cg bu bv cj bY fo (me, tp.1, ma, rz) ((f_X7_idle zf zs 0 bx.1).2) zs zi zv zt zr zw zn), ?_, ⟨_, rfl⟩, ?_, ?_⟩
    · exact ⟨_, [0, 1, 5, 6, 7, 8, 9, 10, 11, 12, 13], _, _, CT.norm (k_X6_idle_0 l G (A 0) (A 5) (A 30) (A 3) (A 2) (A 1) (A 55) (A 63) we rz ff (A 14) (A 22) (A 6) (A 7) (A 8) (A 9) (A 10) (A 11) 20 bx.1 bx.2.1 bx.2.2.1 bx.2.2.2.1 bx.2.2.2.2.1 (A 12) (A 13) bx.2.2.2.2.2.1 bx.2.2.2.2.2.2.1 bx.2.2.2.2.2.2.2 hxn (Nat.le_refl 20)) rfl rfl, rfl, rfl, (Nat.le_of_ble_eq_true rfl), (Nat.le_of_ble_eq_true rfl), rfl, by decide, rfl, rpl_fast (by decide) rfl rfl, rfl⟩
    · exact ⟨_, [65, 66, 67], _, _, CT.norm (k_X7_idle l G (A 65) (A 66) (A 67) (A 68) (A 69) (A 70) (A 71) (A 72) (A 73) me tp.1 ma rz zf zs 0 bx.1 (by decide) hx.2.2.1 hxn (RB.nd hx) (RB.wd hx)) rfl (congrArg (fun z => some (Value.int z)) pw.1), rfl, rfl, (Nat.le_of_ble_eq_true rfl), (Nat.le_of_ble_eq_true rfl), rfl, by decide, rfl, rpl_fast (by decide) rfl rfl, rfl⟩
    · exact ⟨we, rz, ((f_X6_idle_0 ff bx.1 bx.2.2.2.1).2), rr, tp, bx, bz, cg, bu, bv, cj, bY, fo, (me, tp.1, ma, rz), ((f_X7_idle zf zs 0 bx.1).2), zs, zi, zv, zt, zr, zw, zn, rfl, ⟨⟨hx, hz, hc, hx3, hz3⟩, him, hu20, hv20, hj4, hY20, rfl, htp, rfl, hrz, hrow, pw.2⟩⟩
  by_cases q1 : bo = 1
  · subst q1
    have pw := pw_idle hz hff
    refine ⟨(f_X6_idle_1 ff bz.1 bz.2.2.2.1).1, (LWL G A we rz ((f_X6_idle_1 ff bz.1 bz.2.2.2.1).2) rr tp bx bz cg bu bv cj bY fo (me, tp.1, ma, rz) zf zs zi zv zt zr zw zn), (LWL G A we rz ((f_X6_idle_1 ff bz.1 bz.2.2.2.1).2) rr tp bx bz cg bu bv cj bY fo (me, tp.1, ma, rz) ((f_X7_idle zf zs 1 bz.1).2) zs zi zv zt zr zw zn), ?_, ⟨_, rfl⟩, ?_, ?_⟩
    · exact ⟨_, [0, 1, 5, 14, 15, 16, 17, 18, 19, 20, 21], _, _, CT.norm (k_X6_idle_1 l G (A 0) (A 5) (A 30) (A 3) (A 2) (A 1) (A 55) (A 63) we rz ff (A 6) (A 22) (A 14) (A 15) (A 16) (A 17) (A 18) (A 19) 20 bz.1 bz.2.1 bz.2.2.1 bz.2.2.2.1 bz.2.2.2.2.1 (A 20) (A 21) bz.2.2.2.2.2.1 bz.2.2.2.2.2.2.1 bz.2.2.2.2.2.2.2 hzn (Nat.le_refl 20)) rfl rfl, rfl, rfl, (Nat.le_of_ble_eq_true rfl), (Nat.le_of_ble_eq_true rfl), rfl, by decide, rfl, rpl_fast (by decide) rfl rfl, rfl⟩
    · exact ⟨_, [65, 66, 67], _, _, CT.norm (k_X7_idle l G (A 65) (A 66) (A 67) (A 68) (A 69) (A 70) (A 71) (A 72) (A 73) me tp.1 ma rz zf zs 1 bz.1 (by decide) hz.2.2.1 hzn (RB.nd hz) (RB.wd hz)) rfl (congrArg (fun z => some (Value.int z)) pw.1), rfl, rfl, (Nat.le_of_ble_eq_true rfl), (Nat.le_of_ble_eq_true rfl), rfl, by decide, rfl, rpl_fast (by decide) rfl rfl, rfl⟩
    · exact ⟨we, rz, ((f_X6_idle_1 ff bz.1 bz.2.2.2.1).2), rr, tp, bx, bz, cg, bu, bv, cj, bY, fo, (me, tp.1, ma, rz), ((f_X7_idle zf zs 1 bz.1).2), zs, zi, zv, zt, zr, zw, zn, rfl, ⟨⟨hx, hz, hc, hx3, hz3⟩, him, hu20, hv20, hj4, hY20, rfl, htp, rfl, hrz, hrow, pw.2⟩⟩
  have hbad := bk_no q0 q1
  have pw := pw_r1 hff
  refine ⟨(f_X6_idle_A ff).1, (LWL G A we rz ((f_X6_idle_A ff).2) rr tp bx bz cg bu bv cj bY fo (me, tp.1, ma, rz) zf zs zi zv zt zr zw zn), (LWL G A we rz ((f_X6_idle_A ff).2) rr tp bx bz cg bu bv cj bY fo (me, tp.1, ma, rz) ((f_X7_idle_A zf).2) zs zi zv zt zr zw zn), ?_, ⟨_, rfl⟩, ?_, ?_⟩
  · exact ⟨_, [0, 1], _, _, CT.norm (k_X6_idle_A l G (A 0) (A 5) (A 30) (A 3) (A 2) (A 1) (A 55) (A 63) we rz ff bo hbad.1) rfl rfl, rfl, rfl, (Nat.le_of_ble_eq_true rfl), (Nat.le_of_ble_eq_true rfl), rfl, by decide, rfl, rpl_fast (by decide) rfl rfl, rfl⟩
  · exact ⟨_, [65, 66], _, _, CT.norm (k_X7_idle_A l G (A 65) (A 66) (A 67) (A 68) (A 69) (A 70) (A 71) (A 72) (A 73) me tp.1 ma rz zf bo hbad.2) rfl (congrArg (fun z => some (Value.int z)) pw.1), rfl, rfl, (Nat.le_of_ble_eq_true rfl), (Nat.le_of_ble_eq_true rfl), rfl, by decide, rfl, rpl_fast (by decide) rfl rfl, rfl⟩
  · exact ⟨we, rz, ((f_X6_idle_A ff).2), rr, tp, bx, bz, cg, bu, bv, cj, bY, fo, (me, tp.1, ma, rz), ((f_X7_idle_A zf).2), zs, zi, zv, zt, zr, zw, zn, rfl, ⟨⟨hx, hz, hc, hx3, hz3⟩, him, hu20, hv20, hj4, hY20, rfl, htp, rfl, hrz, hrow, pw.2⟩⟩

set_option maxHeartbeats 4000000 in
set_option maxRecDepth 100000 in
theorem b_knots (l : Launch) (G : wG) {A : Nat → Nat} {ws : va_W} (h : INV G A ws) (bo : Int32) : BTH l G A ws yX6_knots cX6_knots 2 yX7_knots cX7_knots 5 [.int bo] := by
  obtain ⟨we, rz, ff, rr, tp, bx, bz, cg, bu, bv, cj, bY, fo, mm, zf, zs, zi, zv, zt, zr, zw, zn, rfl, hrel⟩ := h
  obtain ⟨me, mz, ma, mr⟩ := mm
  obtain ⟨hsh, him, hu20, hv20, hj4, hY20, hmz, htp, hmr, hrz, hrow, hff⟩ := hrel
  dsimp only at him hmz hmr
  subst hmz
  replace hmr := hmr.symm
  subst hmr
  obtain ⟨hx, hz, hc, hx3, hz3⟩ := hsh
  have hxn : bx.1 ≤ 20 := hx.2.1.1
  have hzn : bz.1 ≤ 20 := hz.2.1.1
  have hcn : cg.1 ≤ 4 := hc.1
  by_cases q0 : bo = 0
  · subst q0
    have pw := pw_knots hx hff
    refine ⟨(f_X6_knots_0 ff bx.1 bx.2.1 bx.2.2.2.1).1, (LWL G A we rz ((f_X6_knots_0 ff bx.1 bx.2.1 bx.2.2.2.1).2) rr tp bx bz cg bu bv cj bY fo (me, tp.1, ma, rz) zf zs zi zv zt zr zw zn), (LWL G A we rz ((f_X6_knots_0 ff bx.1 bx.2.1 bx.2.2.2.1).2) rr tp bx bz cg bu bv cj bY fo (me, tp.1, ma, rz) ((f_X7_knots zf zs 0 bx.1).2) zs zi zv zt zr zw zn), ?_, ⟨_, rfl⟩, ?_, ?_⟩
    · exact ⟨_, [0, 1, 5, 6, 7, 8, 9, 10, 11, 12, 13], _, _, CT.norm (k_X6_knots_0 l G (A 0) (A 5) (A 30) (A 3) (A 2) (A 1) (A 55) (A 63) we rz ff (A 14) (A 22) (A 6) (A 7) (A 8) (A 9) (A 10) (A 11) 20 bx.1 bx.2.1 bx.2.2.1 bx.2.2.2.1 bx.2.2.2.2.1 (A 12) (A 13) bx.2.2.2.2.2.1 bx.2.2.2.2.2.2.1 bx.2.2.2.2.2.2.2 hxn (Nat.le_refl 20)) rfl rfl, rfl, rfl, (Nat.le_of_ble_eq_true rfl), (Nat.le_of_ble_eq_true rfl), rfl, by decide, rfl, rpl_fast (by decide) rfl rfl, rfl⟩
    · exact ⟨_, [65, 66, 67], _, _, CT.norm (k_X7_knots l G (A 65) (A 66) (A 67) (A 68) (A 69) (A 70) (A 71) (A 72) (A 73) me tp.1 ma rz zf zs 0 bx.1 (by decide) hx.2.2.1 hxn (RB.nd hx) (RB.wd hx)) rfl (congrArg (fun z => some (Value.int z)) pw.1), rfl, rfl, (Nat.le_of_ble_eq_true rfl), (Nat.le_of_ble_eq_true rfl), rfl, by decide, rfl, rpl_fast (by decide) rfl rfl, rfl⟩
    · exact ⟨we, rz, ((f_X6_knots_0 ff bx.1 bx.2.1 bx.2.2.2.1).2), rr, tp, bx, bz, cg, bu, bv, cj, bY, fo, (me, tp.1, ma, rz), ((f_X7_knots zf zs 0 bx.1).2), zs, zi, zv, zt, zr, zw, zn, rfl, ⟨⟨hx, hz, hc, hx3, hz3⟩, him, hu20, hv20, hj4, hY20, rfl, htp, rfl, hrz, hrow, pw.2⟩⟩
  by_cases q1 : bo = 1
  · subst q1
    have pw := pw_knots hz hff
    refine ⟨(f_X6_knots_1 ff bz.1 bz.2.1 bz.2.2.2.1).1, (LWL G A we rz ((f_X6_knots_1 ff bz.1 bz.2.1 bz.2.2.2.1).2) rr tp bx bz cg bu bv cj bY fo (me, tp.1, ma, rz) zf zs zi zv zt zr zw zn), (LWL G A we rz ((f_X6_knots_1 ff bz.1 bz.2.1 bz.2.2.2.1).2) rr tp bx bz cg bu bv cj bY fo (me, tp.1, ma, rz) ((f_X7_knots zf zs 1 bz.1).2) zs zi zv zt zr zw zn), ?_, ⟨_, rfl⟩, ?_, ?_⟩
    · exact ⟨_, [0, 1, 5, 14, 15, 16, 17, 18, 19, 20, 21], _, _, CT.norm (k_X6_knots_1 l G (A 0) (A 5) (A 30) (A 3) (A 2) (A 1) (A 55) (A 63) we rz ff (A 6) (A 22) (A 14) (A 15) (A 16) (A 17) (A 18) (A 19) 20 bz.1 bz.2.1 bz.2.2.1 bz.2.2.2.1 bz.2.2.2.2.1 (A 20) (A 21) bz.2.2.2.2.2.1 bz.2.2.2.2.2.2.1 bz.2.2.2.2.2.2.2 hzn (Nat.le_refl 20)) rfl rfl, rfl, rfl, (Nat.le_of_ble_eq_true rfl), (Nat.le_of_ble_eq_true rfl), rfl, by decide, rfl, rpl_fast (by decide) rfl rfl, rfl⟩
    · exact ⟨_, [65, 66, 67], _, _, CT.norm (k_X7_knots l G (A 65) (A 66) (A 67) (A 68) (A 69) (A 70) (A 71) (A 72) (A 73) me tp.1 ma rz zf zs 1 bz.1 (by decide) hz.2.2.1 hzn (RB.nd hz) (RB.wd hz)) rfl (congrArg (fun z => some (Value.int z)) pw.1), rfl, rfl, (Nat.le_of_ble_eq_true rfl), (Nat.le_of_ble_eq_true rfl), rfl, by decide, rfl, rpl_fast (by decide) rfl rfl, rfl⟩
    · exact ⟨we, rz, ((f_X6_knots_1 ff bz.1 bz.2.1 bz.2.2.2.1).2), rr, tp, bx, bz, cg, bu, bv, cj, bY, fo, (me, tp.1, ma, rz), ((f_X7_knots zf zs 1 bz.1).2), zs, zi, zv, zt, zr, zw, zn, rfl, ⟨⟨hx, hz, hc, hx3, hz3⟩, him, hu20, hv20, hj4, hY20, rfl, htp, rfl, hrz, hrow, pw.2⟩⟩
  have hbad := bk_no q0 q1
  have pw := pw_r1 hff
  refine ⟨(f_X6_knots_A ff).1, (LWL G A we rz ((f_X6_knots_A ff).2) rr tp bx bz cg bu bv cj bY fo (me, tp.1, ma, rz) zf zs zi zv zt zr zw zn), (LWL G A we rz ((f_X6_knots_A ff).2) rr tp bx bz cg bu bv cj bY fo (me, tp.1, ma, rz) ((f_X7_knots_A zf).2) zs zi zv zt zr zw zn), ?_, ⟨_, rfl⟩, ?_, ?_⟩
  · exact ⟨_, [0, 1], _, _, CT.norm (k_X6_knots_A l G (A 0) (A 5) (A 30) (A 3) (A 2) (A 1) (A 55) (A 63) we rz ff bo hbad.1) rfl rfl, rfl, rfl, (Nat.le_of_ble_eq_true rfl), (Nat.le_of_ble_eq_true rfl), rfl, by decide, rfl, rpl_fast (by decide) rfl rfl, rfl⟩
  · exact ⟨_, [65, 66], _, _, CT.norm (k_X7_knots_A l G (A 65) (A 66) (A 67) (A 68) (A 69) (A 70) (A 71) (A 72) (A 73) me tp.1 ma rz zf bo hbad.2) rfl (congrArg (fun z => some (Value.int z)) pw.1), rfl, rfl, (Nat.le_of_ble_eq_true rfl), (Nat.le_of_ble_eq_true rfl), rfl, by decide, rfl, rpl_fast (by decide) rfl rfl, rfl⟩
  · exact ⟨we, rz, ((f_X6_knots_A ff).2), rr, tp, bx, bz, cg, bu, bv, cj, bY, fo, (me, tp.1, ma, rz), ((f_X7_knots_A zf).2), zs, zi, zv, zt, zr, zw, zn, rfl, ⟨⟨hx, hz, hc, hx3, hz3⟩, him, hu20, hv20, hj4, hY20, rfl, htp, rfl, hrz, hrow, pw.2⟩⟩

set_option maxHeartbeats 4000000 in
set_option maxRecDepth 100000 in
theorem b_learnt (l : Launch) (G : wG) {A : Nat → Nat} {ws : va_W} (h : INV G A ws) (bo : Int32) (kn : Int32) : BTH l G A ws yX6_learnt cX6_learnt 3 yX7_learnt cX7_learnt 3 [.int bo, .int kn] := by
  obtain ⟨we, rz, ff, rr, tp, bx, bz, cg, bu, bv, cj, bY, fo, mm, zf, zs, zi, zv, zt, zr, zw, zn, rfl, hrel⟩ := h
  obtain ⟨me, mz, ma, mr⟩ := mm
  obtain ⟨hsh, him, hu20, hv20, hj4, hY20, hmz, htp, hmr, hrz, hrow, hff⟩ := hrel
  dsimp only at him hmz hmr
  subst hmz
  replace hmr := hmr.symm
  subst hmr
  obtain ⟨hx, hz, hc, hx3, hz3⟩ := hsh
  have hxn : bx.1 ≤ 20 := hx.2.1.1
  have hzn : bz.1 ≤ 20 := hz.2.1.1
  have hcn : cg.1 ≤ 4 := hc.1
  by_cases q0 : bo = 0
  · subst q0
    have pw := pw_learnt hx hff kn
    refine ⟨(f_X6_learnt_0 ff bx.1 bx.2.1 bx.2.2.1 bx.2.2.2.1 bx.2.2.2.2.1 bx.2.2.2.2.2.1 kn).1, (LWL G A we rz ((f_X6_learnt_0 ff bx.1 bx.2.1 bx.2.2.1 bx.2.2.2.1 bx.2.2.2.2.1 bx.2.2.2.2.2.1 kn).2) rr tp bx bz cg bu bv cj bY fo (me, tp.1, ma, rz) zf zs zi zv zt zr zw zn), (LWL G A we rz ((f_X6_learnt_0 ff bx.1 bx.2.1 bx.2.2.1 bx.2.2.2.1 bx.2.2.2.2.1 bx.2.2.2.2.2.1 kn).2) rr tp bx bz cg bu bv cj bY fo (me, tp.1, ma, rz) ((f_X7_learnt zf zs 0 bx.1 kn).2) zs zi zv zt zr zw zn), ?_, ⟨_, rfl⟩, ?_, ?_⟩
    · exact ⟨_, [0, 1, 5, 6, 7, 8, 9, 10, 11, 12, 13], _, _, CT.norm (k_X6_learnt_0 l G (A 0) (A 5) (A 30) (A 3) (A 2) (A 1) (A 55) (A 63) we rz ff (A 14) (A 22) (A 6) (A 7) (A 8) (A 9) (A 10) (A 11) 20 bx.1 bx.2.1 bx.2.2.1 bx.2.2.2.1 bx.2.2.2.2.1 (A 12) (A 13) bx.2.2.2.2.2.1 bx.2.2.2.2.2.2.1 bx.2.2.2.2.2.2.2 kn hxn (Nat.le_refl 20)) rfl rfl, rfl, rfl, (Nat.le_of_ble_eq_true rfl), (Nat.le_of_ble_eq_true rfl), rfl, by decide, rfl, rpl_fast (by decide) rfl rfl, rfl⟩
    · exact ⟨_, [65, 66, 67], _, _, CT.norm (k_X7_learnt l G (A 65) (A 66) (A 67) (A 68) (A 69) (A 70) (A 71) (A 72) (A 73) me tp.1 ma rz zf zs 0 bx.1 kn (by decide) hx.2.2.1 hxn (RB.nd hx) (RB.wd hx)) rfl (congrArg (fun z => some (Value.int z)) pw.1), rfl, rfl, (Nat.le_of_ble_eq_true rfl), (Nat.le_of_ble_eq_true rfl), rfl, by decide, rfl, rpl_fast (by decide) rfl rfl, rfl⟩
    · exact ⟨we, rz, ((f_X6_learnt_0 ff bx.1 bx.2.1 bx.2.2.1 bx.2.2.2.1 bx.2.2.2.2.1 bx.2.2.2.2.2.1 kn).2), rr, tp, bx, bz, cg, bu, bv, cj, bY, fo, (me, tp.1, ma, rz), ((f_X7_learnt zf zs 0 bx.1 kn).2), zs, zi, zv, zt, zr, zw, zn, rfl, ⟨⟨hx, hz, hc, hx3, hz3⟩, him, hu20, hv20, hj4, hY20, rfl, htp, rfl, hrz, hrow, pw.2⟩⟩
  by_cases q1 : bo = 1
  · subst q1
    have pw := pw_learnt hz hff kn
    refine ⟨(f_X6_learnt_1 ff bz.1 bz.2.1 bz.2.2.1 bz.2.2.2.1 bz.2.2.2.2.1 bz.2.2.2.2.2.1 kn).1, (LWL G A we rz ((f_X6_learnt_1 ff bz.1 bz.2.1 bz.2.2.1 bz.2.2.2.1 bz.2.2.2.2.1 bz.2.2.2.2.2.1 kn).2) rr tp bx bz cg bu bv cj bY fo (me, tp.1, ma, rz) zf zs zi zv zt zr zw zn), (LWL G A we rz ((f_X6_learnt_1 ff bz.1 bz.2.1 bz.2.2.1 bz.2.2.2.1 bz.2.2.2.2.1 bz.2.2.2.2.2.1 kn).2) rr tp bx bz cg bu bv cj bY fo (me, tp.1, ma, rz) ((f_X7_learnt zf zs 1 bz.1 kn).2) zs zi zv zt zr zw zn), ?_, ⟨_, rfl⟩, ?_, ?_⟩
    · exact ⟨_, [0, 1, 5, 14, 15, 16, 17, 18, 19, 20, 21], _, _, CT.norm (k_X6_learnt_1 l G (A 0) (A 5) (A 30) (A 3) (A 2) (A 1) (A 55) (A 63) we rz ff (A 6) (A 22) (A 14) (A 15) (A 16) (A 17) (A 18) (A 19) 20 bz.1 bz.2.1 bz.2.2.1 bz.2.2.2.1 bz.2.2.2.2.1 (A 20) (A 21) bz.2.2.2.2.2.1 bz.2.2.2.2.2.2.1 bz.2.2.2.2.2.2.2 kn hzn (Nat.le_refl 20)) rfl rfl, rfl, rfl, (Nat.le_of_ble_eq_true rfl), (Nat.le_of_ble_eq_true rfl), rfl, by decide, rfl, rpl_fast (by decide) rfl rfl, rfl⟩
    · exact ⟨_, [65, 66, 67], _, _, CT.norm (k_X7_learnt l G (A 65) (A 66) (A 67) (A 68) (A 69) (A 70) (A 71) (A 72) (A 73) me tp.1 ma rz zf zs 1 bz.1 kn (by decide) hz.2.2.1 hzn (RB.nd hz) (RB.wd hz)) rfl (congrArg (fun z => some (Value.int z)) pw.1), rfl, rfl, (Nat.le_of_ble_eq_true rfl), (Nat.le_of_ble_eq_true rfl), rfl, by decide, rfl, rpl_fast (by decide) rfl rfl, rfl⟩
    · exact ⟨we, rz, ((f_X6_learnt_1 ff bz.1 bz.2.1 bz.2.2.1 bz.2.2.2.1 bz.2.2.2.2.1 bz.2.2.2.2.2.1 kn).2), rr, tp, bx, bz, cg, bu, bv, cj, bY, fo, (me, tp.1, ma, rz), ((f_X7_learnt zf zs 1 bz.1 kn).2), zs, zi, zv, zt, zr, zw, zn, rfl, ⟨⟨hx, hz, hc, hx3, hz3⟩, him, hu20, hv20, hj4, hY20, rfl, htp, rfl, hrz, hrow, pw.2⟩⟩
  have hbad := bk_no q0 q1
  have pw := pw_r1 hff
  refine ⟨(f_X6_learnt_A ff).1, (LWL G A we rz ((f_X6_learnt_A ff).2) rr tp bx bz cg bu bv cj bY fo (me, tp.1, ma, rz) zf zs zi zv zt zr zw zn), (LWL G A we rz ((f_X6_learnt_A ff).2) rr tp bx bz cg bu bv cj bY fo (me, tp.1, ma, rz) ((f_X7_learnt_A zf).2) zs zi zv zt zr zw zn), ?_, ⟨_, rfl⟩, ?_, ?_⟩
  · exact ⟨_, [0, 1], _, _, CT.norm (k_X6_learnt_A l G (A 0) (A 5) (A 30) (A 3) (A 2) (A 1) (A 55) (A 63) we rz ff bo kn hbad.1) rfl rfl, rfl, rfl, (Nat.le_of_ble_eq_true rfl), (Nat.le_of_ble_eq_true rfl), rfl, by decide, rfl, rpl_fast (by decide) rfl rfl, rfl⟩
  · exact ⟨_, [65, 66], _, _, CT.norm (k_X7_learnt_A l G (A 65) (A 66) (A 67) (A 68) (A 69) (A 70) (A 71) (A 72) (A 73) me tp.1 ma rz zf bo kn hbad.2) rfl (congrArg (fun z => some (Value.int z)) pw.1), rfl, rfl, (Nat.le_of_ble_eq_true rfl), (Nat.le_of_ble_eq_true rfl), rfl, by decide, rfl, rpl_fast (by decide) rfl rfl, rfl⟩
  · exact ⟨we, rz, ((f_X6_learnt_A ff).2), rr, tp, bx, bz, cg, bu, bv, cj, bY, fo, (me, tp.1, ma, rz), ((f_X7_learnt_A zf).2), zs, zi, zv, zt, zr, zw, zn, rfl, ⟨⟨hx, hz, hc, hx3, hz3⟩, him, hu20, hv20, hj4, hY20, rfl, htp, rfl, hrz, hrow, pw.2⟩⟩

set_option maxHeartbeats 4000000 in
set_option maxRecDepth 100000 in
theorem b_depth (l : Launch) (G : wG) {A : Nat → Nat} {ws : va_W} (h : INV G A ws) (bo : Int32) (kn : Int32) (wo : Int32) : BTH l G A ws yX6_depth cX6_depth 4 yX7_depth cX7_depth 6 [.int bo, .int kn, .int wo] := by
  obtain ⟨we, rz, ff, rr, tp, bx, bz, cg, bu, bv, cj, bY, fo, mm, zf, zs, zi, zv, zt, zr, zw, zn, rfl, hrel⟩ := h
  obtain ⟨me, mz, ma, mr⟩ := mm
  obtain ⟨hsh, him, hu20, hv20, hj4, hY20, hmz, htp, hmr, hrz, hrow, hff⟩ := hrel
  dsimp only at him hmz hmr
  subst hmz
  replace hmr := hmr.symm
  subst hmr
  obtain ⟨hx, hz, hc, hx3, hz3⟩ := hsh
  have hxn : bx.1 ≤ 20 := hx.2.1.1
  have hzn : bz.1 ≤ 20 := hz.2.1.1
  have hcn : cg.1 ≤ 4 := hc.1
  by_cases q0 : bo = 0
  · subst q0
    have pw := pw_depth hx hff kn wo
    refine ⟨(f_X6_depth_0 ff bx.1 bx.2.1 bx.2.2.1 bx.2.2.2.1 bx.2.2.2.2.1 bx.2.2.2.2.2.1 kn wo).1, (LWL G A we rz ((f_X6_depth_0 ff bx.1 bx.2.1 bx.2.2.1 bx.2.2.2.1 bx.2.2.2.2.1 bx.2.2.2.2.2.1 kn wo).2) rr tp bx bz cg bu bv cj bY fo (me, tp.1, ma, rz) zf zs zi zv zt zr zw zn), (LWL G A we rz ((f_X6_depth_0 ff bx.1 bx.2.1 bx.2.2.1 bx.2.2.2.1 bx.2.2.2.2.1 bx.2.2.2.2.2.1 kn wo).2) rr tp bx bz cg bu bv cj bY fo (me, tp.1, ma, rz) ((f_X7_depth zf zs 0 bx.1 kn wo).2) zs zi zv zt zr zw zn), ?_, ⟨_, rfl⟩, ?_, ?_⟩
    · exact ⟨_, [0, 1, 5, 6, 7, 8, 9, 10, 11, 12, 13], _, _, CT.norm (k_X6_depth_0 l G (A 0) (A 5) (A 30) (A 3) (A 2) (A 1) (A 55) (A 63) we rz ff (A 14) (A 22) (A 6) (A 7) (A 8) (A 9) (A 10) (A 11) 20 bx.1 bx.2.1 bx.2.2.1 bx.2.2.2.1 bx.2.2.2.2.1 (A 12) (A 13) bx.2.2.2.2.2.1 bx.2.2.2.2.2.2.1 bx.2.2.2.2.2.2.2 kn wo hxn (Nat.le_refl 20)) rfl rfl, rfl, rfl, (Nat.le_of_ble_eq_true rfl), (Nat.le_of_ble_eq_true rfl), rfl, by decide, rfl, rpl_fast (by decide) rfl rfl, rfl⟩
    · exact ⟨_, [65, 66, 67], _, _, CT.norm (k_X7_depth l G (A 65) (A 66) (A 67) (A 68) (A 69) (A 70) (A 71) (A 72) (A 73) me tp.1 ma rz zf zs 0 bx.1 kn wo (by decide) hx.2.2.1 hxn (RB.nd hx) (RB.wd hx)) rfl (congrArg (fun z => some (Value.int z)) pw.1), rfl, rfl, (Nat.le_of_ble_eq_true rfl), (Nat.le_of_ble_eq_true rfl), rfl, by decide, rfl, rpl_fast (by decide) rfl rfl, rfl⟩
    · exact ⟨we, rz, ((f_X6_depth_0 ff bx.1 bx.2.1 bx.2.2.1 bx.2.2.2.1 bx.2.2.2.2.1 bx.2.2.2.2.2.1 kn wo).2), rr, tp, bx, bz, cg, bu, bv, cj, bY, fo, (me, tp.1, ma, rz), ((f_X7_depth zf zs 0 bx.1 kn wo).2), zs, zi, zv, zt, zr, zw, zn, rfl, ⟨⟨hx, hz, hc, hx3, hz3⟩, him, hu20, hv20, hj4, hY20, rfl, htp, rfl, hrz, hrow, pw.2⟩⟩
  by_cases q1 : bo = 1
  · subst q1
    have pw := pw_depth hz hff kn wo
    refine ⟨(f_X6_depth_1 ff bz.1 bz.2.1 bz.2.2.1 bz.2.2.2.1 bz.2.2.2.2.1 bz.2.2.2.2.2.1 kn wo).1, (LWL G A we rz ((f_X6_depth_1 ff bz.1 bz.2.1 bz.2.2.1 bz.2.2.2.1 bz.2.2.2.2.1 bz.2.2.2.2.2.1 kn wo).2) rr tp bx bz cg bu bv cj bY fo (me, tp.1, ma, rz) zf zs zi zv zt zr zw zn), (LWL G A we rz ((f_X6_depth_1 ff bz.1 bz.2.1 bz.2.2.1 bz.2.2.2.1 bz.2.2.2.2.1 bz.2.2.2.2.2.1 kn wo).2) rr tp bx bz cg bu bv cj bY fo (me, tp.1, ma, rz) ((f_X7_depth zf zs 1 bz.1 kn wo).2) zs zi zv zt zr zw zn), ?_, ⟨_, rfl⟩, ?_, ?_⟩
    · exact ⟨_, [0, 1, 5, 14, 15, 16, 17, 18, 19, 20, 21], _, _, CT.norm (k_X6_depth_1 l G (A 0) (A 5) (A 30) (A 3) (A 2) (A 1) (A 55) (A 63) we rz ff (A 6) (A 22) (A 14) (A 15) (A 16) (A 17) (A 18) (A 19) 20 bz.1 bz.2.1 bz.2.2.1 bz.2.2.2.1 bz.2.2.2.2.1 (A 20) (A 21) bz.2.2.2.2.2.1 bz.2.2.2.2.2.2.1 bz.2.2.2.2.2.2.2 kn wo hzn (Nat.le_refl 20)) rfl rfl, rfl, rfl, (Nat.le_of_ble_eq_true rfl), (Nat.le_of_ble_eq_true rfl), rfl, by decide, rfl, rpl_fast (by decide) rfl rfl, rfl⟩
    · exact ⟨_, [65, 66, 67], _, _, CT.norm (k_X7_depth l G (A 65) (A 66) (A 67) (A 68) (A 69) (A 70) (A 71) (A 72) (A 73) me tp.1 ma rz zf zs 1 bz.1 kn wo (by decide) hz.2.2.1 hzn (RB.nd hz) (RB.wd hz)) rfl (congrArg (fun z => some (Value.int z)) pw.1), rfl, rfl, (Nat.le_of_ble_eq_true rfl), (Nat.le_of_ble_eq_true rfl), rfl, by decide, rfl, rpl_fast (by decide) rfl rfl, rfl⟩
    · exact ⟨we, rz, ((f_X6_depth_1 ff bz.1 bz.2.1 bz.2.2.1 bz.2.2.2.1 bz.2.2.2.2.1 bz.2.2.2.2.2.1 kn wo).2), rr, tp, bx, bz, cg, bu, bv, cj, bY, fo, (me, tp.1, ma, rz), ((f_X7_depth zf zs 1 bz.1 kn wo).2), zs, zi, zv, zt, zr, zw, zn, rfl, ⟨⟨hx, hz, hc, hx3, hz3⟩, him, hu20, hv20, hj4, hY20, rfl, htp, rfl, hrz, hrow, pw.2⟩⟩
  have hbad := bk_no q0 q1
  have pw := pw_r1 hff
  refine ⟨(f_X6_depth_A ff).1, (LWL G A we rz ((f_X6_depth_A ff).2) rr tp bx bz cg bu bv cj bY fo (me, tp.1, ma, rz) zf zs zi zv zt zr zw zn), (LWL G A we rz ((f_X6_depth_A ff).2) rr tp bx bz cg bu bv cj bY fo (me, tp.1, ma, rz) ((f_X7_depth_A zf).2) zs zi zv zt zr zw zn), ?_, ⟨_, rfl⟩, ?_, ?_⟩
  · exact ⟨_, [0, 1], _, _, CT.norm (k_X6_depth_A l G (A 0) (A 5) (A 30) (A 3) (A 2) (A 1) (A 55) (A 63) we rz ff bo kn wo hbad.1) rfl rfl, rfl, rfl, (Nat.le_of_ble_eq_true rfl), (Nat.le_of_ble_eq_true rfl), rfl, by decide, rfl, rpl_fast (by decide) rfl rfl, rfl⟩
  · exact ⟨_, [65, 66], _, _, CT.norm (k_X7_depth_A l G (A 65) (A 66) (A 67) (A 68) (A 69) (A 70) (A 71) (A 72) (A 73) me tp.1 ma rz zf bo kn wo hbad.2) rfl (congrArg (fun z => some (Value.int z)) pw.1), rfl, rfl, (Nat.le_of_ble_eq_true rfl), (Nat.le_of_ble_eq_true rfl), rfl, by decide, rfl, rpl_fast (by decide) rfl rfl, rfl⟩
  · exact ⟨we, rz, ((f_X6_depth_A ff).2), rr, tp, bx, bz, cg, bu, bv, cj, bY, fo, (me, tp.1, ma, rz), ((f_X7_depth_A zf).2), zs, zi, zv, zt, zr, zw, zn, rfl, ⟨⟨hx, hz, hc, hx3, hz3⟩, him, hu20, hv20, hj4, hY20, rfl, htp, rfl, hrz, hrow, pw.2⟩⟩

set_option maxHeartbeats 4000000 in
set_option maxRecDepth 100000 in
theorem b_spread (l : Launch) (G : wG) {A : Nat → Nat} {ws : va_W} (h : INV G A ws) (bo : Int32) (kn : Int32) (wo : Int32) : BTH l G A ws yX6_spread cX6_spread 4 yX7_spread cX7_spread 5 [.int bo, .int kn, .int wo] := by
  obtain ⟨we, rz, ff, rr, tp, bx, bz, cg, bu, bv, cj, bY, fo, mm, zf, zs, zi, zv, zt, zr, zw, zn, rfl, hrel⟩ := h
  obtain ⟨me, mz, ma, mr⟩ := mm
  obtain ⟨hsh, him, hu20, hv20, hj4, hY20, hmz, htp, hmr, hrz, hrow, hff⟩ := hrel
  dsimp only at him hmz hmr
  subst hmz
  replace hmr := hmr.symm
  subst hmr
  obtain ⟨hx, hz, hc, hx3, hz3⟩ := hsh
  have hxn : bx.1 ≤ 20 := hx.2.1.1
  have hzn : bz.1 ≤ 20 := hz.2.1.1
  have hcn : cg.1 ≤ 4 := hc.1
  by_cases q0 : bo = 0
  · subst q0
    have pw := pw_spread hx hff kn wo
    refine ⟨(f_X6_spread_0 ff bx.1 bx.2.1 bx.2.2.1 bx.2.2.2.1 bx.2.2.2.2.1 bx.2.2.2.2.2.1 kn wo).1, (LWL G A we rz ((f_X6_spread_0 ff bx.1 bx.2.1 bx.2.2.1 bx.2.2.2.1 bx.2.2.2.2.1 bx.2.2.2.2.2.1 kn wo).2) rr tp bx bz cg bu bv cj bY fo (me, tp.1, ma, rz) zf zs zi zv zt zr zw zn), (LWL G A we rz ((f_X6_spread_0 ff bx.1 bx.2.1 bx.2.2.1 bx.2.2.2.1 bx.2.2.2.2.1 bx.2.2.2.2.2.1 kn wo).2) rr tp bx bz cg bu bv cj bY fo (me, tp.1, ma, rz) ((f_X7_spread zf zs 0 bx.1 kn wo).2) zs zi zv zt zr zw zn), ?_, ⟨_, rfl⟩, ?_, ?_⟩
    · exact ⟨_, [0, 1, 5, 6, 7, 8, 9, 10, 11, 12, 13], _, _, CT.norm (k_X6_spread_0 l G (A 0) (A 5) (A 30) (A 3) (A 2) (A 1) (A 55) (A 63) we rz ff (A 14) (A 22) (A 6) (A 7) (A 8) (A 9) (A 10) (A 11) 20 bx.1 bx.2.1 bx.2.2.1 bx.2.2.2.1 bx.2.2.2.2.1 (A 12) (A 13) bx.2.2.2.2.2.1 bx.2.2.2.2.2.2.1 bx.2.2.2.2.2.2.2 kn wo hxn (Nat.le_refl 20)) rfl rfl, rfl, rfl, (Nat.le_of_ble_eq_true rfl), (Nat.le_of_ble_eq_true rfl), rfl, by decide, rfl, rpl_fast (by decide) rfl rfl, rfl⟩
    · exact ⟨_, [65, 66, 67], _, _, CT.norm (k_X7_spread l G (A 65) (A 66) (A 67) (A 68) (A 69) (A 70) (A 71) (A 72) (A 73) me tp.1 ma rz zf zs 0 bx.1 kn wo (by decide) hx.2.2.1 hxn (RB.nd hx) (RB.wd hx)) rfl (congrArg (fun z => some (Value.int z)) pw.1), rfl, rfl, (Nat.le_of_ble_eq_true rfl), (Nat.le_of_ble_eq_true rfl), rfl, by decide, rfl, rpl_fast (by decide) rfl rfl, rfl⟩
    · exact ⟨we, rz, ((f_X6_spread_0 ff bx.1 bx.2.1 bx.2.2.1 bx.2.2.2.1 bx.2.2.2.2.1 bx.2.2.2.2.2.1 kn wo).2), rr, tp, bx, bz, cg, bu, bv, cj, bY, fo, (me, tp.1, ma, rz), ((f_X7_spread zf zs 0 bx.1 kn wo).2), zs, zi, zv, zt, zr, zw, zn, rfl, ⟨⟨hx, hz, hc, hx3, hz3⟩, him, hu20, hv20, hj4, hY20, rfl, htp, rfl, hrz, hrow, pw.2⟩⟩
  by_cases q1 : bo = 1
  · subst q1
    have pw := pw_spread hz hff kn wo
    refine ⟨(f_X6_spread_1 ff bz.1 bz.2.1 bz.2.2.1 bz.2.2.2.1 bz.2.2.2.2.1 bz.2.2.2.2.2.1 kn wo).1, (LWL G A we rz ((f_X6_spread_1 ff bz.1 bz.2.1 bz.2.2.1 bz.2.2.2.1 bz.2.2.2.2.1 bz.2.2.2.2.2.1 kn wo).2) rr tp bx bz cg bu bv cj bY fo (me, tp.1, ma, rz) zf zs zi zv zt zr zw zn), (LWL G A we rz ((f_X6_spread_1 ff bz.1 bz.2.1 bz.2.2.1 bz.2.2.2.1 bz.2.2.2.2.1 bz.2.2.2.2.2.1 kn wo).2) rr tp bx bz cg bu bv cj bY fo (me, tp.1, ma, rz) ((f_X7_spread zf zs 1 bz.1 kn wo).2) zs zi zv zt zr zw zn), ?_, ⟨_, rfl⟩, ?_, ?_⟩
    · exact ⟨_, [0, 1, 5, 14, 15, 16, 17, 18, 19, 20, 21], _, _, CT.norm (k_X6_spread_1 l G (A 0) (A 5) (A 30) (A 3) (A 2) (A 1) (A 55) (A 63) we rz ff (A 6) (A 22) (A 14) (A 15) (A 16) (A 17) (A 18) (A 19) 20 bz.1 bz.2.1 bz.2.2.1 bz.2.2.2.1 bz.2.2.2.2.1 (A 20) (A 21) bz.2.2.2.2.2.1 bz.2.2.2.2.2.2.1 bz.2.2.2.2.2.2.2 kn wo hzn (Nat.le_refl 20)) rfl rfl, rfl, rfl, (Nat.le_of_ble_eq_true rfl), (Nat.le_of_ble_eq_true rfl), rfl, by decide, rfl, rpl_fast (by decide) rfl rfl, rfl⟩
    · exact ⟨_, [65, 66, 67], _, _, CT.norm (k_X7_spread l G (A 65) (A 66) (A 67) (A 68) (A 69) (A 70) (A 71) (A 72) (A 73) me tp.1 ma rz zf zs 1 bz.1 kn wo (by decide) hz.2.2.1 hzn (RB.nd hz) (RB.wd hz)) rfl (congrArg (fun z => some (Value.int z)) pw.1), rfl, rfl, (Nat.le_of_ble_eq_true rfl), (Nat.le_of_ble_eq_true rfl), rfl, by decide, rfl, rpl_fast (by decide) rfl rfl, rfl⟩
    · exact ⟨we, rz, ((f_X6_spread_1 ff bz.1 bz.2.1 bz.2.2.1 bz.2.2.2.1 bz.2.2.2.2.1 bz.2.2.2.2.2.1 kn wo).2), rr, tp, bx, bz, cg, bu, bv, cj, bY, fo, (me, tp.1, ma, rz), ((f_X7_spread zf zs 1 bz.1 kn wo).2), zs, zi, zv, zt, zr, zw, zn, rfl, ⟨⟨hx, hz, hc, hx3, hz3⟩, him, hu20, hv20, hj4, hY20, rfl, htp, rfl, hrz, hrow, pw.2⟩⟩
  have hbad := bk_no q0 q1
  have pw := pw_r1 hff
  refine ⟨(f_X6_spread_A ff).1, (LWL G A we rz ((f_X6_spread_A ff).2) rr tp bx bz cg bu bv cj bY fo (me, tp.1, ma, rz) zf zs zi zv zt zr zw zn), (LWL G A we rz ((f_X6_spread_A ff).2) rr tp bx bz cg bu bv cj bY fo (me, tp.1, ma, rz) ((f_X7_spread_A zf).2) zs zi zv zt zr zw zn), ?_, ⟨_, rfl⟩, ?_, ?_⟩
  · exact ⟨_, [0, 1], _, _, CT.norm (k_X6_spread_A l G (A 0) (A 5) (A 30) (A 3) (A 2) (A 1) (A 55) (A 63) we rz ff bo kn wo hbad.1) rfl rfl, rfl, rfl, (Nat.le_of_ble_eq_true rfl), (Nat.le_of_ble_eq_true rfl), rfl, by decide, rfl, rpl_fast (by decide) rfl rfl, rfl⟩
  · exact ⟨_, [65, 66], _, _, CT.norm (k_X7_spread_A l G (A 65) (A 66) (A 67) (A 68) (A 69) (A 70) (A 71) (A 72) (A 73) me tp.1 ma rz zf bo kn wo hbad.2) rfl (congrArg (fun z => some (Value.int z)) pw.1), rfl, rfl, (Nat.le_of_ble_eq_true rfl), (Nat.le_of_ble_eq_true rfl), rfl, by decide, rfl, rpl_fast (by decide) rfl rfl, rfl⟩
  · exact ⟨we, rz, ((f_X6_spread_A ff).2), rr, tp, bx, bz, cg, bu, bv, cj, bY, fo, (me, tp.1, ma, rz), ((f_X7_spread_A zf).2), zs, zi, zv, zt, zr, zw, zn, rfl, ⟨⟨hx, hz, hc, hx3, hz3⟩, him, hu20, hv20, hj4, hY20, rfl, htp, rfl, hrz, hrow, pw.2⟩⟩

set_option maxHeartbeats 4000000 in
set_option maxRecDepth 100000 in
theorem b_shows (l : Launch) (G : wG) {A : Nat → Nat} {ws : va_W} (h : INV G A ws) (bo : Int32) (kn : Int32) (wo : Int32) : BTH l G A ws yX6_shows cX6_shows 5 yX7_shows cX7_shows 8 [.int bo, .int kn, .int wo] := by
  obtain ⟨we, rz, ff, rr, tp, bx, bz, cg, bu, bv, cj, bY, fo, mm, zf, zs, zi, zv, zt, zr, zw, zn, rfl, hrel⟩ := h
  obtain ⟨me, mz, ma, mr⟩ := mm
  obtain ⟨hsh, him, hu20, hv20, hj4, hY20, hmz, htp, hmr, hrz, hrow, hff⟩ := hrel
  dsimp only at him hmz hmr
  subst hmz
  replace hmr := hmr.symm
  subst hmr
  obtain ⟨hx, hz, hc, hx3, hz3⟩ := hsh
  have hxn : bx.1 ≤ 20 := hx.2.1.1
  have hzn : bz.1 ≤ 20 := hz.2.1.1
  have hcn : cg.1 ≤ 4 := hc.1
  by_cases q0 : bo = 0
  · subst q0
    have pw := pw_shows hx hff kn wo
    refine ⟨(f_X6_shows_0 ff bx.1 bx.2.1 bx.2.2.1 bx.2.2.2.1 bx.2.2.2.2.1 bx.2.2.2.2.2.1 kn wo).1, (LWL G A we rz ((f_X6_shows_0 ff bx.1 bx.2.1 bx.2.2.1 bx.2.2.2.1 bx.2.2.2.2.1 bx.2.2.2.2.2.1 kn wo).2) rr tp bx bz cg bu bv cj bY fo (me, tp.1, ma, rz) zf zs zi zv zt zr zw zn), (LWL G A we rz ((f_X6_shows_0 ff bx.1 bx.2.1 bx.2.2.1 bx.2.2.2.1 bx.2.2.2.2.1 bx.2.2.2.2.2.1 kn wo).2) rr tp bx bz cg bu bv cj bY fo (me, tp.1, ma, rz) ((f_X7_shows zf zs 0 bx.1 kn wo).2) zs zi zv zt zr zw zn), ?_, ⟨_, rfl⟩, ?_, ?_⟩
    · exact ⟨_, [0, 1, 5, 6, 7, 8, 9, 10, 11, 12, 13], _, _, CT.norm (k_X6_shows_0 l G (A 0) (A 5) (A 30) (A 3) (A 2) (A 1) (A 55) (A 63) we rz ff (A 14) (A 22) (A 6) (A 7) (A 8) (A 9) (A 10) (A 11) 20 bx.1 bx.2.1 bx.2.2.1 bx.2.2.2.1 bx.2.2.2.2.1 (A 12) (A 13) bx.2.2.2.2.2.1 bx.2.2.2.2.2.2.1 bx.2.2.2.2.2.2.2 kn wo hxn (Nat.le_refl 20)) rfl rfl, rfl, rfl, (Nat.le_of_ble_eq_true rfl), (Nat.le_of_ble_eq_true rfl), rfl, by decide, rfl, rpl_fast (by decide) rfl rfl, rfl⟩
    · exact ⟨_, [65, 66, 67], _, _, CT.norm (k_X7_shows l G (A 65) (A 66) (A 67) (A 68) (A 69) (A 70) (A 71) (A 72) (A 73) me tp.1 ma rz zf zs 0 bx.1 kn wo (by decide) hx.2.2.1 hxn (RB.nd hx) (RB.wd hx)) rfl (congrArg (fun z => some (Value.int z)) pw.1), rfl, rfl, (Nat.le_of_ble_eq_true rfl), (Nat.le_of_ble_eq_true rfl), rfl, by decide, rfl, rpl_fast (by decide) rfl rfl, rfl⟩
    · exact ⟨we, rz, ((f_X6_shows_0 ff bx.1 bx.2.1 bx.2.2.1 bx.2.2.2.1 bx.2.2.2.2.1 bx.2.2.2.2.2.1 kn wo).2), rr, tp, bx, bz, cg, bu, bv, cj, bY, fo, (me, tp.1, ma, rz), ((f_X7_shows zf zs 0 bx.1 kn wo).2), zs, zi, zv, zt, zr, zw, zn, rfl, ⟨⟨hx, hz, hc, hx3, hz3⟩, him, hu20, hv20, hj4, hY20, rfl, htp, rfl, hrz, hrow, pw.2⟩⟩
  by_cases q1 : bo = 1
  · subst q1
    have pw := pw_shows hz hff kn wo
    refine ⟨(f_X6_shows_1 ff bz.1 bz.2.1 bz.2.2.1 bz.2.2.2.1 bz.2.2.2.2.1 bz.2.2.2.2.2.1 kn wo).1, (LWL G A we rz ((f_X6_shows_1 ff bz.1 bz.2.1 bz.2.2.1 bz.2.2.2.1 bz.2.2.2.2.1 bz.2.2.2.2.2.1 kn wo).2) rr tp bx bz cg bu bv cj bY fo (me, tp.1, ma, rz) zf zs zi zv zt zr zw zn), (LWL G A we rz ((f_X6_shows_1 ff bz.1 bz.2.1 bz.2.2.1 bz.2.2.2.1 bz.2.2.2.2.1 bz.2.2.2.2.2.1 kn wo).2) rr tp bx bz cg bu bv cj bY fo (me, tp.1, ma, rz) ((f_X7_shows zf zs 1 bz.1 kn wo).2) zs zi zv zt zr zw zn), ?_, ⟨_, rfl⟩, ?_, ?_⟩
    · exact ⟨_, [0, 1, 5, 14, 15, 16, 17, 18, 19, 20, 21], _, _, CT.norm (k_X6_shows_1 l G (A 0) (A 5) (A 30) (A 3) (A 2) (A 1) (A 55) (A 63) we rz ff (A 6) (A 22) (A 14) (A 15) (A 16) (A 17) (A 18) (A 19) 20 bz.1 bz.2.1 bz.2.2.1 bz.2.2.2.1 bz.2.2.2.2.1 (A 20) (A 21) bz.2.2.2.2.2.1 bz.2.2.2.2.2.2.1 bz.2.2.2.2.2.2.2 kn wo hzn (Nat.le_refl 20)) rfl rfl, rfl, rfl, (Nat.le_of_ble_eq_true rfl), (Nat.le_of_ble_eq_true rfl), rfl, by decide, rfl, rpl_fast (by decide) rfl rfl, rfl⟩
    · exact ⟨_, [65, 66, 67], _, _, CT.norm (k_X7_shows l G (A 65) (A 66) (A 67) (A 68) (A 69) (A 70) (A 71) (A 72) (A 73) me tp.1 ma rz zf zs 1 bz.1 kn wo (by decide) hz.2.2.1 hzn (RB.nd hz) (RB.wd hz)) rfl (congrArg (fun z => some (Value.int z)) pw.1), rfl, rfl, (Nat.le_of_ble_eq_true rfl), (Nat.le_of_ble_eq_true rfl), rfl, by decide, rfl, rpl_fast (by decide) rfl rfl, rfl⟩
    · exact ⟨we, rz, ((f_X6_shows_1 ff bz.1 bz.2.1 bz.2.2.1 bz.2.2.2.1 bz.2.2.2.2.1 bz.2.2.2.2.2.1 kn wo).2), rr, tp, bx, bz, cg, bu, bv, cj, bY, fo, (me, tp.1, ma, rz), ((f_X7_shows zf zs 1 bz.1 kn wo).2), zs, zi, zv, zt, zr, zw, zn, rfl, ⟨⟨hx, hz, hc, hx3, hz3⟩, him, hu20, hv20, hj4, hY20, rfl, htp, rfl, hrz, hrow, pw.2⟩⟩
  have hbad := bk_no q0 q1
  have pw := pw_r1 hff
  refine ⟨(f_X6_shows_A ff).1, (LWL G A we rz ((f_X6_shows_A ff).2) rr tp bx bz cg bu bv cj bY fo (me, tp.1, ma, rz) zf zs zi zv zt zr zw zn), (LWL G A we rz ((f_X6_shows_A ff).2) rr tp bx bz cg bu bv cj bY fo (me, tp.1, ma, rz) ((f_X7_shows_A zf).2) zs zi zv zt zr zw zn), ?_, ⟨_, rfl⟩, ?_, ?_⟩
  · exact ⟨_, [0, 1], _, _, CT.norm (k_X6_shows_A l G (A 0) (A 5) (A 30) (A 3) (A 2) (A 1) (A 55) (A 63) we rz ff bo kn wo hbad.1) rfl rfl, rfl, rfl, (Nat.le_of_ble_eq_true rfl), (Nat.le_of_ble_eq_true rfl), rfl, by decide, rfl, rpl_fast (by decide) rfl rfl, rfl⟩
  · exact ⟨_, [65, 66], _, _, CT.norm (k_X7_shows_A l G (A 65) (A 66) (A 67) (A 68) (A 69) (A 70) (A 71) (A 72) (A 73) me tp.1 ma rz zf bo kn wo hbad.2) rfl (congrArg (fun z => some (Value.int z)) pw.1), rfl, rfl, (Nat.le_of_ble_eq_true rfl), (Nat.le_of_ble_eq_true rfl), rfl, by decide, rfl, rpl_fast (by decide) rfl rfl, rfl⟩
  · exact ⟨we, rz, ((f_X6_shows_A ff).2), rr, tp, bx, bz, cg, bu, bv, cj, bY, fo, (me, tp.1, ma, rz), ((f_X7_shows_A zf).2), zs, zi, zv, zt, zr, zw, zn, rfl, ⟨⟨hx, hz, hc, hx3, hz3⟩, him, hu20, hv20, hj4, hY20, rfl, htp, rfl, hrz, hrow, pw.2⟩⟩
