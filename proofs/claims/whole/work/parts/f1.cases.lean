/-! the law's calls -/
def LWC (p : Program) (s : State) (m : MethodId) (c : Code) (b L : Nat) (xs : Nat → Int32) (G : wG) (sq sv : Nat) : Prop := p.tables.exec = Jvm.exec ∧ c.code = code ∧ c.maxLocals = 4 ∧ s.vm.findClass RL = some m.cls ∧ KK G s ∧ va_X b L xs s s.heap ∧ b < s.heap.size ∧ SX sq sv (fun q : Nat => s.heap.size ≤ q) s s.heap
theorem LWC.hx {p : Program} {s : State} {m : MethodId} {c : Code} {b L : Nat} {xs : Nat → Int32} {G : wG} {sq sv : Nat} (C : LWC p s m c b L xs G sq sv) : p.tables.exec = Jvm.exec := C.1
theorem LWC.hb {p : Program} {s : State} {m : MethodId} {c : Code} {b L : Nat} {xs : Nat → Int32} {G : wG} {sq sv : Nat} (C : LWC p s m c b L xs G sq sv) : c.code = code := C.2.1
theorem LWC.hml {p : Program} {s : State} {m : MethodId} {c : Code} {b L : Nat} {xs : Nat → Int32} {G : wG} {sq sv : Nat} (C : LWC p s m c b L xs G sq sv) : c.maxLocals = 4 := C.2.2.1
theorem LWC.hown {p : Program} {s : State} {m : MethodId} {c : Code} {b L : Nat} {xs : Nat → Int32} {G : wG} {sq sv : Nat} (C : LWC p s m c b L xs G sq sv) : s.vm.findClass RL = some m.cls := C.2.2.2.1
theorem LWC.hK {p : Program} {s : State} {m : MethodId} {c : Code} {b L : Nat} {xs : Nat → Int32} {G : wG} {sq sv : Nat} (C : LWC p s m c b L xs G sq sv) : KK G s := C.2.2.2.2.1
theorem LWC.hX {p : Program} {s : State} {m : MethodId} {c : Code} {b L : Nat} {xs : Nat → Int32} {G : wG} {sq sv : Nat} (C : LWC p s m c b L xs G sq sv) : va_X b L xs s s.heap := C.2.2.2.2.2.1
theorem LWC.hbl {p : Program} {s : State} {m : MethodId} {c : Code} {b L : Nat} {xs : Nat → Int32} {G : wG} {sq sv : Nat} (C : LWC p s m c b L xs G sq sv) : b < s.heap.size := C.2.2.2.2.2.2.1
theorem LWC.hSX {p : Program} {s : State} {m : MethodId} {c : Code} {b L : Nat} {xs : Nat → Int32} {G : wG} {sq sv : Nat} (C : LWC p s m c b L xs G sq sv) : SX sq sv (fun q : Nat => s.heap.size ≤ q) s s.heap := C.2.2.2.2.2.2.2
theorem INV.r0 {G : wG} {A : Nat → Nat} {ws : va_W} (h : INV G A ws) : ∃ fs : List Value, ws[0]? = some (A 0, .inr (6, fs)) := by
  obtain ⟨we, rz, ff, rr, tp, bx, bz, cg, bu, bv, cj, bY, fo, mm, zf, zs, zi, zv, zt, zr, zw, zn, rfl, hrel⟩ := h
  exact ⟨_, rfl⟩
section LCALL
variable {p : Program} {l : Launch} {e : Env} {s : State} {m : MethodId} {args : Array Value} {below : List Frame} {meth : Method} {c : Code} {b L : Nat} {xs : Nat → Int32} {G : wG} {sq sv : Nat} {ws ws' : va_W} {H : Heap} {locs : List Loc} {cells slots : Nat} {Q : State → Prop} {ls : Array Slot} {lv : List (Nat × Value)}
variable {y : MethodName} {bytes : ByteArray} {maxL n index pc : Nat} {rt : FieldType} {b0 : Addr} {As rest st0 : List Value} {v : Int32}
theorem ful_V (C : LWC p s m c b L xs G sq sv) (q0 ci : Nat) {fs : List Value} {q : vw_C} (hFU : FUL l G y bytes maxL rt (.ref b0 :: As) ws ws' v) (hF : MF s y bytes maxL (some rt) n) (hi : (Cond.instanceMethod y).before args s = true) (hse : (Cond.selects q.1 y y).before args s = true) (hl : (Cond.methodLink RL index y).before args s = true) (hn : As.length = n)
    (hP : va_P G.1 wcl ws H) (hD : va_D (fun q : Nat => s.heap.size ≤ q) ws) (hS : va_S (fun q : Nat => s.heap.size ≤ q) s.heap H locs) (he : ws[q0]? = some (b0, .inr (ci, fs))) (hc : wcl[ci]? = some q) (hls : lv_has ls 4 lv) (hroom : (rest.map fun v => v.category).sum ≤ 8) (hst0 : st0 = As.reverse ++ .ref b0 :: rest) (hcs : cells ≤ room_1.cells ∧ slots ≤ room_1.slots) (hdg : decode code pc = .ok (.invokevirtual index, 3))
    (kk : ∀ (H1 : Heap) (locs1 : List Loc), va_P G.1 wcl ws' H1 → va_D (fun q : Nat => s.heap.size ≤ q) ws' → va_S (fun q : Nat => s.heap.size ≤ q) s.heap H1 locs1 → W p l e room_1 s m args below meth c H1 locs1 cells slots Q (F0 m (pc + 3) ls (.int v :: rest))) : W p l e room_1 s m args below meth c H locs cells slots Q (F0 m pc ls st0) := by
  obtain ⟨rm, isC, wc, wc', hM, r1, r2, r3, r4, hC, hnd, hf1, hw, hf⟩ := hFU
  exact cl_V isC q0 ci C.hx C.hb C.hml C.hown C.hK hM hF hi hse hl ⟨r1, r2, r3, r4⟩ hn hP hD hS (fun _ h => h) he hc hls hroom hst0 hcs hnd hdg hC hf1 hw hf rfl rfl kk
theorem ful_VX (C : LWC p s m c b L xs G sq sv) (q0 ci : Nat) {fs : List Value} {q : vw_C} (hFU : FULX sq sv l G y bytes maxL rt (.ref b0 :: As) ws ws' v) (hF : MF s y bytes maxL (some rt) n) (hi : (Cond.instanceMethod y).before args s = true) (hse : (Cond.selects q.1 y y).before args s = true) (hl : (Cond.methodLink RL index y).before args s = true) (hn : As.length = n)
    (hP : va_P G.1 wcl ws H) (hD : va_D (fun q : Nat => s.heap.size ≤ q) ws) (hS : va_S (fun q : Nat => s.heap.size ≤ q) s.heap H locs) (he : ws[q0]? = some (b0, .inr (ci, fs))) (hc : wcl[ci]? = some q) (hls : lv_has ls 4 lv) (hroom : (rest.map fun v => v.category).sum ≤ 8) (hst0 : st0 = As.reverse ++ .ref b0 :: rest) (hcs : cells ≤ room_1.cells ∧ slots ≤ room_1.slots) (hdg : decode code pc = .ok (.invokevirtual index, 3))
    (kk : ∀ (H1 : Heap) (locs1 : List Loc), va_P G.1 wcl ws' H1 → va_D (fun q : Nat => s.heap.size ≤ q) ws' → va_S (fun q : Nat => s.heap.size ≤ q) s.heap H1 locs1 → W p l e room_1 s m args below meth c H1 locs1 cells slots Q (F0 m (pc + 3) ls (.int v :: rest))) : W p l e room_1 s m args below meth c H locs cells slots Q (F0 m pc ls st0) := by
  obtain ⟨rm, isC, wc, wc', hM, r1, r2, r3, r4, hC, hnd, hf1, hw, hf⟩ := hFU
  exact cl_VX (C := q.1) isC C.hx C.hb C.hml C.hown C.hK C.hSX hM hF hi hse hl ⟨r1, r2, r3, r4⟩ hn hP hD hS (fun _ h => h) (va_recv C.hK.1 hP hc he) hls hroom hst0 hcs hnd hdg hC hf1 hw hf rfl rfl kk
end LCALL
section LAW
variable {p : Program} {l : Launch} {e : Env} {s : State} {m : MethodId} {below : List Frame} {meth : Method} {c : Code} {b L : Nat} {xs : Nat → Int32} {G : wG} {sq sv : Nat} {A : Nat → Nat} {ws : va_W} {H : Heap} {locs : List Loc} {cells slots : Nat} {Q : State → Prop} {ls : Array Slot} {i : Nat}
set_option maxHeartbeats 4000000 in
theorem lc_feed (C : LWC p s m c b L xs G sq sv) (hL : L ≤ 320) (hi : i + 5 ≤ L) (hI : INV G A ws) (hP : va_P G.1 wcl ws H) (hD : va_D (fun q : Nat => s.heap.size ≤ q) ws) (hS : va_S (fun q : Nat => s.heap.size ≤ q) s.heap H locs) (hl : lv_has ls 4 [(0, .ref b), (1, .ref (A 0)), (2, .ref (A 65)), (3, .int (nI i))]) (hcs : cells ≤ room_1.cells ∧ slots ≤ room_1.slots)
    (kk : ∀ (H1 : Heap) (locs1 : List Loc) (ws1 : va_W), INV G A ws1 → va_P G.1 wcl ws1 H1 → va_D (fun q : Nat => s.heap.size ≤ q) ws1 → va_S (fun q : Nat => s.heap.size ≤ q) s.heap H1 locs1 → W p l e room_1 s m #[Value.ref b] below meth c H1 locs1 cells slots Q (F0 m 1050 ls [])) : W p l e room_1 s m #[Value.ref b] below meth c H locs cells slots Q (F0 m 160 ls []) := by
  have hbA : ¬ (fun q : Nat => s.heap.size ≤ q) b := Nat.not_le.mpr C.hbl
  obtain ⟨f0, e0⟩ := hI.r0
  obtain ⟨v, ws1, ws2, f1, ⟨fs, g1⟩, f2, hI2⟩ := b_feed l G hI (xs (i + 1)) ((((xs (i + 2) : Int32).toInt64) <<< ((32 : Int32).toInt64 &&& 63)) ||| (((xs (i + 3) : Int32).toInt64) &&& ((4294967295))))
  refine lv_aload_n C.hx C.hb d_law_160 rfl (lv_at hl 1 rfl) ?_
  refine lv_aload_n C.hx C.hb d_law_161 rfl (lv_at hl 0 rfl) ?_
  refine lv_iload_n C.hx C.hb d_law_162 rfl (lv_at hl 3 rfl) ?_
  refine lv_iconst (v := 1) C.hx C.hb d_law_163 (by decide) ?_
  refine lv_iadd C.hx C.hb d_law_164 ?_
  refine ww_e (nI_addE (a := i) (b := 1) rfl rfl) ?_
  refine va_sld C.hx C.hb C.hX C.hbl hbA hS (show vp_in (nI (i + 1)) L from vp_in_nI (by omega) (by omega)) d_law_165 ?_
  refine ww_e (congrArg xs (nI_clamp (by omega))) ?_
  refine lv_aload_n C.hx C.hb d_law_166 rfl (lv_at hl 0 rfl) ?_
  refine lv_iload_n C.hx C.hb d_law_167 rfl (lv_at hl 3 rfl) ?_
  refine lv_iconst (v := 2) C.hx C.hb d_law_168 (by decide) ?_
  refine lv_iadd C.hx C.hb d_law_169 ?_
  refine ww_e (nI_addE (a := i) (b := 2) rfl rfl) ?_
  refine va_sld C.hx C.hb C.hX C.hbl hbA hS (show vp_in (nI (i + 2)) L from vp_in_nI (by omega) (by omega)) d_law_170 ?_
  refine ww_e (congrArg xs (nI_clamp (by omega))) ?_
  refine lv_i2l (v := (xs (i + 2) : Int32).toInt64) C.hx C.hb d_law_171 rfl ?_
  refine lv_bipush (v := 32) C.hx C.hb d_law_172 (by decide) ?_
  refine lv_lshl (v := ((xs (i + 2) : Int32).toInt64) <<< ((32 : Int32).toInt64 &&& 63)) C.hx C.hb d_law_174 rfl ?_
  refine lv_aload_n C.hx C.hb d_law_175 rfl (lv_at hl 0 rfl) ?_
  refine lv_iload_n C.hx C.hb d_law_176 rfl (lv_at hl 3 rfl) ?_
  refine lv_iconst (v := 3) C.hx C.hb d_law_177 (by decide) ?_
  refine lv_iadd C.hx C.hb d_law_178 ?_
  refine ww_e (nI_addE (a := i) (b := 3) rfl rfl) ?_
  refine va_sld C.hx C.hb C.hX C.hbl hbA hS (show vp_in (nI (i + 3)) L from vp_in_nI (by omega) (by omega)) d_law_179 ?_
  refine ww_e (congrArg xs (nI_clamp (by omega))) ?_
  refine lv_i2l (v := (xs (i + 3) : Int32).toInt64) C.hx C.hb d_law_180 rfl ?_
  refine lv_ldc2 (v := (4294967295)) C.hx C.hb C.hown (kw_926 C.hK.2) d_law_181 ?_
  refine lv_land C.hx C.hb d_law_184 ?_
  refine lv_lor C.hx C.hb d_law_185 ?_
  refine ful_V (q := (RX6, TX6, 9)) (As := [.int (xs (i + 1)), .long ((((xs (i + 2) : Int32).toInt64) <<< ((32 : Int32).toInt64 &&& 63)) ||| (((xs (i + 3) : Int32).toInt64) &&& ((4294967295))))]) (rest := []) C 0 6 f1 (mf_X6_feed C.hK.2) (kw_252 C.hK.2) (kw_253 C.hK.2) (kw_251 C.hK.2) rfl hP hD hS e0 rfl hl (Nat.le_of_ble_eq_true rfl) rfl hcs d_law_186 (fun H locs hP hD hS => ?_)
  refine lv_aload_n C.hx C.hb d_law_189 rfl (lv_at hl 2 rfl) ?_
  refine lv_aload_n C.hx C.hb d_law_190 rfl (lv_at hl 0 rfl) ?_
  refine lv_iload_n C.hx C.hb d_law_191 rfl (lv_at hl 3 rfl) ?_
  refine lv_iconst (v := 1) C.hx C.hb d_law_192 (by decide) ?_
  refine lv_iadd C.hx C.hb d_law_193 ?_
  refine ww_e (nI_addE (a := i) (b := 1) rfl rfl) ?_
  refine va_sld C.hx C.hb C.hX C.hbl hbA hS (show vp_in (nI (i + 1)) L from vp_in_nI (by omega) (by omega)) d_law_194 ?_
  refine ww_e (congrArg xs (nI_clamp (by omega))) ?_
  refine lv_aload_n C.hx C.hb d_law_195 rfl (lv_at hl 0 rfl) ?_
  refine lv_iload_n C.hx C.hb d_law_196 rfl (lv_at hl 3 rfl) ?_
  refine lv_iconst (v := 2) C.hx C.hb d_law_197 (by decide) ?_
  refine lv_iadd C.hx C.hb d_law_198 ?_
  refine ww_e (nI_addE (a := i) (b := 2) rfl rfl) ?_
  refine va_sld C.hx C.hb C.hX C.hbl hbA hS (show vp_in (nI (i + 2)) L from vp_in_nI (by omega) (by omega)) d_law_199 ?_
  refine ww_e (congrArg xs (nI_clamp (by omega))) ?_
  refine lv_i2l (v := (xs (i + 2) : Int32).toInt64) C.hx C.hb d_law_200 rfl ?_
  refine lv_bipush (v := 32) C.hx C.hb d_law_201 (by decide) ?_
  refine lv_lshl (v := ((xs (i + 2) : Int32).toInt64) <<< ((32 : Int32).toInt64 &&& 63)) C.hx C.hb d_law_203 rfl ?_
  refine lv_aload_n C.hx C.hb d_law_204 rfl (lv_at hl 0 rfl) ?_
  refine lv_iload_n C.hx C.hb d_law_205 rfl (lv_at hl 3 rfl) ?_
  refine lv_iconst (v := 3) C.hx C.hb d_law_206 (by decide) ?_
  refine lv_iadd C.hx C.hb d_law_207 ?_
  refine ww_e (nI_addE (a := i) (b := 3) rfl rfl) ?_
  refine va_sld C.hx C.hb C.hX C.hbl hbA hS (show vp_in (nI (i + 3)) L from vp_in_nI (by omega) (by omega)) d_law_208 ?_
  refine ww_e (congrArg xs (nI_clamp (by omega))) ?_
  refine lv_i2l (v := (xs (i + 3) : Int32).toInt64) C.hx C.hb d_law_209 rfl ?_
  refine lv_ldc2 (v := (4294967295)) C.hx C.hb C.hown (kw_926 C.hK.2) d_law_210 ?_
  refine lv_land C.hx C.hb d_law_213 ?_
  refine lv_lor C.hx C.hb d_law_214 ?_
  refine ful_V (q := (RX7, TX7, 12)) (As := [.int (xs (i + 1)), .long ((((xs (i + 2) : Int32).toInt64) <<< ((32 : Int32).toInt64 &&& 63)) ||| (((xs (i + 3) : Int32).toInt64) &&& ((4294967295))))]) (rest := [.int (v)]) C 65 7 f2 (mf_X7_feed C.hK.2) (kw_715 C.hK.2) (kw_716 C.hK.2) (kw_714 C.hK.2) rfl hP hD hS g1 rfl hl (Nat.le_of_ble_eq_true rfl) rfl hcs d_law_215 (fun H locs hP hD hS => ?_)
  refine lv_icmp_eq (tgt := 1050) C.hx C.hb d_law_218 (by decide) (fun _ => ?_) (fun c9 => absurd rfl c9)
  exact kk _ _ ws2 hI2 hP hD hS
set_option maxHeartbeats 4000000 in
theorem lc_telling (C : LWC p s m c b L xs G sq sv) (hL : L ≤ 320) (hi : i + 5 ≤ L) (hI : INV G A ws) (hP : va_P G.1 wcl ws H) (hD : va_D (fun q : Nat => s.heap.size ≤ q) ws) (hS : va_S (fun q : Nat => s.heap.size ≤ q) s.heap H locs) (hl : lv_has ls 4 [(0, .ref b), (1, .ref (A 0)), (2, .ref (A 65)), (3, .int (nI i))]) (hcs : cells ≤ room_1.cells ∧ slots ≤ room_1.slots)
    (kk : ∀ (H1 : Heap) (locs1 : List Loc) (ws1 : va_W), INV G A ws1 → va_P G.1 wcl ws1 H1 → va_D (fun q : Nat => s.heap.size ≤ q) ws1 → va_S (fun q : Nat => s.heap.size ≤ q) s.heap H1 locs1 → W p l e room_1 s m #[Value.ref b] below meth c H1 locs1 cells slots Q (F0 m 1050 ls [])) : W p l e room_1 s m #[Value.ref b] below meth c H locs cells slots Q (F0 m 223 ls []) := by
  have hbA : ¬ (fun q : Nat => s.heap.size ≤ q) b := Nat.not_le.mpr C.hbl
  obtain ⟨f0, e0⟩ := hI.r0
  rcases b_telling sq sv l G hI (xs (i + 1)) with ⟨v, ws1, ws2, f1, ⟨fs, g1⟩, f2, hI2⟩ | ⟨v, ws1, ws2, f1, ⟨fs, g1⟩, f2, hI2⟩
  · skip
    refine lv_aload_n C.hx C.hb d_law_223 rfl (lv_at hl 1 rfl) ?_
    refine lv_aload_n C.hx C.hb d_law_224 rfl (lv_at hl 0 rfl) ?_
    refine lv_iload_n C.hx C.hb d_law_225 rfl (lv_at hl 3 rfl) ?_
    refine lv_iconst (v := 1) C.hx C.hb d_law_226 (by decide) ?_
    refine lv_iadd C.hx C.hb d_law_227 ?_
    refine ww_e (nI_addE (a := i) (b := 1) rfl rfl) ?_
    refine va_sld C.hx C.hb C.hX C.hbl hbA hS (show vp_in (nI (i + 1)) L from vp_in_nI (by omega) (by omega)) d_law_228 ?_
    refine ww_e (congrArg xs (nI_clamp (by omega))) ?_
    refine ful_VX (q := (RX6, TX6, 9)) (As := [.int (xs (i + 1))]) (rest := []) C 0 6 f1 (mf_X6_telling C.hK.2) (kw_264 C.hK.2) (kw_265 C.hK.2) (kw_263 C.hK.2) rfl hP hD hS e0 rfl hl (Nat.le_of_ble_eq_true rfl) rfl hcs d_law_229 (fun H locs hP hD hS => ?_)
    refine lv_aload_n C.hx C.hb d_law_232 rfl (lv_at hl 2 rfl) ?_
    refine lv_aload_n C.hx C.hb d_law_233 rfl (lv_at hl 0 rfl) ?_
    refine lv_iload_n C.hx C.hb d_law_234 rfl (lv_at hl 3 rfl) ?_
    refine lv_iconst (v := 1) C.hx C.hb d_law_235 (by decide) ?_
    refine lv_iadd C.hx C.hb d_law_236 ?_
    refine ww_e (nI_addE (a := i) (b := 1) rfl rfl) ?_
    refine va_sld C.hx C.hb C.hX C.hbl hbA hS (show vp_in (nI (i + 1)) L from vp_in_nI (by omega) (by omega)) d_law_237 ?_
    refine ww_e (congrArg xs (nI_clamp (by omega))) ?_
    refine ful_V (q := (RX7, TX7, 12)) (As := [.int (xs (i + 1))]) (rest := [.int (v)]) C 65 7 f2 (mf_X7_telling C.hK.2) (kw_724 C.hK.2) (kw_725 C.hK.2) (kw_723 C.hK.2) rfl hP hD hS g1 rfl hl (Nat.le_of_ble_eq_true rfl) rfl hcs d_law_238 (fun H locs hP hD hS => ?_)
    refine lv_icmp_eq (tgt := 1050) C.hx C.hb d_law_241 (by decide) (fun _ => ?_) (fun c9 => absurd rfl c9)
    exact kk _ _ ws2 hI2 hP hD hS
  · skip
    refine lv_aload_n C.hx C.hb d_law_223 rfl (lv_at hl 1 rfl) ?_
    refine lv_aload_n C.hx C.hb d_law_224 rfl (lv_at hl 0 rfl) ?_
    refine lv_iload_n C.hx C.hb d_law_225 rfl (lv_at hl 3 rfl) ?_
    refine lv_iconst (v := 1) C.hx C.hb d_law_226 (by decide) ?_
    refine lv_iadd C.hx C.hb d_law_227 ?_
    refine ww_e (nI_addE (a := i) (b := 1) rfl rfl) ?_
    refine va_sld C.hx C.hb C.hX C.hbl hbA hS (show vp_in (nI (i + 1)) L from vp_in_nI (by omega) (by omega)) d_law_228 ?_
    refine ww_e (congrArg xs (nI_clamp (by omega))) ?_
    refine ful_V (q := (RX6, TX6, 9)) (As := [.int (xs (i + 1))]) (rest := []) C 0 6 f1 (mf_X6_telling C.hK.2) (kw_264 C.hK.2) (kw_265 C.hK.2) (kw_263 C.hK.2) rfl hP hD hS e0 rfl hl (Nat.le_of_ble_eq_true rfl) rfl hcs d_law_229 (fun H locs hP hD hS => ?_)
    refine lv_aload_n C.hx C.hb d_law_232 rfl (lv_at hl 2 rfl) ?_
    refine lv_aload_n C.hx C.hb d_law_233 rfl (lv_at hl 0 rfl) ?_
    refine lv_iload_n C.hx C.hb d_law_234 rfl (lv_at hl 3 rfl) ?_
    refine lv_iconst (v := 1) C.hx C.hb d_law_235 (by decide) ?_
    refine lv_iadd C.hx C.hb d_law_236 ?_
    refine ww_e (nI_addE (a := i) (b := 1) rfl rfl) ?_
    refine va_sld C.hx C.hb C.hX C.hbl hbA hS (show vp_in (nI (i + 1)) L from vp_in_nI (by omega) (by omega)) d_law_237 ?_
    refine ww_e (congrArg xs (nI_clamp (by omega))) ?_
    refine ful_V (q := (RX7, TX7, 12)) (As := [.int (xs (i + 1))]) (rest := [.int (v)]) C 65 7 f2 (mf_X7_telling C.hK.2) (kw_724 C.hK.2) (kw_725 C.hK.2) (kw_723 C.hK.2) rfl hP hD hS g1 rfl hl (Nat.le_of_ble_eq_true rfl) rfl hcs d_law_238 (fun H locs hP hD hS => ?_)
    refine lv_icmp_eq (tgt := 1050) C.hx C.hb d_law_241 (by decide) (fun _ => ?_) (fun c9 => absurd rfl c9)
    exact kk _ _ ws2 hI2 hP hD hS
set_option maxHeartbeats 4000000 in
theorem lc_tellingOf (C : LWC p s m c b L xs G sq sv) (hL : L ≤ 320) (hi : i + 5 ≤ L) (hI : INV G A ws) (hP : va_P G.1 wcl ws H) (hD : va_D (fun q : Nat => s.heap.size ≤ q) ws) (hS : va_S (fun q : Nat => s.heap.size ≤ q) s.heap H locs) (hl : lv_has ls 4 [(0, .ref b), (1, .ref (A 0)), (2, .ref (A 65)), (3, .int (nI i))]) (hcs : cells ≤ room_1.cells ∧ slots ≤ room_1.slots)
    (kk : ∀ (H1 : Heap) (locs1 : List Loc) (ws1 : va_W), INV G A ws1 → va_P G.1 wcl ws1 H1 → va_D (fun q : Nat => s.heap.size ≤ q) ws1 → va_S (fun q : Nat => s.heap.size ≤ q) s.heap H1 locs1 → W p l e room_1 s m #[Value.ref b] below meth c H1 locs1 cells slots Q (F0 m 1050 ls [])) : W p l e room_1 s m #[Value.ref b] below meth c H locs cells slots Q (F0 m 246 ls []) := by
  have hbA : ¬ (fun q : Nat => s.heap.size ≤ q) b := Nat.not_le.mpr C.hbl
  obtain ⟨f0, e0⟩ := hI.r0
  obtain ⟨v, ws1, ws2, f1, ⟨fs, g1⟩, f2, hI2⟩ := b_tellingOf l G hI (xs (i + 1)) (xs (i + 2)) (xs (i + 3))
  refine lv_aload_n C.hx C.hb d_law_246 rfl (lv_at hl 1 rfl) ?_
  refine lv_aload_n C.hx C.hb d_law_247 rfl (lv_at hl 0 rfl) ?_
  refine lv_iload_n C.hx C.hb d_law_248 rfl (lv_at hl 3 rfl) ?_
  refine lv_iconst (v := 1) C.hx C.hb d_law_249 (by decide) ?_
  refine lv_iadd C.hx C.hb d_law_250 ?_
  refine ww_e (nI_addE (a := i) (b := 1) rfl rfl) ?_
  refine va_sld C.hx C.hb C.hX C.hbl hbA hS (show vp_in (nI (i + 1)) L from vp_in_nI (by omega) (by omega)) d_law_251 ?_
  refine ww_e (congrArg xs (nI_clamp (by omega))) ?_
  refine lv_aload_n C.hx C.hb d_law_252 rfl (lv_at hl 0 rfl) ?_
  refine lv_iload_n C.hx C.hb d_law_253 rfl (lv_at hl 3 rfl) ?_
  refine lv_iconst (v := 2) C.hx C.hb d_law_254 (by decide) ?_
  refine lv_iadd C.hx C.hb d_law_255 ?_
  refine ww_e (nI_addE (a := i) (b := 2) rfl rfl) ?_
  refine va_sld C.hx C.hb C.hX C.hbl hbA hS (show vp_in (nI (i + 2)) L from vp_in_nI (by omega) (by omega)) d_law_256 ?_
  refine ww_e (congrArg xs (nI_clamp (by omega))) ?_
  refine lv_aload_n C.hx C.hb d_law_257 rfl (lv_at hl 0 rfl) ?_
  refine lv_iload_n C.hx C.hb d_law_258 rfl (lv_at hl 3 rfl) ?_
  refine lv_iconst (v := 3) C.hx C.hb d_law_259 (by decide) ?_
  refine lv_iadd C.hx C.hb d_law_260 ?_
  refine ww_e (nI_addE (a := i) (b := 3) rfl rfl) ?_
  refine va_sld C.hx C.hb C.hX C.hbl hbA hS (show vp_in (nI (i + 3)) L from vp_in_nI (by omega) (by omega)) d_law_261 ?_
  refine ww_e (congrArg xs (nI_clamp (by omega))) ?_
  refine ful_V (q := (RX6, TX6, 9)) (As := [.int (xs (i + 1)), .int (xs (i + 2)), .int (xs (i + 3))]) (rest := []) C 0 6 f1 (mf_X6_tellingOf C.hK.2) (kw_392 C.hK.2) (kw_393 C.hK.2) (kw_391 C.hK.2) rfl hP hD hS e0 rfl hl (Nat.le_of_ble_eq_true rfl) rfl hcs d_law_262 (fun H locs hP hD hS => ?_)
  refine lv_aload_n C.hx C.hb d_law_265 rfl (lv_at hl 2 rfl) ?_
  refine lv_aload_n C.hx C.hb d_law_266 rfl (lv_at hl 0 rfl) ?_
  refine lv_iload_n C.hx C.hb d_law_267 rfl (lv_at hl 3 rfl) ?_
  refine lv_iconst (v := 1) C.hx C.hb d_law_268 (by decide) ?_
  refine lv_iadd C.hx C.hb d_law_269 ?_
  refine ww_e (nI_addE (a := i) (b := 1) rfl rfl) ?_
  refine va_sld C.hx C.hb C.hX C.hbl hbA hS (show vp_in (nI (i + 1)) L from vp_in_nI (by omega) (by omega)) d_law_270 ?_
  refine ww_e (congrArg xs (nI_clamp (by omega))) ?_
  refine lv_aload_n C.hx C.hb d_law_271 rfl (lv_at hl 0 rfl) ?_
  refine lv_iload_n C.hx C.hb d_law_272 rfl (lv_at hl 3 rfl) ?_
  refine lv_iconst (v := 2) C.hx C.hb d_law_273 (by decide) ?_
  refine lv_iadd C.hx C.hb d_law_274 ?_
  refine ww_e (nI_addE (a := i) (b := 2) rfl rfl) ?_
  refine va_sld C.hx C.hb C.hX C.hbl hbA hS (show vp_in (nI (i + 2)) L from vp_in_nI (by omega) (by omega)) d_law_275 ?_
  refine ww_e (congrArg xs (nI_clamp (by omega))) ?_
  refine lv_aload_n C.hx C.hb d_law_276 rfl (lv_at hl 0 rfl) ?_
  refine lv_iload_n C.hx C.hb d_law_277 rfl (lv_at hl 3 rfl) ?_
  refine lv_iconst (v := 3) C.hx C.hb d_law_278 (by decide) ?_
  refine lv_iadd C.hx C.hb d_law_279 ?_
  refine ww_e (nI_addE (a := i) (b := 3) rfl rfl) ?_
  refine va_sld C.hx C.hb C.hX C.hbl hbA hS (show vp_in (nI (i + 3)) L from vp_in_nI (by omega) (by omega)) d_law_280 ?_
  refine ww_e (congrArg xs (nI_clamp (by omega))) ?_
  refine ful_V (q := (RX7, TX7, 12)) (As := [.int (xs (i + 1)), .int (xs (i + 2)), .int (xs (i + 3))]) (rest := [.int (v)]) C 65 7 f2 (mf_X7_tellingOf C.hK.2) (kw_761 C.hK.2) (kw_762 C.hK.2) (kw_760 C.hK.2) rfl hP hD hS g1 rfl hl (Nat.le_of_ble_eq_true rfl) rfl hcs d_law_281 (fun H locs hP hD hS => ?_)
  refine lv_icmp_eq (tgt := 1050) C.hx C.hb d_law_284 (by decide) (fun _ => ?_) (fun c9 => absurd rfl c9)
  exact kk _ _ ws2 hI2 hP hD hS
set_option maxHeartbeats 4000000 in
theorem lc_word (C : LWC p s m c b L xs G sq sv) (hL : L ≤ 320) (hi : i + 5 ≤ L) (hI : INV G A ws) (hP : va_P G.1 wcl ws H) (hD : va_D (fun q : Nat => s.heap.size ≤ q) ws) (hS : va_S (fun q : Nat => s.heap.size ≤ q) s.heap H locs) (hl : lv_has ls 4 [(0, .ref b), (1, .ref (A 0)), (2, .ref (A 65)), (3, .int (nI i))]) (hcs : cells ≤ room_1.cells ∧ slots ≤ room_1.slots)
    (kk : ∀ (H1 : Heap) (locs1 : List Loc) (ws1 : va_W), INV G A ws1 → va_P G.1 wcl ws1 H1 → va_D (fun q : Nat => s.heap.size ≤ q) ws1 → va_S (fun q : Nat => s.heap.size ≤ q) s.heap H1 locs1 → W p l e room_1 s m #[Value.ref b] below meth c H1 locs1 cells slots Q (F0 m 1050 ls [])) : W p l e room_1 s m #[Value.ref b] below meth c H locs cells slots Q (F0 m 289 ls []) := by
  have hbA : ¬ (fun q : Nat => s.heap.size ≤ q) b := Nat.not_le.mpr C.hbl
  obtain ⟨f0, e0⟩ := hI.r0
  obtain ⟨v, ws1, ws2, f1, ⟨fs, g1⟩, f2, hI2⟩ := b_word l G hI (xs (i + 1)) (xs (i + 2)) (xs (i + 3)) (xs (i + 4))
  refine lv_aload_n C.hx C.hb d_law_289 rfl (lv_at hl 1 rfl) ?_
  refine lv_aload_n C.hx C.hb d_law_290 rfl (lv_at hl 0 rfl) ?_
  refine lv_iload_n C.hx C.hb d_law_291 rfl (lv_at hl 3 rfl) ?_
  refine lv_iconst (v := 1) C.hx C.hb d_law_292 (by decide) ?_
  refine lv_iadd C.hx C.hb d_law_293 ?_
  refine ww_e (nI_addE (a := i) (b := 1) rfl rfl) ?_
  refine va_sld C.hx C.hb C.hX C.hbl hbA hS (show vp_in (nI (i + 1)) L from vp_in_nI (by omega) (by omega)) d_law_294 ?_
  refine ww_e (congrArg xs (nI_clamp (by omega))) ?_
  refine lv_aload_n C.hx C.hb d_law_295 rfl (lv_at hl 0 rfl) ?_
  refine lv_iload_n C.hx C.hb d_law_296 rfl (lv_at hl 3 rfl) ?_
  refine lv_iconst (v := 2) C.hx C.hb d_law_297 (by decide) ?_
  refine lv_iadd C.hx C.hb d_law_298 ?_
  refine ww_e (nI_addE (a := i) (b := 2) rfl rfl) ?_
  refine va_sld C.hx C.hb C.hX C.hbl hbA hS (show vp_in (nI (i + 2)) L from vp_in_nI (by omega) (by omega)) d_law_299 ?_
  refine ww_e (congrArg xs (nI_clamp (by omega))) ?_
  refine lv_aload_n C.hx C.hb d_law_300 rfl (lv_at hl 0 rfl) ?_
  refine lv_iload_n C.hx C.hb d_law_301 rfl (lv_at hl 3 rfl) ?_
  refine lv_iconst (v := 3) C.hx C.hb d_law_302 (by decide) ?_
  refine lv_iadd C.hx C.hb d_law_303 ?_
  refine ww_e (nI_addE (a := i) (b := 3) rfl rfl) ?_
  refine va_sld C.hx C.hb C.hX C.hbl hbA hS (show vp_in (nI (i + 3)) L from vp_in_nI (by omega) (by omega)) d_law_304 ?_
  refine ww_e (congrArg xs (nI_clamp (by omega))) ?_
  refine lv_aload_n C.hx C.hb d_law_305 rfl (lv_at hl 0 rfl) ?_
  refine lv_iload_n C.hx C.hb d_law_306 rfl (lv_at hl 3 rfl) ?_
  refine lv_iconst (v := 4) C.hx C.hb d_law_307 (by decide) ?_
  refine lv_iadd C.hx C.hb d_law_308 ?_
  refine ww_e (nI_addE (a := i) (b := 4) rfl rfl) ?_
  refine va_sld C.hx C.hb C.hX C.hbl hbA hS (show vp_in (nI (i + 4)) L from vp_in_nI (by omega) (by omega)) d_law_309 ?_
  refine ww_e (congrArg xs (nI_clamp (by omega))) ?_
  refine ful_V (q := (RX6, TX6, 9)) (As := [.int (xs (i + 1)), .int (xs (i + 2)), .int (xs (i + 3)), .int (xs (i + 4))]) (rest := []) C 0 6 f1 (mf_X6_word C.hK.2) (kw_400 C.hK.2) (kw_401 C.hK.2) (kw_399 C.hK.2) rfl hP hD hS e0 rfl hl (Nat.le_of_ble_eq_true rfl) rfl hcs d_law_310 (fun H locs hP hD hS => ?_)
  refine lv_aload_n C.hx C.hb d_law_313 rfl (lv_at hl 2 rfl) ?_
  refine lv_aload_n C.hx C.hb d_law_314 rfl (lv_at hl 0 rfl) ?_
  refine lv_iload_n C.hx C.hb d_law_315 rfl (lv_at hl 3 rfl) ?_
  refine lv_iconst (v := 1) C.hx C.hb d_law_316 (by decide) ?_
  refine lv_iadd C.hx C.hb d_law_317 ?_
  refine ww_e (nI_addE (a := i) (b := 1) rfl rfl) ?_
  refine va_sld C.hx C.hb C.hX C.hbl hbA hS (show vp_in (nI (i + 1)) L from vp_in_nI (by omega) (by omega)) d_law_318 ?_
  refine ww_e (congrArg xs (nI_clamp (by omega))) ?_
  refine lv_aload_n C.hx C.hb d_law_319 rfl (lv_at hl 0 rfl) ?_
  refine lv_iload_n C.hx C.hb d_law_320 rfl (lv_at hl 3 rfl) ?_
  refine lv_iconst (v := 2) C.hx C.hb d_law_321 (by decide) ?_
  refine lv_iadd C.hx C.hb d_law_322 ?_
  refine ww_e (nI_addE (a := i) (b := 2) rfl rfl) ?_
  refine va_sld C.hx C.hb C.hX C.hbl hbA hS (show vp_in (nI (i + 2)) L from vp_in_nI (by omega) (by omega)) d_law_323 ?_
  refine ww_e (congrArg xs (nI_clamp (by omega))) ?_
  refine lv_aload_n C.hx C.hb d_law_324 rfl (lv_at hl 0 rfl) ?_
  refine lv_iload_n C.hx C.hb d_law_325 rfl (lv_at hl 3 rfl) ?_
  refine lv_iconst (v := 3) C.hx C.hb d_law_326 (by decide) ?_
  refine lv_iadd C.hx C.hb d_law_327 ?_
  refine ww_e (nI_addE (a := i) (b := 3) rfl rfl) ?_
  refine va_sld C.hx C.hb C.hX C.hbl hbA hS (show vp_in (nI (i + 3)) L from vp_in_nI (by omega) (by omega)) d_law_328 ?_
  refine ww_e (congrArg xs (nI_clamp (by omega))) ?_
  refine lv_aload_n C.hx C.hb d_law_329 rfl (lv_at hl 0 rfl) ?_
  refine lv_iload_n C.hx C.hb d_law_330 rfl (lv_at hl 3 rfl) ?_
  refine lv_iconst (v := 4) C.hx C.hb d_law_331 (by decide) ?_
  refine lv_iadd C.hx C.hb d_law_332 ?_
  refine ww_e (nI_addE (a := i) (b := 4) rfl rfl) ?_
  refine va_sld C.hx C.hb C.hX C.hbl hbA hS (show vp_in (nI (i + 4)) L from vp_in_nI (by omega) (by omega)) d_law_333 ?_
  refine ww_e (congrArg xs (nI_clamp (by omega))) ?_
  refine ful_V (q := (RX7, TX7, 12)) (As := [.int (xs (i + 1)), .int (xs (i + 2)), .int (xs (i + 3)), .int (xs (i + 4))]) (rest := [.int (v)]) C 65 7 f2 (mf_X7_word C.hK.2) (kw_769 C.hK.2) (kw_770 C.hK.2) (kw_768 C.hK.2) rfl hP hD hS g1 rfl hl (Nat.le_of_ble_eq_true rfl) rfl hcs d_law_334 (fun H locs hP hD hS => ?_)
  refine lv_icmp_eq (tgt := 1050) C.hx C.hb d_law_337 (by decide) (fun _ => ?_) (fun c9 => absurd rfl c9)
  exact kk _ _ ws2 hI2 hP hD hS
set_option maxHeartbeats 4000000 in
theorem lc_all (C : LWC p s m c b L xs G sq sv) (hL : L ≤ 320) (hi : i + 5 ≤ L) (hI : INV G A ws) (hP : va_P G.1 wcl ws H) (hD : va_D (fun q : Nat => s.heap.size ≤ q) ws) (hS : va_S (fun q : Nat => s.heap.size ≤ q) s.heap H locs) (hl : lv_has ls 4 [(0, .ref b), (1, .ref (A 0)), (2, .ref (A 65)), (3, .int (nI i))]) (hcs : cells ≤ room_1.cells ∧ slots ≤ room_1.slots)
    (kk : ∀ (H1 : Heap) (locs1 : List Loc) (ws1 : va_W), INV G A ws1 → va_P G.1 wcl ws1 H1 → va_D (fun q : Nat => s.heap.size ≤ q) ws1 → va_S (fun q : Nat => s.heap.size ≤ q) s.heap H1 locs1 → W p l e room_1 s m #[Value.ref b] below meth c H1 locs1 cells slots Q (F0 m 1050 ls [])) : W p l e room_1 s m #[Value.ref b] below meth c H locs cells slots Q (F0 m 342 ls []) := by
  have hbA : ¬ (fun q : Nat => s.heap.size ≤ q) b := Nat.not_le.mpr C.hbl
  obtain ⟨f0, e0⟩ := hI.r0
  by_cases hz : xs (i + 3) = 0
  · obtain ⟨v, ws1, ws2, f1, ⟨fs, g1⟩, f2, hI2⟩ := b_all l G hI (xs (i + 1)) (xs (i + 2)) 0 (Or.inl rfl)
    refine lv_aload_n C.hx C.hb d_law_342 rfl (lv_at hl 1 rfl) ?_
    refine lv_aload_n C.hx C.hb d_law_343 rfl (lv_at hl 0 rfl) ?_
    refine lv_iload_n C.hx C.hb d_law_344 rfl (lv_at hl 3 rfl) ?_
    refine lv_iconst (v := 1) C.hx C.hb d_law_345 (by decide) ?_
    refine lv_iadd C.hx C.hb d_law_346 ?_
    refine ww_e (nI_addE (a := i) (b := 1) rfl rfl) ?_
    refine va_sld C.hx C.hb C.hX C.hbl hbA hS (show vp_in (nI (i + 1)) L from vp_in_nI (by omega) (by omega)) d_law_347 ?_
    refine ww_e (congrArg xs (nI_clamp (by omega))) ?_
    refine lv_aload_n C.hx C.hb d_law_348 rfl (lv_at hl 0 rfl) ?_
    refine lv_iload_n C.hx C.hb d_law_349 rfl (lv_at hl 3 rfl) ?_
    refine lv_iconst (v := 2) C.hx C.hb d_law_350 (by decide) ?_
    refine lv_iadd C.hx C.hb d_law_351 ?_
    refine ww_e (nI_addE (a := i) (b := 2) rfl rfl) ?_
    refine va_sld C.hx C.hb C.hX C.hbl hbA hS (show vp_in (nI (i + 2)) L from vp_in_nI (by omega) (by omega)) d_law_352 ?_
    refine ww_e (congrArg xs (nI_clamp (by omega))) ?_
    refine lv_aload_n C.hx C.hb d_law_353 rfl (lv_at hl 0 rfl) ?_
    refine lv_iload_n C.hx C.hb d_law_354 rfl (lv_at hl 3 rfl) ?_
    refine lv_iconst (v := 3) C.hx C.hb d_law_355 (by decide) ?_
    refine lv_iadd C.hx C.hb d_law_356 ?_
    refine ww_e (nI_addE (a := i) (b := 3) rfl rfl) ?_
    refine va_sld C.hx C.hb C.hX C.hbl hbA hS (show vp_in (nI (i + 3)) L from vp_in_nI (by omega) (by omega)) d_law_357 ?_
    refine ww_e (congrArg xs (nI_clamp (by omega))) ?_
    refine lv_if_eq (tgt := 365) C.hx C.hb d_law_358 (by decide) (fun _ => ?_) (fun c9 => absurd hz c9)
    refine lv_iconst (v := 0) C.hx C.hb d_law_365 (by decide) ?_
    refine ful_V (q := (RX6, TX6, 9)) (As := [.int (xs (i + 1)), .int (xs (i + 2)), .int (0)]) (rest := []) C 0 6 f1 (mf_X6_all C.hK.2) (kw_405 C.hK.2) (kw_406 C.hK.2) (kw_404 C.hK.2) rfl hP hD hS e0 rfl hl (Nat.le_of_ble_eq_true rfl) rfl hcs d_law_366 (fun H locs hP hD hS => ?_)
    refine lv_aload_n C.hx C.hb d_law_369 rfl (lv_at hl 2 rfl) ?_
    refine lv_aload_n C.hx C.hb d_law_370 rfl (lv_at hl 0 rfl) ?_
    refine lv_iload_n C.hx C.hb d_law_371 rfl (lv_at hl 3 rfl) ?_
    refine lv_iconst (v := 1) C.hx C.hb d_law_372 (by decide) ?_
    refine lv_iadd C.hx C.hb d_law_373 ?_
    refine ww_e (nI_addE (a := i) (b := 1) rfl rfl) ?_
    refine va_sld C.hx C.hb C.hX C.hbl hbA hS (show vp_in (nI (i + 1)) L from vp_in_nI (by omega) (by omega)) d_law_374 ?_
    refine ww_e (congrArg xs (nI_clamp (by omega))) ?_
    refine lv_aload_n C.hx C.hb d_law_375 rfl (lv_at hl 0 rfl) ?_
    refine lv_iload_n C.hx C.hb d_law_376 rfl (lv_at hl 3 rfl) ?_
    refine lv_iconst (v := 2) C.hx C.hb d_law_377 (by decide) ?_
    refine lv_iadd C.hx C.hb d_law_378 ?_
    refine ww_e (nI_addE (a := i) (b := 2) rfl rfl) ?_
    refine va_sld C.hx C.hb C.hX C.hbl hbA hS (show vp_in (nI (i + 2)) L from vp_in_nI (by omega) (by omega)) d_law_379 ?_
    refine ww_e (congrArg xs (nI_clamp (by omega))) ?_
    refine lv_aload_n C.hx C.hb d_law_380 rfl (lv_at hl 0 rfl) ?_
    refine lv_iload_n C.hx C.hb d_law_381 rfl (lv_at hl 3 rfl) ?_
    refine lv_iconst (v := 3) C.hx C.hb d_law_382 (by decide) ?_
    refine lv_iadd C.hx C.hb d_law_383 ?_
    refine ww_e (nI_addE (a := i) (b := 3) rfl rfl) ?_
    refine va_sld C.hx C.hb C.hX C.hbl hbA hS (show vp_in (nI (i + 3)) L from vp_in_nI (by omega) (by omega)) d_law_384 ?_
    refine ww_e (congrArg xs (nI_clamp (by omega))) ?_
    refine lv_if_eq (tgt := 392) C.hx C.hb d_law_385 (by decide) (fun _ => ?_) (fun c9 => absurd hz c9)
    refine lv_iconst (v := 0) C.hx C.hb d_law_392 (by decide) ?_
    refine ful_V (q := (RX7, TX7, 12)) (As := [.int (xs (i + 1)), .int (xs (i + 2)), .int (0)]) (rest := [.int (v)]) C 65 7 f2 (mf_X7_all C.hK.2) (kw_776 C.hK.2) (kw_777 C.hK.2) (kw_775 C.hK.2) rfl hP hD hS g1 rfl hl (Nat.le_of_ble_eq_true rfl) rfl hcs d_law_393 (fun H locs hP hD hS => ?_)
    refine lv_icmp_eq (tgt := 1050) C.hx C.hb d_law_396 (by decide) (fun _ => ?_) (fun c9 => absurd rfl c9)
    exact kk _ _ ws2 hI2 hP hD hS
  · obtain ⟨v, ws1, ws2, f1, ⟨fs, g1⟩, f2, hI2⟩ := b_all l G hI (xs (i + 1)) (xs (i + 2)) 1 (Or.inr rfl)
    refine lv_aload_n C.hx C.hb d_law_342 rfl (lv_at hl 1 rfl) ?_
    refine lv_aload_n C.hx C.hb d_law_343 rfl (lv_at hl 0 rfl) ?_
    refine lv_iload_n C.hx C.hb d_law_344 rfl (lv_at hl 3 rfl) ?_
    refine lv_iconst (v := 1) C.hx C.hb d_law_345 (by decide) ?_
    refine lv_iadd C.hx C.hb d_law_346 ?_
    refine ww_e (nI_addE (a := i) (b := 1) rfl rfl) ?_
    refine va_sld C.hx C.hb C.hX C.hbl hbA hS (show vp_in (nI (i + 1)) L from vp_in_nI (by omega) (by omega)) d_law_347 ?_
    refine ww_e (congrArg xs (nI_clamp (by omega))) ?_
    refine lv_aload_n C.hx C.hb d_law_348 rfl (lv_at hl 0 rfl) ?_
    refine lv_iload_n C.hx C.hb d_law_349 rfl (lv_at hl 3 rfl) ?_
    refine lv_iconst (v := 2) C.hx C.hb d_law_350 (by decide) ?_
    refine lv_iadd C.hx C.hb d_law_351 ?_
    refine ww_e (nI_addE (a := i) (b := 2) rfl rfl) ?_
    refine va_sld C.hx C.hb C.hX C.hbl hbA hS (show vp_in (nI (i + 2)) L from vp_in_nI (by omega) (by omega)) d_law_352 ?_
    refine ww_e (congrArg xs (nI_clamp (by omega))) ?_
    refine lv_aload_n C.hx C.hb d_law_353 rfl (lv_at hl 0 rfl) ?_
    refine lv_iload_n C.hx C.hb d_law_354 rfl (lv_at hl 3 rfl) ?_
    refine lv_iconst (v := 3) C.hx C.hb d_law_355 (by decide) ?_
    refine lv_iadd C.hx C.hb d_law_356 ?_
    refine ww_e (nI_addE (a := i) (b := 3) rfl rfl) ?_
    refine va_sld C.hx C.hb C.hX C.hbl hbA hS (show vp_in (nI (i + 3)) L from vp_in_nI (by omega) (by omega)) d_law_357 ?_
    refine ww_e (congrArg xs (nI_clamp (by omega))) ?_
    refine lv_if_eq (tgt := 365) C.hx C.hb d_law_358 (by decide) (fun c9 => absurd c9 hz) (fun _ => ?_)
    refine lv_iconst (v := 1) C.hx C.hb d_law_361 (by decide) ?_
    refine lv_goto (tgt := 366) C.hx C.hb d_law_362 (by decide) ?_
    refine ful_V (q := (RX6, TX6, 9)) (As := [.int (xs (i + 1)), .int (xs (i + 2)), .int (1)]) (rest := []) C 0 6 f1 (mf_X6_all C.hK.2) (kw_405 C.hK.2) (kw_406 C.hK.2) (kw_404 C.hK.2) rfl hP hD hS e0 rfl hl (Nat.le_of_ble_eq_true rfl) rfl hcs d_law_366 (fun H locs hP hD hS => ?_)
    refine lv_aload_n C.hx C.hb d_law_369 rfl (lv_at hl 2 rfl) ?_
    refine lv_aload_n C.hx C.hb d_law_370 rfl (lv_at hl 0 rfl) ?_
    refine lv_iload_n C.hx C.hb d_law_371 rfl (lv_at hl 3 rfl) ?_
    refine lv_iconst (v := 1) C.hx C.hb d_law_372 (by decide) ?_
    refine lv_iadd C.hx C.hb d_law_373 ?_
    refine ww_e (nI_addE (a := i) (b := 1) rfl rfl) ?_
    refine va_sld C.hx C.hb C.hX C.hbl hbA hS (show vp_in (nI (i + 1)) L from vp_in_nI (by omega) (by omega)) d_law_374 ?_
    refine ww_e (congrArg xs (nI_clamp (by omega))) ?_
    refine lv_aload_n C.hx C.hb d_law_375 rfl (lv_at hl 0 rfl) ?_
    refine lv_iload_n C.hx C.hb d_law_376 rfl (lv_at hl 3 rfl) ?_
    refine lv_iconst (v := 2) C.hx C.hb d_law_377 (by decide) ?_
    refine lv_iadd C.hx C.hb d_law_378 ?_
    refine ww_e (nI_addE (a := i) (b := 2) rfl rfl) ?_
    refine va_sld C.hx C.hb C.hX C.hbl hbA hS (show vp_in (nI (i + 2)) L from vp_in_nI (by omega) (by omega)) d_law_379 ?_
    refine ww_e (congrArg xs (nI_clamp (by omega))) ?_
    refine lv_aload_n C.hx C.hb d_law_380 rfl (lv_at hl 0 rfl) ?_
    refine lv_iload_n C.hx C.hb d_law_381 rfl (lv_at hl 3 rfl) ?_
    refine lv_iconst (v := 3) C.hx C.hb d_law_382 (by decide) ?_
    refine lv_iadd C.hx C.hb d_law_383 ?_
    refine ww_e (nI_addE (a := i) (b := 3) rfl rfl) ?_
    refine va_sld C.hx C.hb C.hX C.hbl hbA hS (show vp_in (nI (i + 3)) L from vp_in_nI (by omega) (by omega)) d_law_384 ?_
    refine ww_e (congrArg xs (nI_clamp (by omega))) ?_
    refine lv_if_eq (tgt := 392) C.hx C.hb d_law_385 (by decide) (fun c9 => absurd c9 hz) (fun _ => ?_)
    refine lv_iconst (v := 1) C.hx C.hb d_law_388 (by decide) ?_
    refine lv_goto (tgt := 393) C.hx C.hb d_law_389 (by decide) ?_
    refine ful_V (q := (RX7, TX7, 12)) (As := [.int (xs (i + 1)), .int (xs (i + 2)), .int (1)]) (rest := [.int (v)]) C 65 7 f2 (mf_X7_all C.hK.2) (kw_776 C.hK.2) (kw_777 C.hK.2) (kw_775 C.hK.2) rfl hP hD hS g1 rfl hl (Nat.le_of_ble_eq_true rfl) rfl hcs d_law_393 (fun H locs hP hD hS => ?_)
    refine lv_icmp_eq (tgt := 1050) C.hx C.hb d_law_396 (by decide) (fun _ => ?_) (fun c9 => absurd rfl c9)
    exact kk _ _ ws2 hI2 hP hD hS
set_option maxHeartbeats 4000000 in
theorem lc_depth (C : LWC p s m c b L xs G sq sv) (hL : L ≤ 320) (hi : i + 5 ≤ L) (hI : INV G A ws) (hP : va_P G.1 wcl ws H) (hD : va_D (fun q : Nat => s.heap.size ≤ q) ws) (hS : va_S (fun q : Nat => s.heap.size ≤ q) s.heap H locs) (hl : lv_has ls 4 [(0, .ref b), (1, .ref (A 0)), (2, .ref (A 65)), (3, .int (nI i))]) (hcs : cells ≤ room_1.cells ∧ slots ≤ room_1.slots)
    (kk : ∀ (H1 : Heap) (locs1 : List Loc) (ws1 : va_W), INV G A ws1 → va_P G.1 wcl ws1 H1 → va_D (fun q : Nat => s.heap.size ≤ q) ws1 → va_S (fun q : Nat => s.heap.size ≤ q) s.heap H1 locs1 → W p l e room_1 s m #[Value.ref b] below meth c H1 locs1 cells slots Q (F0 m 1050 ls [])) : W p l e room_1 s m #[Value.ref b] below meth c H locs cells slots Q (F0 m 401 ls []) := by
  have hbA : ¬ (fun q : Nat => s.heap.size ≤ q) b := Nat.not_le.mpr C.hbl
  obtain ⟨f0, e0⟩ := hI.r0
  obtain ⟨v, ws1, ws2, f1, ⟨fs, g1⟩, f2, hI2⟩ := b_depth l G hI (xs (i + 1)) (xs (i + 2)) (xs (i + 3))
  refine lv_aload_n C.hx C.hb d_law_401 rfl (lv_at hl 1 rfl) ?_
  refine lv_aload_n C.hx C.hb d_law_402 rfl (lv_at hl 0 rfl) ?_
  refine lv_iload_n C.hx C.hb d_law_403 rfl (lv_at hl 3 rfl) ?_
  refine lv_iconst (v := 1) C.hx C.hb d_law_404 (by decide) ?_
  refine lv_iadd C.hx C.hb d_law_405 ?_
  refine ww_e (nI_addE (a := i) (b := 1) rfl rfl) ?_
  refine va_sld C.hx C.hb C.hX C.hbl hbA hS (show vp_in (nI (i + 1)) L from vp_in_nI (by omega) (by omega)) d_law_406 ?_
  refine ww_e (congrArg xs (nI_clamp (by omega))) ?_
  refine lv_aload_n C.hx C.hb d_law_407 rfl (lv_at hl 0 rfl) ?_
  refine lv_iload_n C.hx C.hb d_law_408 rfl (lv_at hl 3 rfl) ?_
  refine lv_iconst (v := 2) C.hx C.hb d_law_409 (by decide) ?_
  refine lv_iadd C.hx C.hb d_law_410 ?_
  refine ww_e (nI_addE (a := i) (b := 2) rfl rfl) ?_
  refine va_sld C.hx C.hb C.hX C.hbl hbA hS (show vp_in (nI (i + 2)) L from vp_in_nI (by omega) (by omega)) d_law_411 ?_
  refine ww_e (congrArg xs (nI_clamp (by omega))) ?_
  refine lv_aload_n C.hx C.hb d_law_412 rfl (lv_at hl 0 rfl) ?_
  refine lv_iload_n C.hx C.hb d_law_413 rfl (lv_at hl 3 rfl) ?_
  refine lv_iconst (v := 3) C.hx C.hb d_law_414 (by decide) ?_
  refine lv_iadd C.hx C.hb d_law_415 ?_
  refine ww_e (nI_addE (a := i) (b := 3) rfl rfl) ?_
  refine va_sld C.hx C.hb C.hX C.hbl hbA hS (show vp_in (nI (i + 3)) L from vp_in_nI (by omega) (by omega)) d_law_416 ?_
  refine ww_e (congrArg xs (nI_clamp (by omega))) ?_
  refine ful_V (q := (RX6, TX6, 9)) (As := [.int (xs (i + 1)), .int (xs (i + 2)), .int (xs (i + 3))]) (rest := []) C 0 6 f1 (mf_X6_depth C.hK.2) (kw_410 C.hK.2) (kw_411 C.hK.2) (kw_409 C.hK.2) rfl hP hD hS e0 rfl hl (Nat.le_of_ble_eq_true rfl) rfl hcs d_law_417 (fun H locs hP hD hS => ?_)
  refine lv_aload_n C.hx C.hb d_law_420 rfl (lv_at hl 2 rfl) ?_
  refine lv_aload_n C.hx C.hb d_law_421 rfl (lv_at hl 0 rfl) ?_
  refine lv_iload_n C.hx C.hb d_law_422 rfl (lv_at hl 3 rfl) ?_
  refine lv_iconst (v := 1) C.hx C.hb d_law_423 (by decide) ?_
  refine lv_iadd C.hx C.hb d_law_424 ?_
  refine ww_e (nI_addE (a := i) (b := 1) rfl rfl) ?_
  refine va_sld C.hx C.hb C.hX C.hbl hbA hS (show vp_in (nI (i + 1)) L from vp_in_nI (by omega) (by omega)) d_law_425 ?_
  refine ww_e (congrArg xs (nI_clamp (by omega))) ?_
  refine lv_aload_n C.hx C.hb d_law_426 rfl (lv_at hl 0 rfl) ?_
  refine lv_iload_n C.hx C.hb d_law_427 rfl (lv_at hl 3 rfl) ?_
  refine lv_iconst (v := 2) C.hx C.hb d_law_428 (by decide) ?_
  refine lv_iadd C.hx C.hb d_law_429 ?_
  refine ww_e (nI_addE (a := i) (b := 2) rfl rfl) ?_
  refine va_sld C.hx C.hb C.hX C.hbl hbA hS (show vp_in (nI (i + 2)) L from vp_in_nI (by omega) (by omega)) d_law_430 ?_
  refine ww_e (congrArg xs (nI_clamp (by omega))) ?_
  refine lv_aload_n C.hx C.hb d_law_431 rfl (lv_at hl 0 rfl) ?_
  refine lv_iload_n C.hx C.hb d_law_432 rfl (lv_at hl 3 rfl) ?_
  refine lv_iconst (v := 3) C.hx C.hb d_law_433 (by decide) ?_
  refine lv_iadd C.hx C.hb d_law_434 ?_
  refine ww_e (nI_addE (a := i) (b := 3) rfl rfl) ?_
  refine va_sld C.hx C.hb C.hX C.hbl hbA hS (show vp_in (nI (i + 3)) L from vp_in_nI (by omega) (by omega)) d_law_435 ?_
  refine ww_e (congrArg xs (nI_clamp (by omega))) ?_
  refine ful_V (q := (RX7, TX7, 12)) (As := [.int (xs (i + 1)), .int (xs (i + 2)), .int (xs (i + 3))]) (rest := [.int (v)]) C 65 7 f2 (mf_X7_depth C.hK.2) (kw_780 C.hK.2) (kw_781 C.hK.2) (kw_779 C.hK.2) rfl hP hD hS g1 rfl hl (Nat.le_of_ble_eq_true rfl) rfl hcs d_law_436 (fun H locs hP hD hS => ?_)
  refine lv_icmp_eq (tgt := 1050) C.hx C.hb d_law_439 (by decide) (fun _ => ?_) (fun c9 => absurd rfl c9)
  exact kk _ _ ws2 hI2 hP hD hS
set_option maxHeartbeats 4000000 in
theorem lc_learnt (C : LWC p s m c b L xs G sq sv) (hL : L ≤ 320) (hi : i + 5 ≤ L) (hI : INV G A ws) (hP : va_P G.1 wcl ws H) (hD : va_D (fun q : Nat => s.heap.size ≤ q) ws) (hS : va_S (fun q : Nat => s.heap.size ≤ q) s.heap H locs) (hl : lv_has ls 4 [(0, .ref b), (1, .ref (A 0)), (2, .ref (A 65)), (3, .int (nI i))]) (hcs : cells ≤ room_1.cells ∧ slots ≤ room_1.slots)
    (kk : ∀ (H1 : Heap) (locs1 : List Loc) (ws1 : va_W), INV G A ws1 → va_P G.1 wcl ws1 H1 → va_D (fun q : Nat => s.heap.size ≤ q) ws1 → va_S (fun q : Nat => s.heap.size ≤ q) s.heap H1 locs1 → W p l e room_1 s m #[Value.ref b] below meth c H1 locs1 cells slots Q (F0 m 1050 ls [])) : W p l e room_1 s m #[Value.ref b] below meth c H locs cells slots Q (F0 m 444 ls []) := by
  have hbA : ¬ (fun q : Nat => s.heap.size ≤ q) b := Nat.not_le.mpr C.hbl
  obtain ⟨f0, e0⟩ := hI.r0
  obtain ⟨v, ws1, ws2, f1, ⟨fs, g1⟩, f2, hI2⟩ := b_learnt l G hI (xs (i + 1)) (xs (i + 2))
  refine lv_aload_n C.hx C.hb d_law_444 rfl (lv_at hl 1 rfl) ?_
  refine lv_aload_n C.hx C.hb d_law_445 rfl (lv_at hl 0 rfl) ?_
  refine lv_iload_n C.hx C.hb d_law_446 rfl (lv_at hl 3 rfl) ?_
  refine lv_iconst (v := 1) C.hx C.hb d_law_447 (by decide) ?_
  refine lv_iadd C.hx C.hb d_law_448 ?_
  refine ww_e (nI_addE (a := i) (b := 1) rfl rfl) ?_
  refine va_sld C.hx C.hb C.hX C.hbl hbA hS (show vp_in (nI (i + 1)) L from vp_in_nI (by omega) (by omega)) d_law_449 ?_
  refine ww_e (congrArg xs (nI_clamp (by omega))) ?_
  refine lv_aload_n C.hx C.hb d_law_450 rfl (lv_at hl 0 rfl) ?_
  refine lv_iload_n C.hx C.hb d_law_451 rfl (lv_at hl 3 rfl) ?_
  refine lv_iconst (v := 2) C.hx C.hb d_law_452 (by decide) ?_
  refine lv_iadd C.hx C.hb d_law_453 ?_
  refine ww_e (nI_addE (a := i) (b := 2) rfl rfl) ?_
  refine va_sld C.hx C.hb C.hX C.hbl hbA hS (show vp_in (nI (i + 2)) L from vp_in_nI (by omega) (by omega)) d_law_454 ?_
  refine ww_e (congrArg xs (nI_clamp (by omega))) ?_
  refine ful_V (q := (RX6, TX6, 9)) (As := [.int (xs (i + 1)), .int (xs (i + 2))]) (rest := []) C 0 6 f1 (mf_X6_learnt C.hK.2) (kw_436 C.hK.2) (kw_437 C.hK.2) (kw_435 C.hK.2) rfl hP hD hS e0 rfl hl (Nat.le_of_ble_eq_true rfl) rfl hcs d_law_455 (fun H locs hP hD hS => ?_)
  refine lv_aload_n C.hx C.hb d_law_458 rfl (lv_at hl 2 rfl) ?_
  refine lv_aload_n C.hx C.hb d_law_459 rfl (lv_at hl 0 rfl) ?_
  refine lv_iload_n C.hx C.hb d_law_460 rfl (lv_at hl 3 rfl) ?_
  refine lv_iconst (v := 1) C.hx C.hb d_law_461 (by decide) ?_
  refine lv_iadd C.hx C.hb d_law_462 ?_
  refine ww_e (nI_addE (a := i) (b := 1) rfl rfl) ?_
  refine va_sld C.hx C.hb C.hX C.hbl hbA hS (show vp_in (nI (i + 1)) L from vp_in_nI (by omega) (by omega)) d_law_463 ?_
  refine ww_e (congrArg xs (nI_clamp (by omega))) ?_
  refine lv_aload_n C.hx C.hb d_law_464 rfl (lv_at hl 0 rfl) ?_
  refine lv_iload_n C.hx C.hb d_law_465 rfl (lv_at hl 3 rfl) ?_
  refine lv_iconst (v := 2) C.hx C.hb d_law_466 (by decide) ?_
  refine lv_iadd C.hx C.hb d_law_467 ?_
  refine ww_e (nI_addE (a := i) (b := 2) rfl rfl) ?_
  refine va_sld C.hx C.hb C.hX C.hbl hbA hS (show vp_in (nI (i + 2)) L from vp_in_nI (by omega) (by omega)) d_law_468 ?_
  refine ww_e (congrArg xs (nI_clamp (by omega))) ?_
  refine ful_V (q := (RX7, TX7, 12)) (As := [.int (xs (i + 1)), .int (xs (i + 2))]) (rest := [.int (v)]) C 65 7 f2 (mf_X7_learnt C.hK.2) (kw_795 C.hK.2) (kw_796 C.hK.2) (kw_794 C.hK.2) rfl hP hD hS g1 rfl hl (Nat.le_of_ble_eq_true rfl) rfl hcs d_law_469 (fun H locs hP hD hS => ?_)
  refine lv_icmp_eq (tgt := 1050) C.hx C.hb d_law_472 (by decide) (fun _ => ?_) (fun c9 => absurd rfl c9)
  exact kk _ _ ws2 hI2 hP hD hS
set_option maxHeartbeats 4000000 in
theorem lc_put (C : LWC p s m c b L xs G sq sv) (hL : L ≤ 320) (hi : i + 5 ≤ L) (hI : INV G A ws) (hP : va_P G.1 wcl ws H) (hD : va_D (fun q : Nat => s.heap.size ≤ q) ws) (hS : va_S (fun q : Nat => s.heap.size ≤ q) s.heap H locs) (hl : lv_has ls 4 [(0, .ref b), (1, .ref (A 0)), (2, .ref (A 65)), (3, .int (nI i))]) (hcs : cells ≤ room_1.cells ∧ slots ≤ room_1.slots)
    (kk : ∀ (H1 : Heap) (locs1 : List Loc) (ws1 : va_W), INV G A ws1 → va_P G.1 wcl ws1 H1 → va_D (fun q : Nat => s.heap.size ≤ q) ws1 → va_S (fun q : Nat => s.heap.size ≤ q) s.heap H1 locs1 → W p l e room_1 s m #[Value.ref b] below meth c H1 locs1 cells slots Q (F0 m 1050 ls [])) : W p l e room_1 s m #[Value.ref b] below meth c H locs cells slots Q (F0 m 477 ls []) := by
  have hbA : ¬ (fun q : Nat => s.heap.size ≤ q) b := Nat.not_le.mpr C.hbl
  obtain ⟨f0, e0⟩ := hI.r0
  obtain ⟨v, ws1, ws2, f1, ⟨fs, g1⟩, f2, hI2⟩ := b_put l G hI (xs (i + 1))
  refine lv_aload_n C.hx C.hb d_law_477 rfl (lv_at hl 1 rfl) ?_
  refine lv_aload_n C.hx C.hb d_law_478 rfl (lv_at hl 0 rfl) ?_
  refine lv_iload_n C.hx C.hb d_law_479 rfl (lv_at hl 3 rfl) ?_
  refine lv_iconst (v := 1) C.hx C.hb d_law_480 (by decide) ?_
  refine lv_iadd C.hx C.hb d_law_481 ?_
  refine ww_e (nI_addE (a := i) (b := 1) rfl rfl) ?_
  refine va_sld C.hx C.hb C.hX C.hbl hbA hS (show vp_in (nI (i + 1)) L from vp_in_nI (by omega) (by omega)) d_law_482 ?_
  refine ww_e (congrArg xs (nI_clamp (by omega))) ?_
  refine ful_V (q := (RX6, TX6, 9)) (As := [.int (xs (i + 1))]) (rest := []) C 0 6 f1 (mf_X6_put C.hK.2) (kw_444 C.hK.2) (kw_445 C.hK.2) (kw_443 C.hK.2) rfl hP hD hS e0 rfl hl (Nat.le_of_ble_eq_true rfl) rfl hcs d_law_483 (fun H locs hP hD hS => ?_)
  refine lv_aload_n C.hx C.hb d_law_486 rfl (lv_at hl 2 rfl) ?_
  refine lv_aload_n C.hx C.hb d_law_487 rfl (lv_at hl 0 rfl) ?_
  refine lv_iload_n C.hx C.hb d_law_488 rfl (lv_at hl 3 rfl) ?_
  refine lv_iconst (v := 1) C.hx C.hb d_law_489 (by decide) ?_
  refine lv_iadd C.hx C.hb d_law_490 ?_
  refine ww_e (nI_addE (a := i) (b := 1) rfl rfl) ?_
  refine va_sld C.hx C.hb C.hX C.hbl hbA hS (show vp_in (nI (i + 1)) L from vp_in_nI (by omega) (by omega)) d_law_491 ?_
  refine ww_e (congrArg xs (nI_clamp (by omega))) ?_
  refine ful_V (q := (RX7, TX7, 12)) (As := [.int (xs (i + 1))]) (rest := [.int (v)]) C 65 7 f2 (mf_X7_put C.hK.2) (kw_803 C.hK.2) (kw_804 C.hK.2) (kw_802 C.hK.2) rfl hP hD hS g1 rfl hl (Nat.le_of_ble_eq_true rfl) rfl hcs d_law_492 (fun H locs hP hD hS => ?_)
  refine lv_icmp_eq (tgt := 1050) C.hx C.hb d_law_495 (by decide) (fun _ => ?_) (fun c9 => absurd rfl c9)
  exact kk _ _ ws2 hI2 hP hD hS
set_option maxHeartbeats 4000000 in
theorem lc_judge (C : LWC p s m c b L xs G sq sv) (hL : L ≤ 320) (hi : i + 5 ≤ L) (hI : INV G A ws) (hP : va_P G.1 wcl ws H) (hD : va_D (fun q : Nat => s.heap.size ≤ q) ws) (hS : va_S (fun q : Nat => s.heap.size ≤ q) s.heap H locs) (hl : lv_has ls 4 [(0, .ref b), (1, .ref (A 0)), (2, .ref (A 65)), (3, .int (nI i))]) (hcs : cells ≤ room_1.cells ∧ slots ≤ room_1.slots)
    (kk : ∀ (H1 : Heap) (locs1 : List Loc) (ws1 : va_W), INV G A ws1 → va_P G.1 wcl ws1 H1 → va_D (fun q : Nat => s.heap.size ≤ q) ws1 → va_S (fun q : Nat => s.heap.size ≤ q) s.heap H1 locs1 → W p l e room_1 s m #[Value.ref b] below meth c H1 locs1 cells slots Q (F0 m 1050 ls [])) : W p l e room_1 s m #[Value.ref b] below meth c H locs cells slots Q (F0 m 500 ls []) := by
  have hbA : ¬ (fun q : Nat => s.heap.size ≤ q) b := Nat.not_le.mpr C.hbl
  obtain ⟨f0, e0⟩ := hI.r0
  obtain ⟨v, ws1, ws2, f1, ⟨fs, g1⟩, f2, hI2⟩ := b_judge l G hI (xs (i + 1)) (xs (i + 2))
  refine lv_aload_n C.hx C.hb d_law_500 rfl (lv_at hl 1 rfl) ?_
  refine lv_aload_n C.hx C.hb d_law_501 rfl (lv_at hl 0 rfl) ?_
  refine lv_iload_n C.hx C.hb d_law_502 rfl (lv_at hl 3 rfl) ?_
  refine lv_iconst (v := 1) C.hx C.hb d_law_503 (by decide) ?_
  refine lv_iadd C.hx C.hb d_law_504 ?_
  refine ww_e (nI_addE (a := i) (b := 1) rfl rfl) ?_
  refine va_sld C.hx C.hb C.hX C.hbl hbA hS (show vp_in (nI (i + 1)) L from vp_in_nI (by omega) (by omega)) d_law_505 ?_
  refine ww_e (congrArg xs (nI_clamp (by omega))) ?_
  refine lv_aload_n C.hx C.hb d_law_506 rfl (lv_at hl 0 rfl) ?_
  refine lv_iload_n C.hx C.hb d_law_507 rfl (lv_at hl 3 rfl) ?_
  refine lv_iconst (v := 2) C.hx C.hb d_law_508 (by decide) ?_
  refine lv_iadd C.hx C.hb d_law_509 ?_
  refine ww_e (nI_addE (a := i) (b := 2) rfl rfl) ?_
  refine va_sld C.hx C.hb C.hX C.hbl hbA hS (show vp_in (nI (i + 2)) L from vp_in_nI (by omega) (by omega)) d_law_510 ?_
  refine ww_e (congrArg xs (nI_clamp (by omega))) ?_
  refine ful_V (q := (RX6, TX6, 9)) (As := [.int (xs (i + 1)), .int (xs (i + 2))]) (rest := []) C 0 6 f1 (mf_X6_judge C.hK.2) (kw_448 C.hK.2) (kw_449 C.hK.2) (kw_447 C.hK.2) rfl hP hD hS e0 rfl hl (Nat.le_of_ble_eq_true rfl) rfl hcs d_law_511 (fun H locs hP hD hS => ?_)
  refine lv_aload_n C.hx C.hb d_law_514 rfl (lv_at hl 2 rfl) ?_
  refine lv_aload_n C.hx C.hb d_law_515 rfl (lv_at hl 0 rfl) ?_
  refine lv_iload_n C.hx C.hb d_law_516 rfl (lv_at hl 3 rfl) ?_
  refine lv_iconst (v := 1) C.hx C.hb d_law_517 (by decide) ?_
  refine lv_iadd C.hx C.hb d_law_518 ?_
  refine ww_e (nI_addE (a := i) (b := 1) rfl rfl) ?_
  refine va_sld C.hx C.hb C.hX C.hbl hbA hS (show vp_in (nI (i + 1)) L from vp_in_nI (by omega) (by omega)) d_law_519 ?_
  refine ww_e (congrArg xs (nI_clamp (by omega))) ?_
  refine lv_aload_n C.hx C.hb d_law_520 rfl (lv_at hl 0 rfl) ?_
  refine lv_iload_n C.hx C.hb d_law_521 rfl (lv_at hl 3 rfl) ?_
  refine lv_iconst (v := 2) C.hx C.hb d_law_522 (by decide) ?_
  refine lv_iadd C.hx C.hb d_law_523 ?_
  refine ww_e (nI_addE (a := i) (b := 2) rfl rfl) ?_
  refine va_sld C.hx C.hb C.hX C.hbl hbA hS (show vp_in (nI (i + 2)) L from vp_in_nI (by omega) (by omega)) d_law_524 ?_
  refine ww_e (congrArg xs (nI_clamp (by omega))) ?_
  refine ful_V (q := (RX7, TX7, 12)) (As := [.int (xs (i + 1)), .int (xs (i + 2))]) (rest := [.int (v)]) C 65 7 f2 (mf_X7_judge C.hK.2) (kw_807 C.hK.2) (kw_808 C.hK.2) (kw_806 C.hK.2) rfl hP hD hS g1 rfl hl (Nat.le_of_ble_eq_true rfl) rfl hcs d_law_525 (fun H locs hP hD hS => ?_)
  refine lv_icmp_eq (tgt := 1050) C.hx C.hb d_law_528 (by decide) (fun _ => ?_) (fun c9 => absurd rfl c9)
  exact kk _ _ ws2 hI2 hP hD hS
set_option maxHeartbeats 4000000 in
theorem lc_needed (C : LWC p s m c b L xs G sq sv) (hL : L ≤ 320) (hi : i + 5 ≤ L) (hI : INV G A ws) (hP : va_P G.1 wcl ws H) (hD : va_D (fun q : Nat => s.heap.size ≤ q) ws) (hS : va_S (fun q : Nat => s.heap.size ≤ q) s.heap H locs) (hl : lv_has ls 4 [(0, .ref b), (1, .ref (A 0)), (2, .ref (A 65)), (3, .int (nI i))]) (hcs : cells ≤ room_1.cells ∧ slots ≤ room_1.slots)
    (kk : ∀ (H1 : Heap) (locs1 : List Loc) (ws1 : va_W), INV G A ws1 → va_P G.1 wcl ws1 H1 → va_D (fun q : Nat => s.heap.size ≤ q) ws1 → va_S (fun q : Nat => s.heap.size ≤ q) s.heap H1 locs1 → W p l e room_1 s m #[Value.ref b] below meth c H1 locs1 cells slots Q (F0 m 1050 ls [])) : W p l e room_1 s m #[Value.ref b] below meth c H locs cells slots Q (F0 m 533 ls []) := by
  have hbA : ¬ (fun q : Nat => s.heap.size ≤ q) b := Nat.not_le.mpr C.hbl
  obtain ⟨f0, e0⟩ := hI.r0
  obtain ⟨v, ws1, ws2, f1, ⟨fs, g1⟩, f2, hI2⟩ := b_needed l G hI (xs (i + 1)) (xs (i + 2))
  refine lv_aload_n C.hx C.hb d_law_533 rfl (lv_at hl 1 rfl) ?_
  refine lv_aload_n C.hx C.hb d_law_534 rfl (lv_at hl 0 rfl) ?_
  refine lv_iload_n C.hx C.hb d_law_535 rfl (lv_at hl 3 rfl) ?_
  refine lv_iconst (v := 1) C.hx C.hb d_law_536 (by decide) ?_
  refine lv_iadd C.hx C.hb d_law_537 ?_
  refine ww_e (nI_addE (a := i) (b := 1) rfl rfl) ?_
  refine va_sld C.hx C.hb C.hX C.hbl hbA hS (show vp_in (nI (i + 1)) L from vp_in_nI (by omega) (by omega)) d_law_538 ?_
  refine ww_e (congrArg xs (nI_clamp (by omega))) ?_
  refine lv_aload_n C.hx C.hb d_law_539 rfl (lv_at hl 0 rfl) ?_
  refine lv_iload_n C.hx C.hb d_law_540 rfl (lv_at hl 3 rfl) ?_
  refine lv_iconst (v := 2) C.hx C.hb d_law_541 (by decide) ?_
  refine lv_iadd C.hx C.hb d_law_542 ?_
  refine ww_e (nI_addE (a := i) (b := 2) rfl rfl) ?_
  refine va_sld C.hx C.hb C.hX C.hbl hbA hS (show vp_in (nI (i + 2)) L from vp_in_nI (by omega) (by omega)) d_law_543 ?_
  refine ww_e (congrArg xs (nI_clamp (by omega))) ?_
  refine ful_V (q := (RX6, TX6, 9)) (As := [.int (xs (i + 1)), .int (xs (i + 2))]) (rest := []) C 0 6 f1 (mf_X6_needed C.hK.2) (kw_457 C.hK.2) (kw_458 C.hK.2) (kw_456 C.hK.2) rfl hP hD hS e0 rfl hl (Nat.le_of_ble_eq_true rfl) rfl hcs d_law_544 (fun H locs hP hD hS => ?_)
  refine lv_aload_n C.hx C.hb d_law_547 rfl (lv_at hl 2 rfl) ?_
  refine lv_aload_n C.hx C.hb d_law_548 rfl (lv_at hl 0 rfl) ?_
  refine lv_iload_n C.hx C.hb d_law_549 rfl (lv_at hl 3 rfl) ?_
  refine lv_iconst (v := 1) C.hx C.hb d_law_550 (by decide) ?_
  refine lv_iadd C.hx C.hb d_law_551 ?_
  refine ww_e (nI_addE (a := i) (b := 1) rfl rfl) ?_
  refine va_sld C.hx C.hb C.hX C.hbl hbA hS (show vp_in (nI (i + 1)) L from vp_in_nI (by omega) (by omega)) d_law_552 ?_
  refine ww_e (congrArg xs (nI_clamp (by omega))) ?_
  refine lv_aload_n C.hx C.hb d_law_553 rfl (lv_at hl 0 rfl) ?_
  refine lv_iload_n C.hx C.hb d_law_554 rfl (lv_at hl 3 rfl) ?_
  refine lv_iconst (v := 2) C.hx C.hb d_law_555 (by decide) ?_
  refine lv_iadd C.hx C.hb d_law_556 ?_
  refine ww_e (nI_addE (a := i) (b := 2) rfl rfl) ?_
  refine va_sld C.hx C.hb C.hX C.hbl hbA hS (show vp_in (nI (i + 2)) L from vp_in_nI (by omega) (by omega)) d_law_557 ?_
  refine ww_e (congrArg xs (nI_clamp (by omega))) ?_
  refine ful_V (q := (RX7, TX7, 12)) (As := [.int (xs (i + 1)), .int (xs (i + 2))]) (rest := [.int (v)]) C 65 7 f2 (mf_X7_needed C.hK.2) (kw_811 C.hK.2) (kw_812 C.hK.2) (kw_810 C.hK.2) rfl hP hD hS g1 rfl hl (Nat.le_of_ble_eq_true rfl) rfl hcs d_law_558 (fun H locs hP hD hS => ?_)
  refine lv_icmp_eq (tgt := 1050) C.hx C.hb d_law_561 (by decide) (fun _ => ?_) (fun c9 => absurd rfl c9)
  exact kk _ _ ws2 hI2 hP hD hS
set_option maxHeartbeats 4000000 in
theorem lc_idle (C : LWC p s m c b L xs G sq sv) (hL : L ≤ 320) (hi : i + 5 ≤ L) (hI : INV G A ws) (hP : va_P G.1 wcl ws H) (hD : va_D (fun q : Nat => s.heap.size ≤ q) ws) (hS : va_S (fun q : Nat => s.heap.size ≤ q) s.heap H locs) (hl : lv_has ls 4 [(0, .ref b), (1, .ref (A 0)), (2, .ref (A 65)), (3, .int (nI i))]) (hcs : cells ≤ room_1.cells ∧ slots ≤ room_1.slots)
    (kk : ∀ (H1 : Heap) (locs1 : List Loc) (ws1 : va_W), INV G A ws1 → va_P G.1 wcl ws1 H1 → va_D (fun q : Nat => s.heap.size ≤ q) ws1 → va_S (fun q : Nat => s.heap.size ≤ q) s.heap H1 locs1 → W p l e room_1 s m #[Value.ref b] below meth c H1 locs1 cells slots Q (F0 m 1050 ls [])) : W p l e room_1 s m #[Value.ref b] below meth c H locs cells slots Q (F0 m 566 ls []) := by
  have hbA : ¬ (fun q : Nat => s.heap.size ≤ q) b := Nat.not_le.mpr C.hbl
  obtain ⟨f0, e0⟩ := hI.r0
  obtain ⟨v, ws1, ws2, f1, ⟨fs, g1⟩, f2, hI2⟩ := b_idle l G hI (xs (i + 1))
  refine lv_aload_n C.hx C.hb d_law_566 rfl (lv_at hl 1 rfl) ?_
  refine lv_aload_n C.hx C.hb d_law_567 rfl (lv_at hl 0 rfl) ?_
  refine lv_iload_n C.hx C.hb d_law_568 rfl (lv_at hl 3 rfl) ?_
  refine lv_iconst (v := 1) C.hx C.hb d_law_569 (by decide) ?_
  refine lv_iadd C.hx C.hb d_law_570 ?_
  refine ww_e (nI_addE (a := i) (b := 1) rfl rfl) ?_
  refine va_sld C.hx C.hb C.hX C.hbl hbA hS (show vp_in (nI (i + 1)) L from vp_in_nI (by omega) (by omega)) d_law_571 ?_
  refine ww_e (congrArg xs (nI_clamp (by omega))) ?_
  refine ful_V (q := (RX6, TX6, 9)) (As := [.int (xs (i + 1))]) (rest := []) C 0 6 f1 (mf_X6_idle C.hK.2) (kw_465 C.hK.2) (kw_466 C.hK.2) (kw_464 C.hK.2) rfl hP hD hS e0 rfl hl (Nat.le_of_ble_eq_true rfl) rfl hcs d_law_572 (fun H locs hP hD hS => ?_)
  refine lv_aload_n C.hx C.hb d_law_575 rfl (lv_at hl 2 rfl) ?_
  refine lv_aload_n C.hx C.hb d_law_576 rfl (lv_at hl 0 rfl) ?_
  refine lv_iload_n C.hx C.hb d_law_577 rfl (lv_at hl 3 rfl) ?_
  refine lv_iconst (v := 1) C.hx C.hb d_law_578 (by decide) ?_
  refine lv_iadd C.hx C.hb d_law_579 ?_
  refine ww_e (nI_addE (a := i) (b := 1) rfl rfl) ?_
  refine va_sld C.hx C.hb C.hX C.hbl hbA hS (show vp_in (nI (i + 1)) L from vp_in_nI (by omega) (by omega)) d_law_580 ?_
  refine ww_e (congrArg xs (nI_clamp (by omega))) ?_
  refine ful_V (q := (RX7, TX7, 12)) (As := [.int (xs (i + 1))]) (rest := [.int (v)]) C 65 7 f2 (mf_X7_idle C.hK.2) (kw_819 C.hK.2) (kw_820 C.hK.2) (kw_818 C.hK.2) rfl hP hD hS g1 rfl hl (Nat.le_of_ble_eq_true rfl) rfl hcs d_law_581 (fun H locs hP hD hS => ?_)
  refine lv_icmp_eq (tgt := 1050) C.hx C.hb d_law_584 (by decide) (fun _ => ?_) (fun c9 => absurd rfl c9)
  exact kk _ _ ws2 hI2 hP hD hS
set_option maxHeartbeats 4000000 in
theorem lc_leads (C : LWC p s m c b L xs G sq sv) (hL : L ≤ 320) (hi : i + 5 ≤ L) (hI : INV G A ws) (hP : va_P G.1 wcl ws H) (hD : va_D (fun q : Nat => s.heap.size ≤ q) ws) (hS : va_S (fun q : Nat => s.heap.size ≤ q) s.heap H locs) (hl : lv_has ls 4 [(0, .ref b), (1, .ref (A 0)), (2, .ref (A 65)), (3, .int (nI i))]) (hcs : cells ≤ room_1.cells ∧ slots ≤ room_1.slots)
    (kk : ∀ (H1 : Heap) (locs1 : List Loc) (ws1 : va_W), INV G A ws1 → va_P G.1 wcl ws1 H1 → va_D (fun q : Nat => s.heap.size ≤ q) ws1 → va_S (fun q : Nat => s.heap.size ≤ q) s.heap H1 locs1 → W p l e room_1 s m #[Value.ref b] below meth c H1 locs1 cells slots Q (F0 m 1050 ls [])) : W p l e room_1 s m #[Value.ref b] below meth c H locs cells slots Q (F0 m 589 ls []) := by
  have hbA : ¬ (fun q : Nat => s.heap.size ≤ q) b := Nat.not_le.mpr C.hbl
  obtain ⟨f0, e0⟩ := hI.r0
  obtain ⟨v, ws1, ws2, f1, ⟨fs, g1⟩, f2, hI2⟩ := b_leads l G hI (xs (i + 1)) (xs (i + 2))
  refine lv_aload_n C.hx C.hb d_law_589 rfl (lv_at hl 1 rfl) ?_
  refine lv_aload_n C.hx C.hb d_law_590 rfl (lv_at hl 0 rfl) ?_
  refine lv_iload_n C.hx C.hb d_law_591 rfl (lv_at hl 3 rfl) ?_
  refine lv_iconst (v := 1) C.hx C.hb d_law_592 (by decide) ?_
  refine lv_iadd C.hx C.hb d_law_593 ?_
  refine ww_e (nI_addE (a := i) (b := 1) rfl rfl) ?_
  refine va_sld C.hx C.hb C.hX C.hbl hbA hS (show vp_in (nI (i + 1)) L from vp_in_nI (by omega) (by omega)) d_law_594 ?_
  refine ww_e (congrArg xs (nI_clamp (by omega))) ?_
  refine lv_aload_n C.hx C.hb d_law_595 rfl (lv_at hl 0 rfl) ?_
  refine lv_iload_n C.hx C.hb d_law_596 rfl (lv_at hl 3 rfl) ?_
  refine lv_iconst (v := 2) C.hx C.hb d_law_597 (by decide) ?_
  refine lv_iadd C.hx C.hb d_law_598 ?_
  refine ww_e (nI_addE (a := i) (b := 2) rfl rfl) ?_
  refine va_sld C.hx C.hb C.hX C.hbl hbA hS (show vp_in (nI (i + 2)) L from vp_in_nI (by omega) (by omega)) d_law_599 ?_
  refine ww_e (congrArg xs (nI_clamp (by omega))) ?_
  refine ful_V (q := (RX6, TX6, 9)) (As := [.int (xs (i + 1)), .int (xs (i + 2))]) (rest := []) C 0 6 f1 (mf_X6_leads C.hK.2) (kw_473 C.hK.2) (kw_474 C.hK.2) (kw_472 C.hK.2) rfl hP hD hS e0 rfl hl (Nat.le_of_ble_eq_true rfl) rfl hcs d_law_600 (fun H locs hP hD hS => ?_)
  refine lv_aload_n C.hx C.hb d_law_603 rfl (lv_at hl 2 rfl) ?_
  refine lv_aload_n C.hx C.hb d_law_604 rfl (lv_at hl 0 rfl) ?_
  refine lv_iload_n C.hx C.hb d_law_605 rfl (lv_at hl 3 rfl) ?_
  refine lv_iconst (v := 1) C.hx C.hb d_law_606 (by decide) ?_
  refine lv_iadd C.hx C.hb d_law_607 ?_
  refine ww_e (nI_addE (a := i) (b := 1) rfl rfl) ?_
  refine va_sld C.hx C.hb C.hX C.hbl hbA hS (show vp_in (nI (i + 1)) L from vp_in_nI (by omega) (by omega)) d_law_608 ?_
  refine ww_e (congrArg xs (nI_clamp (by omega))) ?_
  refine lv_aload_n C.hx C.hb d_law_609 rfl (lv_at hl 0 rfl) ?_
  refine lv_iload_n C.hx C.hb d_law_610 rfl (lv_at hl 3 rfl) ?_
  refine lv_iconst (v := 2) C.hx C.hb d_law_611 (by decide) ?_
  refine lv_iadd C.hx C.hb d_law_612 ?_
  refine ww_e (nI_addE (a := i) (b := 2) rfl rfl) ?_
  refine va_sld C.hx C.hb C.hX C.hbl hbA hS (show vp_in (nI (i + 2)) L from vp_in_nI (by omega) (by omega)) d_law_613 ?_
  refine ww_e (congrArg xs (nI_clamp (by omega))) ?_
  refine ful_V (q := (RX7, TX7, 12)) (As := [.int (xs (i + 1)), .int (xs (i + 2))]) (rest := [.int (v)]) C 65 7 f2 (mf_X7_leads C.hK.2) (kw_823 C.hK.2) (kw_824 C.hK.2) (kw_822 C.hK.2) rfl hP hD hS g1 rfl hl (Nat.le_of_ble_eq_true rfl) rfl hcs d_law_614 (fun H locs hP hD hS => ?_)
  refine lv_icmp_eq (tgt := 1050) C.hx C.hb d_law_617 (by decide) (fun _ => ?_) (fun c9 => absurd rfl c9)
  exact kk _ _ ws2 hI2 hP hD hS
set_option maxHeartbeats 4000000 in
theorem lc_knot (C : LWC p s m c b L xs G sq sv) (hL : L ≤ 320) (hi : i + 5 ≤ L) (hI : INV G A ws) (hP : va_P G.1 wcl ws H) (hD : va_D (fun q : Nat => s.heap.size ≤ q) ws) (hS : va_S (fun q : Nat => s.heap.size ≤ q) s.heap H locs) (hl : lv_has ls 4 [(0, .ref b), (1, .ref (A 0)), (2, .ref (A 65)), (3, .int (nI i))]) (hcs : cells ≤ room_1.cells ∧ slots ≤ room_1.slots)
    (kk : ∀ (H1 : Heap) (locs1 : List Loc) (ws1 : va_W), INV G A ws1 → va_P G.1 wcl ws1 H1 → va_D (fun q : Nat => s.heap.size ≤ q) ws1 → va_S (fun q : Nat => s.heap.size ≤ q) s.heap H1 locs1 → W p l e room_1 s m #[Value.ref b] below meth c H1 locs1 cells slots Q (F0 m 1050 ls [])) : W p l e room_1 s m #[Value.ref b] below meth c H locs cells slots Q (F0 m 622 ls []) := by
  have hbA : ¬ (fun q : Nat => s.heap.size ≤ q) b := Nat.not_le.mpr C.hbl
  obtain ⟨f0, e0⟩ := hI.r0
  obtain ⟨v, ws1, ws2, f1, ⟨fs, g1⟩, f2, hI2⟩ := b_knot l G hI (xs (i + 1)) (xs (i + 2))
  refine lv_aload_n C.hx C.hb d_law_622 rfl (lv_at hl 1 rfl) ?_
  refine lv_aload_n C.hx C.hb d_law_623 rfl (lv_at hl 0 rfl) ?_
  refine lv_iload_n C.hx C.hb d_law_624 rfl (lv_at hl 3 rfl) ?_
  refine lv_iconst (v := 1) C.hx C.hb d_law_625 (by decide) ?_
  refine lv_iadd C.hx C.hb d_law_626 ?_
  refine ww_e (nI_addE (a := i) (b := 1) rfl rfl) ?_
  refine va_sld C.hx C.hb C.hX C.hbl hbA hS (show vp_in (nI (i + 1)) L from vp_in_nI (by omega) (by omega)) d_law_627 ?_
  refine ww_e (congrArg xs (nI_clamp (by omega))) ?_
  refine lv_aload_n C.hx C.hb d_law_628 rfl (lv_at hl 0 rfl) ?_
  refine lv_iload_n C.hx C.hb d_law_629 rfl (lv_at hl 3 rfl) ?_
  refine lv_iconst (v := 2) C.hx C.hb d_law_630 (by decide) ?_
  refine lv_iadd C.hx C.hb d_law_631 ?_
  refine ww_e (nI_addE (a := i) (b := 2) rfl rfl) ?_
  refine va_sld C.hx C.hb C.hX C.hbl hbA hS (show vp_in (nI (i + 2)) L from vp_in_nI (by omega) (by omega)) d_law_632 ?_
  refine ww_e (congrArg xs (nI_clamp (by omega))) ?_
  refine ful_V (q := (RX6, TX6, 9)) (As := [.int (xs (i + 1)), .int (xs (i + 2))]) (rest := []) C 0 6 f1 (mf_X6_knot C.hK.2) (kw_483 C.hK.2) (kw_484 C.hK.2) (kw_482 C.hK.2) rfl hP hD hS e0 rfl hl (Nat.le_of_ble_eq_true rfl) rfl hcs d_law_633 (fun H locs hP hD hS => ?_)
  refine lv_aload_n C.hx C.hb d_law_636 rfl (lv_at hl 2 rfl) ?_
  refine lv_aload_n C.hx C.hb d_law_637 rfl (lv_at hl 0 rfl) ?_
  refine lv_iload_n C.hx C.hb d_law_638 rfl (lv_at hl 3 rfl) ?_
  refine lv_iconst (v := 1) C.hx C.hb d_law_639 (by decide) ?_
  refine lv_iadd C.hx C.hb d_law_640 ?_
  refine ww_e (nI_addE (a := i) (b := 1) rfl rfl) ?_
  refine va_sld C.hx C.hb C.hX C.hbl hbA hS (show vp_in (nI (i + 1)) L from vp_in_nI (by omega) (by omega)) d_law_641 ?_
  refine ww_e (congrArg xs (nI_clamp (by omega))) ?_
  refine lv_aload_n C.hx C.hb d_law_642 rfl (lv_at hl 0 rfl) ?_
  refine lv_iload_n C.hx C.hb d_law_643 rfl (lv_at hl 3 rfl) ?_
  refine lv_iconst (v := 2) C.hx C.hb d_law_644 (by decide) ?_
  refine lv_iadd C.hx C.hb d_law_645 ?_
  refine ww_e (nI_addE (a := i) (b := 2) rfl rfl) ?_
  refine va_sld C.hx C.hb C.hX C.hbl hbA hS (show vp_in (nI (i + 2)) L from vp_in_nI (by omega) (by omega)) d_law_646 ?_
  refine ww_e (congrArg xs (nI_clamp (by omega))) ?_
  refine ful_V (q := (RX7, TX7, 12)) (As := [.int (xs (i + 1)), .int (xs (i + 2))]) (rest := [.int (v)]) C 65 7 f2 (mf_X7_knot C.hK.2) (kw_831 C.hK.2) (kw_832 C.hK.2) (kw_830 C.hK.2) rfl hP hD hS g1 rfl hl (Nat.le_of_ble_eq_true rfl) rfl hcs d_law_647 (fun H locs hP hD hS => ?_)
  refine lv_icmp_eq (tgt := 1050) C.hx C.hb d_law_650 (by decide) (fun _ => ?_) (fun c9 => absurd rfl c9)
  exact kk _ _ ws2 hI2 hP hD hS
set_option maxHeartbeats 4000000 in
theorem lc_knots (C : LWC p s m c b L xs G sq sv) (hL : L ≤ 320) (hi : i + 5 ≤ L) (hI : INV G A ws) (hP : va_P G.1 wcl ws H) (hD : va_D (fun q : Nat => s.heap.size ≤ q) ws) (hS : va_S (fun q : Nat => s.heap.size ≤ q) s.heap H locs) (hl : lv_has ls 4 [(0, .ref b), (1, .ref (A 0)), (2, .ref (A 65)), (3, .int (nI i))]) (hcs : cells ≤ room_1.cells ∧ slots ≤ room_1.slots)
    (kk : ∀ (H1 : Heap) (locs1 : List Loc) (ws1 : va_W), INV G A ws1 → va_P G.1 wcl ws1 H1 → va_D (fun q : Nat => s.heap.size ≤ q) ws1 → va_S (fun q : Nat => s.heap.size ≤ q) s.heap H1 locs1 → W p l e room_1 s m #[Value.ref b] below meth c H1 locs1 cells slots Q (F0 m 1050 ls [])) : W p l e room_1 s m #[Value.ref b] below meth c H locs cells slots Q (F0 m 655 ls []) := by
  have hbA : ¬ (fun q : Nat => s.heap.size ≤ q) b := Nat.not_le.mpr C.hbl
  obtain ⟨f0, e0⟩ := hI.r0
  obtain ⟨v, ws1, ws2, f1, ⟨fs, g1⟩, f2, hI2⟩ := b_knots l G hI (xs (i + 1))
  refine lv_aload_n C.hx C.hb d_law_655 rfl (lv_at hl 1 rfl) ?_
  refine lv_aload_n C.hx C.hb d_law_656 rfl (lv_at hl 0 rfl) ?_
  refine lv_iload_n C.hx C.hb d_law_657 rfl (lv_at hl 3 rfl) ?_
  refine lv_iconst (v := 1) C.hx C.hb d_law_658 (by decide) ?_
  refine lv_iadd C.hx C.hb d_law_659 ?_
  refine ww_e (nI_addE (a := i) (b := 1) rfl rfl) ?_
  refine va_sld C.hx C.hb C.hX C.hbl hbA hS (show vp_in (nI (i + 1)) L from vp_in_nI (by omega) (by omega)) d_law_660 ?_
  refine ww_e (congrArg xs (nI_clamp (by omega))) ?_
  refine ful_V (q := (RX6, TX6, 9)) (As := [.int (xs (i + 1))]) (rest := []) C 0 6 f1 (mf_X6_knots C.hK.2) (kw_492 C.hK.2) (kw_493 C.hK.2) (kw_491 C.hK.2) rfl hP hD hS e0 rfl hl (Nat.le_of_ble_eq_true rfl) rfl hcs d_law_661 (fun H locs hP hD hS => ?_)
  refine lv_aload_n C.hx C.hb d_law_664 rfl (lv_at hl 2 rfl) ?_
  refine lv_aload_n C.hx C.hb d_law_665 rfl (lv_at hl 0 rfl) ?_
  refine lv_iload_n C.hx C.hb d_law_666 rfl (lv_at hl 3 rfl) ?_
  refine lv_iconst (v := 1) C.hx C.hb d_law_667 (by decide) ?_
  refine lv_iadd C.hx C.hb d_law_668 ?_
  refine ww_e (nI_addE (a := i) (b := 1) rfl rfl) ?_
  refine va_sld C.hx C.hb C.hX C.hbl hbA hS (show vp_in (nI (i + 1)) L from vp_in_nI (by omega) (by omega)) d_law_669 ?_
  refine ww_e (congrArg xs (nI_clamp (by omega))) ?_
  refine ful_V (q := (RX7, TX7, 12)) (As := [.int (xs (i + 1))]) (rest := [.int (v)]) C 65 7 f2 (mf_X7_knots C.hK.2) (kw_839 C.hK.2) (kw_840 C.hK.2) (kw_838 C.hK.2) rfl hP hD hS g1 rfl hl (Nat.le_of_ble_eq_true rfl) rfl hcs d_law_670 (fun H locs hP hD hS => ?_)
  refine lv_icmp_eq (tgt := 1050) C.hx C.hb d_law_673 (by decide) (fun _ => ?_) (fun c9 => absurd rfl c9)
  exact kk _ _ ws2 hI2 hP hD hS
set_option maxHeartbeats 4000000 in
theorem lc_fewest (C : LWC p s m c b L xs G sq sv) (hL : L ≤ 320) (hi : i + 5 ≤ L) (hI : INV G A ws) (hP : va_P G.1 wcl ws H) (hD : va_D (fun q : Nat => s.heap.size ≤ q) ws) (hS : va_S (fun q : Nat => s.heap.size ≤ q) s.heap H locs) (hl : lv_has ls 4 [(0, .ref b), (1, .ref (A 0)), (2, .ref (A 65)), (3, .int (nI i))]) (hcs : cells ≤ room_1.cells ∧ slots ≤ room_1.slots)
    (kk : ∀ (H1 : Heap) (locs1 : List Loc) (ws1 : va_W), INV G A ws1 → va_P G.1 wcl ws1 H1 → va_D (fun q : Nat => s.heap.size ≤ q) ws1 → va_S (fun q : Nat => s.heap.size ≤ q) s.heap H1 locs1 → W p l e room_1 s m #[Value.ref b] below meth c H1 locs1 cells slots Q (F0 m 1050 ls [])) : W p l e room_1 s m #[Value.ref b] below meth c H locs cells slots Q (F0 m 678 ls []) := by
  have hbA : ¬ (fun q : Nat => s.heap.size ≤ q) b := Nat.not_le.mpr C.hbl
  obtain ⟨f0, e0⟩ := hI.r0
  obtain ⟨v, ws1, ws2, f1, ⟨fs, g1⟩, f2, hI2⟩ := b_fewest l G hI (xs (i + 1))
  refine lv_aload_n C.hx C.hb d_law_678 rfl (lv_at hl 1 rfl) ?_
  refine lv_aload_n C.hx C.hb d_law_679 rfl (lv_at hl 0 rfl) ?_
  refine lv_iload_n C.hx C.hb d_law_680 rfl (lv_at hl 3 rfl) ?_
  refine lv_iconst (v := 1) C.hx C.hb d_law_681 (by decide) ?_
  refine lv_iadd C.hx C.hb d_law_682 ?_
  refine ww_e (nI_addE (a := i) (b := 1) rfl rfl) ?_
  refine va_sld C.hx C.hb C.hX C.hbl hbA hS (show vp_in (nI (i + 1)) L from vp_in_nI (by omega) (by omega)) d_law_683 ?_
  refine ww_e (congrArg xs (nI_clamp (by omega))) ?_
  refine ful_V (q := (RX6, TX6, 9)) (As := [.int (xs (i + 1))]) (rest := []) C 0 6 f1 (mf_X6_fewest C.hK.2) (kw_504 C.hK.2) (kw_505 C.hK.2) (kw_503 C.hK.2) rfl hP hD hS e0 rfl hl (Nat.le_of_ble_eq_true rfl) rfl hcs d_law_684 (fun H locs hP hD hS => ?_)
  refine lv_aload_n C.hx C.hb d_law_687 rfl (lv_at hl 2 rfl) ?_
  refine lv_aload_n C.hx C.hb d_law_688 rfl (lv_at hl 0 rfl) ?_
  refine lv_iload_n C.hx C.hb d_law_689 rfl (lv_at hl 3 rfl) ?_
  refine lv_iconst (v := 1) C.hx C.hb d_law_690 (by decide) ?_
  refine lv_iadd C.hx C.hb d_law_691 ?_
  refine ww_e (nI_addE (a := i) (b := 1) rfl rfl) ?_
  refine va_sld C.hx C.hb C.hX C.hbl hbA hS (show vp_in (nI (i + 1)) L from vp_in_nI (by omega) (by omega)) d_law_692 ?_
  refine ww_e (congrArg xs (nI_clamp (by omega))) ?_
  refine ful_V (q := (RX7, TX7, 12)) (As := [.int (xs (i + 1))]) (rest := [.int (v)]) C 65 7 f2 (mf_X7_fewest C.hK.2) (kw_843 C.hK.2) (kw_844 C.hK.2) (kw_842 C.hK.2) rfl hP hD hS g1 rfl hl (Nat.le_of_ble_eq_true rfl) rfl hcs d_law_693 (fun H locs hP hD hS => ?_)
  refine lv_icmp_eq (tgt := 1050) C.hx C.hb d_law_696 (by decide) (fun _ => ?_) (fun c9 => absurd rfl c9)
  exact kk _ _ ws2 hI2 hP hD hS
set_option maxHeartbeats 4000000 in
theorem lc_lightest (C : LWC p s m c b L xs G sq sv) (hL : L ≤ 320) (hi : i + 5 ≤ L) (hI : INV G A ws) (hP : va_P G.1 wcl ws H) (hD : va_D (fun q : Nat => s.heap.size ≤ q) ws) (hS : va_S (fun q : Nat => s.heap.size ≤ q) s.heap H locs) (hl : lv_has ls 4 [(0, .ref b), (1, .ref (A 0)), (2, .ref (A 65)), (3, .int (nI i))]) (hcs : cells ≤ room_1.cells ∧ slots ≤ room_1.slots)
    (kk : ∀ (H1 : Heap) (locs1 : List Loc) (ws1 : va_W), INV G A ws1 → va_P G.1 wcl ws1 H1 → va_D (fun q : Nat => s.heap.size ≤ q) ws1 → va_S (fun q : Nat => s.heap.size ≤ q) s.heap H1 locs1 → W p l e room_1 s m #[Value.ref b] below meth c H1 locs1 cells slots Q (F0 m 1050 ls [])) : W p l e room_1 s m #[Value.ref b] below meth c H locs cells slots Q (F0 m 701 ls []) := by
  have hbA : ¬ (fun q : Nat => s.heap.size ≤ q) b := Nat.not_le.mpr C.hbl
  obtain ⟨f0, e0⟩ := hI.r0
  obtain ⟨v, ws1, ws2, f1, ⟨fs, g1⟩, f2, hI2⟩ := b_lightest l G hI (xs (i + 1))
  refine lv_aload_n C.hx C.hb d_law_701 rfl (lv_at hl 1 rfl) ?_
  refine lv_aload_n C.hx C.hb d_law_702 rfl (lv_at hl 0 rfl) ?_
  refine lv_iload_n C.hx C.hb d_law_703 rfl (lv_at hl 3 rfl) ?_
  refine lv_iconst (v := 1) C.hx C.hb d_law_704 (by decide) ?_
  refine lv_iadd C.hx C.hb d_law_705 ?_
  refine ww_e (nI_addE (a := i) (b := 1) rfl rfl) ?_
  refine va_sld C.hx C.hb C.hX C.hbl hbA hS (show vp_in (nI (i + 1)) L from vp_in_nI (by omega) (by omega)) d_law_706 ?_
  refine ww_e (congrArg xs (nI_clamp (by omega))) ?_
  refine ful_V (q := (RX6, TX6, 9)) (As := [.int (xs (i + 1))]) (rest := []) C 0 6 f1 (mf_X6_lightest C.hK.2) (kw_535 C.hK.2) (kw_536 C.hK.2) (kw_534 C.hK.2) rfl hP hD hS e0 rfl hl (Nat.le_of_ble_eq_true rfl) rfl hcs d_law_707 (fun H locs hP hD hS => ?_)
  refine lv_aload_n C.hx C.hb d_law_710 rfl (lv_at hl 2 rfl) ?_
  refine lv_aload_n C.hx C.hb d_law_711 rfl (lv_at hl 0 rfl) ?_
  refine lv_iload_n C.hx C.hb d_law_712 rfl (lv_at hl 3 rfl) ?_
  refine lv_iconst (v := 1) C.hx C.hb d_law_713 (by decide) ?_
  refine lv_iadd C.hx C.hb d_law_714 ?_
  refine ww_e (nI_addE (a := i) (b := 1) rfl rfl) ?_
  refine va_sld C.hx C.hb C.hX C.hbl hbA hS (show vp_in (nI (i + 1)) L from vp_in_nI (by omega) (by omega)) d_law_715 ?_
  refine ww_e (congrArg xs (nI_clamp (by omega))) ?_
  refine ful_V (q := (RX7, TX7, 12)) (As := [.int (xs (i + 1))]) (rest := [.int (v)]) C 65 7 f2 (mf_X7_lightest C.hK.2) (kw_855 C.hK.2) (kw_856 C.hK.2) (kw_854 C.hK.2) rfl hP hD hS g1 rfl hl (Nat.le_of_ble_eq_true rfl) rfl hcs d_law_716 (fun H locs hP hD hS => ?_)
  refine lv_icmp_eq (tgt := 1050) C.hx C.hb d_law_719 (by decide) (fun _ => ?_) (fun c9 => absurd rfl c9)
  exact kk _ _ ws2 hI2 hP hD hS
set_option maxHeartbeats 4000000 in
theorem lc_sets (C : LWC p s m c b L xs G sq sv) (hL : L ≤ 320) (hi : i + 5 ≤ L) (hI : INV G A ws) (hP : va_P G.1 wcl ws H) (hD : va_D (fun q : Nat => s.heap.size ≤ q) ws) (hS : va_S (fun q : Nat => s.heap.size ≤ q) s.heap H locs) (hl : lv_has ls 4 [(0, .ref b), (1, .ref (A 0)), (2, .ref (A 65)), (3, .int (nI i))]) (hcs : cells ≤ room_1.cells ∧ slots ≤ room_1.slots)
    (kk : ∀ (H1 : Heap) (locs1 : List Loc) (ws1 : va_W), INV G A ws1 → va_P G.1 wcl ws1 H1 → va_D (fun q : Nat => s.heap.size ≤ q) ws1 → va_S (fun q : Nat => s.heap.size ≤ q) s.heap H1 locs1 → W p l e room_1 s m #[Value.ref b] below meth c H1 locs1 cells slots Q (F0 m 1050 ls [])) : W p l e room_1 s m #[Value.ref b] below meth c H locs cells slots Q (F0 m 724 ls []) := by
  have hbA : ¬ (fun q : Nat => s.heap.size ≤ q) b := Nat.not_le.mpr C.hbl
  obtain ⟨f0, e0⟩ := hI.r0
  obtain ⟨v, ws1, ws2, f1, ⟨fs, g1⟩, f2, hI2⟩ := b_sets l G hI (xs (i + 1)) (xs (i + 2))
  refine lv_aload_n C.hx C.hb d_law_724 rfl (lv_at hl 1 rfl) ?_
  refine lv_aload_n C.hx C.hb d_law_725 rfl (lv_at hl 0 rfl) ?_
  refine lv_iload_n C.hx C.hb d_law_726 rfl (lv_at hl 3 rfl) ?_
  refine lv_iconst (v := 1) C.hx C.hb d_law_727 (by decide) ?_
  refine lv_iadd C.hx C.hb d_law_728 ?_
  refine ww_e (nI_addE (a := i) (b := 1) rfl rfl) ?_
  refine va_sld C.hx C.hb C.hX C.hbl hbA hS (show vp_in (nI (i + 1)) L from vp_in_nI (by omega) (by omega)) d_law_729 ?_
  refine ww_e (congrArg xs (nI_clamp (by omega))) ?_
  refine lv_aload_n C.hx C.hb d_law_730 rfl (lv_at hl 0 rfl) ?_
  refine lv_iload_n C.hx C.hb d_law_731 rfl (lv_at hl 3 rfl) ?_
  refine lv_iconst (v := 2) C.hx C.hb d_law_732 (by decide) ?_
  refine lv_iadd C.hx C.hb d_law_733 ?_
  refine ww_e (nI_addE (a := i) (b := 2) rfl rfl) ?_
  refine va_sld C.hx C.hb C.hX C.hbl hbA hS (show vp_in (nI (i + 2)) L from vp_in_nI (by omega) (by omega)) d_law_734 ?_
  refine ww_e (congrArg xs (nI_clamp (by omega))) ?_
  refine ful_V (q := (RX6, TX6, 9)) (As := [.int (xs (i + 1)), .int (xs (i + 2))]) (rest := []) C 0 6 f1 (mf_X6_sets C.hK.2) (kw_554 C.hK.2) (kw_555 C.hK.2) (kw_553 C.hK.2) rfl hP hD hS e0 rfl hl (Nat.le_of_ble_eq_true rfl) rfl hcs d_law_735 (fun H locs hP hD hS => ?_)
  refine lv_aload_n C.hx C.hb d_law_738 rfl (lv_at hl 2 rfl) ?_
  refine lv_aload_n C.hx C.hb d_law_739 rfl (lv_at hl 0 rfl) ?_
  refine lv_iload_n C.hx C.hb d_law_740 rfl (lv_at hl 3 rfl) ?_
  refine lv_iconst (v := 1) C.hx C.hb d_law_741 (by decide) ?_
  refine lv_iadd C.hx C.hb d_law_742 ?_
  refine ww_e (nI_addE (a := i) (b := 1) rfl rfl) ?_
  refine va_sld C.hx C.hb C.hX C.hbl hbA hS (show vp_in (nI (i + 1)) L from vp_in_nI (by omega) (by omega)) d_law_743 ?_
  refine ww_e (congrArg xs (nI_clamp (by omega))) ?_
  refine lv_aload_n C.hx C.hb d_law_744 rfl (lv_at hl 0 rfl) ?_
  refine lv_iload_n C.hx C.hb d_law_745 rfl (lv_at hl 3 rfl) ?_
  refine lv_iconst (v := 2) C.hx C.hb d_law_746 (by decide) ?_
  refine lv_iadd C.hx C.hb d_law_747 ?_
  refine ww_e (nI_addE (a := i) (b := 2) rfl rfl) ?_
  refine va_sld C.hx C.hb C.hX C.hbl hbA hS (show vp_in (nI (i + 2)) L from vp_in_nI (by omega) (by omega)) d_law_748 ?_
  refine ww_e (congrArg xs (nI_clamp (by omega))) ?_
  refine ful_V (q := (RX7, TX7, 12)) (As := [.int (xs (i + 1)), .int (xs (i + 2))]) (rest := [.int (v)]) C 65 7 f2 (mf_X7_sets C.hK.2) (kw_863 C.hK.2) (kw_864 C.hK.2) (kw_862 C.hK.2) rfl hP hD hS g1 rfl hl (Nat.le_of_ble_eq_true rfl) rfl hcs d_law_749 (fun H locs hP hD hS => ?_)
  refine lv_icmp_eq (tgt := 1050) C.hx C.hb d_law_752 (by decide) (fun _ => ?_) (fun c9 => absurd rfl c9)
  exact kk _ _ ws2 hI2 hP hD hS
set_option maxHeartbeats 4000000 in
theorem lc_soonest (C : LWC p s m c b L xs G sq sv) (hL : L ≤ 320) (hi : i + 5 ≤ L) (hI : INV G A ws) (hP : va_P G.1 wcl ws H) (hD : va_D (fun q : Nat => s.heap.size ≤ q) ws) (hS : va_S (fun q : Nat => s.heap.size ≤ q) s.heap H locs) (hl : lv_has ls 4 [(0, .ref b), (1, .ref (A 0)), (2, .ref (A 65)), (3, .int (nI i))]) (hcs : cells ≤ room_1.cells ∧ slots ≤ room_1.slots)
    (kk : ∀ (H1 : Heap) (locs1 : List Loc) (ws1 : va_W), INV G A ws1 → va_P G.1 wcl ws1 H1 → va_D (fun q : Nat => s.heap.size ≤ q) ws1 → va_S (fun q : Nat => s.heap.size ≤ q) s.heap H1 locs1 → W p l e room_1 s m #[Value.ref b] below meth c H1 locs1 cells slots Q (F0 m 1050 ls [])) : W p l e room_1 s m #[Value.ref b] below meth c H locs cells slots Q (F0 m 757 ls []) := by
  have hbA : ¬ (fun q : Nat => s.heap.size ≤ q) b := Nat.not_le.mpr C.hbl
  obtain ⟨f0, e0⟩ := hI.r0
  obtain ⟨v, ws1, ws2, f1, ⟨fs, g1⟩, f2, hI2⟩ := b_soonest l G hI (xs (i + 1)) (xs (i + 2))
  refine lv_aload_n C.hx C.hb d_law_757 rfl (lv_at hl 1 rfl) ?_
  refine lv_aload_n C.hx C.hb d_law_758 rfl (lv_at hl 0 rfl) ?_
  refine lv_iload_n C.hx C.hb d_law_759 rfl (lv_at hl 3 rfl) ?_
  refine lv_iconst (v := 1) C.hx C.hb d_law_760 (by decide) ?_
  refine lv_iadd C.hx C.hb d_law_761 ?_
  refine ww_e (nI_addE (a := i) (b := 1) rfl rfl) ?_
  refine va_sld C.hx C.hb C.hX C.hbl hbA hS (show vp_in (nI (i + 1)) L from vp_in_nI (by omega) (by omega)) d_law_762 ?_
  refine ww_e (congrArg xs (nI_clamp (by omega))) ?_
  refine lv_aload_n C.hx C.hb d_law_763 rfl (lv_at hl 0 rfl) ?_
  refine lv_iload_n C.hx C.hb d_law_764 rfl (lv_at hl 3 rfl) ?_
  refine lv_iconst (v := 2) C.hx C.hb d_law_765 (by decide) ?_
  refine lv_iadd C.hx C.hb d_law_766 ?_
  refine ww_e (nI_addE (a := i) (b := 2) rfl rfl) ?_
  refine va_sld C.hx C.hb C.hX C.hbl hbA hS (show vp_in (nI (i + 2)) L from vp_in_nI (by omega) (by omega)) d_law_767 ?_
  refine ww_e (congrArg xs (nI_clamp (by omega))) ?_
  refine ful_V (q := (RX6, TX6, 9)) (As := [.int (xs (i + 1)), .int (xs (i + 2))]) (rest := []) C 0 6 f1 (mf_X6_soonest C.hK.2) (kw_558 C.hK.2) (kw_559 C.hK.2) (kw_557 C.hK.2) rfl hP hD hS e0 rfl hl (Nat.le_of_ble_eq_true rfl) rfl hcs d_law_768 (fun H locs hP hD hS => ?_)
  refine lv_aload_n C.hx C.hb d_law_771 rfl (lv_at hl 2 rfl) ?_
  refine lv_aload_n C.hx C.hb d_law_772 rfl (lv_at hl 0 rfl) ?_
  refine lv_iload_n C.hx C.hb d_law_773 rfl (lv_at hl 3 rfl) ?_
  refine lv_iconst (v := 1) C.hx C.hb d_law_774 (by decide) ?_
  refine lv_iadd C.hx C.hb d_law_775 ?_
  refine ww_e (nI_addE (a := i) (b := 1) rfl rfl) ?_
  refine va_sld C.hx C.hb C.hX C.hbl hbA hS (show vp_in (nI (i + 1)) L from vp_in_nI (by omega) (by omega)) d_law_776 ?_
  refine ww_e (congrArg xs (nI_clamp (by omega))) ?_
  refine lv_aload_n C.hx C.hb d_law_777 rfl (lv_at hl 0 rfl) ?_
  refine lv_iload_n C.hx C.hb d_law_778 rfl (lv_at hl 3 rfl) ?_
  refine lv_iconst (v := 2) C.hx C.hb d_law_779 (by decide) ?_
  refine lv_iadd C.hx C.hb d_law_780 ?_
  refine ww_e (nI_addE (a := i) (b := 2) rfl rfl) ?_
  refine va_sld C.hx C.hb C.hX C.hbl hbA hS (show vp_in (nI (i + 2)) L from vp_in_nI (by omega) (by omega)) d_law_781 ?_
  refine ww_e (congrArg xs (nI_clamp (by omega))) ?_
  refine ful_V (q := (RX7, TX7, 12)) (As := [.int (xs (i + 1)), .int (xs (i + 2))]) (rest := [.int (v)]) C 65 7 f2 (mf_X7_soonest C.hK.2) (kw_867 C.hK.2) (kw_868 C.hK.2) (kw_866 C.hK.2) rfl hP hD hS g1 rfl hl (Nat.le_of_ble_eq_true rfl) rfl hcs d_law_782 (fun H locs hP hD hS => ?_)
  refine lv_icmp_eq (tgt := 1050) C.hx C.hb d_law_785 (by decide) (fun _ => ?_) (fun c9 => absurd rfl c9)
  exact kk _ _ ws2 hI2 hP hD hS
set_option maxHeartbeats 4000000 in
theorem lc_waits (C : LWC p s m c b L xs G sq sv) (hL : L ≤ 320) (hi : i + 5 ≤ L) (hI : INV G A ws) (hP : va_P G.1 wcl ws H) (hD : va_D (fun q : Nat => s.heap.size ≤ q) ws) (hS : va_S (fun q : Nat => s.heap.size ≤ q) s.heap H locs) (hl : lv_has ls 4 [(0, .ref b), (1, .ref (A 0)), (2, .ref (A 65)), (3, .int (nI i))]) (hcs : cells ≤ room_1.cells ∧ slots ≤ room_1.slots)
    (kk : ∀ (H1 : Heap) (locs1 : List Loc) (ws1 : va_W), INV G A ws1 → va_P G.1 wcl ws1 H1 → va_D (fun q : Nat => s.heap.size ≤ q) ws1 → va_S (fun q : Nat => s.heap.size ≤ q) s.heap H1 locs1 → W p l e room_1 s m #[Value.ref b] below meth c H1 locs1 cells slots Q (F0 m 1050 ls [])) : W p l e room_1 s m #[Value.ref b] below meth c H locs cells slots Q (F0 m 790 ls []) := by
  have hbA : ¬ (fun q : Nat => s.heap.size ≤ q) b := Nat.not_le.mpr C.hbl
  obtain ⟨f0, e0⟩ := hI.r0
  obtain ⟨v, ws1, ws2, f1, ⟨fs, g1⟩, f2, hI2⟩ := b_waits l G hI (xs (i + 1))
  refine lv_aload_n C.hx C.hb d_law_790 rfl (lv_at hl 1 rfl) ?_
  refine lv_aload_n C.hx C.hb d_law_791 rfl (lv_at hl 0 rfl) ?_
  refine lv_iload_n C.hx C.hb d_law_792 rfl (lv_at hl 3 rfl) ?_
  refine lv_iconst (v := 1) C.hx C.hb d_law_793 (by decide) ?_
  refine lv_iadd C.hx C.hb d_law_794 ?_
  refine ww_e (nI_addE (a := i) (b := 1) rfl rfl) ?_
  refine va_sld C.hx C.hb C.hX C.hbl hbA hS (show vp_in (nI (i + 1)) L from vp_in_nI (by omega) (by omega)) d_law_795 ?_
  refine ww_e (congrArg xs (nI_clamp (by omega))) ?_
  refine ful_V (q := (RX6, TX6, 9)) (As := [.int (xs (i + 1))]) (rest := []) C 0 6 f1 (mf_X6_waits C.hK.2) (kw_566 C.hK.2) (kw_567 C.hK.2) (kw_565 C.hK.2) rfl hP hD hS e0 rfl hl (Nat.le_of_ble_eq_true rfl) rfl hcs d_law_796 (fun H locs hP hD hS => ?_)
  refine lv_aload_n C.hx C.hb d_law_799 rfl (lv_at hl 2 rfl) ?_
  refine lv_aload_n C.hx C.hb d_law_800 rfl (lv_at hl 0 rfl) ?_
  refine lv_iload_n C.hx C.hb d_law_801 rfl (lv_at hl 3 rfl) ?_
  refine lv_iconst (v := 1) C.hx C.hb d_law_802 (by decide) ?_
  refine lv_iadd C.hx C.hb d_law_803 ?_
  refine ww_e (nI_addE (a := i) (b := 1) rfl rfl) ?_
  refine va_sld C.hx C.hb C.hX C.hbl hbA hS (show vp_in (nI (i + 1)) L from vp_in_nI (by omega) (by omega)) d_law_804 ?_
  refine ww_e (congrArg xs (nI_clamp (by omega))) ?_
  refine ful_V (q := (RX7, TX7, 12)) (As := [.int (xs (i + 1))]) (rest := [.int (v)]) C 65 7 f2 (mf_X7_waits C.hK.2) (kw_875 C.hK.2) (kw_876 C.hK.2) (kw_874 C.hK.2) rfl hP hD hS g1 rfl hl (Nat.le_of_ble_eq_true rfl) rfl hcs d_law_805 (fun H locs hP hD hS => ?_)
  refine lv_icmp_eq (tgt := 1050) C.hx C.hb d_law_808 (by decide) (fun _ => ?_) (fun c9 => absurd rfl c9)
  exact kk _ _ ws2 hI2 hP hD hS
set_option maxHeartbeats 4000000 in
theorem lc_change (C : LWC p s m c b L xs G sq sv) (hL : L ≤ 320) (hi : i + 5 ≤ L) (hI : INV G A ws) (hP : va_P G.1 wcl ws H) (hD : va_D (fun q : Nat => s.heap.size ≤ q) ws) (hS : va_S (fun q : Nat => s.heap.size ≤ q) s.heap H locs) (hl : lv_has ls 4 [(0, .ref b), (1, .ref (A 0)), (2, .ref (A 65)), (3, .int (nI i))]) (hcs : cells ≤ room_1.cells ∧ slots ≤ room_1.slots)
    (kk : ∀ (H1 : Heap) (locs1 : List Loc) (ws1 : va_W), INV G A ws1 → va_P G.1 wcl ws1 H1 → va_D (fun q : Nat => s.heap.size ≤ q) ws1 → va_S (fun q : Nat => s.heap.size ≤ q) s.heap H1 locs1 → W p l e room_1 s m #[Value.ref b] below meth c H1 locs1 cells slots Q (F0 m 1050 ls [])) : W p l e room_1 s m #[Value.ref b] below meth c H locs cells slots Q (F0 m 813 ls []) := by
  have hbA : ¬ (fun q : Nat => s.heap.size ≤ q) b := Nat.not_le.mpr C.hbl
  obtain ⟨f0, e0⟩ := hI.r0
  rcases b_change sq sv l G hI (xs (i + 1)) (xs (i + 2)) with ⟨v, ws1, ws2, f1, ⟨fs, g1⟩, f2, hI2⟩ | ⟨v, ws1, ws2, f1, ⟨fs, g1⟩, f2, hI2⟩
  · skip
    refine lv_aload_n C.hx C.hb d_law_813 rfl (lv_at hl 1 rfl) ?_
    refine lv_aload_n C.hx C.hb d_law_814 rfl (lv_at hl 0 rfl) ?_
    refine lv_iload_n C.hx C.hb d_law_815 rfl (lv_at hl 3 rfl) ?_
    refine lv_iconst (v := 1) C.hx C.hb d_law_816 (by decide) ?_
    refine lv_iadd C.hx C.hb d_law_817 ?_
    refine ww_e (nI_addE (a := i) (b := 1) rfl rfl) ?_
    refine va_sld C.hx C.hb C.hX C.hbl hbA hS (show vp_in (nI (i + 1)) L from vp_in_nI (by omega) (by omega)) d_law_818 ?_
    refine ww_e (congrArg xs (nI_clamp (by omega))) ?_
    refine lv_aload_n C.hx C.hb d_law_819 rfl (lv_at hl 0 rfl) ?_
    refine lv_iload_n C.hx C.hb d_law_820 rfl (lv_at hl 3 rfl) ?_
    refine lv_iconst (v := 2) C.hx C.hb d_law_821 (by decide) ?_
    refine lv_iadd C.hx C.hb d_law_822 ?_
    refine ww_e (nI_addE (a := i) (b := 2) rfl rfl) ?_
    refine va_sld C.hx C.hb C.hX C.hbl hbA hS (show vp_in (nI (i + 2)) L from vp_in_nI (by omega) (by omega)) d_law_823 ?_
    refine ww_e (congrArg xs (nI_clamp (by omega))) ?_
    refine ful_VX (q := (RX6, TX6, 9)) (As := [.int (xs (i + 1)), .int (xs (i + 2))]) (rest := []) C 0 6 f1 (mf_X6_change C.hK.2) (kw_570 C.hK.2) (kw_571 C.hK.2) (kw_569 C.hK.2) rfl hP hD hS e0 rfl hl (Nat.le_of_ble_eq_true rfl) rfl hcs d_law_824 (fun H locs hP hD hS => ?_)
    refine lv_aload_n C.hx C.hb d_law_827 rfl (lv_at hl 2 rfl) ?_
    refine lv_aload_n C.hx C.hb d_law_828 rfl (lv_at hl 0 rfl) ?_
    refine lv_iload_n C.hx C.hb d_law_829 rfl (lv_at hl 3 rfl) ?_
    refine lv_iconst (v := 1) C.hx C.hb d_law_830 (by decide) ?_
    refine lv_iadd C.hx C.hb d_law_831 ?_
    refine ww_e (nI_addE (a := i) (b := 1) rfl rfl) ?_
    refine va_sld C.hx C.hb C.hX C.hbl hbA hS (show vp_in (nI (i + 1)) L from vp_in_nI (by omega) (by omega)) d_law_832 ?_
    refine ww_e (congrArg xs (nI_clamp (by omega))) ?_
    refine lv_aload_n C.hx C.hb d_law_833 rfl (lv_at hl 0 rfl) ?_
    refine lv_iload_n C.hx C.hb d_law_834 rfl (lv_at hl 3 rfl) ?_
    refine lv_iconst (v := 2) C.hx C.hb d_law_835 (by decide) ?_
    refine lv_iadd C.hx C.hb d_law_836 ?_
    refine ww_e (nI_addE (a := i) (b := 2) rfl rfl) ?_
    refine va_sld C.hx C.hb C.hX C.hbl hbA hS (show vp_in (nI (i + 2)) L from vp_in_nI (by omega) (by omega)) d_law_837 ?_
    refine ww_e (congrArg xs (nI_clamp (by omega))) ?_
    refine ful_V (q := (RX7, TX7, 12)) (As := [.int (xs (i + 1)), .int (xs (i + 2))]) (rest := [.int (v)]) C 65 7 f2 (mf_X7_change C.hK.2) (kw_879 C.hK.2) (kw_880 C.hK.2) (kw_878 C.hK.2) rfl hP hD hS g1 rfl hl (Nat.le_of_ble_eq_true rfl) rfl hcs d_law_838 (fun H locs hP hD hS => ?_)
    refine lv_icmp_eq (tgt := 1050) C.hx C.hb d_law_841 (by decide) (fun _ => ?_) (fun c9 => absurd rfl c9)
    exact kk _ _ ws2 hI2 hP hD hS
  · skip
    refine lv_aload_n C.hx C.hb d_law_813 rfl (lv_at hl 1 rfl) ?_
    refine lv_aload_n C.hx C.hb d_law_814 rfl (lv_at hl 0 rfl) ?_
    refine lv_iload_n C.hx C.hb d_law_815 rfl (lv_at hl 3 rfl) ?_
    refine lv_iconst (v := 1) C.hx C.hb d_law_816 (by decide) ?_
    refine lv_iadd C.hx C.hb d_law_817 ?_
    refine ww_e (nI_addE (a := i) (b := 1) rfl rfl) ?_
    refine va_sld C.hx C.hb C.hX C.hbl hbA hS (show vp_in (nI (i + 1)) L from vp_in_nI (by omega) (by omega)) d_law_818 ?_
    refine ww_e (congrArg xs (nI_clamp (by omega))) ?_
    refine lv_aload_n C.hx C.hb d_law_819 rfl (lv_at hl 0 rfl) ?_
    refine lv_iload_n C.hx C.hb d_law_820 rfl (lv_at hl 3 rfl) ?_
    refine lv_iconst (v := 2) C.hx C.hb d_law_821 (by decide) ?_
    refine lv_iadd C.hx C.hb d_law_822 ?_
    refine ww_e (nI_addE (a := i) (b := 2) rfl rfl) ?_
    refine va_sld C.hx C.hb C.hX C.hbl hbA hS (show vp_in (nI (i + 2)) L from vp_in_nI (by omega) (by omega)) d_law_823 ?_
    refine ww_e (congrArg xs (nI_clamp (by omega))) ?_
    refine ful_V (q := (RX6, TX6, 9)) (As := [.int (xs (i + 1)), .int (xs (i + 2))]) (rest := []) C 0 6 f1 (mf_X6_change C.hK.2) (kw_570 C.hK.2) (kw_571 C.hK.2) (kw_569 C.hK.2) rfl hP hD hS e0 rfl hl (Nat.le_of_ble_eq_true rfl) rfl hcs d_law_824 (fun H locs hP hD hS => ?_)
    refine lv_aload_n C.hx C.hb d_law_827 rfl (lv_at hl 2 rfl) ?_
    refine lv_aload_n C.hx C.hb d_law_828 rfl (lv_at hl 0 rfl) ?_
    refine lv_iload_n C.hx C.hb d_law_829 rfl (lv_at hl 3 rfl) ?_
    refine lv_iconst (v := 1) C.hx C.hb d_law_830 (by decide) ?_
    refine lv_iadd C.hx C.hb d_law_831 ?_
    refine ww_e (nI_addE (a := i) (b := 1) rfl rfl) ?_
    refine va_sld C.hx C.hb C.hX C.hbl hbA hS (show vp_in (nI (i + 1)) L from vp_in_nI (by omega) (by omega)) d_law_832 ?_
    refine ww_e (congrArg xs (nI_clamp (by omega))) ?_
    refine lv_aload_n C.hx C.hb d_law_833 rfl (lv_at hl 0 rfl) ?_
    refine lv_iload_n C.hx C.hb d_law_834 rfl (lv_at hl 3 rfl) ?_
    refine lv_iconst (v := 2) C.hx C.hb d_law_835 (by decide) ?_
    refine lv_iadd C.hx C.hb d_law_836 ?_
    refine ww_e (nI_addE (a := i) (b := 2) rfl rfl) ?_
    refine va_sld C.hx C.hb C.hX C.hbl hbA hS (show vp_in (nI (i + 2)) L from vp_in_nI (by omega) (by omega)) d_law_837 ?_
    refine ww_e (congrArg xs (nI_clamp (by omega))) ?_
    refine ful_V (q := (RX7, TX7, 12)) (As := [.int (xs (i + 1)), .int (xs (i + 2))]) (rest := [.int (v)]) C 65 7 f2 (mf_X7_change C.hK.2) (kw_879 C.hK.2) (kw_880 C.hK.2) (kw_878 C.hK.2) rfl hP hD hS g1 rfl hl (Nat.le_of_ble_eq_true rfl) rfl hcs d_law_838 (fun H locs hP hD hS => ?_)
    refine lv_icmp_eq (tgt := 1050) C.hx C.hb d_law_841 (by decide) (fun _ => ?_) (fun c9 => absurd rfl c9)
    exact kk _ _ ws2 hI2 hP hD hS
set_option maxHeartbeats 4000000 in
theorem lc_mend (C : LWC p s m c b L xs G sq sv) (hL : L ≤ 320) (hi : i + 5 ≤ L) (hI : INV G A ws) (hP : va_P G.1 wcl ws H) (hD : va_D (fun q : Nat => s.heap.size ≤ q) ws) (hS : va_S (fun q : Nat => s.heap.size ≤ q) s.heap H locs) (hl : lv_has ls 4 [(0, .ref b), (1, .ref (A 0)), (2, .ref (A 65)), (3, .int (nI i))]) (hcs : cells ≤ room_1.cells ∧ slots ≤ room_1.slots)
    (kk : ∀ (H1 : Heap) (locs1 : List Loc) (ws1 : va_W), INV G A ws1 → va_P G.1 wcl ws1 H1 → va_D (fun q : Nat => s.heap.size ≤ q) ws1 → va_S (fun q : Nat => s.heap.size ≤ q) s.heap H1 locs1 → W p l e room_1 s m #[Value.ref b] below meth c H1 locs1 cells slots Q (F0 m 1050 ls [])) : W p l e room_1 s m #[Value.ref b] below meth c H locs cells slots Q (F0 m 846 ls []) := by
  have hbA : ¬ (fun q : Nat => s.heap.size ≤ q) b := Nat.not_le.mpr C.hbl
  obtain ⟨f0, e0⟩ := hI.r0
  obtain ⟨v, ws1, ws2, f1, ⟨fs, g1⟩, f2, hI2⟩ := b_mend l G hI (xs (i + 1))
  refine lv_aload_n C.hx C.hb d_law_846 rfl (lv_at hl 1 rfl) ?_
  refine lv_aload_n C.hx C.hb d_law_847 rfl (lv_at hl 0 rfl) ?_
  refine lv_iload_n C.hx C.hb d_law_848 rfl (lv_at hl 3 rfl) ?_
  refine lv_iconst (v := 1) C.hx C.hb d_law_849 (by decide) ?_
  refine lv_iadd C.hx C.hb d_law_850 ?_
  refine ww_e (nI_addE (a := i) (b := 1) rfl rfl) ?_
  refine va_sld C.hx C.hb C.hX C.hbl hbA hS (show vp_in (nI (i + 1)) L from vp_in_nI (by omega) (by omega)) d_law_851 ?_
  refine ww_e (congrArg xs (nI_clamp (by omega))) ?_
  refine ful_V (q := (RX6, TX6, 9)) (As := [.int (xs (i + 1))]) (rest := []) C 0 6 f1 (mf_X6_mend C.hK.2) (kw_579 C.hK.2) (kw_580 C.hK.2) (kw_578 C.hK.2) rfl hP hD hS e0 rfl hl (Nat.le_of_ble_eq_true rfl) rfl hcs d_law_852 (fun H locs hP hD hS => ?_)
  refine lv_aload_n C.hx C.hb d_law_855 rfl (lv_at hl 2 rfl) ?_
  refine lv_aload_n C.hx C.hb d_law_856 rfl (lv_at hl 0 rfl) ?_
  refine lv_iload_n C.hx C.hb d_law_857 rfl (lv_at hl 3 rfl) ?_
  refine lv_iconst (v := 1) C.hx C.hb d_law_858 (by decide) ?_
  refine lv_iadd C.hx C.hb d_law_859 ?_
  refine ww_e (nI_addE (a := i) (b := 1) rfl rfl) ?_
  refine va_sld C.hx C.hb C.hX C.hbl hbA hS (show vp_in (nI (i + 1)) L from vp_in_nI (by omega) (by omega)) d_law_860 ?_
  refine ww_e (congrArg xs (nI_clamp (by omega))) ?_
  refine ful_V (q := (RX7, TX7, 12)) (As := [.int (xs (i + 1))]) (rest := [.int (v)]) C 65 7 f2 (mf_X7_mend C.hK.2) (kw_883 C.hK.2) (kw_884 C.hK.2) (kw_882 C.hK.2) rfl hP hD hS g1 rfl hl (Nat.le_of_ble_eq_true rfl) rfl hcs d_law_861 (fun H locs hP hD hS => ?_)
  refine lv_icmp_eq (tgt := 1050) C.hx C.hb d_law_864 (by decide) (fun _ => ?_) (fun c9 => absurd rfl c9)
  exact kk _ _ ws2 hI2 hP hD hS
set_option maxHeartbeats 4000000 in
theorem lc_spread (C : LWC p s m c b L xs G sq sv) (hL : L ≤ 320) (hi : i + 5 ≤ L) (hI : INV G A ws) (hP : va_P G.1 wcl ws H) (hD : va_D (fun q : Nat => s.heap.size ≤ q) ws) (hS : va_S (fun q : Nat => s.heap.size ≤ q) s.heap H locs) (hl : lv_has ls 4 [(0, .ref b), (1, .ref (A 0)), (2, .ref (A 65)), (3, .int (nI i))]) (hcs : cells ≤ room_1.cells ∧ slots ≤ room_1.slots)
    (kk : ∀ (H1 : Heap) (locs1 : List Loc) (ws1 : va_W), INV G A ws1 → va_P G.1 wcl ws1 H1 → va_D (fun q : Nat => s.heap.size ≤ q) ws1 → va_S (fun q : Nat => s.heap.size ≤ q) s.heap H1 locs1 → W p l e room_1 s m #[Value.ref b] below meth c H1 locs1 cells slots Q (F0 m 1050 ls [])) : W p l e room_1 s m #[Value.ref b] below meth c H locs cells slots Q (F0 m 869 ls []) := by
  have hbA : ¬ (fun q : Nat => s.heap.size ≤ q) b := Nat.not_le.mpr C.hbl
  obtain ⟨f0, e0⟩ := hI.r0
  obtain ⟨v, ws1, ws2, f1, ⟨fs, g1⟩, f2, hI2⟩ := b_spread l G hI (xs (i + 1)) (xs (i + 2)) (xs (i + 3))
  refine lv_aload_n C.hx C.hb d_law_869 rfl (lv_at hl 1 rfl) ?_
  refine lv_aload_n C.hx C.hb d_law_870 rfl (lv_at hl 0 rfl) ?_
  refine lv_iload_n C.hx C.hb d_law_871 rfl (lv_at hl 3 rfl) ?_
  refine lv_iconst (v := 1) C.hx C.hb d_law_872 (by decide) ?_
  refine lv_iadd C.hx C.hb d_law_873 ?_
  refine ww_e (nI_addE (a := i) (b := 1) rfl rfl) ?_
  refine va_sld C.hx C.hb C.hX C.hbl hbA hS (show vp_in (nI (i + 1)) L from vp_in_nI (by omega) (by omega)) d_law_874 ?_
  refine ww_e (congrArg xs (nI_clamp (by omega))) ?_
  refine lv_aload_n C.hx C.hb d_law_875 rfl (lv_at hl 0 rfl) ?_
  refine lv_iload_n C.hx C.hb d_law_876 rfl (lv_at hl 3 rfl) ?_
  refine lv_iconst (v := 2) C.hx C.hb d_law_877 (by decide) ?_
  refine lv_iadd C.hx C.hb d_law_878 ?_
  refine ww_e (nI_addE (a := i) (b := 2) rfl rfl) ?_
  refine va_sld C.hx C.hb C.hX C.hbl hbA hS (show vp_in (nI (i + 2)) L from vp_in_nI (by omega) (by omega)) d_law_879 ?_
  refine ww_e (congrArg xs (nI_clamp (by omega))) ?_
  refine lv_aload_n C.hx C.hb d_law_880 rfl (lv_at hl 0 rfl) ?_
  refine lv_iload_n C.hx C.hb d_law_881 rfl (lv_at hl 3 rfl) ?_
  refine lv_iconst (v := 3) C.hx C.hb d_law_882 (by decide) ?_
  refine lv_iadd C.hx C.hb d_law_883 ?_
  refine ww_e (nI_addE (a := i) (b := 3) rfl rfl) ?_
  refine va_sld C.hx C.hb C.hX C.hbl hbA hS (show vp_in (nI (i + 3)) L from vp_in_nI (by omega) (by omega)) d_law_884 ?_
  refine ww_e (congrArg xs (nI_clamp (by omega))) ?_
  refine ful_V (q := (RX6, TX6, 9)) (As := [.int (xs (i + 1)), .int (xs (i + 2)), .int (xs (i + 3))]) (rest := []) C 0 6 f1 (mf_X6_spread C.hK.2) (kw_612 C.hK.2) (kw_613 C.hK.2) (kw_611 C.hK.2) rfl hP hD hS e0 rfl hl (Nat.le_of_ble_eq_true rfl) rfl hcs d_law_885 (fun H locs hP hD hS => ?_)
  refine lv_aload_n C.hx C.hb d_law_888 rfl (lv_at hl 2 rfl) ?_
  refine lv_aload_n C.hx C.hb d_law_889 rfl (lv_at hl 0 rfl) ?_
  refine lv_iload_n C.hx C.hb d_law_890 rfl (lv_at hl 3 rfl) ?_
  refine lv_iconst (v := 1) C.hx C.hb d_law_891 (by decide) ?_
  refine lv_iadd C.hx C.hb d_law_892 ?_
  refine ww_e (nI_addE (a := i) (b := 1) rfl rfl) ?_
  refine va_sld C.hx C.hb C.hX C.hbl hbA hS (show vp_in (nI (i + 1)) L from vp_in_nI (by omega) (by omega)) d_law_893 ?_
  refine ww_e (congrArg xs (nI_clamp (by omega))) ?_
  refine lv_aload_n C.hx C.hb d_law_894 rfl (lv_at hl 0 rfl) ?_
  refine lv_iload_n C.hx C.hb d_law_895 rfl (lv_at hl 3 rfl) ?_
  refine lv_iconst (v := 2) C.hx C.hb d_law_896 (by decide) ?_
  refine lv_iadd C.hx C.hb d_law_897 ?_
  refine ww_e (nI_addE (a := i) (b := 2) rfl rfl) ?_
  refine va_sld C.hx C.hb C.hX C.hbl hbA hS (show vp_in (nI (i + 2)) L from vp_in_nI (by omega) (by omega)) d_law_898 ?_
  refine ww_e (congrArg xs (nI_clamp (by omega))) ?_
  refine lv_aload_n C.hx C.hb d_law_899 rfl (lv_at hl 0 rfl) ?_
  refine lv_iload_n C.hx C.hb d_law_900 rfl (lv_at hl 3 rfl) ?_
  refine lv_iconst (v := 3) C.hx C.hb d_law_901 (by decide) ?_
  refine lv_iadd C.hx C.hb d_law_902 ?_
  refine ww_e (nI_addE (a := i) (b := 3) rfl rfl) ?_
  refine va_sld C.hx C.hb C.hX C.hbl hbA hS (show vp_in (nI (i + 3)) L from vp_in_nI (by omega) (by omega)) d_law_903 ?_
  refine ww_e (congrArg xs (nI_clamp (by omega))) ?_
  refine ful_V (q := (RX7, TX7, 12)) (As := [.int (xs (i + 1)), .int (xs (i + 2)), .int (xs (i + 3))]) (rest := [.int (v)]) C 65 7 f2 (mf_X7_spread C.hK.2) (kw_887 C.hK.2) (kw_888 C.hK.2) (kw_886 C.hK.2) rfl hP hD hS g1 rfl hl (Nat.le_of_ble_eq_true rfl) rfl hcs d_law_904 (fun H locs hP hD hS => ?_)
  refine lv_icmp_eq (tgt := 1050) C.hx C.hb d_law_907 (by decide) (fun _ => ?_) (fun c9 => absurd rfl c9)
  exact kk _ _ ws2 hI2 hP hD hS
set_option maxHeartbeats 4000000 in
theorem lc_shows (C : LWC p s m c b L xs G sq sv) (hL : L ≤ 320) (hi : i + 5 ≤ L) (hI : INV G A ws) (hP : va_P G.1 wcl ws H) (hD : va_D (fun q : Nat => s.heap.size ≤ q) ws) (hS : va_S (fun q : Nat => s.heap.size ≤ q) s.heap H locs) (hl : lv_has ls 4 [(0, .ref b), (1, .ref (A 0)), (2, .ref (A 65)), (3, .int (nI i))]) (hcs : cells ≤ room_1.cells ∧ slots ≤ room_1.slots)
    (kk : ∀ (H1 : Heap) (locs1 : List Loc) (ws1 : va_W), INV G A ws1 → va_P G.1 wcl ws1 H1 → va_D (fun q : Nat => s.heap.size ≤ q) ws1 → va_S (fun q : Nat => s.heap.size ≤ q) s.heap H1 locs1 → W p l e room_1 s m #[Value.ref b] below meth c H1 locs1 cells slots Q (F0 m 1050 ls [])) : W p l e room_1 s m #[Value.ref b] below meth c H locs cells slots Q (F0 m 912 ls []) := by
  have hbA : ¬ (fun q : Nat => s.heap.size ≤ q) b := Nat.not_le.mpr C.hbl
  obtain ⟨f0, e0⟩ := hI.r0
  obtain ⟨v, ws1, ws2, f1, ⟨fs, g1⟩, f2, hI2⟩ := b_shows l G hI (xs (i + 1)) (xs (i + 2)) (xs (i + 3))
  refine lv_aload_n C.hx C.hb d_law_912 rfl (lv_at hl 1 rfl) ?_
  refine lv_aload_n C.hx C.hb d_law_913 rfl (lv_at hl 0 rfl) ?_
  refine lv_iload_n C.hx C.hb d_law_914 rfl (lv_at hl 3 rfl) ?_
  refine lv_iconst (v := 1) C.hx C.hb d_law_915 (by decide) ?_
  refine lv_iadd C.hx C.hb d_law_916 ?_
  refine ww_e (nI_addE (a := i) (b := 1) rfl rfl) ?_
  refine va_sld C.hx C.hb C.hX C.hbl hbA hS (show vp_in (nI (i + 1)) L from vp_in_nI (by omega) (by omega)) d_law_917 ?_
  refine ww_e (congrArg xs (nI_clamp (by omega))) ?_
  refine lv_aload_n C.hx C.hb d_law_918 rfl (lv_at hl 0 rfl) ?_
  refine lv_iload_n C.hx C.hb d_law_919 rfl (lv_at hl 3 rfl) ?_
  refine lv_iconst (v := 2) C.hx C.hb d_law_920 (by decide) ?_
  refine lv_iadd C.hx C.hb d_law_921 ?_
  refine ww_e (nI_addE (a := i) (b := 2) rfl rfl) ?_
  refine va_sld C.hx C.hb C.hX C.hbl hbA hS (show vp_in (nI (i + 2)) L from vp_in_nI (by omega) (by omega)) d_law_922 ?_
  refine ww_e (congrArg xs (nI_clamp (by omega))) ?_
  refine lv_aload_n C.hx C.hb d_law_923 rfl (lv_at hl 0 rfl) ?_
  refine lv_iload_n C.hx C.hb d_law_924 rfl (lv_at hl 3 rfl) ?_
  refine lv_iconst (v := 3) C.hx C.hb d_law_925 (by decide) ?_
  refine lv_iadd C.hx C.hb d_law_926 ?_
  refine ww_e (nI_addE (a := i) (b := 3) rfl rfl) ?_
  refine va_sld C.hx C.hb C.hX C.hbl hbA hS (show vp_in (nI (i + 3)) L from vp_in_nI (by omega) (by omega)) d_law_927 ?_
  refine ww_e (congrArg xs (nI_clamp (by omega))) ?_
  refine ful_V (q := (RX6, TX6, 9)) (As := [.int (xs (i + 1)), .int (xs (i + 2)), .int (xs (i + 3))]) (rest := []) C 0 6 f1 (mf_X6_shows C.hK.2) (kw_629 C.hK.2) (kw_630 C.hK.2) (kw_628 C.hK.2) rfl hP hD hS e0 rfl hl (Nat.le_of_ble_eq_true rfl) rfl hcs d_law_928 (fun H locs hP hD hS => ?_)
  refine lv_aload_n C.hx C.hb d_law_931 rfl (lv_at hl 2 rfl) ?_
  refine lv_aload_n C.hx C.hb d_law_932 rfl (lv_at hl 0 rfl) ?_
  refine lv_iload_n C.hx C.hb d_law_933 rfl (lv_at hl 3 rfl) ?_
  refine lv_iconst (v := 1) C.hx C.hb d_law_934 (by decide) ?_
  refine lv_iadd C.hx C.hb d_law_935 ?_
  refine ww_e (nI_addE (a := i) (b := 1) rfl rfl) ?_
  refine va_sld C.hx C.hb C.hX C.hbl hbA hS (show vp_in (nI (i + 1)) L from vp_in_nI (by omega) (by omega)) d_law_936 ?_
  refine ww_e (congrArg xs (nI_clamp (by omega))) ?_
  refine lv_aload_n C.hx C.hb d_law_937 rfl (lv_at hl 0 rfl) ?_
  refine lv_iload_n C.hx C.hb d_law_938 rfl (lv_at hl 3 rfl) ?_
  refine lv_iconst (v := 2) C.hx C.hb d_law_939 (by decide) ?_
  refine lv_iadd C.hx C.hb d_law_940 ?_
  refine ww_e (nI_addE (a := i) (b := 2) rfl rfl) ?_
  refine va_sld C.hx C.hb C.hX C.hbl hbA hS (show vp_in (nI (i + 2)) L from vp_in_nI (by omega) (by omega)) d_law_941 ?_
  refine ww_e (congrArg xs (nI_clamp (by omega))) ?_
  refine lv_aload_n C.hx C.hb d_law_942 rfl (lv_at hl 0 rfl) ?_
  refine lv_iload_n C.hx C.hb d_law_943 rfl (lv_at hl 3 rfl) ?_
  refine lv_iconst (v := 3) C.hx C.hb d_law_944 (by decide) ?_
  refine lv_iadd C.hx C.hb d_law_945 ?_
  refine ww_e (nI_addE (a := i) (b := 3) rfl rfl) ?_
  refine va_sld C.hx C.hb C.hX C.hbl hbA hS (show vp_in (nI (i + 3)) L from vp_in_nI (by omega) (by omega)) d_law_946 ?_
  refine ww_e (congrArg xs (nI_clamp (by omega))) ?_
  refine ful_V (q := (RX7, TX7, 12)) (As := [.int (xs (i + 1)), .int (xs (i + 2)), .int (xs (i + 3))]) (rest := [.int (v)]) C 65 7 f2 (mf_X7_shows C.hK.2) (kw_903 C.hK.2) (kw_904 C.hK.2) (kw_902 C.hK.2) rfl hP hD hS g1 rfl hl (Nat.le_of_ble_eq_true rfl) rfl hcs d_law_947 (fun H locs hP hD hS => ?_)
  refine lv_icmp_eq (tgt := 1050) C.hx C.hb d_law_950 (by decide) (fun _ => ?_) (fun c9 => absurd rfl c9)
  exact kk _ _ ws2 hI2 hP hD hS
set_option maxHeartbeats 4000000 in
theorem lc_carries (C : LWC p s m c b L xs G sq sv) (hL : L ≤ 320) (hi : i + 5 ≤ L) (hI : INV G A ws) (hP : va_P G.1 wcl ws H) (hD : va_D (fun q : Nat => s.heap.size ≤ q) ws) (hS : va_S (fun q : Nat => s.heap.size ≤ q) s.heap H locs) (hl : lv_has ls 4 [(0, .ref b), (1, .ref (A 0)), (2, .ref (A 65)), (3, .int (nI i))]) (hcs : cells ≤ room_1.cells ∧ slots ≤ room_1.slots)
    (kk : ∀ (H1 : Heap) (locs1 : List Loc) (ws1 : va_W), INV G A ws1 → va_P G.1 wcl ws1 H1 → va_D (fun q : Nat => s.heap.size ≤ q) ws1 → va_S (fun q : Nat => s.heap.size ≤ q) s.heap H1 locs1 → W p l e room_1 s m #[Value.ref b] below meth c H1 locs1 cells slots Q (F0 m 1050 ls [])) : W p l e room_1 s m #[Value.ref b] below meth c H locs cells slots Q (F0 m 955 ls []) := by
  have hbA : ¬ (fun q : Nat => s.heap.size ≤ q) b := Nat.not_le.mpr C.hbl
  obtain ⟨f0, e0⟩ := hI.r0
  obtain ⟨v, ws1, ws2, f1, ⟨fs, g1⟩, f2, hI2⟩ := b_carries l G hI (xs (i + 1))
  refine lv_aload_n C.hx C.hb d_law_955 rfl (lv_at hl 1 rfl) ?_
  refine lv_aload_n C.hx C.hb d_law_956 rfl (lv_at hl 0 rfl) ?_
  refine lv_iload_n C.hx C.hb d_law_957 rfl (lv_at hl 3 rfl) ?_
  refine lv_iconst (v := 1) C.hx C.hb d_law_958 (by decide) ?_
  refine lv_iadd C.hx C.hb d_law_959 ?_
  refine ww_e (nI_addE (a := i) (b := 1) rfl rfl) ?_
  refine va_sld C.hx C.hb C.hX C.hbl hbA hS (show vp_in (nI (i + 1)) L from vp_in_nI (by omega) (by omega)) d_law_960 ?_
  refine ww_e (congrArg xs (nI_clamp (by omega))) ?_
  refine ful_V (q := (RX6, TX6, 9)) (As := [.int (xs (i + 1))]) (rest := []) C 0 6 f1 (mf_X6_carries C.hK.2) (kw_638 C.hK.2) (kw_639 C.hK.2) (kw_637 C.hK.2) rfl hP hD hS e0 rfl hl (Nat.le_of_ble_eq_true rfl) rfl hcs d_law_961 (fun H locs hP hD hS => ?_)
  refine lv_aload_n C.hx C.hb d_law_964 rfl (lv_at hl 2 rfl) ?_
  refine lv_aload_n C.hx C.hb d_law_965 rfl (lv_at hl 0 rfl) ?_
  refine lv_iload_n C.hx C.hb d_law_966 rfl (lv_at hl 3 rfl) ?_
  refine lv_iconst (v := 1) C.hx C.hb d_law_967 (by decide) ?_
  refine lv_iadd C.hx C.hb d_law_968 ?_
  refine ww_e (nI_addE (a := i) (b := 1) rfl rfl) ?_
  refine va_sld C.hx C.hb C.hX C.hbl hbA hS (show vp_in (nI (i + 1)) L from vp_in_nI (by omega) (by omega)) d_law_969 ?_
  refine ww_e (congrArg xs (nI_clamp (by omega))) ?_
  refine ful_V (q := (RX7, TX7, 12)) (As := [.int (xs (i + 1))]) (rest := [.int (v)]) C 65 7 f2 (mf_X7_carries C.hK.2) (kw_907 C.hK.2) (kw_908 C.hK.2) (kw_906 C.hK.2) rfl hP hD hS g1 rfl hl (Nat.le_of_ble_eq_true rfl) rfl hcs d_law_970 (fun H locs hP hD hS => ?_)
  refine lv_icmp_eq (tgt := 1050) C.hx C.hb d_law_973 (by decide) (fun _ => ?_) (fun c9 => absurd rfl c9)
  exact kk _ _ ws2 hI2 hP hD hS
set_option maxHeartbeats 4000000 in
theorem lc_lacks (C : LWC p s m c b L xs G sq sv) (hL : L ≤ 320) (hi : i + 5 ≤ L) (hI : INV G A ws) (hP : va_P G.1 wcl ws H) (hD : va_D (fun q : Nat => s.heap.size ≤ q) ws) (hS : va_S (fun q : Nat => s.heap.size ≤ q) s.heap H locs) (hl : lv_has ls 4 [(0, .ref b), (1, .ref (A 0)), (2, .ref (A 65)), (3, .int (nI i))]) (hcs : cells ≤ room_1.cells ∧ slots ≤ room_1.slots)
    (kk : ∀ (H1 : Heap) (locs1 : List Loc) (ws1 : va_W), INV G A ws1 → va_P G.1 wcl ws1 H1 → va_D (fun q : Nat => s.heap.size ≤ q) ws1 → va_S (fun q : Nat => s.heap.size ≤ q) s.heap H1 locs1 → W p l e room_1 s m #[Value.ref b] below meth c H1 locs1 cells slots Q (F0 m 1050 ls [])) : W p l e room_1 s m #[Value.ref b] below meth c H locs cells slots Q (F0 m 978 ls []) := by
  have hbA : ¬ (fun q : Nat => s.heap.size ≤ q) b := Nat.not_le.mpr C.hbl
  obtain ⟨f0, e0⟩ := hI.r0
  obtain ⟨v, ws1, ws2, f1, ⟨fs, g1⟩, f2, hI2⟩ := b_lacks l G hI (xs (i + 1))
  refine lv_aload_n C.hx C.hb d_law_978 rfl (lv_at hl 1 rfl) ?_
  refine lv_aload_n C.hx C.hb d_law_979 rfl (lv_at hl 0 rfl) ?_
  refine lv_iload_n C.hx C.hb d_law_980 rfl (lv_at hl 3 rfl) ?_
  refine lv_iconst (v := 1) C.hx C.hb d_law_981 (by decide) ?_
  refine lv_iadd C.hx C.hb d_law_982 ?_
  refine ww_e (nI_addE (a := i) (b := 1) rfl rfl) ?_
  refine va_sld C.hx C.hb C.hX C.hbl hbA hS (show vp_in (nI (i + 1)) L from vp_in_nI (by omega) (by omega)) d_law_983 ?_
  refine ww_e (congrArg xs (nI_clamp (by omega))) ?_
  refine ful_V (q := (RX6, TX6, 9)) (As := [.int (xs (i + 1))]) (rest := []) C 0 6 f1 (mf_X6_lacks C.hK.2) (kw_642 C.hK.2) (kw_643 C.hK.2) (kw_641 C.hK.2) rfl hP hD hS e0 rfl hl (Nat.le_of_ble_eq_true rfl) rfl hcs d_law_984 (fun H locs hP hD hS => ?_)
  refine lv_aload_n C.hx C.hb d_law_987 rfl (lv_at hl 2 rfl) ?_
  refine lv_aload_n C.hx C.hb d_law_988 rfl (lv_at hl 0 rfl) ?_
  refine lv_iload_n C.hx C.hb d_law_989 rfl (lv_at hl 3 rfl) ?_
  refine lv_iconst (v := 1) C.hx C.hb d_law_990 (by decide) ?_
  refine lv_iadd C.hx C.hb d_law_991 ?_
  refine ww_e (nI_addE (a := i) (b := 1) rfl rfl) ?_
  refine va_sld C.hx C.hb C.hX C.hbl hbA hS (show vp_in (nI (i + 1)) L from vp_in_nI (by omega) (by omega)) d_law_992 ?_
  refine ww_e (congrArg xs (nI_clamp (by omega))) ?_
  refine ful_V (q := (RX7, TX7, 12)) (As := [.int (xs (i + 1))]) (rest := [.int (v)]) C 65 7 f2 (mf_X7_lacks C.hK.2) (kw_911 C.hK.2) (kw_912 C.hK.2) (kw_910 C.hK.2) rfl hP hD hS g1 rfl hl (Nat.le_of_ble_eq_true rfl) rfl hcs d_law_993 (fun H locs hP hD hS => ?_)
  refine lv_icmp_eq (tgt := 1050) C.hx C.hb d_law_996 (by decide) (fun _ => ?_) (fun c9 => absurd rfl c9)
  exact kk _ _ ws2 hI2 hP hD hS
set_option maxHeartbeats 4000000 in
theorem lc_image (C : LWC p s m c b L xs G sq sv) (hL : L ≤ 320) (hi : i + 5 ≤ L) (hI : INV G A ws) (hP : va_P G.1 wcl ws H) (hD : va_D (fun q : Nat => s.heap.size ≤ q) ws) (hS : va_S (fun q : Nat => s.heap.size ≤ q) s.heap H locs) (hl : lv_has ls 4 [(0, .ref b), (1, .ref (A 0)), (2, .ref (A 65)), (3, .int (nI i))]) (hcs : cells ≤ room_1.cells ∧ slots ≤ room_1.slots)
    (kk : ∀ (H1 : Heap) (locs1 : List Loc) (ws1 : va_W), INV G A ws1 → va_P G.1 wcl ws1 H1 → va_D (fun q : Nat => s.heap.size ≤ q) ws1 → va_S (fun q : Nat => s.heap.size ≤ q) s.heap H1 locs1 → W p l e room_1 s m #[Value.ref b] below meth c H1 locs1 cells slots Q (F0 m 1050 ls [])) : W p l e room_1 s m #[Value.ref b] below meth c H locs cells slots Q (F0 m 1001 ls []) := by
  have hbA : ¬ (fun q : Nat => s.heap.size ≤ q) b := Nat.not_le.mpr C.hbl
  obtain ⟨f0, e0⟩ := hI.r0
  obtain ⟨v, ws1, ws2, f1, ⟨fs, g1⟩, f2, hI2⟩ := b_image l G hI
  refine lv_aload_n C.hx C.hb d_law_1001 rfl (lv_at hl 1 rfl) ?_
  refine ful_V (q := (RX6, TX6, 9)) (As := []) (rest := []) C 0 6 f1 (mf_X6_image C.hK.2) (kw_646 C.hK.2) (kw_647 C.hK.2) (kw_645 C.hK.2) rfl hP hD hS e0 rfl hl (Nat.le_of_ble_eq_true rfl) rfl hcs d_law_1002 (fun H locs hP hD hS => ?_)
  refine lv_aload_n C.hx C.hb d_law_1005 rfl (lv_at hl 2 rfl) ?_
  refine ful_V (q := (RX7, TX7, 12)) (As := []) (rest := [.int (v)]) C 65 7 f2 (mf_X7_image C.hK.2) (kw_915 C.hK.2) (kw_916 C.hK.2) (kw_914 C.hK.2) rfl hP hD hS g1 rfl hl (Nat.le_of_ble_eq_true rfl) rfl hcs d_law_1006 (fun H locs hP hD hS => ?_)
  refine lv_icmp_eq (tgt := 1050) C.hx C.hb d_law_1009 (by decide) (fun _ => ?_) (fun c9 => absurd rfl c9)
  exact kk _ _ ws2 hI2 hP hD hS
set_option maxHeartbeats 4000000 in
theorem lc_on (C : LWC p s m c b L xs G sq sv) (hL : L ≤ 320) (hi : i + 5 ≤ L) (hI : INV G A ws) (hP : va_P G.1 wcl ws H) (hD : va_D (fun q : Nat => s.heap.size ≤ q) ws) (hS : va_S (fun q : Nat => s.heap.size ≤ q) s.heap H locs) (hl : lv_has ls 4 [(0, .ref b), (1, .ref (A 0)), (2, .ref (A 65)), (3, .int (nI i))]) (hcs : cells ≤ room_1.cells ∧ slots ≤ room_1.slots)
    (kk : ∀ (H1 : Heap) (locs1 : List Loc) (ws1 : va_W), INV G A ws1 → va_P G.1 wcl ws1 H1 → va_D (fun q : Nat => s.heap.size ≤ q) ws1 → va_S (fun q : Nat => s.heap.size ≤ q) s.heap H1 locs1 → W p l e room_1 s m #[Value.ref b] below meth c H1 locs1 cells slots Q (F0 m 1050 ls [])) : W p l e room_1 s m #[Value.ref b] below meth c H locs cells slots Q (F0 m 1014 ls []) := by
  have hbA : ¬ (fun q : Nat => s.heap.size ≤ q) b := Nat.not_le.mpr C.hbl
  obtain ⟨f0, e0⟩ := hI.r0
  obtain ⟨v, ws1, ws2, f1, ⟨fs, g1⟩, f2, hI2⟩ := b_on l G hI
  refine lv_aload_n C.hx C.hb d_law_1014 rfl (lv_at hl 1 rfl) ?_
  refine ful_V (q := (RX6, TX6, 9)) (As := []) (rest := []) C 0 6 f1 (mf_X6_on C.hK.2) (kw_664 C.hK.2) (kw_665 C.hK.2) (kw_663 C.hK.2) rfl hP hD hS e0 rfl hl (Nat.le_of_ble_eq_true rfl) rfl hcs d_law_1015 (fun H locs hP hD hS => ?_)
  refine lv_aload_n C.hx C.hb d_law_1018 rfl (lv_at hl 2 rfl) ?_
  refine ful_V (q := (RX7, TX7, 12)) (As := []) (rest := [.int (v)]) C 65 7 f2 (mf_X7_on C.hK.2) (kw_919 C.hK.2) (kw_920 C.hK.2) (kw_918 C.hK.2) rfl hP hD hS g1 rfl hl (Nat.le_of_ble_eq_true rfl) rfl hcs d_law_1019 (fun H locs hP hD hS => ?_)
  refine lv_icmp_eq (tgt := 1050) C.hx C.hb d_law_1022 (by decide) (fun _ => ?_) (fun c9 => absurd rfl c9)
  exact kk _ _ ws2 hI2 hP hD hS
set_option maxHeartbeats 4000000 in
theorem lc_count (C : LWC p s m c b L xs G sq sv) (hL : L ≤ 320) (hi : i + 5 ≤ L) (hI : INV G A ws) (hP : va_P G.1 wcl ws H) (hD : va_D (fun q : Nat => s.heap.size ≤ q) ws) (hS : va_S (fun q : Nat => s.heap.size ≤ q) s.heap H locs) (hl : lv_has ls 4 [(0, .ref b), (1, .ref (A 0)), (2, .ref (A 65)), (3, .int (nI i))]) (hcs : cells ≤ room_1.cells ∧ slots ≤ room_1.slots)
    (kk : ∀ (H1 : Heap) (locs1 : List Loc) (ws1 : va_W), INV G A ws1 → va_P G.1 wcl ws1 H1 → va_D (fun q : Nat => s.heap.size ≤ q) ws1 → va_S (fun q : Nat => s.heap.size ≤ q) s.heap H1 locs1 → W p l e room_1 s m #[Value.ref b] below meth c H1 locs1 cells slots Q (F0 m 1050 ls [])) : W p l e room_1 s m #[Value.ref b] below meth c H locs cells slots Q (F0 m 1027 ls []) := by
  have hbA : ¬ (fun q : Nat => s.heap.size ≤ q) b := Nat.not_le.mpr C.hbl
  obtain ⟨f0, e0⟩ := hI.r0
  obtain ⟨v, ws1, ws2, f1, ⟨fs, g1⟩, f2, hI2⟩ := b_count l G hI (xs (i + 1))
  refine lv_aload_n C.hx C.hb d_law_1027 rfl (lv_at hl 1 rfl) ?_
  refine lv_aload_n C.hx C.hb d_law_1028 rfl (lv_at hl 0 rfl) ?_
  refine lv_iload_n C.hx C.hb d_law_1029 rfl (lv_at hl 3 rfl) ?_
  refine lv_iconst (v := 1) C.hx C.hb d_law_1030 (by decide) ?_
  refine lv_iadd C.hx C.hb d_law_1031 ?_
  refine ww_e (nI_addE (a := i) (b := 1) rfl rfl) ?_
  refine va_sld C.hx C.hb C.hX C.hbl hbA hS (show vp_in (nI (i + 1)) L from vp_in_nI (by omega) (by omega)) d_law_1032 ?_
  refine ww_e (congrArg xs (nI_clamp (by omega))) ?_
  refine ful_V (q := (RX6, TX6, 9)) (As := [.int (xs (i + 1))]) (rest := []) C 0 6 f1 (mf_X6_count C.hK.2) (kw_668 C.hK.2) (kw_669 C.hK.2) (kw_667 C.hK.2) rfl hP hD hS e0 rfl hl (Nat.le_of_ble_eq_true rfl) rfl hcs d_law_1033 (fun H locs hP hD hS => ?_)
  refine lv_aload_n C.hx C.hb d_law_1036 rfl (lv_at hl 2 rfl) ?_
  refine lv_aload_n C.hx C.hb d_law_1037 rfl (lv_at hl 0 rfl) ?_
  refine lv_iload_n C.hx C.hb d_law_1038 rfl (lv_at hl 3 rfl) ?_
  refine lv_iconst (v := 1) C.hx C.hb d_law_1039 (by decide) ?_
  refine lv_iadd C.hx C.hb d_law_1040 ?_
  refine ww_e (nI_addE (a := i) (b := 1) rfl rfl) ?_
  refine va_sld C.hx C.hb C.hX C.hbl hbA hS (show vp_in (nI (i + 1)) L from vp_in_nI (by omega) (by omega)) d_law_1041 ?_
  refine ww_e (congrArg xs (nI_clamp (by omega))) ?_
  refine ful_V (q := (RX7, TX7, 12)) (As := [.int (xs (i + 1))]) (rest := [.int (v)]) C 65 7 f2 (mf_X7_count C.hK.2) (kw_923 C.hK.2) (kw_924 C.hK.2) (kw_922 C.hK.2) rfl hP hD hS g1 rfl hl (Nat.le_of_ble_eq_true rfl) rfl hcs d_law_1042 (fun H locs hP hD hS => ?_)
  refine lv_icmp_eq (tgt := 1050) C.hx C.hb d_law_1045 (by decide) (fun _ => ?_) (fun c9 => absurd rfl c9)
  exact kk _ _ ws2 hI2 hP hD hS
end LAW
