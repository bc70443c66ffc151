/-! CALLS of contracts (CT): one row a kind of call; the world behind it is the caller's, the callee's cells put anew in their places. -/
def MF (s : State) (y : MethodName) (bytes : ByteArray) (maxL : Nat) (ret : Option FieldType) (n : Nat) : Prop :=
  (Cond.code y bytes maxL ret).before #[] s = true ∧ (Cond.initialized y.cls).before #[] s = true ∧ (y.cls ≠ "java/lang/invoke/MethodHandle" ∧ y.cls ≠ "java/lang/invoke/VarHandle" ∧ (parseMethodDescriptor y.desc).map (fun d => d.parameters.length) = some n)
theorem MF.callB {s : State} {args : Array Value} {y : MethodName} {bytes : ByteArray} {maxL : Nat} {ret : Option FieldType} {n index : Nat} {own : String} {R rm : Room} (h : MF s y bytes maxL ret n) (hl : (Cond.methodLink own index y).before args s = true) (hR : rm.cells = 0 ∧ rm.slots = 0 ∧ rm.frames + 1 ≤ R.frames ∧ 8 + (maxL + 11) + rm.locals ≤ R.locals) : CallB R s args own index y bytes maxL ret [Cond.code y bytes maxL ret] rm 0 0 n := by
  obtain ⟨h1, h2, h3⟩ := h
  refine ⟨hR.1, hR.2.1, hR.2.2.1, hR.2.2.2, ?_, List.mem_cons_self, va_tabs rfl rfl h1, va_tabs rfl rfl h2, ⟨h3.1, h3.2.1⟩, fun sig hs => ?_, hl⟩
  · intro w hw a' U hW
    rw [List.mem_singleton.mp hw]
    exact word_at hW (Or.inl (by first | rfl | simp [Cond.onTables, Cond.keeps, Cond.steady])) h1
  · have h4 := h3.2.2
    rw [hs] at h4
    exact (Option.some.inj h4).symm
theorem MF.callN {s : State} {args : Array Value} {y : MethodName} {bytes : ByteArray} {maxL : Nat} {ret : Option FieldType} {n index : Nat} {own host : String} {R rm : Room} (h : MF s y bytes maxL ret n) (hl : (Cond.methodLinkNest own index y host).before args s = true) (hR : rm.cells = 0 ∧ rm.slots = 0 ∧ rm.frames + 1 ≤ R.frames ∧ 8 + (maxL + 11) + rm.locals ≤ R.locals) : va_CN R s args own index y host bytes maxL ret [Cond.code y bytes maxL ret] rm 0 0 n := by
  obtain ⟨h1, h2, h3⟩ := h
  refine ⟨⟨hR.1, hR.2.1, hR.2.2.1, hR.2.2.2, ?_, List.mem_cons_self⟩, va_tabs rfl rfl h1, va_tabs rfl rfl h2, ⟨h3.1, h3.2.1⟩, fun sig hs => ?_, hl⟩
  · intro w hw a' U hW
    rw [List.mem_singleton.mp hw]
    exact word_at hW (Or.inl (by first | rfl | simp [Cond.onTables, Cond.keeps, Cond.steady])) h1
  · have h4 := h3.2.2
    rw [hs] at h4
    exact (Option.some.inj h4).symm
section CL
variable {p : Program} {l : Launch} {e : Env} {R : Room} {s : State} {m : MethodId} {args : Array Value} {below : List Frame} {meth : Method} {c : Code} {H : Heap} {locs : List Loc} {cells slots : Nat} {Q : State → Prop}
variable {pc nL maxL n index : Nat} {ls : Array Slot} {rest st0 st1 : List Value} {A : Nat → Prop} {H0 : Heap} {G : wG} {ws ws' wc : va_W} {τ : Type} {ws1 : τ → va_W} {res : τ → Option Value} {u : τ} {v : Option Value}
variable {y : MethodName} {bytes cc : ByteArray} {ret : Option FieldType} {rm : Room} {own host : String} {b : Addr} {As av : List Value} {lv : List (Nat × Value)}
theorem cl_go {a : Array Value} (isC : List Nat) (hr : va_Run p l e R s m args below meth c H locs cells slots 0 0 (F0 m pc ls st0) rest (CQ G wc ws1 res u H.size a) (va_A wc H.size)) (hP : va_P G.1 wcl ws H) (hD : va_D A ws) (hS : va_S A H0 H locs) (hA : ∀ q : Nat, H0.size ≤ q → A q)
    (hC : isC.map (fun i => ws[i]?) = wc.map some) (hf1 : (ws1 u).map (fun q => q.1) = wc.map (fun q => q.1)) (hw : rpl ws isC (ws1 u) = ws') (hf : ws'.map (fun q => q.1) = ws.map (fun q => q.1)) (hv : res u = v) (hst : v.toList ++ rest = st1)
    (kk : ∀ (H1 : Heap) (locs1 : List Loc), va_P G.1 wcl ws' H1 → va_D A ws' → va_S A H0 H1 locs1 → W p l e R s m args below meth c H1 locs1 cells slots Q (F0 m (pc + 3) ls st1)) : W p l e R s m args below meth c H locs cells slots Q (F0 m pc ls st0) := by
  have hF := va_free hD hS hA isC hC
  intro T hT X
  obtain ⟨v', st₀, t, T', L, h0, X', hL, e1, e2, ⟨⟨hoc, hP1⟩, hz, hk⟩, st⟩ := hr T hT X
  have hv' : v' = v := by
    have h9 : some v' = some (res u) := by injection hoc with h8; rw [h8]
    rw [Option.some.inj h9, hv]
  subst hv'
  subst hst
  rw [h0] at hz hk
  obtain ⟨t2, a1, b1⟩ := kk T'.heap (locs ++ L) (by rw [e1, ← hw]; exact rpl_P isC hP hD hC hk hP1 hf1) (va_D_fst hD hf)
    ⟨Nat.le_trans hS.1 (by rw [e1]; exact hz), fun q h1 h2 => by rw [e1, hk q (Nat.lt_of_lt_of_le h1 hS.1) (fun z => h2 (hF q z))]; exact hS.2.1 q h1 h2, fun q hq => by
      rcases List.mem_append.mp hq with h | h
      · exact hS.2.2 q h
      · exact hF _ (hL q h)⟩ T' rfl X'
  exact ⟨t2, st t2 a1, b1⟩
theorem cl_pre {wc : va_W} (hK : KK G s) (hPc : va_P G.1 wcl wc H) (hDc : va_D A wc) (U : State) (hU : U.heap = H) (hW : s.WarmedH U.vm) : CP G av wc H.size av.toArray U :=
  ⟨rfl, by rw [hU], by rw [hU]; exact hPc, hK.warm hW, hDc.weaken (fun _ _ _ _ => trivial)⟩
theorem map_filterMap {α : Type} : ∀ (is : List Nat) (ws wc : List α), is.map (fun i => ws[i]?) = wc.map some → is.filterMap (fun i => ws[i]?) = wc := by
  intro is
  induction is with
  | nil => intro ws wc h; cases wc with
    | nil => rfl
    | cons a b => cases h
  | cons i is ih =>
    intro ws wc h
    cases wc with
    | nil => cases h
    | cons a b =>
      simp only [List.map_cons, List.cons.injEq] at h
      simp only [List.filterMap_cons, h.1]
      rw [ih ws b h.2]
/-- invokevirtual, private ones too -/
theorem cl_V (isC : List Nat) (q0 ci : Nat) {fs : List Value} {q : vw_C} (hx : p.tables.exec = Jvm.exec) (hb : c.code = cc) (hml : c.maxLocals = nL) (hown : s.vm.findClass own = some m.cls) (hK : KK G s) (hM : CT l G y bytes maxL ret rm (.ref b :: As) wc ws1 res u) (hF : MF s y bytes maxL ret n)
    (hi : (Cond.instanceMethod y).before args s = true) (hse : (Cond.selects q.1 y y).before args s = true) (hl : (Cond.methodLink own index y).before args s = true) (hR : rm.cells = 0 ∧ rm.slots = 0 ∧ rm.frames + 1 ≤ R.frames ∧ 8 + (maxL + 11) + rm.locals ≤ R.locals) (hn : As.length = n)
    (hP : va_P G.1 wcl ws H) (hD : va_D A ws) (hS : va_S A H0 H locs) (hA : ∀ q : Nat, H0.size ≤ q → A q) (he : ws[q0]? = some (b, .inr (ci, fs))) (hc : wcl[ci]? = some q) (hls : lv_has ls nL lv) (hroom : (rest.map fun v => v.category).sum ≤ 8) (hst0 : st0 = As.reverse ++ .ref b :: rest) (hcs : cells ≤ R.cells ∧ slots ≤ R.slots) (hnd : va_nd isC = true)
    (hdg : decode cc pc = .ok (.invokevirtual index, 3)) (hC : isC.map (fun i => ws[i]?) = wc.map some) (hf1 : (ws1 u).map (fun q => q.1) = wc.map (fun q => q.1)) (hw : rpl ws isC (ws1 u) = ws') (hf : ws'.map (fun q => q.1) = ws.map (fun q => q.1)) (hv : res u = v) (hst : v.toList ++ rest = st1)
    (kk : ∀ (H1 : Heap) (locs1 : List Loc), va_P G.1 wcl ws' H1 → va_D A ws' → va_S A H0 H1 locs1 → W p l e R s m args below meth c H1 locs1 cells slots Q (F0 m (pc + 3) ls st1)) : W p l e R s m args below meth c H locs cells slots Q (F0 m pc ls st0) := by
  subst hst0
  have hPc : va_P G.1 wcl wc H := hP.sub isC (map_filterMap isC ws wc hC)
  have hDc : va_D A wc := hD.sub isC hnd hC
  refine cl_go isC (va_runV (Ts := []) (As := As) (rest := rest) (b := b) ⟨hx, hb, hml, hown, fun _ h => by cases h⟩ (hM H.size) ⟨hF.callB hl hR, hi, hse⟩ ⟨CP.blind, va_recv hK.1 hP hc he, fun U hU hW => cl_pre hK hPc hDc U hU hW⟩ rfl hn hls.1 rfl (lv_room hroom) hdg hcs) hP hD hS hA hC hf1 hw hf hv hst kk
/-- invokestatic -/
theorem cl_S (isC : List Nat) (hx : p.tables.exec = Jvm.exec) (hb : c.code = cc) (hml : c.maxLocals = nL) (hown : s.vm.findClass own = some m.cls) (hK : KK G s) (hM : CT l G y bytes maxL ret rm As wc ws1 res u) (hF : MF s y bytes maxL ret n)
    (hi : (Cond.static y).before args s = true) (hl : (Cond.methodLink own index y).before args s = true) (hR : rm.cells = 0 ∧ rm.slots = 0 ∧ rm.frames + 1 ≤ R.frames ∧ 8 + (maxL + 11) + rm.locals ≤ R.locals) (hn : As.length = n)
    (hP : va_P G.1 wcl ws H) (hD : va_D A ws) (hS : va_S A H0 H locs) (hA : ∀ q : Nat, H0.size ≤ q → A q) (hls : lv_has ls nL lv) (hroom : (rest.map fun v => v.category).sum ≤ 8) (hst0 : st0 = As.reverse ++ rest) (hcs : cells ≤ R.cells ∧ slots ≤ R.slots) (hnd : va_nd isC = true)
    (hdg : decode cc pc = .ok (.invokestatic index, 3)) (hC : isC.map (fun i => ws[i]?) = wc.map some) (hf1 : (ws1 u).map (fun q => q.1) = wc.map (fun q => q.1)) (hw : rpl ws isC (ws1 u) = ws') (hf : ws'.map (fun q => q.1) = ws.map (fun q => q.1)) (hv : res u = v) (hst : v.toList ++ rest = st1)
    (kk : ∀ (H1 : Heap) (locs1 : List Loc), va_P G.1 wcl ws' H1 → va_D A ws' → va_S A H0 H1 locs1 → W p l e R s m args below meth c H1 locs1 cells slots Q (F0 m (pc + 3) ls st1)) : W p l e R s m args below meth c H locs cells slots Q (F0 m pc ls st0) := by
  subst hst0
  have hPc : va_P G.1 wcl wc H := hP.sub isC (map_filterMap isC ws wc hC)
  have hDc : va_D A wc := hD.sub isC hnd hC
  refine cl_go isC (va_runS (Ts := []) (As := As) (rest := rest) ⟨hx, hb, hml, hown, fun _ h => by cases h⟩ (hM H.size) ⟨hF.callB hl hR, hi⟩ ⟨CP.blind, fun U hU hW => cl_pre hK hPc hDc U hU hW⟩ rfl hn hls.1 rfl (lv_room hroom) hdg hcs) hP hD hS hA hC hf1 hw hf hv hst kk
/-- invokestatic of a nest mate's private method -/
theorem cl_SN (isC : List Nat) (hx : p.tables.exec = Jvm.exec) (hb : c.code = cc) (hml : c.maxLocals = nL) (hown : s.vm.findClass own = some m.cls) (hK : KK G s) (hM : CT l G y bytes maxL ret rm As wc ws1 res u) (hF : MF s y bytes maxL ret n)
    (hi : (Cond.static y).before args s = true) (hl : (Cond.methodLinkNest own index y host).before args s = true) (hR : rm.cells = 0 ∧ rm.slots = 0 ∧ rm.frames + 1 ≤ R.frames ∧ 8 + (maxL + 11) + rm.locals ≤ R.locals) (hn : As.length = n)
    (hP : va_P G.1 wcl ws H) (hD : va_D A ws) (hS : va_S A H0 H locs) (hA : ∀ q : Nat, H0.size ≤ q → A q) (hls : lv_has ls nL lv) (hroom : (rest.map fun v => v.category).sum ≤ 8) (hst0 : st0 = As.reverse ++ rest) (hcs : cells ≤ R.cells ∧ slots ≤ R.slots) (hnd : va_nd isC = true)
    (hdg : decode cc pc = .ok (.invokestatic index, 3)) (hC : isC.map (fun i => ws[i]?) = wc.map some) (hf1 : (ws1 u).map (fun q => q.1) = wc.map (fun q => q.1)) (hw : rpl ws isC (ws1 u) = ws') (hf : ws'.map (fun q => q.1) = ws.map (fun q => q.1)) (hv : res u = v) (hst : v.toList ++ rest = st1)
    (kk : ∀ (H1 : Heap) (locs1 : List Loc), va_P G.1 wcl ws' H1 → va_D A ws' → va_S A H0 H1 locs1 → W p l e R s m args below meth c H1 locs1 cells slots Q (F0 m (pc + 3) ls st1)) : W p l e R s m args below meth c H locs cells slots Q (F0 m pc ls st0) := by
  subst hst0
  have hPc : va_P G.1 wcl wc H := hP.sub isC (map_filterMap isC ws wc hC)
  have hDc : va_D A wc := hD.sub isC hnd hC
  refine cl_go isC (va_runSN (Ts := []) (As := As) (rest := rest) ⟨hx, hb, hml, hown, fun _ h => by cases h⟩ (hM H.size) ⟨hF.callN hl hR, hi, trivial⟩ ⟨CP.blind, fun U hU hW => cl_pre hK hPc hDc U hU hW⟩ rfl hn hls.1 rfl (lv_room hroom) hdg hcs) hP hD hS hA hC hf1 hw hf hv hst kk
/-- the top of the stack by another name -/
theorem ww_e {x y : Int32} {st : List Value} (h : x = y) (k : W p l e R s m args below meth c H locs cells slots Q (F0 m pc ls (.int y :: st))) : W p l e R s m args below meth c H locs cells slots Q (F0 m pc ls (.int x :: st)) := by rw [h]; exact k
theorem ww_ild {D : va_G} {cl : List vw_C} {tys : List (ClassId × FieldType)} {a : Nat} (hexec : p.tables.exec = Jvm.exec) (hb : c.code = cc) (hK : va_K D cl tys s) (hP : va_P D cl ws H) (q0 t0 : Nat) {cA : ClassId} {n : Nat} {f : Nat → Int32} (ha : ws[q0]? = some (a, .inl (cA, n, .inl f))) (ht : tys[t0]? = some (cA, .int)) {j : Nat} (hj : j < n) (hn : n < 2 ^ 31) (hdg : decode cc pc = .ok (.iaload, 1))
    (kk : W p l e R s m args below meth c H locs cells slots Q (F0 m (pc + 1) ls (.int (f j) :: rest))) : W p l e R s m args below meth c H locs cells slots Q (F0 m pc ls (.int (nI j) :: .ref a :: rest)) := by
  refine va_iald hexec hb hK hP q0 t0 ha ht (vp_in_nI hj hn) hdg ?_
  rw [nI_clamp (Nat.lt_trans hj hn)]
  exact kk
theorem ww_zld {D : va_G} {cl : List vw_C} {tys : List (ClassId × FieldType)} {a : Nat} (hexec : p.tables.exec = Jvm.exec) (hb : c.code = cc) (hK : va_K D cl tys s) (hP : va_P D cl ws H) (q0 t0 : Nat) {cA : ClassId} {n : Nat} {f : Nat → Int32} (ha : ws[q0]? = some (a, .inl (cA, n, .inl f))) (ht : tys[t0]? = some (cA, .boolean)) {j : Nat} (hj : j < n) (hn : n < 2 ^ 31) (hdg : decode cc pc = .ok (.baload, 1))
    (kk : W p l e R s m args below meth c H locs cells slots Q (F0 m (pc + 1) ls (.int (f j) :: rest))) : W p l e R s m args below meth c H locs cells slots Q (F0 m pc ls (.int (nI j) :: .ref a :: rest)) := by
  refine va_zald hexec hb hK hP q0 t0 ha ht (vp_in_nI hj hn) hdg ?_
  rw [nI_clamp (Nat.lt_trans hj hn)]
  exact kk
theorem ww_ist {D : va_G} {cl : List vw_C} {tys : List (ClassId × FieldType)} {a : Nat} (hexec : p.tables.exec = Jvm.exec) (hb : c.code = cc) (hK : va_K D cl tys s) (hP : va_P D cl ws H) (hD : va_D A ws) (hS : va_S A H0 H locs) (q0 t0 : Nat) {cA : ClassId} {n : Nat} {f : Nat → Int32} (ha : ws[q0]? = some (a, .inl (cA, n, .inl f))) (ht : tys[t0]? = some (cA, .int)) {j : Nat} {x : Int32} (hj : j < n) (hn : n < 2 ^ 31) (hdg : decode cc pc = .ok (.iastore, 1))
    (kk : ∀ (H1 : Heap) (locs1 : List Loc), va_P D cl (ws.set q0 (a, .inl (cA, n, .inl (upd f j x)))) H1 → va_D A (ws.set q0 (a, .inl (cA, n, .inl (upd f j x)))) → va_S A H0 H1 locs1 → W p l e R s m args below meth c H1 locs1 cells slots Q (F0 m (pc + 1) ls rest)) : W p l e R s m args below meth c H locs cells slots Q (F0 m pc ls (.int x :: .int (nI j) :: .ref a :: rest)) := by
  refine va_iast hexec hb hK hP hD hS q0 t0 ha ht (vp_in_nI hj hn) hdg ?_
  rw [nI_clamp (Nat.lt_trans hj hn)]
  exact kk
/-- a tableswitch at a value that is known -/
theorem ww_tsw {dflt lo hi : Int} {offs : Array Int} {len : Nat} {x w : Int32} {off : Int} {tgt : Nat} (hexec : p.tables.exec = Jvm.exec) (hb : c.code = cc) (hxw : x = w) (hdg : decode cc pc = .ok (.tableswitch dflt lo hi offs, len)) (h1 : ¬ w.toInt < lo) (h2 : ¬ hi < w.toInt) (ho : offs[(w.toInt - lo).toNat]? = some off) (ht : (pc : Int) + off = (tgt : Int))
    (k : W p l e R s m args below meth c H locs cells slots Q (F0 m tgt ls rest)) : W p l e R s m args below meth c H locs cells slots Q (F0 m pc ls (.int x :: rest)) := by
  rw [hxw]
  exact lv_tableIn hexec hb hdg h1 h2 ho ht k
end CL
theorem ts_out {x : Int32} (hi : Nat) (hh : hi < 2 ^ 31) (h : ∀ j : Nat, j ≤ hi → ¬ x = nI j) : x.toInt < 0 ∨ (hi : Int) < x.toInt := by
  by_cases h0 : x < 0
  · exact Or.inl (by have := Int32.lt_iff_toInt_lt.mp h0; simpa using this)
  · obtain ⟨j, hj, rfl⟩ := nI_of h0
    right
    rw [nI_toInt hj]
    by_cases hle : j ≤ hi
    · exact absurd rfl (h j hle)
    · omega
theorem nI_addE {x y : Int32} {a b : Nat} (hx : x = nI a) (hy : y = nI b) : x + y = nI (a + b) := by rw [hx, hy, nI_add]
theorem nI_mulE {x y : Int32} {a b : Nat} (hx : x = nI a) (hy : y = nI b) : x * y = nI (a * b) := by rw [hx, hy, pk_mul]
theorem nI_subE {x y : Int32} {a b : Nat} (hx : x = nI a) (hy : y = nI b) (h : b ≤ a) : x - y = nI (a - b) := by rw [hx, hy, pk_sub h]
