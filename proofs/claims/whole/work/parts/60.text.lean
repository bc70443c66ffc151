/-! THE TEXT CONSTANT: contracts (CTX) that also hold of the String constant at sq, its bytes at sv. -/
def kbyt (j : Nat) : Int32 := ([87, 80, 75, 76, 83, 82] : List Int32).getD j 0
def SX (q v : Nat) (A : Nat → Prop) (U : State) (H : Heap) : Prop := vk_R RX4 35 "WPKLSR" q U ∧ vk_S 1 [6] [[87, 80, 75, 76, 83, 82]] (fun _ => q) (fun _ => v) A U H ∧ va_Z RJ0 "COMPACT_STRINGS" "Z" (.int 1) A U H
theorem SX.kept {q v : Nat} {A : Nat → Prop} {U : State} {H H1 : Heap} (h : SX q v A U H) (hq : ∀ a : Nat, a < H.size → ¬ A a → H1[a]? = H[a]?) : SX q v A U H1 := ⟨h.1, h.2.1.kept hq, h.2.2.kept hq⟩
theorem SX.narrow {q v : Nat} {A B : Nat → Prop} {U : State} {H : Heap} (h : SX q v A U H) (hAB : ∀ q, B q → A q) : SX q v B U H := ⟨h.1, h.2.1.narrow hAB, h.2.2.narrow hAB⟩
theorem SX.warm {q v : Nat} {A : Nat → Prop} {s U : State} {H : Heap} (hW : s.WarmedH U.vm) (h : SX q v A s H) : SX q v A U H := ⟨h.1.warm hW, vk_S.moved hW.alike h.2.1, va_Z.moved hW.alike h.2.2⟩
theorem SX.calling {q v : Nat} {A : Nat → Prop} {U : State} {H : Heap} {g : JFrame} {mk : MethodId} {a : Array Value} (h : SX q v A U H) : SX q v A (U.calling g mk a) H := ⟨vk_R.same (u := U) (U := U.calling g mk a) rfl h.1, vk_S.moved (u := U) (U := U.calling g mk a) (Vm.Alike.refl U.vm) h.2.1, va_Z.moved (u := U) (U := U.calling g mk a) (Vm.Alike.refl U.vm) h.2.2⟩
abbrev CPX (sq sv : Nat) (G : wG) (av : List Value) (ws : va_W) (sz : Nat) : Array Value → State → Prop := va_Pc av (fun U => U.heap.size = sz ∧ va_P G.1 wcl ws U.heap ∧ KK G U ∧ va_D (fun _ => True) ws ∧ SX sq sv (va_A ws sz) U U.heap)
def CTX {τ : Type} (sq sv : Nat) (l : Launch) (G : wG) (y : MethodName) (cc : ByteArray) (nL : Nat) (ret : Option FieldType) (rm : Room) (av : List Value) (ws : va_W) (ws1 : τ → va_W) (res : τ → Option Value) (u : τ) : Prop :=
  ∀ sz : Nat, Met l y [Cond.code y cc nL ret] rm (CPX sq sv G av ws sz) (CQ G ws ws1 res u sz) 0 0 (va_A ws sz)
theorem CPX.blind {sq sv : Nat} {G : wG} {av : List Value} {ws : va_W} {sz : Nat} : FrameBlind (CPX sq sv G av ws sz) := by
  intro a U g mk q
  obtain ⟨q0, q1, qP, qK, qD, qX⟩ := q
  exact ⟨q0, q1, qP, qK.calling, qD, SX.calling (U := U) (g := g) (mk := mk) (a := a) qX⟩
theorem CTX.mkI {τ : Type} {sq sv : Nat} {l : Launch} {G : wG} {y : MethodName} {cc : ByteArray} {nL : Nat} {rt : FieldType} {rm : Room} {av : List Value} {ws : va_W} {ws1 : τ → va_W} {res : τ → Option Value} {R : τ} (own : String) (hy : plainName y.cls = true) (ho : y.cls = own) (hn : (lg_sl av).length ≤ nL)
    (body : ∀ (p : Program) (e : Env) (s : State) (m : MethodId) (args : Array Value) (below : List Frame) (meth : Method) (c : Code) (A : Nat → Prop) (Q : State → Prop) (ls : Array Slot), p.tables.exec = Jvm.exec → c.code = cc → c.maxLocals = nL → s.vm.findClass own = some m.cls → KK G s → va_P G.1 wcl ws s.heap → va_D A ws → va_S A s.heap s.heap [] → (∀ q : Nat, s.heap.size ≤ q → A q) → SX sq sv A s s.heap →
      (∀ {pc : Nat} {H : Heap} {locs : List Loc} {ls : Array Slot} {v : Int32} (u : τ), decode cc pc = .ok (.ireturn, 1) → narrow rt (.int v) = .int v → u = R → res u = some (.int v) → va_P G.1 wcl (ws1 u) H → va_S A s.heap H locs → W p l e rm s m args below meth c H locs 0 0 Q (F0 m pc ls [.int v])) →
      lv_has ls nL (lv_args 0 av) → W p l e rm s m args below meth c s.heap [] 0 0 Q (F0 m 0 ls [])) : CTX sq sv l G y cc nL (some rt) rm av ws ws1 res R := by
  intro sz
  refine Met.ofW (cc := cc) (maxL := nL) (ret := some rt) hy rfl ?_
  intro p e s m args below meth c s₁ B hml hv
  obtain ⟨rfl, hsz, hP, hK, hD0, hX⟩ := hv
  subst hsz
  have hlocks := B.notSynchronized
  have hown : s.vm.findClass own = some m.cls := ho ▸ findClass_of_methodNamed B.named
  have hl := lv_entry av (n := nL) hn
  rw [lg_entry_eq]
  exact body p e s m _ below meth c (va_A ws s.heap.size) _ _ B.exec B.bytes hml hown hK hP hD0.self va_S.rf (fun q h => Or.inr h) hX (fun u hd hnr hu hres hP1 hS1 => W.zret B.exec B.bytes B.returns hnr (fun t ht hW => ⟨⟨by rw [← hu, hres], by rw [ht, ← hu]; exact hP1⟩, hS1.F ht⟩) hS1.2.2 hd) hl
section CLX
variable {p : Program} {l : Launch} {e : Env} {R : Room} {s : State} {m : MethodId} {args : Array Value} {below : List Frame} {meth : Method} {c : Code} {H : Heap} {locs : List Loc} {cells slots : Nat} {Q : State → Prop}
variable {pc nL maxL n index : Nat} {ls : Array Slot} {rest st0 st1 : List Value} {A : Nat → Prop} {G : wG} {ws ws' wc : va_W} {τ : Type} {ws1 : τ → va_W} {res : τ → Option Value} {u : τ} {v : Option Value}
variable {y : MethodName} {bytes cc : ByteArray} {ret : Option FieldType} {rm : Room} {own C : String} {b sq sv : Nat} {As av : List Value} {lv : List (Nat × Value)}
theorem cl_preX {wc : va_W} (hK : KK G s) (hPc : va_P G.1 wcl wc H) (hDc : va_D A wc) (hX : SX sq sv (va_A wc H.size) s H) (U : State) (hU : U.heap = H) (hW : s.WarmedH U.vm) : CPX sq sv G av wc H.size av.toArray U :=
  ⟨rfl, by rw [hU], by rw [hU]; exact hPc, hK.warm hW, hDc.weaken (fun _ _ _ _ => trivial), by rw [hU]; exact hX.warm hW⟩
theorem cl_VX (isC : List Nat) (hx : p.tables.exec = Jvm.exec) (hb : c.code = cc) (hml : c.maxLocals = nL) (hown : s.vm.findClass own = some m.cls) (hK : KK G s) (hX : SX sq sv A s s.heap) (hM : CTX sq sv l G y bytes maxL ret rm (.ref b :: As) wc ws1 res u) (hF : MF s y bytes maxL ret n)
    (hi : (Cond.instanceMethod y).before args s = true) (hse : (Cond.selects C y y).before args s = true) (hl : (Cond.methodLink own index y).before args s = true) (hR : rm.cells = 0 ∧ rm.slots = 0 ∧ rm.frames + 1 ≤ R.frames ∧ 8 + (maxL + 11) + rm.locals ≤ R.locals) (hn : As.length = n)
    (hP : va_P G.1 wcl ws H) (hD : va_D A ws) (hS : va_S A s.heap H locs) (hA : ∀ q : Nat, s.heap.size ≤ q → A q) (hrc : ∃ cell : Cell, H[b]? = some cell ∧ cell.vm.isStatics = false ∧ s.vm.findClass C = some cell.cls) (hls : lv_has ls nL lv) (hroom : (rest.map fun v => v.category).sum ≤ 8) (hst0 : st0 = As.reverse ++ .ref b :: rest) (hcs : cells ≤ R.cells ∧ slots ≤ R.slots) (hnd : va_nd isC = true)
    (hdg : decode cc pc = .ok (.invokevirtual index, 3)) (hC : isC.map (fun i => ws[i]?) = wc.map some) (hf1 : (ws1 u).map (fun q => q.1) = wc.map (fun q => q.1)) (hw : rpl ws isC (ws1 u) = ws') (hf : ws'.map (fun q => q.1) = ws.map (fun q => q.1)) (hv : res u = v) (hst : v.toList ++ rest = st1)
    (kk : ∀ (H1 : Heap) (locs1 : List Loc), va_P G.1 wcl ws' H1 → va_D A ws' → va_S A s.heap H1 locs1 → W p l e R s m args below meth c H1 locs1 cells slots Q (F0 m (pc + 3) ls st1)) : W p l e R s m args below meth c H locs cells slots Q (F0 m pc ls st0) := by
  subst hst0
  have hPc : va_P G.1 wcl wc H := hP.sub isC (map_filterMap isC ws wc hC)
  have hDc : va_D A wc := hD.sub isC hnd hC
  have hXc : SX sq sv (va_A wc H.size) s H := (hX.kept hS.2.1).narrow (va_free hD hS hA isC hC)
  refine cl_go isC (va_runV (Ts := []) (As := As) (rest := rest) (b := b) ⟨hx, hb, hml, hown, fun _ h => by cases h⟩ (hM H.size) ⟨hF.callB hl hR, hi, hse⟩ ⟨CPX.blind, hrc, fun U hU hW => cl_preX hK hPc hDc hXc U hU hW⟩ rfl hn hls.1 rfl (lv_room hroom) hdg hcs) hP hD hS hA hC hf1 hw hf hv hst kk
theorem cl_SX (isC : List Nat) (hx : p.tables.exec = Jvm.exec) (hb : c.code = cc) (hml : c.maxLocals = nL) (hown : s.vm.findClass own = some m.cls) (hK : KK G s) (hX : SX sq sv A s s.heap) (hM : CTX sq sv l G y bytes maxL ret rm As wc ws1 res u) (hF : MF s y bytes maxL ret n)
    (hi : (Cond.static y).before args s = true) (hl : (Cond.methodLink own index y).before args s = true) (hR : rm.cells = 0 ∧ rm.slots = 0 ∧ rm.frames + 1 ≤ R.frames ∧ 8 + (maxL + 11) + rm.locals ≤ R.locals) (hn : As.length = n)
    (hP : va_P G.1 wcl ws H) (hD : va_D A ws) (hS : va_S A s.heap H locs) (hA : ∀ q : Nat, s.heap.size ≤ q → A q) (hls : lv_has ls nL lv) (hroom : (rest.map fun v => v.category).sum ≤ 8) (hst0 : st0 = As.reverse ++ rest) (hcs : cells ≤ R.cells ∧ slots ≤ R.slots) (hnd : va_nd isC = true)
    (hdg : decode cc pc = .ok (.invokestatic index, 3)) (hC : isC.map (fun i => ws[i]?) = wc.map some) (hf1 : (ws1 u).map (fun q => q.1) = wc.map (fun q => q.1)) (hw : rpl ws isC (ws1 u) = ws') (hf : ws'.map (fun q => q.1) = ws.map (fun q => q.1)) (hv : res u = v) (hst : v.toList ++ rest = st1)
    (kk : ∀ (H1 : Heap) (locs1 : List Loc), va_P G.1 wcl ws' H1 → va_D A ws' → va_S A s.heap H1 locs1 → W p l e R s m args below meth c H1 locs1 cells slots Q (F0 m (pc + 3) ls st1)) : W p l e R s m args below meth c H locs cells slots Q (F0 m pc ls st0) := by
  subst hst0
  have hPc : va_P G.1 wcl wc H := hP.sub isC (map_filterMap isC ws wc hC)
  have hDc : va_D A wc := hD.sub isC hnd hC
  have hXc : SX sq sv (va_A wc H.size) s H := (hX.kept hS.2.1).narrow (va_free hD hS hA isC hC)
  refine cl_go isC (va_runS (Ts := []) (As := As) (rest := rest) ⟨hx, hb, hml, hown, fun _ h => by cases h⟩ (hM H.size) ⟨hF.callB hl hR, hi⟩ ⟨CPX.blind, fun U hU hW => cl_preX hK hPc hDc hXc U hU hW⟩ rfl hn hls.1 rfl (lv_room hroom) hdg hcs) hP hD hS hA hC hf1 hw hf hv hst kk
end CLX
