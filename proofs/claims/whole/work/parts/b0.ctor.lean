/-! CONSTRUCTORS: contracts that make cells; the world behind is of a shape -/
def ARW : List Cond := [Cond.arrayClass .int, Cond.arrayClass .boolean]
def CNQ (G : wG) (ws : va_W) (Sh : va_W → Prop) (sz : Nat) : Array Value → State → Outcome → State → Prop := va_Qv (fun w : va_W => Sh w) (fun w t => va_P G.1 wcl w t.heap ∧ va_D (va_A ws sz) w) (va_A ws sz)
def CTN (l : Launch) (G : wG) (y : MethodName) (cc : ByteArray) (nL : Nat) (rm : Room) (av : List Value) (ws : va_W) (mc ms : Nat) (Sh : va_W → Prop) : Prop := ∀ sz : Nat, Met l y (Cond.code y cc nL none :: ARW) rm (CP G av ws sz) (CNQ G ws Sh sz) mc ms (va_A ws sz)
theorem CTN.mk {l : Launch} {G : wG} {y : MethodName} {cc : ByteArray} {nL : Nat} {rm : Room} {av : List Value} {ws : va_W} {mc ms : Nat} {Sh : va_W → Prop} (own : String) (hy : plainName y.cls = true) (ho : y.cls = own) (hnm : y.name = "<init>") (hn : (lg_sl av).length ≤ nL)
    (body : ∀ (p : Program) (e : Env) (s : State) (m : MethodId) (args : Array Value) (below : List Frame) (meth : Method) (c : Code) (A : Nat → Prop) (Q : State → Prop) (ls : Array Slot), p.tables.exec = Jvm.exec → c.code = cc → c.maxLocals = nL → s.vm.findClass own = some m.cls → meth.name = "<init>" → (Cond.arrayClass .int).before args s = true → (Cond.arrayClass .boolean).before args s = true → KK G s → va_P G.1 wcl ws s.heap → va_D A ws → va_S A s.heap s.heap [] → (∀ q : Nat, s.heap.size ≤ q → A q) →
      (∀ {pc : Nat} {H : Heap} {locs : List Loc} {ls : Array Slot} (w : va_W), decode cc pc = .ok (.return_, 1) → Sh w → va_P G.1 wcl w H → va_D A w → va_S A s.heap H locs → W p l e rm s m args below meth c H locs mc ms Q (F0 m pc ls [])) →
      lv_has ls nL (lv_args 0 av) → W p l e rm s m args below meth c s.heap [] 0 0 Q (F0 m 0 ls [])) : CTN l G y cc nL rm av ws mc ms Sh := by
  intro sz
  refine Met.ofW (cc := cc) (maxL := nL) (ret := none) hy rfl ?_
  intro p e s m args below meth c s₁ B hml hv
  obtain ⟨rfl, hsz, hP, hK, hD0⟩ := hv
  subst hsz
  have hlocks := B.notSynchronized
  have hown : s.vm.findClass own = some m.cls := ho ▸ findClass_of_methodNamed B.named
  have hts := atoms_spec (ws := Cond.code y cc nL none :: ARW) B.pre
  have hin : meth.name = "<init>" := ((name_of_methodNamed B.named B.method).1).trans hnm
  have hl := lv_entry av (n := nL) hn
  rw [lg_entry_eq]
  exact body p e s m _ below meth c (va_A ws s.heap.size) _ _ B.exec B.bytes hml hown hin (hts _ (List.mem_cons_of_mem _ List.mem_cons_self)) (hts _ (List.mem_cons_of_mem _ (List.mem_cons_of_mem _ List.mem_cons_self))) hK hP hD0.self va_S.rf (fun q h => Or.inr h) (fun w hd hsh hP1 hD1 hS1 => W.vret B.exec B.bytes B.returns (fun t ht hW => ⟨⟨w, rfl, hsh, by rw [ht]; exact hP1, hD1⟩, hS1.F ht⟩) hS1.2.2 hd) hl
section CNC
variable {p : Program} {l : Launch} {e : Env} {R : Room} {s : State} {m : MethodId} {args : Array Value} {below : List Frame} {meth : Method} {c : Code} {H : Heap} {locs : List Loc} {cells slots : Nat} {Q : State → Prop}
variable {pc nL maxL n index : Nat} {ls : Array Slot} {rest st0 : List Value} {A : Nat → Prop} {H0 : Heap} {G : wG} {ws wr : va_W} {Sh : va_W → Prop} {mc ms : Nat}
variable {y : MethodName} {bytes cc : ByteArray} {rm : Room} {own host : String} {h : Addr} {e0 : va_E} {As : List Value} {lv : List (Nat × Value)}
theorem ww_newi (hexec : p.tables.exec = Jvm.exec) (hb : c.code = cc) (harr : (Cond.arrayClass .int).before args s = true) (hK : KK G s) (hP : va_P G.1 wcl ws H) (hD : va_D A ws) (hS : va_S A H0 H locs) (hA : ∀ q : Nat, H0.size ≤ q → A q) {N : Nat} {n : Int32} (hn : n = nI N) (hN : N < 65536) (hcells : cells + 1 ≤ R.cells) (hslots : slots + N ≤ R.slots) (hdg : decode cc pc = .ok (.newarray .int, 2))
    (kk : ∀ (q : Nat) (H1 : Heap), va_P G.1 wcl (ws ++ [(q, .inl (G.2.1, N, .inl (fun _ => 0)))]) H1 → va_D A (ws ++ [(q, .inl (G.2.1, N, .inl (fun _ => 0)))]) → va_S A H0 H1 locs → W p l e R s m args below meth c H1 locs (cells + 1) (slots + N) Q (F0 m (pc + 2) ls (.ref q :: rest))) : W p l e R s m args below meth c H locs cells slots Q (F0 m pc ls (.int n :: rest)) := by
  subst hn
  have hcb : componentBytes .int = 4 := rfl
  refine va_newa (atype := .int) (ty := .int) hexec hb harr rfl hK.1 hP hD hS hA (N' := N) (a0 := (N, .inl (fun _ => 0))) (fun cA => rfl) (nI_pos (by omega)) (nI_clamp (by omega)) (by rw [hcb]; omega) hcells hslots hdg (fun q cA H1 hK1 hP1 hD1 hS1 => ?_)
  have h1 := (hK1.2 2 (cA, .int) rfl).2
  have h2 := (hK.1.2 0 (G.2.1, .int) rfl).2
  have e : cA = G.2.1 := Option.some.inj (Eq.trans (Eq.symm h1) h2)
  subst e
  exact kk q H1 hP1 hD1 hS1
theorem ww_newz (hexec : p.tables.exec = Jvm.exec) (hb : c.code = cc) (harr : (Cond.arrayClass .boolean).before args s = true) (hK : KK G s) (hP : va_P G.1 wcl ws H) (hD : va_D A ws) (hS : va_S A H0 H locs) (hA : ∀ q : Nat, H0.size ≤ q → A q) {N : Nat} {n : Int32} (hn : n = nI N) (hN : N < 65536) (hcells : cells + 1 ≤ R.cells) (hslots : slots + N ≤ R.slots) (hdg : decode cc pc = .ok (.newarray .boolean, 2))
    (kk : ∀ (q : Nat) (H1 : Heap), va_P G.1 wcl (ws ++ [(q, .inl (G.2.2, N, .inl (fun _ => 0)))]) H1 → va_D A (ws ++ [(q, .inl (G.2.2, N, .inl (fun _ => 0)))]) → va_S A H0 H1 locs → W p l e R s m args below meth c H1 locs (cells + 1) (slots + N) Q (F0 m (pc + 2) ls (.ref q :: rest))) : W p l e R s m args below meth c H locs cells slots Q (F0 m pc ls (.int n :: rest)) := by
  subst hn
  have hcb : componentBytes .boolean = 1 := rfl
  refine va_newa (atype := .boolean) (ty := .boolean) hexec hb harr rfl hK.1 hP hD hS hA (N' := N) (a0 := (N, .inl (fun _ => 0))) (fun cA => rfl) (nI_pos (by omega)) (nI_clamp (by omega)) (by rw [hcb]; omega) hcells hslots hdg (fun q cA H1 hK1 hP1 hD1 hS1 => ?_)
  have h1 := (hK1.2 2 (cA, .boolean) rfl).2
  have h2 := (hK.1.2 1 (G.2.2, .boolean) rfl).2
  have e : cA = G.2.2 := Option.some.inj (Eq.trans (Eq.symm h1) h2)
  subst e
  exact kk q H1 hP1 hD1 hS1
theorem CTN.words (hai : (Cond.arrayClass .int).before args s = true) (haz : (Cond.arrayClass .boolean).before args s = true) (h1 : (Cond.code y bytes maxL none).before args s = true) : ∀ w ∈ (Cond.code y bytes maxL none :: ARW), ∀ (a' : Array Value) (U : State), s.WarmedH U.vm → w.before a' U = true := by
  intro w hw a' U hW
  rcases List.mem_cons.mp hw with rfl | hw
  · exact word_at hW (Or.inl (by first | rfl | simp [Cond.onTables, Cond.keeps, Cond.steady])) h1
  · rcases List.mem_cons.mp hw with rfl | hw
    · exact word_at hW (Or.inr ⟨_, rfl⟩) hai
    · rw [List.mem_singleton.mp hw]
      exact word_at hW (Or.inr ⟨_, rfl⟩) haz
/-- a constructor's call -/
theorem cl_N (isC isR : List Nat) (hx : p.tables.exec = Jvm.exec) (hb : c.code = cc) (hml : c.maxLocals = nL) (hown : s.vm.findClass own = some m.cls) (hai : (Cond.arrayClass .int).before args s = true) (haz : (Cond.arrayClass .boolean).before args s = true) (hK : KK G s) (hM : CTN l G y bytes maxL rm (.ref h :: As) [(h, e0)] mc ms Sh) (hF : MF s y bytes maxL none n) (hnm : y.name = "<init>")
    (hi : (Cond.instanceMethod y).before args s = true) (hl : (Cond.methodLink own index y).before args s = true) (hR : rm.cells = mc ∧ rm.slots = ms ∧ rm.frames + 1 ≤ R.frames ∧ 8 + (maxL + 11) + rm.locals ≤ R.locals) (hn : As.length = n)
    (hP : va_P G.1 wcl ws H) (hD : va_D A ws) (hS : va_S A H0 H locs) (hA : ∀ q : Nat, H0.size ≤ q → A q) (hls : lv_has ls nL lv) (hroom : (rest.map fun v => v.category).sum ≤ 8) (hst0 : st0 = As.reverse ++ .ref h :: rest) (hcs : cells + mc ≤ R.cells ∧ slots + ms ≤ R.slots) (hdg : decode cc pc = .ok (.invokespecial index, 3))
    (hC : isC.map (fun i => ws[i]?) = [(h, e0)].map some) (hRr : isR.map (fun i => ws[i]?) = wr.map some) (hndC : va_nd isC = true) (hnd : va_nd isR = true) (hdis : ∀ i ∈ isR, i ∉ isC)
    (kk : ∀ (w1 : va_W) (H1 : Heap) (locs1 : List Loc), Sh w1 → va_P G.1 wcl (wr ++ w1) H1 → va_D A (wr ++ w1) → va_S A H0 H1 locs1 → W p l e R s m args below meth c H1 locs1 (cells + mc) (slots + ms) Q (F0 m (pc + 3) ls rest)) : W p l e R s m args below meth c H locs cells slots Q (F0 m pc ls st0) := by
  subst hst0
  have hPc : va_P G.1 wcl [(h, e0)] H := hP.sub isC (map_filterMap isC ws _ hC)
  have hDc : va_D A [(h, e0)] := hD.sub isC hndC hC
  have hFc := va_free hD hS hA isC hC
  obtain ⟨h1, h2, h3⟩ := hF
  have h4 := h3.2.2
  refine va_callv (va_runI (Ts := []) (As := As) (rest := rest) ⟨hx, hb, hml, hown, fun _ z => by cases z⟩ (hM H.size) ⟨⟨hR.1, hR.2.1, hR.2.2.1, hR.2.2.2, CTN.words hai haz (va_tabs rfl rfl h1), List.mem_cons_self, va_tabs rfl rfl h1, va_tabs rfl rfl h2, ⟨h3.1, h3.2.1⟩, fun sig hs => by rw [hs] at h4; exact (Option.some.inj h4).symm, hl⟩, hnm, hi⟩ ⟨CP.blind, fun U hU hW => cl_pre hK hPc hDc U hU hW⟩ rfl hn hls.1 rfl (lv_room hroom) hdg hcs) hS (fun q _ z => hFc q z) hFc (fun w t H1 locs1 ht hvm hsh hB hz1 hk1 hS1 => ?_)
  obtain ⟨hP1, hD1⟩ := hB
  rw [ht] at hP1
  obtain ⟨hP2, hD2⟩ := va_join hP hD isC isR hC hRr hnd hdis hk1 hFc hP1 hD1
  exact kk w H1 locs1 hsh hP2 hD2 hS1
theorem cl_NN (isC isR : List Nat) (hx : p.tables.exec = Jvm.exec) (hb : c.code = cc) (hml : c.maxLocals = nL) (hown : s.vm.findClass own = some m.cls) (hai : (Cond.arrayClass .int).before args s = true) (haz : (Cond.arrayClass .boolean).before args s = true) (hK : KK G s) (hM : CTN l G y bytes maxL rm (.ref h :: As) [(h, e0)] mc ms Sh) (hF : MF s y bytes maxL none n) (hnm : y.name = "<init>")
    (hi : (Cond.instanceMethod y).before args s = true) (hl : (Cond.methodLinkNest own index y host).before args s = true) (hR : rm.cells = mc ∧ rm.slots = ms ∧ rm.frames + 1 ≤ R.frames ∧ 8 + (maxL + 11) + rm.locals ≤ R.locals) (hn : As.length = n)
    (hP : va_P G.1 wcl ws H) (hD : va_D A ws) (hS : va_S A H0 H locs) (hA : ∀ q : Nat, H0.size ≤ q → A q) (hls : lv_has ls nL lv) (hroom : (rest.map fun v => v.category).sum ≤ 8) (hst0 : st0 = As.reverse ++ .ref h :: rest) (hcs : cells + mc ≤ R.cells ∧ slots + ms ≤ R.slots) (hdg : decode cc pc = .ok (.invokespecial index, 3))
    (hC : isC.map (fun i => ws[i]?) = [(h, e0)].map some) (hRr : isR.map (fun i => ws[i]?) = wr.map some) (hndC : va_nd isC = true) (hnd : va_nd isR = true) (hdis : ∀ i ∈ isR, i ∉ isC)
    (kk : ∀ (w1 : va_W) (H1 : Heap) (locs1 : List Loc), Sh w1 → va_P G.1 wcl (wr ++ w1) H1 → va_D A (wr ++ w1) → va_S A H0 H1 locs1 → W p l e R s m args below meth c H1 locs1 (cells + mc) (slots + ms) Q (F0 m (pc + 3) ls rest)) : W p l e R s m args below meth c H locs cells slots Q (F0 m pc ls st0) := by
  subst hst0
  have hPc : va_P G.1 wcl [(h, e0)] H := hP.sub isC (map_filterMap isC ws _ hC)
  have hDc : va_D A [(h, e0)] := hD.sub isC hndC hC
  have hFc := va_free hD hS hA isC hC
  obtain ⟨h1, h2, h3⟩ := hF
  have h4 := h3.2.2
  refine va_callv (va_runIN (Ts := []) (As := As) (rest := rest) ⟨hx, hb, hml, hown, fun _ z => by cases z⟩ (hM H.size) ⟨⟨⟨hR.1, hR.2.1, hR.2.2.1, hR.2.2.2, CTN.words hai haz (va_tabs rfl rfl h1), List.mem_cons_self⟩, va_tabs rfl rfl h1, va_tabs rfl rfl h2, ⟨h3.1, h3.2.1⟩, fun sig hs => by rw [hs] at h4; exact (Option.some.inj h4).symm, hl⟩, hnm, hi⟩ ⟨CP.blind, fun U hU hW => cl_pre hK hPc hDc U hU hW⟩ rfl hn hls.1 rfl (lv_room hroom) hdg hcs) hS (fun q _ z => hFc q z) hFc (fun w t H1 locs1 ht hvm hsh hB hz1 hk1 hS1 => ?_)
  obtain ⟨hP1, hD1⟩ := hB
  rw [ht] at hP1
  obtain ⟨hP2, hD2⟩ := va_join hP hD isC isR hC hRr hnd hdis hk1 hFc hP1 hD1
  exact kk w H1 locs1 hsh hP2 hD2 hS1
end CNC
theorem one_upd {h : Nat → Int32} {i : Nat} (hh : ∀ j : Nat, j < i → h j = 1) : ∀ j : Nat, j < i + 1 → upd h i 1 j = 1 := fun j hj => by
  by_cases c : j = i
  · subst c; rw [pk_us]
  · rw [pk_un c]; exact hh j (by omega)
theorem one_updO {h : Nat → Int32} {o i : Nat} (hh : ∀ j : Nat, j < i → h (o + j) = 1) : ∀ j : Nat, j < i + 1 → upd h (o + i) 1 (o + j) = 1 := fun j hj => by
  by_cases c : j = i
  · subst c; rw [pk_us]
  · rw [pk_un (by omega)]; exact hh j (by omega)
