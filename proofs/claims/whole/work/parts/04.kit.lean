/-! THE KIT OF THIS CLAIM: contracts of a fixed form (CT), their bodies, returns and calls. -/
abbrev wcl : List vw_C := [(RX0, TX0, 4), (RX1, TX1, 3), (RX2, TX2, 8), (RX3, TX3, 3), (RX4, TX4, 6), (RX5, TX5, 5), (RX6, TX6, 9), (RX7, TX7, 12)]
abbrev wG : Type := va_G × ClassId × ClassId
abbrev wty (G : wG) : List (ClassId × FieldType) := [(G.2.1, .int), (G.2.2, .boolean)]
theorem KW.warm {s U : State} (hW : s.WarmedH U.vm) (h : KW s) : KW U := by
  intro w hm ho
  have hb := h w hm ho
  have ht := okW_tab ho
  cases w with
  | fieldLinkNest => exact va_Nw.warmF hW hb
  | methodLinkNest => exact va_Nw.warmM hW hb
  | _ => first | (exact va_tabs ht (rfl : (s.setVm U.vm).vm = U.vm) (Cond.onTables_warm (args' := #[]) (T := s) hW ht (by simp only [okW, Bool.and_eq_true] at ho; exact ho.2) hb)) | (exact absurd ht (by simp [Cond.onTables]))
theorem KW.same {u U : State} (h : u.vm = U.vm) (hK : KW u) : KW U := fun w hm ho => va_Nw.same (okW_tab ho) h (hK w hm ho)
def KK (G : wG) (U : State) : Prop := va_K G.1 wcl (wty G) U ∧ KW U
theorem KK.warm {G : wG} {s U : State} (hW : s.WarmedH U.vm) (h : KK G s) : KK G U := ⟨va_K.moved hW.alike h.1, h.2.warm hW⟩
theorem KK.calling {G : wG} {U : State} {g : JFrame} {mk : MethodId} {a : Array Value} (h : KK G U) : KK G (U.calling g mk a) := ⟨va_K.moved (u := U) (U := U.calling g mk a) (Vm.Alike.refl U.vm) h.1, KW.same (u := U) (U := U.calling g mk a) rfl h.2⟩
abbrev CP (G : wG) (av : List Value) (ws : va_W) (sz : Nat) : Array Value → State → Prop := va_Pc av (fun U => U.heap.size = sz ∧ va_P G.1 wcl ws U.heap ∧ KK G U ∧ va_D (fun _ => True) ws)
abbrev CQ {τ : Type} (G : wG) (ws : va_W) (ws1 : τ → va_W) (res : τ → Option Value) (u : τ) (sz : Nat) : Array Value → State → Outcome → State → Prop := fun _ st oc t => (oc = .returned (res u) ∧ va_P G.1 wcl (ws1 u) t.heap) ∧ va_F (va_A ws sz) st t
/-- a contract: in any heap that holds ws, the method returns 'res u', the heap then holds 'ws1 u', nothing else changed, nothing is made -/
def CT {τ : Type} (l : Launch) (G : wG) (y : MethodName) (cc : ByteArray) (nL : Nat) (ret : Option FieldType) (rm : Room) (av : List Value) (ws : va_W) (ws1 : τ → va_W) (res : τ → Option Value) (u : τ) : Prop :=
  ∀ sz : Nat, Met l y [Cond.code y cc nL ret] rm (CP G av ws sz) (CQ G ws ws1 res u sz) 0 0 (va_A ws sz)
theorem CP.blind {G : wG} {av : List Value} {ws : va_W} {sz : Nat} : FrameBlind (CP G av ws sz) := by
  intro a U g mk q
  obtain ⟨q0, q1, qP, qK, qD⟩ := q
  exact ⟨q0, q1, qP, qK.calling, qD⟩
theorem CT.mkI {τ : Type} {l : Launch} {G : wG} {y : MethodName} {cc : ByteArray} {nL : Nat} {rt : FieldType} {rm : Room} {av : List Value} {ws : va_W} {ws1 : τ → va_W} {res : τ → Option Value} {R : τ} (own : String) (hy : plainName y.cls = true) (ho : y.cls = own) (hn : (lg_sl av).length ≤ nL)
    (body : ∀ (p : Program) (e : Env) (s : State) (m : MethodId) (args : Array Value) (below : List Frame) (meth : Method) (c : Code) (A : Nat → Prop) (Q : State → Prop) (ls : Array Slot), p.tables.exec = Jvm.exec → c.code = cc → c.maxLocals = nL → s.vm.findClass own = some m.cls → KK G s → va_P G.1 wcl ws s.heap → va_D A ws → va_S A s.heap s.heap [] → (∀ q : Nat, s.heap.size ≤ q → A q) →
      (∀ {pc : Nat} {H : Heap} {locs : List Loc} {ls : Array Slot} {v : Int32} (u : τ), decode cc pc = .ok (.ireturn, 1) → narrow rt (.int v) = .int v → u = R → res u = some (.int v) → va_P G.1 wcl (ws1 u) H → va_S A s.heap H locs → W p l e rm s m args below meth c H locs 0 0 Q (F0 m pc ls [.int v])) →
      lv_has ls nL (lv_args 0 av) → W p l e rm s m args below meth c s.heap [] 0 0 Q (F0 m 0 ls [])) : CT l G y cc nL (some rt) rm av ws ws1 res R := by
  intro sz
  refine Met.ofW (cc := cc) (maxL := nL) (ret := some rt) hy rfl ?_
  intro p e s m args below meth c s₁ B hml hv
  obtain ⟨rfl, hsz, hP, hK, hD0⟩ := hv
  subst hsz
  have hlocks := B.notSynchronized
  have hown : s.vm.findClass own = some m.cls := ho ▸ findClass_of_methodNamed B.named
  have hl := lv_entry av (n := nL) hn
  rw [lg_entry_eq]
  exact body p e s m _ below meth c (va_A ws s.heap.size) _ _ B.exec B.bytes hml hown hK hP hD0.self va_S.rf (fun q h => Or.inr h) (fun u hd hnr hu hres hP1 hS1 => W.zret B.exec B.bytes B.returns hnr (fun t ht hW => ⟨⟨by rw [← hu, hres], by rw [ht, ← hu]; exact hP1⟩, hS1.F ht⟩) hS1.2.2 hd) hl
theorem CT.mkV {τ : Type} {l : Launch} {G : wG} {y : MethodName} {cc : ByteArray} {nL : Nat} {rm : Room} {av : List Value} {ws : va_W} {ws1 : τ → va_W} {res : τ → Option Value} {R : τ} (own : String) (hy : plainName y.cls = true) (ho : y.cls = own) (hn : (lg_sl av).length ≤ nL)
    (body : ∀ (p : Program) (e : Env) (s : State) (m : MethodId) (args : Array Value) (below : List Frame) (meth : Method) (c : Code) (A : Nat → Prop) (Q : State → Prop) (ls : Array Slot), p.tables.exec = Jvm.exec → c.code = cc → c.maxLocals = nL → s.vm.findClass own = some m.cls → KK G s → va_P G.1 wcl ws s.heap → va_D A ws → va_S A s.heap s.heap [] → (∀ q : Nat, s.heap.size ≤ q → A q) →
      (∀ {pc : Nat} {H : Heap} {locs : List Loc} {ls : Array Slot} (u : τ), decode cc pc = .ok (.return_, 1) → u = R → res u = none → va_P G.1 wcl (ws1 u) H → va_S A s.heap H locs → W p l e rm s m args below meth c H locs 0 0 Q (F0 m pc ls [])) →
      lv_has ls nL (lv_args 0 av) → W p l e rm s m args below meth c s.heap [] 0 0 Q (F0 m 0 ls [])) : CT l G y cc nL none rm av ws ws1 res R := by
  intro sz
  refine Met.ofW (cc := cc) (maxL := nL) (ret := none) hy rfl ?_
  intro p e s m args below meth c s₁ B hml hv
  obtain ⟨rfl, hsz, hP, hK, hD0⟩ := hv
  subst hsz
  have hlocks := B.notSynchronized
  have hown : s.vm.findClass own = some m.cls := ho ▸ findClass_of_methodNamed B.named
  have hl := lv_entry av (n := nL) hn
  rw [lg_entry_eq]
  exact body p e s m _ below meth c (va_A ws s.heap.size) _ _ B.exec B.bytes hml hown hK hP hD0.self va_S.rf (fun q h => Or.inr h) (fun u hd hu hres hP1 hS1 => W.vret B.exec B.bytes B.returns (fun t ht hW => ⟨⟨by rw [← hu, hres], by rw [ht, ← hu]; exact hP1⟩, hS1.F ht⟩) hS1.2.2 hd) hl
theorem CT.mkA {τ : Type} {l : Launch} {G : wG} {y : MethodName} {cc : ByteArray} {nL : Nat} {rn : String} {rm : Room} {av : List Value} {ws : va_W} {ws1 : τ → va_W} {res : τ → Option Value} {R : τ} (own : String) (hy : plainName y.cls = true) (ho : y.cls = own) (hn : (lg_sl av).length ≤ nL)
    (body : ∀ (p : Program) (e : Env) (s : State) (m : MethodId) (args : Array Value) (below : List Frame) (meth : Method) (c : Code) (A : Nat → Prop) (Q : State → Prop) (ls : Array Slot), p.tables.exec = Jvm.exec → c.code = cc → c.maxLocals = nL → s.vm.findClass own = some m.cls → KK G s → va_P G.1 wcl ws s.heap → va_D A ws → va_S A s.heap s.heap [] → (∀ q : Nat, s.heap.size ≤ q → A q) →
      (∀ {pc : Nat} {H : Heap} {locs : List Loc} {ls : Array Slot} {a : Nat} (u : τ), decode cc pc = .ok (.areturn, 1) → u = R → res u = some (.ref a) → va_P G.1 wcl (ws1 u) H → va_S A s.heap H locs → W p l e rm s m args below meth c H locs 0 0 Q (F0 m pc ls [.ref a])) →
      lv_has ls nL (lv_args 0 av) → W p l e rm s m args below meth c s.heap [] 0 0 Q (F0 m 0 ls [])) : CT l G y cc nL (some (.object rn)) rm av ws ws1 res R := by
  intro sz
  refine Met.ofW (cc := cc) (maxL := nL) (ret := some (.object rn)) hy rfl ?_
  intro p e s m args below meth c s₁ B hml hv
  obtain ⟨rfl, hsz, hP, hK, hD0⟩ := hv
  subst hsz
  have hlocks := B.notSynchronized
  have hown : s.vm.findClass own = some m.cls := ho ▸ findClass_of_methodNamed B.named
  have hl := lv_entry av (n := nL) hn
  rw [lg_entry_eq]
  exact body p e s m _ below meth c (va_A ws s.heap.size) _ _ B.exec B.bytes hml hown hK hP hD0.self va_S.rf (fun q h => Or.inr h) (fun {pc H locs ls a} u hd hu hres hP1 hS1 => W.aret B.exec B.bytes B.returns (Or.inl ⟨_, rfl⟩) (Or.inr ⟨a, rfl⟩) (fun t ht hW => ⟨⟨by rw [← hu, hres], by rw [ht, ← hu]; exact hP1⟩, hS1.F ht⟩) hS1.2.2 hd) hl
/-- a world, some of whose cells (by their places) are put anew -/
def rpl (ws : va_W) : List Nat → va_W → va_W
  | i :: is, q :: qs => rpl (ws.set i q) is qs
  | _, _ => ws
theorem rpl_get : ∀ (is : List Nat) (qs ws : va_W) (k : Nat) (q : Nat × va_E), is.length = qs.length → (rpl ws is qs)[k]? = some q → (∃ j : Nat, qs[j]? = some q) ∨ (k ∉ is ∧ ws[k]? = some q) := by
  intro is
  induction is with
  | nil => intro qs ws k q hl h; cases qs <;> exact Or.inr ⟨List.not_mem_nil, h⟩
  | cons i is ih =>
    intro qs ws k q hl h
    cases qs with
    | nil => cases hl
    | cons q0 qs =>
      rcases ih qs (ws.set i q0) k q (Nat.succ.inj hl) h with ⟨j, hj⟩ | ⟨hk, hw⟩
      · exact Or.inl ⟨j + 1, hj⟩
      · by_cases hki : i = k
        · subst hki
          rw [List.getElem?_set] at hw
          simp only [if_true] at hw
          split at hw
          · exact Or.inl ⟨0, hw⟩
          · cases hw
        · rw [List.getElem?_set_ne hki] at hw
          exact Or.inr ⟨fun hm => (List.mem_cons.mp hm).elim (fun e => hki e.symm) hk, hw⟩
theorem va_D_fst {A : Nat → Prop} {ws ws' : va_W} (h : va_D A ws) (he : ws'.map (fun q => q.1) = ws.map (fun q => q.1)) : va_D A ws' := by
  have at' : ∀ (k : Nat) (q : Nat × va_E), ws'[k]? = some q → ∃ q', ws[k]? = some q' ∧ q'.1 = q.1 := by
    intro k q hq
    have h1 : (ws'.map (fun q => q.1))[k]? = some q.1 := by rw [List.getElem?_map, hq]; rfl
    rw [he, List.getElem?_map] at h1
    cases hw : ws[k]? with
    | none => rw [hw] at h1; cases h1
    | some q' => rw [hw] at h1; exact ⟨q', rfl, Option.some.inj h1⟩
  refine ⟨fun i j p q hp hq hpq => ?_, fun k q hq => ?_⟩
  · obtain ⟨p', hp', ep⟩ := at' i p hp
    obtain ⟨q', hq', eq⟩ := at' j q hq
    exact h.1 i j p' q' hp' hq' (by rw [ep, eq, hpq])
  · obtain ⟨q', hq', eq⟩ := at' k q hq
    rw [← eq]
    exact h.2 k q' hq'
theorem rpl_P {G : wG} {A : Nat → Prop} {ws wc w1 : va_W} {H H1 : Heap} (is : List Nat) (hP : va_P G.1 wcl ws H) (hD : va_D A ws) (hC : is.map (fun i => ws[i]?) = wc.map some) (hk : ∀ q : Nat, q < H.size → ¬ va_A wc H.size q → H1[q]? = H[q]?) (hP1 : va_P G.1 wcl w1 H1) (hf : w1.map (fun q => q.1) = wc.map (fun q => q.1)) : va_P G.1 wcl (rpl ws is w1) H1 := by
  have hlen : is.length = w1.length := by
    have e1 := congrArg List.length hC
    have e2 := congrArg List.length hf
    simp only [List.length_map] at e1 e2
    omega
  intro k q hq
  rcases rpl_get is w1 ws k q hlen hq with ⟨j, hj⟩ | ⟨hki, hw⟩
  · exact hP1 j q hj
  · have hl := (hP k q hw).lt
    refine (hP k q hw).kept (hk q.1 hl fun h => ?_)
    rcases h with ⟨k2, e, h⟩ | h
    · have h1 : (is.map (fun i => ws[i]?))[k2]? = some (some (q.1, e)) := by rw [hC, List.getElem?_map, h]; rfl
      rw [List.getElem?_map] at h1
      cases hi : is[k2]? with
      | none => rw [hi] at h1; cases h1
      | some i =>
        rw [hi] at h1
        have := hD.1 k i q (q.1, e) hw (Option.some.inj h1) rfl
        subst this
        exact hki (List.mem_of_getElem? hi)
    · omega
