/-! THE WORLD OF THE LAW: both objects and all that hangs on them -/
abbrev BS : Type := Nat × (Nat → Int32) × (Nat → Int32) × (Nat → Int32) × (Nat → Int32) × Int32 × (Nat → Int32) × (Nat → Int32)
abbrev CS : Type := Nat × (Nat → Int32) × (Nat → Int32) × (Nat → Int32) × (Nat → Int32) × (Nat → Int32) × (Nat → Int32)
abbrev TS : Type := Nat × Int32 × Int32 × Int32 × Int32 × (Nat → Int32)
abbrev FS : Type := Int32 × Int32 × Int32 × Int32 × Int32 × Int32 × Int32 × (Nat → Int32)
abbrev MS : Type := Int32 × Nat × Nat × Nat
def LWL (G : wG) (A : Nat → Nat) (we : Int32) (rz : Nat) (ff rr : Nat → Int32) (tp : TS) (bx bz : BS) (cg : CS) (bu bv : BS) (cj : CS) (bY : BS) (fo : FS) (mm : MS) (zf zs zi zv zt zr zw zn : Nat → Int32) : va_W :=
  [(A 0, .inr (6, [.ref (A 5), .ref (A 30), .int we, .ref (A 3), .ref (A 2), .int (nI rz), .ref (A 1), .ref (A 55), .ref (A 63)])),
   (A 1, .inl (G.2.1, 7, .inl ff)),
   (A 2, .inl (G.2.1, 24, .inl rr)),
   (A 3, .inr (4, [.ref (A 4), .int (nI tp.1), .int tp.2.1, .int tp.2.2.1, .int tp.2.2.2.1, .int tp.2.2.2.2.1])),
   (A 4, .inl (G.2.1, 10, .inl tp.2.2.2.2.2)),
   (A 5, .inr (3, [.ref (A 6), .ref (A 14), .ref (A 22)])),
   (A 6, .inr (0, [.ref (A 7), .ref (A 12), .ref (A 13), .int bx.2.2.2.2.2.1])),
   (A 7, .inr (5, [.ref (A 8), .ref (A 9), .ref (A 10), .ref (A 11), .int (nI bx.1)])),
   (A 8, .inl (G.2.1, 20, .inl bx.2.1)),
   (A 9, .inl (G.2.1, 20, .inl bx.2.2.1)),
   (A 10, .inl (G.2.1, 20, .inl bx.2.2.2.1)),
   (A 11, .inl (G.2.1, 20, .inl bx.2.2.2.2.1)),
   (A 12, .inl (G.2.1, 12, .inl bx.2.2.2.2.2.2.1)),
   (A 13, .inl (G.2.1, 12, .inl bx.2.2.2.2.2.2.2)),
   (A 14, .inr (0, [.ref (A 15), .ref (A 20), .ref (A 21), .int bz.2.2.2.2.2.1])),
   (A 15, .inr (5, [.ref (A 16), .ref (A 17), .ref (A 18), .ref (A 19), .int (nI bz.1)])),
   (A 16, .inl (G.2.1, 20, .inl bz.2.1)),
   (A 17, .inl (G.2.1, 20, .inl bz.2.2.1)),
   (A 18, .inl (G.2.1, 20, .inl bz.2.2.2.1)),
   (A 19, .inl (G.2.1, 20, .inl bz.2.2.2.2.1)),
   (A 20, .inl (G.2.1, 12, .inl bz.2.2.2.2.2.2.1)),
   (A 21, .inl (G.2.1, 12, .inl bz.2.2.2.2.2.2.2)),
   (A 22, .inr (1, [.ref (A 23), .ref (A 28), .ref (A 29)])),
   (A 23, .inr (5, [.ref (A 24), .ref (A 25), .ref (A 26), .ref (A 27), .int (nI cg.1)])),
   (A 24, .inl (G.2.1, 4, .inl cg.2.1)),
   (A 25, .inl (G.2.1, 4, .inl cg.2.2.1)),
   (A 26, .inl (G.2.1, 4, .inl cg.2.2.2.1)),
   (A 27, .inl (G.2.1, 4, .inl cg.2.2.2.2.1)),
   (A 28, .inl (G.2.1, 4, .inl cg.2.2.2.2.2.1)),
   (A 29, .inl (G.2.1, 4, .inl cg.2.2.2.2.2.2)),
   (A 30, .inr (3, [.ref (A 31), .ref (A 39), .ref (A 47)])),
   (A 31, .inr (0, [.ref (A 32), .ref (A 37), .ref (A 38), .int bu.2.2.2.2.2.1])),
   (A 32, .inr (5, [.ref (A 33), .ref (A 34), .ref (A 35), .ref (A 36), .int (nI bu.1)])),
   (A 33, .inl (G.2.1, 20, .inl bu.2.1)),
   (A 34, .inl (G.2.1, 20, .inl bu.2.2.1)),
   (A 35, .inl (G.2.1, 20, .inl bu.2.2.2.1)),
   (A 36, .inl (G.2.1, 20, .inl bu.2.2.2.2.1)),
   (A 37, .inl (G.2.1, 12, .inl bu.2.2.2.2.2.2.1)),
   (A 38, .inl (G.2.1, 12, .inl bu.2.2.2.2.2.2.2)),
   (A 39, .inr (0, [.ref (A 40), .ref (A 45), .ref (A 46), .int bv.2.2.2.2.2.1])),
   (A 40, .inr (5, [.ref (A 41), .ref (A 42), .ref (A 43), .ref (A 44), .int (nI bv.1)])),
   (A 41, .inl (G.2.1, 20, .inl bv.2.1)),
   (A 42, .inl (G.2.1, 20, .inl bv.2.2.1)),
   (A 43, .inl (G.2.1, 20, .inl bv.2.2.2.1)),
   (A 44, .inl (G.2.1, 20, .inl bv.2.2.2.2.1)),
   (A 45, .inl (G.2.1, 12, .inl bv.2.2.2.2.2.2.1)),
   (A 46, .inl (G.2.1, 12, .inl bv.2.2.2.2.2.2.2)),
   (A 47, .inr (1, [.ref (A 48), .ref (A 53), .ref (A 54)])),
   (A 48, .inr (5, [.ref (A 49), .ref (A 50), .ref (A 51), .ref (A 52), .int (nI cj.1)])),
   (A 49, .inl (G.2.1, 4, .inl cj.2.1)),
   (A 50, .inl (G.2.1, 4, .inl cj.2.2.1)),
   (A 51, .inl (G.2.1, 4, .inl cj.2.2.2.1)),
   (A 52, .inl (G.2.1, 4, .inl cj.2.2.2.2.1)),
   (A 53, .inl (G.2.1, 4, .inl cj.2.2.2.2.2.1)),
   (A 54, .inl (G.2.1, 4, .inl cj.2.2.2.2.2.2)),
   (A 55, .inr (0, [.ref (A 56), .ref (A 61), .ref (A 62), .int bY.2.2.2.2.2.1])),
   (A 56, .inr (5, [.ref (A 57), .ref (A 58), .ref (A 59), .ref (A 60), .int (nI bY.1)])),
   (A 57, .inl (G.2.1, 20, .inl bY.2.1)),
   (A 58, .inl (G.2.1, 20, .inl bY.2.2.1)),
   (A 59, .inl (G.2.1, 20, .inl bY.2.2.2.1)),
   (A 60, .inl (G.2.1, 20, .inl bY.2.2.2.2.1)),
   (A 61, .inl (G.2.1, 12, .inl bY.2.2.2.2.2.2.1)),
   (A 62, .inl (G.2.1, 12, .inl bY.2.2.2.2.2.2.2)),
   (A 63, .inr (2, [.ref (A 64), .int fo.1, .int fo.2.1, .int fo.2.2.1, .int fo.2.2.2.1, .int fo.2.2.2.2.1, .int fo.2.2.2.2.2.1, .int fo.2.2.2.2.2.2.1])),
   (A 64, .inl (G.2.2, 4096, .inl fo.2.2.2.2.2.2.2)),
   (A 65, .inr (7, [.ref (A 66), .ref (A 67), .ref (A 68), .ref (A 69), .int mm.1, .ref (A 70), .ref (A 71), .int (nI mm.2.1), .int (nI mm.2.2.1), .ref (A 72), .int (nI mm.2.2.2), .ref (A 73)])),
   (A 66, .inl (G.2.1, 7, .inl zf)),
   (A 67, .inl (G.2.1, 259, .inl zs)),
   (A 68, .inl (G.2.1, 259, .inl zi)),
   (A 69, .inl (G.2.1, 259, .inl zv)),
   (A 70, .inl (G.2.1, 10, .inl zt)),
   (A 71, .inl (G.2.1, 4, .inl zr)),
   (A 72, .inl (G.2.1, 24, .inl zw)),
   (A 73, .inl (G.2.1, 12, .inl zn))]

def RBt (zs : Nat → Int32) (b : Nat) (x : BS) : Prop := RB zs b x.1 x.2.1 x.2.2.1 x.2.2.2.1 x.2.2.2.2.1 x.2.2.2.2.2.1 x.2.2.2.2.2.2.1 x.2.2.2.2.2.2.2
def RCt (zs : Nat → Int32) (c : CS) (x z : BS) : Prop := RC zs c.1 c.2.1 c.2.2.1 c.2.2.2.1 c.2.2.2.2.1 c.2.2.2.2.2.1 c.2.2.2.2.2.2 x.1 z.1
/-- a shelf of both sides -/
def RSH (zs : Nat → Int32) (x z : BS) (c : CS) : Prop := RBt zs 0 x ∧ RBt zs 1 z ∧ RCt zs c x z ∧ H3 x.1 x.2.1 ∧ H3 z.1 z.2.1
def REL (we : Int32) (rz : Nat) (ff rr : Nat → Int32) (tp : TS) (bx bz : BS) (cg : CS) (bu bv : BS) (cj : CS) (bY : BS) (mm : MS) (zf zs zi zt zw : Nat → Int32) : Prop :=
  RSH zs bx bz cg ∧ ((we = 0 ∧ mm.1 = 0) ∨ (we = 1 ∧ mm.1 = 1 ∧ RSH zi bu bv cj)) ∧ bu.1 ≤ 20 ∧ bv.1 ≤ 20 ∧ cj.1 ≤ 4 ∧ bY.1 ≤ 20 ∧ mm.2.1 = tp.1 ∧ RT tp.1 tp.2.2.2.2.2 zt ∧ mm.2.2.2 = rz ∧ rz ≤ 24 ∧ (∀ j : Nat, j < rz → zw j = rr j) ∧ RF zf ff
/-- what holds of the world between two calls: the addresses A stay -/
def INV (G : wG) (A : Nat → Nat) (ws : va_W) : Prop := ∃ (we : Int32) (rz : Nat) (ff rr : Nat → Int32) (tp : TS) (bx bz : BS) (cg : CS) (bu bv : BS) (cj : CS) (bY : BS) (fo : FS) (mm : MS) (zf zs zi zv zt zr zw zn : Nat → Int32), ws = LWL G A we rz ff rr tp bx bz cg bu bv cj bY fo mm zf zs zi zv zt zr zw zn ∧ REL we rz ff rr tp bx bz cg bu bv cj bY mm zf zs zi zt zw
def CTn (l : Launch) (G : wG) (y : MethodName) (cc : ByteArray) (nL : Nat) (ret : Option FieldType) (rm : Room) (av : List Value) (ws ws1 : va_W) (v : Option Value) : Prop := CT l G y cc nL ret rm av ws (fun _ : Unit => ws1) (fun _ => v) ()
theorem CT.norm {τ : Type} {l : Launch} {G : wG} {y : MethodName} {cc : ByteArray} {nL : Nat} {ret : Option FieldType} {rm : Room} {av : List Value} {ws w2 : va_W} {ws1 : τ → va_W} {res : τ → Option Value} {u : τ} {v : Option Value} (k : CT l G y cc nL ret rm av ws ws1 res u) (e : ws1 u = w2) (hv : res u = v) : CTn l G y cc nL ret rm av ws w2 v := by
  subst e
  subst hv
  exact k
/-- a call in the law's world -/
def FUL (l : Launch) (G : wG) (y : MethodName) (cc : ByteArray) (nL : Nat) (rt : FieldType) (av : List Value) (ws ws' : va_W) (v : Int32) : Prop := ∃ (rm : Room) (isC : List Nat) (wc wc' : va_W), CTn l G y cc nL (some rt) rm av wc wc' (some (.int v)) ∧ rm.cells = 0 ∧ rm.slots = 0 ∧ rm.frames + 1 ≤ 11 ∧ 8 + (nL + 11) + rm.locals ≤ 406 ∧ isC.map (fun i => ws[i]?) = wc.map some ∧ va_nd isC = true ∧ wc'.map (fun q => q.1) = wc.map (fun q => q.1) ∧ rpl ws isC wc' = ws' ∧ ws'.map (fun q => q.1) = ws.map (fun q => q.1)
/-- the same, with the text constant -/
def CTXn (sq sv : Nat) (l : Launch) (G : wG) (y : MethodName) (cc : ByteArray) (nL : Nat) (ret : Option FieldType) (rm : Room) (av : List Value) (ws ws1 : va_W) (v : Option Value) : Prop := CTX sq sv l G y cc nL ret rm av ws (fun _ : Unit => ws1) (fun _ => v) ()
theorem CTX.norm {sq sv : Nat} {τ : Type} {l : Launch} {G : wG} {y : MethodName} {cc : ByteArray} {nL : Nat} {ret : Option FieldType} {rm : Room} {av : List Value} {ws w2 : va_W} {ws1 : τ → va_W} {res : τ → Option Value} {u : τ} {v : Option Value} (k : CTX sq sv l G y cc nL ret rm av ws ws1 res u) (e : ws1 u = w2) (hv : res u = v) : CTXn sq sv l G y cc nL ret rm av ws w2 v := by
  subst e
  subst hv
  exact k
def FULX (sq sv : Nat) (l : Launch) (G : wG) (y : MethodName) (cc : ByteArray) (nL : Nat) (rt : FieldType) (av : List Value) (ws ws' : va_W) (v : Int32) : Prop := ∃ (rm : Room) (isC : List Nat) (wc wc' : va_W), CTXn sq sv l G y cc nL (some rt) rm av wc wc' (some (.int v)) ∧ rm.cells = 0 ∧ rm.slots = 0 ∧ rm.frames + 1 ≤ 11 ∧ 8 + (nL + 11) + rm.locals ≤ 406 ∧ isC.map (fun i => ws[i]?) = wc.map some ∧ va_nd isC = true ∧ wc'.map (fun q => q.1) = wc.map (fun q => q.1) ∧ rpl ws isC wc' = ws' ∧ ws'.map (fun q => q.1) = ws.map (fun q => q.1)
def BTH (l : Launch) (G : wG) (A : Nat → Nat) (ws : va_W) (y : MethodName) (cc : ByteArray) (nL : Nat) (y2 : MethodName) (cc2 : ByteArray) (nL2 : Nat) (as : List Value) : Prop := ∃ (v : Int32) (ws1 ws2 : va_W), FUL l G y cc nL .int (.ref (A 0) :: as) ws ws1 v ∧ (∃ fs : List Value, ws1[65]? = some (A 65, .inr (7, fs))) ∧ FUL l G y2 cc2 nL2 .int (.ref (A 65) :: as) ws1 ws2 v ∧ INV G A ws2
def BTHX (sq sv : Nat) (l : Launch) (G : wG) (A : Nat → Nat) (ws : va_W) (y : MethodName) (cc : ByteArray) (nL : Nat) (y2 : MethodName) (cc2 : ByteArray) (nL2 : Nat) (as : List Value) : Prop := (∃ (v : Int32) (ws1 ws2 : va_W), FULX sq sv l G y cc nL .int (.ref (A 0) :: as) ws ws1 v ∧ (∃ fs : List Value, ws1[65]? = some (A 65, .inr (7, fs))) ∧ FUL l G y2 cc2 nL2 .int (.ref (A 65) :: as) ws1 ws2 v ∧ INV G A ws2) ∨ BTH l G A ws y cc nL y2 cc2 nL2 as
theorem bk_no {bo : Int32} (h0 : ¬ bo = 0) (h1 : ¬ bo = 1) : f_X6_isBook bo = 0 ∧ f_X7_isBook bo = 0 := by
  refine ⟨by unfold f_X6_isBook; rw [if_neg h0, if_neg h1], ?_⟩
  unfold f_X7_isBook f_X7_isIn
  by_cases q : bo < 0
  · rw [if_pos q]
  · obtain ⟨j, hj, rfl⟩ := nI_of q
    have h2 : (2 : Int32) ≤ nI j := nI_le (a := 2) (by
      have j0 : j ≠ 0 := fun z => h0 (by rw [z]; rfl)
      have j1 : j ≠ 1 := fun z => h1 (by rw [z]; rfl)
      omega) hj
    rw [if_neg q, if_pos h2]
