/-! THE STATE OF BOTH SIDES: what is kept when it is written -/
def DB (b j : Nat) : Prop := (80 * b ≤ j ∧ j < 80 * b + 80) ∨ j = 160 + b ∨ (162 + 12 * b ≤ j ∧ j < 174 + 12 * b) ∨ (186 + 12 * b ≤ j ∧ j < 198 + 12 * b) ∨ (210 + 12 * b ≤ j ∧ j < 222 + 12 * b)
/-- the changes of both sides -/
def RC (zs : Nat → Int32) (cn : Nat) (cw ck cm cf cu cv : Nat → Int32) (xn yn : Nat) : Prop := cn ≤ 4 ∧ zs 258 = nI cn ∧ (∀ c : Nat, c < cn → TXT (cw c) (ck c) (cm c) (cf c)) ∧ (∀ c : Nat, c < cn → ∃ B N : Nat, B < 2 ∧ cu c = nI B ∧ cv c = nI N ∧ N < (if B = 0 then xn else yn)) ∧ (∀ c : Nat, c < cn → zs (234 + 6 * c) = cu c ∧ zs (234 + 6 * c + 1) = cv c ∧ zs (234 + 6 * c + 2) = cw c ∧ zs (234 + 6 * c + 3) = ck c ∧ zs (234 + 6 * c + 4) = cm c ∧ zs (234 + 6 * c + 5) = cf c)
section STA
variable {zs zs' : Nat → Int32} {b xn : Nat} {xw xk xm xf : Nat → Int32} {xB : Int32} {xh xt : Nat → Int32}
theorem RB.cg (h : RB zs b xn xw xk xm xf xB xh xt) (he : ∀ j : Nat, DB b j → zs' j = zs j) : RB zs' b xn xw xk xm xf xB xh xt := by
  obtain ⟨h1, h2, h3, h4, h5, h6, h7⟩ := h
  have hn := h2.1
  refine ⟨h1, h2, by rw [he _ (by unfold DB; omega)]; exact h3, fun t ht => ?_, fun w hw => ?_, fun w hw => ?_, fun w hw => ?_⟩
  · rw [he _ (by unfold DB; omega), he _ (by unfold DB; omega), he _ (by unfold DB; omega), he _ (by unfold DB; omega)]
    exact h4 t ht
  · rw [he _ (by unfold DB; omega)]; exact h5 w hw
  · rw [he _ (by unfold DB; omega)]; exact h6 w hw
  · rw [he _ (by unfold DB; omega)]; exact h7 w hw
theorem RC.cg {cn yn : Nat} {cw ck cm cf cu cv : Nat → Int32} (h : RC zs cn cw ck cm cf cu cv xn yn) (he : ∀ j : Nat, 234 ≤ j → j < 259 → zs' j = zs j) : RC zs' cn cw ck cm cf cu cv xn yn := by
  obtain ⟨h1, h2, h3, h4, h5⟩ := h
  refine ⟨h1, by rw [he _ (by omega) (by omega)]; exact h2, h3, h4, fun c hc => ?_⟩
  rw [he _ (by omega) (by omega), he _ (by omega) (by omega), he _ (by omega) (by omega), he _ (by omega) (by omega), he _ (by omega) (by omega), he _ (by omega) (by omega)]
  exact h5 c hc
theorem RC.up {cn yn xn' yn' : Nat} {cw ck cm cf cu cv : Nat → Int32} (h : RC zs cn cw ck cm cf cu cv xn yn) (h1 : xn ≤ xn') (h2 : yn ≤ yn') : RC zs cn cw ck cm cf cu cv xn' yn' := by
  obtain ⟨a1, a2, a3, a4, a5⟩ := h
  refine ⟨a1, a2, a3, fun c hc => ?_, a5⟩
  obtain ⟨B, N, hB, e1, e2, hN⟩ := a4 c hc
  refine ⟨B, N, hB, e1, e2, ?_⟩
  split
  · rename_i q; rw [if_pos q] at hN; omega
  · rename_i q; rw [if_neg q] at hN; omega
/-- rows that agree where it matters -/
theorem RB.rows {xw' xk' xm' xf' xh' xt' : Nat → Int32} (h : RB zs b xn xw xk xm xf xB xh xt) (he : EQ4 xn xw' xk' xm' xf' xw xk xm xf) (hh : ∀ w : Nat, w < 12 → xh' w = xh w ∧ xt' w = xt w) : RB zs b xn xw' xk' xm' xf' xB xh' xt' := by
  obtain ⟨h1, h2, h3, h4, h5, h6, h7⟩ := h
  refine ⟨h1, ⟨h2.1, h2.2.1, fun t ht => ?_⟩, h3, fun t ht => ?_, h5, fun w hw => ?_, fun w hw => ?_⟩
  · obtain ⟨a1, a2, a3, a4⟩ := he t ht
    rw [a1, a2, a3, a4]; exact h2.2.2 t ht
  · obtain ⟨a1, a2, a3, a4⟩ := he t ht
    rw [a1, a2, a3, a4]; exact h4 t ht
  · rw [(hh w hw).1]; exact h6 w hw
  · rw [(hh w hw).2]; exact h7 w hw
theorem RC.rows {cn yn : Nat} {cw ck cm cf cu cv cw' ck' cm' cf' cu' cv' : Nat → Int32} (h : RC zs cn cw ck cm cf cu cv xn yn) (he : EQ4 cn cw' ck' cm' cf' cw ck cm cf) (hu : ∀ j : Nat, j < 4 → cu' j = cu j ∧ cv' j = cv j) : RC zs cn cw' ck' cm' cf' cu' cv' xn yn := by
  obtain ⟨a1, a2, a3, a4, a5⟩ := h
  refine ⟨a1, a2, fun c hc => ?_, fun c hc => ?_, fun c hc => ?_⟩
  · obtain ⟨b1, b2, b3, b4⟩ := he c hc
    rw [b1, b2, b3, b4]; exact a3 c hc
  · rw [(hu c (by omega)).1, (hu c (by omega)).2]; exact a4 c hc
  · obtain ⟨b1, b2, b3, b4⟩ := he c hc
    rw [b1, b2, b3, b4, (hu c (by omega)).1, (hu c (by omega)).2]; exact a5 c hc
theorem RB.hard (h : RB zs b xn xw xk xm xf xB xh xt) {w q : Nat} (hw : w < 12) (hq : q ≤ 99) : RB (upd zs (162 + 12 * b + w) (nI q)) b xn xw xk xm xf xB (upd xh w (nI q)) xt := by
  obtain ⟨h1, h2, h3, h4, h5, h6, h7⟩ := h
  have hn := h2.1
  refine ⟨h1, h2, by rw [pk_un (by omega)]; exact h3, fun t ht => ?_, fun v hv => ?_, fun v hv => ?_, fun v hv => ?_⟩
  · rw [pk_un (by omega), pk_un (by omega), pk_un (by omega), pk_un (by omega)]; exact h4 t ht
  · rw [pk_un (by omega)]; exact h5 v hv
  · by_cases c : v = w
    · subst c; rw [pk_us, pk_us]; exact ⟨rfl, q, hq, rfl⟩
    · rw [pk_un (by omega), pk_un c]; exact h6 v hv
  · rw [pk_un (by omega)]; exact h7 v hv
theorem RB.meet (h : RB zs b xn xw xk xm xf xB xh xt) {w q : Nat} (hw : w < 12) (hq : q ≤ 99) : RB (upd zs (186 + 12 * b + w) (nI q)) b xn xw xk xm xf xB xh (upd xt w (nI q)) := by
  obtain ⟨h1, h2, h3, h4, h5, h6, h7⟩ := h
  have hn := h2.1
  refine ⟨h1, h2, by rw [pk_un (by omega)]; exact h3, fun t ht => ?_, fun v hv => ?_, fun v hv => ?_, fun v hv => ?_⟩
  · rw [pk_un (by omega), pk_un (by omega), pk_un (by omega), pk_un (by omega)]; exact h4 t ht
  · rw [pk_un (by omega)]; exact h5 v hv
  · rw [pk_un (by omega)]; exact h6 v hv
  · by_cases c : v = w
    · subst c; rw [pk_us, pk_us]; exact ⟨rfl, q, hq, rfl⟩
    · rw [pk_un (by omega), pk_un c]; exact h7 v hv
theorem RB.ball (h : RB zs b xn xw xk xm xf xB xh xt) {w : Nat} (hw : w < 12) {x yB : Int32} (hy : Rg yB) (h8 : ∀ v : Nat, v < 12 → v ≠ w → bt yB v = bt xB v) (h9 : x = if bt yB w = true then 1 else 0) : RB (upd zs (210 + 12 * b + w) x) b xn xw xk xm xf yB xh xt := by
  obtain ⟨h1, h2, h3, h4, h5, h6, h7⟩ := h
  have hn := h2.1
  refine ⟨h1, ⟨h2.1, hy, h2.2.2⟩, by rw [pk_un (by omega)]; exact h3, fun t ht => ?_, fun v hv => ?_, fun v hv => ?_, fun v hv => ?_⟩
  · rw [pk_un (by omega), pk_un (by omega), pk_un (by omega), pk_un (by omega)]; exact h4 t ht
  · by_cases c : v = w
    · subst c; rw [pk_us]; exact h9
    · rw [pk_un (by omega), h8 v hv c]; exact h5 v hv
  · rw [pk_un (by omega)]; exact h6 v hv
  · rw [pk_un (by omega)]; exact h7 v hv
theorem RB.add (h : RB zs b xn xw xk xm xf xB xh xt) (hn : xn < 20) {w k m f : Int32} (hx : TXT w k m f) (e0 : zs' (80 * b + 4 * xn) = w) (e1 : zs' (80 * b + 4 * xn + 1) = k) (e2 : zs' (80 * b + 4 * xn + 2) = m) (e3 : zs' (80 * b + 4 * xn + 3) = f) (e4 : zs' (160 + b) = nI (xn + 1)) (eo : ∀ j : Nat, (j < 80 * b + 4 * xn ∨ 80 * b + 4 * xn + 4 ≤ j) → j ≠ 160 + b → zs' j = zs j) : RB zs' b (xn + 1) (upd xw xn w) (upd xk xn k) (upd xm xn m) (upd xf xn f) xB xh xt := by
  obtain ⟨h1, h2, h3, h4, h5, h6, h7⟩ := h
  refine ⟨h1, ⟨by omega, h2.2.1, fun t ht => ?_⟩, e4, fun t ht => ?_, fun v hv => ?_, fun v hv => ?_, fun v hv => ?_⟩
  · by_cases c : t = xn
    · subst c; rw [pk_us, pk_us, pk_us, pk_us]; exact hx
    · rw [pk_un c, pk_un c, pk_un c, pk_un c]; exact h2.2.2 t (by omega)
  · by_cases c : t = xn
    · subst c; rw [pk_us, pk_us, pk_us, pk_us]; exact ⟨e0, e1, e2, e3⟩
    · rw [pk_un c, pk_un c, pk_un c, pk_un c, eo _ (by omega) (by omega), eo _ (by omega) (by omega), eo _ (by omega) (by omega), eo _ (by omega) (by omega)]
      exact h4 t (by omega)
  · rw [eo _ (by omega) (by omega)]; exact h5 v hv
  · rw [eo _ (by omega) (by omega)]; exact h6 v hv
  · rw [eo _ (by omega) (by omega)]; exact h7 v hv
theorem RC.add {cn yn : Nat} {cw ck cm cf cu cv : Nat → Int32} (h : RC zs cn cw ck cm cf cu cv xn yn) (hc : cn < 4) {w k m f : Int32} {B N : Nat} (hB : B < 2) (hN : N < (if B = 0 then xn else yn)) (hx : TXT w k m f) (e0 : zs' (234 + 6 * cn) = nI B) (e1 : zs' (234 + 6 * cn + 1) = nI N) (e2 : zs' (234 + 6 * cn + 2) = w) (e3 : zs' (234 + 6 * cn + 3) = k) (e4 : zs' (234 + 6 * cn + 4) = m) (e5 : zs' (234 + 6 * cn + 5) = f) (e6 : zs' 258 = nI (cn + 1)) (eo : ∀ j : Nat, 234 ≤ j → j < 234 + 6 * cn → zs' j = zs j) : RC zs' (cn + 1) (upd cw cn w) (upd ck cn k) (upd cm cn m) (upd cf cn f) (upd cu cn (nI B)) (upd cv cn (nI N)) xn yn := by
  obtain ⟨a1, a2, a3, a4, a5⟩ := h
  refine ⟨by omega, e6, fun c q => ?_, fun c q => ?_, fun c q => ?_⟩
  · by_cases z : c = cn
    · subst z; rw [pk_us, pk_us, pk_us, pk_us]; exact hx
    · rw [pk_un z, pk_un z, pk_un z, pk_un z]; exact a3 c (by omega)
  · by_cases z : c = cn
    · subst z; rw [pk_us, pk_us]; exact ⟨B, N, hB, rfl, rfl, hN⟩
    · rw [pk_un z, pk_un z]; exact a4 c (by omega)
  · by_cases z : c = cn
    · subst z; rw [pk_us, pk_us, pk_us, pk_us, pk_us, pk_us]; exact ⟨e0, e1, e2, e3, e4, e5⟩
    · rw [pk_un z, pk_un z, pk_un z, pk_un z, pk_un z, pk_un z, eo _ (by omega) (by omega), eo _ (by omega) (by omega), eo _ (by omega) (by omega), eo _ (by omega) (by omega), eo _ (by omega) (by omega), eo _ (by omega) (by omega)]
      exact a5 c (by omega)
end STA
section PWS
variable {zs : Nat → Int32} {b xn : Nat} {xw xk xm xf : Nat → Int32} {xB : Int32} {xh xt : Nat → Int32} {zf ff : Nat → Int32}
/-- what a call that writes one place of a book leaves: the answer, the refusals, the book, all else -/
def W1 (b : Nat) (zs zs' : Nat → Int32) : Prop := ∀ j : Nat, ¬ DB b j → zs' j = zs j
theorem W1_r {zs : Nat → Int32} : W1 b zs zs := fun _ _ => rfl
theorem within_0 {vv : Int32} : f_X7_within vv 0 99 = if 0 ≤ vv then (if vv ≤ 99 then 0 else (-6)) else (-4) := rfl
theorem pw_word (h : RB zs b xn xw xk xm xf xB xh xt) (hf : RF zf ff) (wo wh vv : Int32) : (f_X7_word zf zs b wo wh vv).1 = (f_X6_word_0 ff xh xt wo wh vv).1 ∧ RF (f_X7_word zf zs b wo wh vv).2.1 (f_X6_word_0 ff xh xt wo wh vv).2.1 ∧ RB (f_X7_word zf zs b wo wh vv).2.2 b xn xw xk xm xf xB (f_X6_word_0 ff xh xt wo wh vv).2.2.1 (f_X6_word_0 ff xh xt wo wh vv).2.2.2 ∧ W1 b zs (f_X7_word zf zs b wo wh vv).2.2 := by
  have hb := h.1
  unfold f_X7_word f_X6_word_0
  rw [isW_7, within_0]
  by_cases q : f_X6_isWord wo = 0
  · rw [if_pos q, if_pos q]; exact ⟨(pw_r1 hf).1, (pw_r1 hf).2, h, W1_r⟩
  · obtain ⟨v, hv, ev⟩ := isW_nI q
    rw [if_neg q, if_neg q, ev]
    have i1 : (nI (162 + 12 * b) + nI v).toNatClampNeg = 162 + 12 * b + v := by rw [nI_add, nI_clamp (by omega)]
    have i2 : (nI (186 + 12 * b) + nI v).toNatClampNeg = 186 + 12 * b + v := by rw [nI_add, nI_clamp (by omega)]
    rw [nI_clamp (by omega), i1, i2]
    by_cases w0 : wh = 0
    · have z2 : ¬ f_X7_isIn wh 2 = 0 := by rw [w0]; decide
      rw [if_neg z2, if_pos w0, if_pos w0]
      by_cases c1 : 0 ≤ vv
      · rw [if_pos c1, if_pos c1]
        by_cases c2 : vv ≤ 99
        · obtain ⟨q9, hq9, rfl⟩ := nI_of (x := vv) (fun z => absurd c1 (Int32.not_le.mpr z))
          have c3 : q9 ≤ 99 := (nI_leI (b := 99) hq9 (by omega)).mp c2
          rw [if_pos c2, if_pos rfl, if_pos c2]
          refine ⟨(h.2.2.2.2.2.1 v hv).1, hf, h.hard hv c3, fun j hj => ?_⟩
          exact pk_un (fun z => hj (by unfold DB; omega))
        · rw [if_neg c2, if_neg (by decide), if_neg c2]
          exact ⟨(pw_r6 hf).1, (pw_r6 hf).2, h, W1_r⟩
      · rw [if_neg c1, if_neg (by decide), if_neg c1]
        exact ⟨(pw_r4 hf).1, (pw_r4 hf).2, h, W1_r⟩
    · by_cases w1 : wh = 1
      · have z2 : ¬ f_X7_isIn wh 2 = 0 := by rw [w1]; decide
        rw [if_neg z2, if_neg w0, if_neg w0, if_pos w1]
        by_cases c1 : 0 ≤ vv
        · rw [if_pos c1, if_pos c1]
          by_cases c2 : vv ≤ 99
          · obtain ⟨q9, hq9, rfl⟩ := nI_of (x := vv) (fun z => absurd c1 (Int32.not_le.mpr z))
            have c3 : q9 ≤ 99 := (nI_leI (b := 99) hq9 (by omega)).mp c2
            rw [if_pos c2, if_pos rfl, if_pos c2]
            refine ⟨(h.2.2.2.2.2.2 v hv).1, hf, h.meet hv c3, fun j hj => ?_⟩
            exact pk_un (fun z => hj (by unfold DB; omega))
          · rw [if_neg c2, if_neg (by decide), if_neg c2]
            exact ⟨(pw_r6 hf).1, (pw_r6 hf).2, h, W1_r⟩
        · rw [if_neg c1, if_neg (by decide), if_neg c1]
          exact ⟨(pw_r4 hf).1, (pw_r4 hf).2, h, W1_r⟩
      · have z2 : f_X7_isIn wh 2 = 0 := by
          unfold f_X7_isIn
          by_cases q5 : wh < 0
          · rw [if_pos q5]
          · obtain ⟨j, hj, rfl⟩ := nI_of q5
            have c1 : (2 : Int32) ≤ nI j ↔ 2 ≤ j := nI_leI (a := 2) (by omega) hj
            rw [if_neg q5, if_pos (c1.mpr ?_)]
            have j0 : j ≠ 0 := fun z => w0 (by rw [z]; rfl)
            have j1 : j ≠ 1 := fun z => w1 (by rw [z]; rfl)
            omega
        rw [if_pos z2, if_neg w0, if_neg w1]
        exact ⟨(pw_r2 hf).1, (pw_r2 hf).2, h, W1_r⟩
theorem pw_all (h : RB zs b xn xw xk xm xf xB xh xt) (hf : RF zf ff) (wo iz : Int32) (hz : iz = 0 ∨ iz = 1) : (f_X7_all zf zs b wo iz).1 = (f_X6_all_0 ff xB wo iz).1 ∧ RF (f_X7_all zf zs b wo iz).2.1 (f_X6_all_0 ff xB wo iz).2.1 ∧ RB (f_X7_all zf zs b wo iz).2.2 b xn xw xk xm xf (f_X6_all_0 ff xB wo iz).2.2 xh xt ∧ W1 b zs (f_X7_all zf zs b wo iz).2.2 := by
  have hb := h.1
  unfold f_X7_all f_X6_all_0
  rw [isW_7]
  by_cases q : f_X6_isWord wo = 0
  · rw [if_pos q, if_pos q]; exact ⟨(pw_r1 hf).1, (pw_r1 hf).2, h, W1_r⟩
  · obtain ⟨v, hv, ev⟩ := isW_nI q
    rw [if_neg q, if_neg q, ev]
    have i1 : (nI (210 + 12 * b) + nI v).toNatClampNeg = 210 + 12 * b + v := by rw [nI_add, nI_clamp (by omega)]
    have hw1 : ∀ x : Int32, W1 b zs (upd zs (210 + 12 * b + v) x) := fun x j hj => pk_un (fun z => hj (by unfold DB; omega))
    have hRx : Rg (xB ^^^ ((1 : Int32) <<< (nI v &&& 31))) := by
      have h9 : xB ^^^ ((1 : Int32) <<< (nI v &&& 31)) = (xB ||| ((1 : Int32) <<< (nI v &&& 31))) &&& ((xB &&& ((1 : Int32) <<< (nI v &&& 31))) ^^^ (-1 : Int32)) := by
        apply Int32.toBitVec_inj.mp
        refine BitVec.eq_of_getLsbD_eq (fun w hw => ?_)
        show bt _ w = bt _ w
        rw [bt_xor, bt_and, bt_or, bt_xm1 _ hw, bt_and]
        cases bt xB w <;> cases bt ((1 : Int32) <<< (nI v &&& 31)) w <;> rfl
      rw [h9]
      exact Rg_and (Rg_or h.2.1.2.1 (Rg_bit hv))
    have hxb : ∀ u : Nat, u < 12 → bt (xB ^^^ ((1 : Int32) <<< (nI v &&& 31))) u = if v = u then !bt xB u else bt xB u := fun u hu => by
      rw [bt_xor, bt_bit hv]
      by_cases c : v = u
      · rw [if_pos c, decide_eq_true c]; cases bt xB u <;> rfl
      · rw [if_neg c, decide_eq_false c]; cases bt xB u <;> rfl
    rw [i1, h.2.2.2.2.1 v hv, has_bt h.2.1.2.1 hv]
    by_cases q3 : bt xB v = true
    · rw [if_pos q3, if_pos rfl]
      rcases hz with e | e
      · rw [e, if_pos rfl, if_neg (by decide), if_neg (by decide)]
        refine ⟨rfl, hf, h.ball hv hRx (fun u hu hne => by rw [hxb u hu, if_neg (fun z => hne z.symm)]) ?_, hw1 0⟩
        rw [hxb v hv, if_pos rfl, q3]; rfl
      · rw [e, if_neg (by decide), if_pos rfl, if_pos rfl]
        refine ⟨rfl, hf, h.ball hv h.2.1.2.1 (fun _ _ _ => rfl) ?_, hw1 1⟩
        rw [if_pos q3]
    · rw [if_neg q3, if_neg (by decide)]
      rcases hz with e | e
      · rw [e, if_pos rfl, if_pos rfl, if_pos rfl]
        refine ⟨rfl, hf, h.ball hv h.2.1.2.1 (fun _ _ _ => rfl) ?_, hw1 0⟩
        rw [if_neg q3]
      · rw [e, if_neg (by decide), if_neg (by decide), if_neg (by decide)]
        refine ⟨rfl, hf, h.ball hv hRx (fun u hu hne => by rw [hxb u hu, if_neg (fun z => hne z.symm)]) ?_, hw1 1⟩
        rw [hxb v hv, if_pos rfl, Bool.eq_false_iff.mpr q3]; rfl
theorem pw_put {rz : Nat} {zw rr : Nat → Int32} (hz : rz ≤ 24) (hf : RF zf ff) (hr : ∀ j : Nat, j < rz → zw j = rr j) (vv : Int32) : (f_X7_put rz zf zw vv).1 = (f_X6_put rz ff rr vv).1 ∧ RF (f_X7_put rz zf zw vv).2.1 (f_X6_put rz ff rr vv).2.1 ∧ (f_X7_put rz zf zw vv).2.2.2 = (f_X6_put rz ff rr vv).2.2.2 ∧ (f_X6_put rz ff rr vv).2.2.2 ≤ 24 ∧ (∀ j : Nat, j < (f_X6_put rz ff rr vv).2.2.2 → (f_X7_put rz zf zw vv).2.2.1 j = (f_X6_put rz ff rr vv).2.2.1 j) := by
  unfold f_X7_put f_X6_put f_X7_within
  by_cases c1 : ((-1) : Int32) ≤ vv
  · rw [if_pos c1, if_pos c1]
    by_cases c2 : vv ≤ 99
    · rw [if_pos c2, if_pos rfl, if_neg (Int32.not_lt.mpr c2)]
      have e24 : nI rz = 24 ↔ rz = 24 := nI_eq (b := 24) (by omega) (by omega)
      have l24 : nI rz < 24 ↔ rz < 24 := nI_ltI (b := 24) (by omega) (by omega)
      by_cases c3 : rz = 24
      · rw [if_pos (e24.mpr c3), if_neg (fun z => by have := l24.mp z; omega)]
        exact ⟨(pw_r6 hf).1, (pw_r6 hf).2, rfl, hz, hr⟩
      · rw [if_neg (fun z => c3 (e24.mp z)), if_pos (l24.mpr (by omega))]
        refine ⟨rfl, hf, rfl, by show rz + 1 ≤ 24; omega, fun j hj => ?_⟩
        show upd zw rz vv j = upd rr rz vv j
        by_cases c : j = rz
        · subst c; rw [pk_us, pk_us]
        · have hj2 : j < rz + 1 := hj
          rw [pk_un c, pk_un c]; exact hr j (by omega)
    · rw [if_neg c2, if_neg (by decide), if_pos (Int32.not_le.mp c2)]
      exact ⟨(pw_r6 hf).1, (pw_r6 hf).2, rfl, hz, hr⟩
  · rw [if_neg c1, if_neg (by decide), if_neg c1]
    exact ⟨(pw_r4 hf).1, (pw_r4 hf).2, rfl, hz, hr⟩
theorem pw_tof (h : RB zs b xn xw xk xm xf xB xh xt) (hf : RF zf ff) {t w : Nat} (ht : t < xn) (hw : w < 4) : (f_X7_tellingOf zf zs b t w).1 = (f_X6_tellingOf_0 ff xn xw xk xm xf (nI t) (nI w)).1 ∧ RF (f_X7_tellingOf zf zs b t w).2 (f_X6_tellingOf_0 ff xn xw xk xm xf (nI t) (nI w)).2 := by
  have hn := h.2.1.1
  unfold f_X7_tellingOf f_X6_tellingOf_0
  rw [has_nI (by omega) ht, if_neg (by decide), nI_clamp (by omega)]
  rcases (show w = 0 ∨ w = 1 ∨ w = 2 ∨ w = 3 by omega) with rfl | rfl | rfl | rfl
  · rw [if_pos (show nI 0 = 0 from rfl)]; exact ⟨h.g0 ht, hf⟩
  · rw [if_neg (show ¬ nI 1 = 0 by decide), if_pos (show nI 1 = 1 from rfl)]; exact ⟨h.g1 ht, hf⟩
  · rw [if_neg (show ¬ nI 2 = 0 by decide), if_neg (show ¬ nI 2 = 1 by decide), if_pos (show nI 2 = 2 from rfl)]; exact ⟨h.g2 ht, hf⟩
  · rw [if_neg (show ¬ nI 3 = 0 by decide), if_neg (show ¬ nI 3 = 1 by decide), if_neg (show ¬ nI 3 = 2 by decide), if_pos (show nI 3 = 3 from rfl)]; exact ⟨h.g3 ht, hf⟩
theorem pw_tofT (hf : RF zf ff) {te wh : Int32} (ht : f_X5_has xn te = 0) : (f_X7_tellingOf_T zf).1 = (f_X6_tellingOf_0 ff xn xw xk xm xf te wh).1 ∧ RF (f_X7_tellingOf_T zf).2 (f_X6_tellingOf_0 ff xn xw xk xm xf te wh).2 := by
  unfold f_X7_tellingOf_T f_X6_tellingOf_0
  rw [if_pos ht]
  exact pw_r1 hf
theorem pw_tofW (hf : RF zf ff) {te wh : Int32} (ht : ¬ f_X5_has xn te = 0) (hw : f_X7_isIn wh 4 = 0) : (f_X7_tellingOf_W zf).1 = (f_X6_tellingOf_0 ff xn xw xk xm xf te wh).1 ∧ RF (f_X7_tellingOf_W zf).2 (f_X6_tellingOf_0 ff xn xw xk xm xf te wh).2 := by
  have hne : ∀ j : Nat, j < 4 → ¬ wh = nI j := fun j hj e => by
    rw [e] at hw
    exact isIn4 hj hw
  unfold f_X7_tellingOf_W f_X6_tellingOf_0
  rw [if_neg ht, if_neg (show ¬ wh = 0 from hne 0 (by decide)), if_neg (show ¬ wh = 1 from hne 1 (by decide)), if_neg (show ¬ wh = 2 from hne 2 (by decide)), if_neg (show ¬ wh = 3 from hne 3 (by decide))]
  exact pw_r2 hf
/-- the tape -/
def RT (tz : Nat) (tb zt : Nat → Int32) : Prop := tz ≤ 10 ∧ ∀ j : Nat, j < tz → zt j = tb j ∧ ∃ v : Nat, v < 256 ∧ tb j = nI v
theorem byt_eq (cm : Int64) {i : Nat} (hi : i < 8) : ((((cm.toUInt64 >>> ((nI (8 * i) : Int32).toInt64.toUInt64 &&& Int64.toUInt64 63)).toInt64).toInt32) &&& (255 : Int32)) = (((cm >>> ((nI (8 * i) : Int32).toInt64 &&& 63)) &&& 255).toInt32) := by
  apply Int32.toBitVec_inj.mp
  refine BitVec.eq_of_getLsbD_eq (fun w hw => ?_)
  have hs : (((nI (8 * i) : Int32).toInt64 &&& 63).toBitVec.smod 64).toNat = 8 * i := by
    have : ∀ i : Fin 8, (((nI (8 * i.1) : Int32).toInt64 &&& 63).toBitVec.smod 64).toNat = 8 * i.1 := by decide +kernel
    exact this ⟨i, hi⟩
  have hs2 : (((nI (8 * i) : Int32).toInt64.toUInt64 &&& Int64.toUInt64 63).toBitVec % 64).toNat = 8 * i := by
    have : ∀ i : Fin 8, (((nI (8 * i.1) : Int32).toInt64.toUInt64 &&& Int64.toUInt64 63).toBitVec % 64).toNat = 8 * i.1 := by decide +kernel
    exact this ⟨i, hi⟩
  have l1 : ((((cm.toUInt64 >>> ((nI (8 * i) : Int32).toInt64.toUInt64 &&& Int64.toUInt64 63)).toInt64).toInt32) &&& (255 : Int32)).toBitVec = ((cm.toBitVec >>> (8 * i)).setWidth 32) &&& 255#32 := by
    show (((cm.toBitVec >>> (((nI (8 * i) : Int32).toInt64.toUInt64 &&& Int64.toUInt64 63).toBitVec % 64).toNat).signExtend 32) &&& 255#32) = _
    rw [hs2, BitVec.signExtend_eq_setWidth_of_le _ (by decide)]
  have l2 : (((cm >>> ((nI (8 * i) : Int32).toInt64 &&& 63)) &&& 255).toInt32).toBitVec = ((cm.toBitVec.sshiftRight (8 * i)) &&& 255#64).setWidth 32 := by
    show (((cm.toBitVec.sshiftRight (((nI (8 * i) : Int32).toInt64 &&& 63).toBitVec.smod 64).toNat) &&& 255#64).signExtend 32) = _
    rw [hs, BitVec.signExtend_eq_setWidth_of_le _ (by decide)]
  rw [l1, l2]
  simp only [BitVec.getLsbD_and, BitVec.getLsbD_setWidth, BitVec.getLsbD_ushiftRight, BitVec.getLsbD_sshiftRight]
  have h255 : ∀ w : Nat, (255#32).getLsbD w = decide (w < 8) := fun w => by
    rw [show (255#32 : BitVec 32) = BitVec.ofNat 32 (2 ^ 8 - 1) from rfl, BitVec.getLsbD_ofNat, Nat.testBit_two_pow_sub_one]
    by_cases c : w < 8
    · simp [c]; omega
    · simp [c]
  have h255' : ∀ w : Nat, (255#64).getLsbD w = decide (w < 8) := fun w => by
    rw [show (255#64 : BitVec 64) = BitVec.ofNat 64 (2 ^ 8 - 1) from rfl, BitVec.getLsbD_ofNat, Nat.testBit_two_pow_sub_one]
    by_cases c : w < 8
    · simp [c]; omega
    · simp [c]
  rw [h255, h255']
  by_cases c : w < 8
  · have c1 : 8 * i + w < 64 := by omega
    have c2 : ¬ 64 ≤ w := by omega
    simp [c, c1, c2, hw]
  · simp [c]
theorem ap_39 {cm : Int64} : ∀ (k i : Nat) (b1 b2 : Nat → Int32) (z : Nat), k + i ≤ 8 → z + k ≤ 10 → RT z b1 b2 → (f_X7_feed_39 cm k i b2 z).1 = nI (f_X4_append_3 cm k i b1 z).2 ∧ (f_X7_feed_39 cm k i b2 z).2.2 = (f_X4_append_3 cm k i b1 z).2 ∧ RT (f_X4_append_3 cm k i b1 z).2 (f_X4_append_3 cm k i b1 z).1 (f_X7_feed_39 cm k i b2 z).2.1 := by
  intro k
  induction k with
  | zero => intro i b1 b2 z _ _ h; rw [f_X7_feed_39_z, f_X4_append_3_z]; exact ⟨rfl, rfl, h⟩
  | succ k ih =>
    intro i b1 b2 z hk hz h
    rw [f_X7_feed_39_s, f_X4_append_3_s, byt_eq cm (by omega)]
    refine ih (i + 1) _ _ (z + 1) (by omega) (by omega) ⟨by omega, fun j hj => ?_⟩
    by_cases c : j = z
    · subst c
      rw [pk_us, pk_us, ← byt_eq cm (by omega)]
      obtain ⟨v, hv, e⟩ := pk_andE ((cm.toUInt64 >>> ((nI (8 * i) : Int32).toInt64.toUInt64 &&& Int64.toUInt64 63)).toInt64).toInt32 (m := 255) 8 (by decide)
      exact ⟨rfl, v, hv, e⟩
    · rw [pk_un c, pk_un c]; exact h.2 j (by omega)
theorem pw_feed {tz an : Nat} {tb zt : Nat → Int32} {cm : Int64} (h8 : an ≤ 8) (hz : tz + an ≤ 10) (h : RT tz tb zt) : (f_X7_feed tz zt an cm).1 = (f_X6_feed tz tb an cm).1 ∧ (f_X7_feed tz zt an cm).2.2 = (f_X6_feed tz tb an cm).2.2 ∧ RT (f_X6_feed tz tb an cm).2.2 (f_X6_feed tz tb an cm).2.1 (f_X7_feed tz zt an cm).2.1 := ap_39 an 0 tb zt tz (by omega) hz h
theorem pw_feedA (hf : RF zf ff) {tz : Nat} {nx : Int32} (hb : nx < 1 ∨ 8 < nx ∨ 10 < nI tz + nx) : (f_X7_feed_A tz zf nx).1 = (f_X6_feed_A ff tz nx).1 ∧ RF (f_X7_feed_A tz zf nx).2 (f_X6_feed_A ff tz nx).2 := by
  unfold f_X7_feed_A f_X6_feed_A
  by_cases c1 : (1 : Int32) ≤ nx
  · rw [if_pos c1, if_pos c1]
    by_cases c2 : (8 : Int32) < nx
    · rw [if_pos c2, if_pos c2]; exact pw_r6 hf
    · rw [if_neg c2, if_neg c2]
      have c3 : ¬ nI tz + nx ≤ 10 := by
        rcases hb with q | q | q
        · exact absurd c1 (Int32.not_le.mpr q)
        · exact absurd q c2
        · exact Int32.not_le.mpr q
      rw [if_neg c3, if_neg c3]; exact pw_r6 hf
  · rw [if_neg c1, if_neg c1]; exact pw_r4 hf
end PWS
