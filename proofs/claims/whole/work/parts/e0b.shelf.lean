/-! a shelf and its copy -/
theorem H3.cg {n : Nat} {w w' : Nat → Int32} (h : H3 n w) (he : ∀ j : Nat, j < n → w' j = w j) : H3 n w' := fun wo => by
  have e : pcn (fun t => decide (w' t = wo)) n = pcn (fun t => decide (w t = wo)) n := pcn_congr n (fun t ht => by rw [he t ht])
  rw [e]
  exact h wo
theorem db_lt {b j : Nat} (hb : b < 2) (h : DB b j) : j < 259 := by
  unfold DB at h
  omega
theorem db_01 {j : Nat} (h : DB 1 j) : ¬ DB 0 j := by
  unfold DB at h ⊢
  omega
theorem db_10 {j : Nat} (h : DB 0 j) : ¬ DB 1 j := by
  unfold DB at h ⊢
  omega
theorem db_hi0 {j : Nat} (h : 234 ≤ j) : ¬ DB 0 j := by
  unfold DB
  omega
theorem db_hi1 {j : Nat} (h : 234 ≤ j) : ¬ DB 1 j := by
  unfold DB
  omega
theorem db_lo {b j : Nat} (hb : b < 2) (h : DB b j) : j < 234 := by
  unfold DB at h
  omega
theorem RT.or {tz n : Nat} {tb zt : Nat → Int32} (h : RT tz tb zt) (e : n = tz ∨ n = 0) : RT n tb zt := by
  rcases e with rfl | rfl
  · exact h
  · exact ⟨Nat.zero_le _, fun j hj => absurd hj (Nat.not_lt_zero _)⟩
theorem RSH.cg {zs zi : Nat → Int32} {x z : BS} {c : CS} (h : RSH zs x z c) (he : ∀ j : Nat, j < 259 → zi j = zs j) : RSH zi x z c :=
  ⟨h.1.cg (fun j hj => he j (db_lt (by decide) hj)), h.2.1.cg (fun j hj => he j (db_lt (by decide) hj)), h.2.2.1.cg (fun j _ h2 => he j h2), h.2.2.2.1, h.2.2.2.2⟩
theorem sh_cp {zs : Nat → Int32} {x z : BS} {c : CS} (h : RSH zs x z c) (uw uk um uf uh ut vw vk vm vf vh vt gw gk gm gf gu gv : Nat → Int32) {C : (Nat → Int32) × (Nat → Int32) × (Nat → Int32) × (Nat → Int32) × Nat × (Nat → Int32) × (Nat → Int32) × Int32 × (Nat → Int32) × (Nat → Int32) × (Nat → Int32) × (Nat → Int32) × Nat × (Nat → Int32) × (Nat → Int32) × Int32 × (Nat → Int32) × (Nat → Int32) × (Nat → Int32) × (Nat → Int32) × Nat × (Nat → Int32) × (Nat → Int32)} (hC : f_X3_copyFrom 20 uw uk um uf uh ut 20 vw vk vm vf vh vt gw gk gm gf gu gv x.1 x.2.1 x.2.2.1 x.2.2.2.1 x.2.2.2.2.1 x.2.2.2.2.2.1 x.2.2.2.2.2.2.1 x.2.2.2.2.2.2.2 z.1 z.2.1 z.2.2.1 z.2.2.2.1 z.2.2.2.2.1 z.2.2.2.2.2.1 z.2.2.2.2.2.2.1 z.2.2.2.2.2.2.2 c.1 c.2.1 c.2.2.1 c.2.2.2.1 c.2.2.2.2.1 c.2.2.2.2.2.1 c.2.2.2.2.2.2 = C) :
    RSH zs (C.2.2.2.2.1, C.1, C.2.1, C.2.2.1, C.2.2.2.1, C.2.2.2.2.2.2.2.1, C.2.2.2.2.2.1, C.2.2.2.2.2.2.1) (C.2.2.2.2.2.2.2.2.2.2.2.2.1, C.2.2.2.2.2.2.2.2.1, C.2.2.2.2.2.2.2.2.2.1, C.2.2.2.2.2.2.2.2.2.2.1, C.2.2.2.2.2.2.2.2.2.2.2.1, C.2.2.2.2.2.2.2.2.2.2.2.2.2.2.2.1, C.2.2.2.2.2.2.2.2.2.2.2.2.2.1, C.2.2.2.2.2.2.2.2.2.2.2.2.2.2.1) (C.2.2.2.2.2.2.2.2.2.2.2.2.2.2.2.2.2.2.2.2.1, C.2.2.2.2.2.2.2.2.2.2.2.2.2.2.2.2.1, C.2.2.2.2.2.2.2.2.2.2.2.2.2.2.2.2.2.1, C.2.2.2.2.2.2.2.2.2.2.2.2.2.2.2.2.2.2.1, C.2.2.2.2.2.2.2.2.2.2.2.2.2.2.2.2.2.2.2.1, C.2.2.2.2.2.2.2.2.2.2.2.2.2.2.2.2.2.2.2.2.2.1, C.2.2.2.2.2.2.2.2.2.2.2.2.2.2.2.2.2.2.2.2.2.2) ∧ C.2.2.2.2.1 = x.1 ∧ C.2.2.2.2.2.2.2.2.2.2.2.2.1 = z.1 ∧ C.2.2.2.2.2.2.2.2.2.2.2.2.2.2.2.2.2.2.2.2.1 = c.1 := by
  obtain ⟨h1, h2, h3, h4, h5⟩ := h
  obtain ⟨xn, xw, xk, xm, xf, xB, xh, xt⟩ := x
  obtain ⟨zn, zw, zk, zm, zf, zB, zh, zt⟩ := z
  obtain ⟨cn, cw, ck, cm, cf, cu, cv⟩ := c
  have n1 : xn ≤ 20 := h1.2.1.1
  have n2 : zn ≤ 20 := h2.2.1.1
  have n3 : cn ≤ 4 := h3.1
  obtain ⟨a1, b1, c1, d1, e1, f1, E1, q1, r1⟩ := cp_book (xl := 20) (yn := xn) (by omega) (xw := uw) (xk := uk) (xm := um) (xf := uf) (xh := uh) (xt := ut) (yw := xw) (yk := xk) (ym := xm) (yf := xf) (yB := xB) (yh := xh) (yt := xt)
  obtain ⟨a2, b2, c2, d2, e2, f2, E2, q2, r2⟩ := cp_book (xl := 20) (yn := zn) (by omega) (xw := vw) (xk := vk) (xm := vm) (xf := vf) (xh := vh) (xt := vt) (yw := zw) (yk := zk) (ym := zm) (yf := zf) (yB := zB) (yh := zh) (yt := zt)
  obtain ⟨a3, b3, c3, d3, e3, f3, E3, q3, r3⟩ := cp_chg (gn := cn) (by omega) (cw := gw) (ck := gk) (cm := gm) (cf := gf) (cu := gu) (cv := gv) (gw := cw) (gk := ck) (gm := cm) (gf := cf) (gu := cu) (gv := cv)
  rw [Nat.min_eq_left n1] at E1 q1
  rw [Nat.min_eq_left n2] at E2 q2
  rw [Nat.min_eq_left n3] at E3 q3
  dsimp only at hC
  unfold f_X3_copyFrom at hC
  rw [E1, E2, E3] at hC
  dsimp only at hC
  subst hC
  exact ⟨⟨RB.rows h1 q1 r1, RB.rows h2 q2 r2, RC.rows h3 q3 r3, H3.cg h4 (fun j hj => (q1 j hj).1), H3.cg h5 (fun j hj => (q2 j hj).1)⟩, rfl, rfl, rfl⟩
theorem im_cp {zs : Nat → Int32} : ∀ (k i : Nat) (r : Nat → Int32), k + i = 259 → (∀ j : Nat, j < i → r j = zs j) → (f_X7_image_2 zs k i r).1 = zs 160 + zs 161 ∧ (f_X7_image_2 zs k i r).2.2 = 1 ∧ ∀ j : Nat, j < 259 → (f_X7_image_2 zs k i r).2.1 j = zs j := by
  intro k
  induction k with
  | zero =>
    intro i r hk h
    rw [f_X7_image_2_z]
    exact ⟨rfl, rfl, fun j hj => h j (by omega)⟩
  | succ k ih =>
    intro i r hk h
    rw [f_X7_image_2_s]
    refine ih (i + 1) _ (by omega) (fun q hq => ?_)
    by_cases c : q = i
    · subst c; rw [pk_us]
    · rw [pk_un c]; exact h q (by omega)
theorem pw_image {zs : Nat → Int32} (zi : Nat → Int32) : (f_X7_image zs zi).1 = zs 160 + zs 161 ∧ (f_X7_image zs zi).2.2 = 1 ∧ ∀ j : Nat, j < 259 → (f_X7_image zs zi).2.1 j = zs j := im_cp 259 0 zi rfl (fun q hq => absurd hq (Nat.not_lt_zero _))
theorem on_cp {zf zi : Nat → Int32} : ∀ (k i : Nat) (r : Nat → Int32), k + i = 259 → (∀ j : Nat, j < i → r j = zi j) → (f_X7_on_16 zf zi k i r).1 = zi 160 + zi 161 ∧ (f_X7_on_16 zf zi k i r).2.1 = zf ∧ ∀ j : Nat, j < 259 → (f_X7_on_16 zf zi k i r).2.2 j = zi j := by
  intro k
  induction k with
  | zero =>
    intro i r hk h
    rw [f_X7_on_16_z]
    refine ⟨?_, rfl, fun j hj => h j (by omega)⟩
    dsimp only
    rw [h 160 (by omega), h 161 (by omega)]
  | succ k ih =>
    intro i r hk h
    rw [f_X7_on_16_s]
    refine ih (i + 1) _ (by omega) (fun q hq => ?_)
    by_cases c : q = i
    · subst c; rw [pk_us]
    · rw [pk_un c]; exact h q (by omega)
theorem pw_on1 {zf zs zi : Nat → Int32} : (f_X7_on 1 zf zs zi).1 = zi 160 + zi 161 ∧ (f_X7_on 1 zf zs zi).2.1 = zf ∧ ∀ j : Nat, j < 259 → (f_X7_on 1 zf zs zi).2.2 j = zi j := by
  unfold f_X7_on
  rw [if_neg (by decide)]
  exact on_cp 259 0 zs rfl (fun q hq => absurd hq (Nat.not_lt_zero _))
theorem on_0 {zf zs zi : Nat → Int32} : f_X7_on 0 zf zs zi = ((f_X7_refuse zf (-3)).1, (f_X7_refuse zf (-3)).2, zs) := by
  unfold f_X7_on
  rw [if_pos rfl]
theorem hm_sh {zs : Nat → Int32} {x z : BS} {c : CS} (h : RSH zs x z c) : zs 160 + zs 161 = f_X3_howManyTellings x.1 z.1 := by
  have e1 : zs 160 = nI x.1 := h.1.2.2.1
  have e2 : zs 161 = nI z.1 := h.2.1.2.2.1
  rw [e1, e2, nI_add]
  rfl
theorem RC.vw {zs : Nat → Int32} {cn xn yn : Nat} {cw ck cm cf cu cv : Nat → Int32} (h : RC zs cn cw ck cm cf cu cv xn yn) : VW cn cw := fun t ht => (h.2.2.1 t ht).1
theorem isT_eq {n : Nat} {te : Int32} : f_X7_isTelling n te = f_X5_has n te := by
  unfold f_X7_isTelling f_X5_has f_X7_isIn
  split
  · rfl
  · split <;> rfl
theorem has_of {n : Nat} {te : Int32} (hn : n ≤ 20) (h : ¬ f_X5_has n te = 0) : ∃ t : Nat, t < n ∧ te = nI t := by
  unfold f_X5_has at h
  split at h
  · exact absurd rfl h
  · rename_i q
    split at h
    · exact absurd rfl h
    · rename_i q2
      obtain ⟨j, hj, rfl⟩ := nI_of q
      refine ⟨j, ?_, rfl⟩
      rw [nI_leI (by omega) hj] at q2
      omega
theorem isIn4_of {wh : Int32} (h : ¬ f_X7_isIn wh 4 = 0) : ∃ w : Nat, w < 4 ∧ wh = nI w := by
  unfold f_X7_isIn at h
  split at h
  · exact absurd rfl h
  · rename_i q
    split at h
    · exact absurd rfl h
    · rename_i q2
      obtain ⟨j, hj, rfl⟩ := nI_of q
      refine ⟨j, ?_, rfl⟩
      have e : ¬ nI 4 ≤ nI j := q2
      rw [nI_leI (by omega) hj] at e
      omega
theorem feed_ok {tz : Nat} {nx : Int32} (hz : tz ≤ 10) (h : ¬ (nx < 1 ∨ 8 < nx ∨ 10 < nI tz + nx)) : ∃ an : Nat, nx = nI an ∧ 1 ≤ an ∧ an ≤ 8 ∧ tz + an ≤ 10 := by
  have h1 : ¬ nx < 1 := fun q => h (Or.inl q)
  have h2 : ¬ 8 < nx := fun q => h (Or.inr (Or.inl q))
  have h3 : ¬ 10 < nI tz + nx := fun q => h (Or.inr (Or.inr q))
  have h0 : ¬ nx < 0 := fun q => h1 (Int32.lt_trans q (by decide))
  obtain ⟨j, hj, rfl⟩ := nI_of h0
  have e1 : ¬ nI j < nI 1 := h1
  have e2 : ¬ nI 8 < nI j := h2
  rw [nI_ltI hj (by omega)] at e1
  rw [nI_ltI (by omega) hj] at e2
  rw [nI_add] at h3
  have e3 : ¬ nI 10 < nI (tz + j) := h3
  rw [nI_ltI (by omega) (by omega)] at e3
  exact ⟨j, rfl, by omega, by omega, by omega⟩
theorem ch_T0 {ff xw cw ck cm cf cu cv tb : Nat → Int32} {xn cn tz : Nat} {tw tk tm tf te : Int32} (ht : f_X5_has xn te = 0) : f_X6_change_0 ff xn xw cn cw ck cm cf cu cv tz tw tk tm tf tb te = ((f_X6_refuse ff (-1)).1, (f_X6_refuse ff (-1)).2, cw, ck, cm, cf, cn, cu, cv, tz, tw, tk, tm, tf) := by
  unfold f_X6_change_0
  rw [if_pos ht]
theorem ch_T1 {ff xw cw ck cm cf cu cv tb : Nat → Int32} {xn cn tz : Nat} {tw tk tm tf te : Int32} (ht : f_X5_has xn te = 0) : f_X6_change_1 ff xn xw cn cw ck cm cf cu cv tz tw tk tm tf tb te = ((f_X6_refuse ff (-1)).1, (f_X6_refuse ff (-1)).2, cw, ck, cm, cf, cn, cu, cv, tz, tw, tk, tm, tf) := by
  unfold f_X6_change_1
  rw [if_pos ht]
theorem pw_count0 {mz mr : Nat} {zf zs : Nat → Int32} : f_X7_count mz mr zf zs 0 = zs 160 := by
  unfold f_X7_count
  rw [if_pos (by decide), if_pos rfl]
  rfl
theorem pw_count1 {mz mr : Nat} {zf zs : Nat → Int32} : f_X7_count mz mr zf zs 1 = zs 161 := by
  unfold f_X7_count
  rw [if_pos (by decide), if_neg (by decide), if_pos rfl]
  rfl
theorem pw_countN {mz mr cn : Nat} {zf ff zs : Nat → Int32} {wh : Int32} (h0 : ¬ wh = 0) (h1 : ¬ wh = 1) (hc : zs 258 = nI cn) (hf : RF zf ff) : f_X7_count mz mr zf zs wh = f_X6_count mr ff cn mz wh := by
  unfold f_X7_count f_X6_count
  by_cases q2 : wh = 2
  · subst q2
    rw [if_pos (by decide), if_neg h0, if_neg h1, if_pos rfl, if_pos rfl, hc]
  · by_cases q3 : wh = 3
    · subst q3
      rw [if_pos (by decide), if_neg h0, if_neg h1, if_neg q2, if_pos rfl, if_neg q2, if_pos rfl]
    · by_cases q4 : wh = 4
      · subst q4
        rw [if_pos (by decide), if_neg h0, if_neg h1, if_neg q2, if_neg q3, if_pos rfl, if_neg q2, if_neg q3, if_pos rfl]
      · rw [if_neg h0, if_neg h1, if_neg q2, if_neg q3, if_neg q4, if_neg q2, if_neg q3, if_neg q4]
        by_cases q5 : wh ≤ 10
        · rw [if_pos q5, if_pos q5]
        · rw [if_neg q5, if_neg q5]
          by_cases q6 : (17 : Int32) ≤ wh
          · rw [if_pos q6, if_pos (Int32.lt_of_lt_of_le (by decide) q6)]
          · have q7 : ¬ (16 : Int32) < wh := fun z => q6 (by
              have z1 := Int32.lt_iff_toInt_lt.mp z
              have z2 : (16 : Int32).toInt = 16 := by decide
              have z3 : (17 : Int32).toInt = 17 := by decide
              rw [Int32.le_iff_toInt_le]
              omega)
            rw [if_neg q6, if_neg q7]
            obtain ⟨j, hj, e⟩ := vp_in_of (rix q5 q6) (by decide)
            rw [e, nI_clamp (by omega)]
            exact hf j hj
