/-! THE PURE PART: fewest, sets, lightest, lacks of both sides -/
section FEW
variable {zs : Nat → Int32} {b xn : Nat} {xw xk xm xf : Nat → Int32} {xB : Int32} {xh xt : Nat → Int32} {gv : Int32}
theorem pu_T0 (j : Nat) : pu_T xn xw xk xm xf xB 0 j = true ↔ f_X0_learntFrom xn xw xk xm xf xB (nI j) = 4095 := by
  unfold pu_T
  rw [decide_eq_true_eq, Int32.and_zero]
  simp only [true_and]
theorem pu_T95 (hB : BB xn xw xk xm xf xB) (hgv : Rg gv) : pu_T xn xw xk xm xf xB gv 4095 = true := by
  have h := (pu_T_sub hB hgv Rg_4095).mpr ⟨sub_4095 _, lf_self hB Rg_4095 (tn_4095 hB)⟩
  rw [nv_4095] at h
  exact h
theorem pu_findE (hB : BB xn xw xk xm xf xB) (hgv : Rg gv) {Fm Fa Fs : Int32} {Fd : Nat → Int32} : ∃ m j0 : Nat, j0 < 4096 ∧ pu_T xn xw xk xm xf xB gv j0 = true ∧ pc (nI j0) = m ∧ (∀ j : Nat, j < 4096 → pu_T xn xw xk xm xf xB gv j = true → m ≤ pc (nI j)) ∧ (∀ j : Nat, j < 4096 → pu_T xn xw xk xm xf xB gv j = true → pc (nI j) = m → j0 ≤ j) ∧ (f_X2_find Fm Fa Fs Fd xn xw xk xm xf xB gv).2.2.2.1 = nI j0 ∧ (f_X2_find Fm Fa Fs Fd xn xw xk xm xf xB gv).2.2.2.2.1 = nI m ∧ (f_X2_find Fm Fa Fs Fd xn xw xk xm xf xB gv).2.2.2.2.2.1 = nI (pcn (fun j => pu_T xn xw xk xm xf xB gv j && pc (nI j) == m) 4096) ∧ Rg (f_X2_find Fm Fa Fs Fd xn xw xk xm xf xB gv).2.2.2.2.2.2.1 ∧ Rg (f_X2_find Fm Fa Fs Fd xn xw xk xm xf xB gv).2.2.2.2.2.2.2 ∧ (∀ w : Nat, w < 12 → (bt (f_X2_find Fm Fa Fs Fd xn xw xk xm xf xB gv).2.2.2.2.2.2.1 w = true ↔ ∀ j : Nat, j < 4096 → pu_T xn xw xk xm xf xB gv j = true → pc (nI j) = m → bt (nI j) w = true)) ∧ (∀ w : Nat, w < 12 → (bt (f_X2_find Fm Fa Fs Fd xn xw xk xm xf xB gv).2.2.2.2.2.2.2 w = true ↔ ∃ j : Nat, j < 4096 ∧ pu_T xn xw xk xm xf xB gv j = true ∧ pc (nI j) = m ∧ bt (nI j) w = true)) := by
  rcases (pu_find (Fm := Fm) (Fa := Fa) (Fs := Fs) (Fd := Fd) hB hgv).1 with ⟨h1, _⟩ | h
  · have := h1 4095 (by decide)
    rw [pu_T95 hB hgv] at this
    cases this
  · exact h
theorem few_a (h : RB zs b xn xw xk xm xf xB xh xt) {cont : Int32} {n : Nat} (hn : n ≤ 12) : ∀ k i : Nat, k + i = 4096 → (∀ j : Nat, i ≤ j → j < 4096 → f_X0_learntFrom xn xw xk xm xf xB (nI j) = 4095 → ¬ pc (nI j) = n) → f_X7_fewestOf_10 cont zs b xn n k i = cont := by
  intro k
  induction k with
  | zero => intro i _ _; rw [f_X7_fewestOf_10_z]
  | succ k ih =>
    intro i hk hno
    have hi : i < 4096 := by omega
    have hR : Rg (nI i) := Rg_of hi
    have hp := pc_le12 (nI i)
    rw [f_X7_fewestOf_10_s, pu_b7 hR]
    have hr := ih (i + 1) (by omega) (fun j hj => hno j (by omega))
    by_cases q : pc (nI i) = n
    · rw [if_pos (by rw [q])]
      have q2 : f_X7_isFoundation zs b xn (nI i) = 0 := (pu_isF h hR).mpr (fun z => hno i (Nat.le_refl _) hi z q)
      rw [if_pos q2]
      exact hr
    · rw [if_neg (fun z => q ((nI_eq (by omega) (by omega)).mp z))]
      exact hr
theorem few_b (h : RB zs b xn xw xk xm xf xB xh xt) {cont : Int32} {n j0 : Nat} (hn : n ≤ 12) (h0 : j0 < 4096) (h1 : f_X0_learntFrom xn xw xk xm xf xB (nI j0) = 4095) (h2 : pc (nI j0) = n) (h4 : ∀ j : Nat, j < 4096 → f_X0_learntFrom xn xw xk xm xf xB (nI j) = 4095 → pc (nI j) = n → j0 ≤ j) : ∀ k i : Nat, k + i = 4096 → i ≤ j0 → f_X7_fewestOf_10 cont zs b xn n k i = nI j0 := by
  intro k
  induction k with
  | zero => intro i hk hi; omega
  | succ k ih =>
    intro i hk hle
    have hi : i < 4096 := by omega
    have hR : Rg (nI i) := Rg_of hi
    have hp := pc_le12 (nI i)
    rw [f_X7_fewestOf_10_s, pu_b7 hR]
    by_cases e : i = j0
    · subst e
      rw [if_pos (by rw [h2]), if_neg (fun z => (pu_isF h hR).mp z h1)]
    · have hr := ih (i + 1) (by omega) (by omega)
      by_cases q : pc (nI i) = n
      · rw [if_pos (by rw [q])]
        have q2 : f_X7_isFoundation zs b xn (nI i) = 0 := (pu_isF h hR).mpr (fun z => by
          have := h4 i hi z q
          omega)
        rw [if_pos q2]
        exact hr
      · rw [if_neg (fun z => q ((nI_eq (by omega) (by omega)).mp z))]
        exact hr
theorem few_2 (h : RB zs b xn xw xk xm xf xB xh xt) {m j0 : Nat} (h0 : j0 < 4096) (h1 : f_X0_learntFrom xn xw xk xm xf xB (nI j0) = 4095) (h2 : pc (nI j0) = m) (h3 : ∀ j : Nat, j < 4096 → f_X0_learntFrom xn xw xk xm xf xB (nI j) = 4095 → m ≤ pc (nI j)) (h4 : ∀ j : Nat, j < 4096 → f_X0_learntFrom xn xw xk xm xf xB (nI j) = 4095 → pc (nI j) = m → j0 ≤ j) : ∀ k i : Nat, k + i = 12 → i ≤ m → f_X7_fewestOf_2 zs b xn k i = nI j0 := by
  have hm : m ≤ 12 := by rw [← h2]; exact pc_le12 _
  intro k
  induction k with
  | zero =>
    intro i hk hi
    rw [f_X7_fewestOf_2_z]
    exact (pc_12 (Rg_of h0) (by omega)).symm
  | succ k ih =>
    intro i hk hi
    rw [f_X7_fewestOf_2_s]
    rcases Nat.lt_or_ge i m with c | c
    · rw [few_a h (by omega) 4096 0 rfl (fun j _ hj z q => by have := h3 j hj z; omega)]
      exact ih (i + 1) (by omega) (by omega)
    · have e : i = m := by omega
      subst e
      exact few_b h hm h0 h1 h2 h4 4096 0 rfl (Nat.zero_le _)
theorem pu_few (h : RB zs b xn xw xk xm xf xB xh xt) {m j0 : Nat} (h0 : j0 < 4096) (h1 : pu_T xn xw xk xm xf xB 0 j0 = true) (h2 : pc (nI j0) = m) (h3 : ∀ j : Nat, j < 4096 → pu_T xn xw xk xm xf xB 0 j = true → m ≤ pc (nI j)) (h4 : ∀ j : Nat, j < 4096 → pu_T xn xw xk xm xf xB 0 j = true → pc (nI j) = m → j0 ≤ j) : f_X7_fewestOf zs b xn = nI j0 := few_2 h h0 ((pu_T0 j0).mp h1) h2 (fun j hj z => h3 j hj ((pu_T0 j).mpr z)) (fun j hj z => h4 j hj ((pu_T0 j).mpr z)) 12 0 rfl (Nat.zero_le _)
/-- FEWEST is the same -/
theorem pu_fewest (h : RB zs b xn xw xk xm xf xB xh xt) {Fm Fa Fs : Int32} {Fd : Nat → Int32} : f_X7_fewestOf zs b xn = (f_X2_find Fm Fa Fs Fd xn xw xk xm xf xB 0).2.2.2.1 := by
  obtain ⟨m, j0, h0, h1, h2, h3, h4, h5, _⟩ := pu_findE (Fm := Fm) (Fa := Fa) (Fs := Fs) (Fd := Fd) h.2.1 Rg_0
  rw [h5]
  exact pu_few h h0 h1 h2 h3 h4
theorem few_F (h : RB zs b xn xw xk xm xf xB xh xt) : Rg (f_X7_fewestOf zs b xn) ∧ f_X0_learntFrom xn xw xk xm xf xB (f_X7_fewestOf zs b xn) = 4095 := by
  obtain ⟨m, j0, h0, h1, h2, h3, h4, h5, _⟩ := pu_findE (Fm := 0) (Fa := 0) (Fs := 0) (Fd := fun _ => 0) h.2.1 Rg_0
  rw [pu_few h h0 h1 h2 h3 h4]
  exact ⟨Rg_of h0, (pu_T0 j0).mp h1⟩
/-- how many words FEWEST has -/
theorem pu_fwords (h : RB zs b xn xw xk xm xf xB xh xt) {Fm Fa Fs : Int32} {Fd : Nat → Int32} : nI (pc (f_X7_fewestOf zs b xn)) = (f_X2_find Fm Fa Fs Fd xn xw xk xm xf xB 0).2.2.2.2.1 := by
  obtain ⟨m, j0, h0, h1, h2, h3, h4, _, h6, _⟩ := pu_findE (Fm := Fm) (Fa := Fa) (Fs := Fs) (Fd := Fd) h.2.1 Rg_0
  rw [h6, pu_few h h0 h1 h2 h3 h4, h2]
/-- SETS, MUST, MAY -/
theorem sets_51 (h : RB zs b xn xw xk xm xf xB xh xt) {zf : Nat → Int32} {wh : Int32} {m : Nat} (hm : m ≤ 12) (hfew : f_X7_bits (f_X7_fewestOf zs b xn) = nI m) {q5 q6 q7 : Int32} (h7 : q5 = nI (pcn (fun j => pu_T xn xw xk xm xf xB 0 j && pc (nI j) == m) 4096)) (r6 : Rg q6) (r7 : Rg q7) (h6 : ∀ w : Nat, w < 12 → (bt q6 w = true ↔ ∀ j : Nat, j < 4096 → pu_T xn xw xk xm xf xB 0 j = true → pc (nI j) = m → bt (nI j) w = true)) (h8 : ∀ w : Nat, w < 12 → (bt q7 w = true ↔ ∃ j : Nat, j < 4096 ∧ pu_T xn xw xk xm xf xB 0 j = true ∧ pc (nI j) = m ∧ bt (nI j) w = true)) :
    ∀ (k i : Nat) (v4 v5 v6 : Int32), k + i = 4096 → v4 = nI (pcn (fun j => pu_T xn xw xk xm xf xB 0 j && pc (nI j) == m) i) → Rg v5 → Rg v6 → (∀ w : Nat, w < 12 → (bt v5 w = true ↔ ∀ j : Nat, j < i → pu_T xn xw xk xm xf xB 0 j = true → pc (nI j) = m → bt (nI j) w = true)) → (∀ w : Nat, w < 12 → (bt v6 w = true ↔ ∃ j : Nat, j < i ∧ pu_T xn xw xk xm xf xB 0 j = true ∧ pc (nI j) = m ∧ bt (nI j) w = true)) → f_X7_sets_51 zf zs b xn wh k i v4 v5 v6 = (if wh = 0 then (q5, zf) else (if wh = 1 then (q6, zf) else (q7, zf))) := by
  intro k
  induction k with
  | zero =>
    intro i v4 v5 v6 hk e4 r5 r6' e5 e6
    have hi : i = 4096 := by omega
    subst hi
    rw [f_X7_sets_51_z, e4, ← h7]
    have a5 : v5 = q6 := Rg_ext r5 r6 (fun w hw => by rw [Bool.eq_iff_iff, e5 w hw, h6 w hw])
    have a6 : v6 = q7 := Rg_ext r6' r7 (fun w hw => by rw [Bool.eq_iff_iff, e6 w hw, h8 w hw])
    rw [a5, a6]
  | succ k ih =>
    intro i v4 v5 v6 hk e4 r5 r6' e5 e6
    have hi : i < 4096 := by omega
    have hR : Rg (nI i) := Rg_of hi
    have hp := pc_le12 (nI i)
    rw [f_X7_sets_51_s, pu_b7 hR, hfew]
    have hskip : ¬ (pu_T xn xw xk xm xf xB 0 i = true ∧ pc (nI i) = m) → f_X7_sets_51 zf zs b xn wh k (i + 1) v4 v5 v6 = (if wh = 0 then (q5, zf) else (if wh = 1 then (q6, zf) else (q7, zf))) := by
      intro hno
      refine ih (i + 1) _ _ _ (by omega) ?_ r5 r6' (fun w hw => ?_) (fun w hw => ?_)
      · rw [e4]
        simp only [pcn]
        rw [if_neg (fun z => hno (by rw [Bool.and_eq_true, beq_iff_eq] at z; exact z))]
        rfl
      · rw [e5 w hw]
        constructor
        · intro z j hj q r
          rcases Nat.lt_or_ge j i with c | c
          · exact z j c q r
          · have e : j = i := by omega
            subst e
            exact absurd ⟨q, r⟩ hno
        · intro z j hj q r; exact z j (by omega) q r
      · rw [e6 w hw, pu_bt_ex]
        exact ⟨Or.inl, fun z => z.elim id (fun z => absurd ⟨z.1, z.2.1⟩ hno)⟩
    by_cases q : pc (nI i) = m
    · rw [if_pos (by rw [q])]
      by_cases q2 : f_X7_isFoundation zs b xn (nI i) = 0
      · rw [if_pos q2]
        exact hskip (fun z => (pu_isF h hR).mp q2 ((pu_T0 i).mp z.1))
      · rw [if_neg q2]
        have qT : pu_T xn xw xk xm xf xB 0 i = true := (pu_T0 i).mpr (Classical.byContradiction (fun z => q2 ((pu_isF h hR).mpr z)))
        refine ih (i + 1) _ _ _ (by omega) ?_ (Rg_and r5) (Rg_or r6' hR) (fun w hw => ?_) (fun w hw => ?_)
        · rw [e4]
          simp only [pcn]
          rw [if_pos (by rw [qT, q, Bool.true_and]; exact beq_iff_eq.mpr rfl), nI_1]
        · rw [bt_and, Bool.and_eq_true, e5 w hw]
          constructor
          · rintro ⟨z1, z2⟩ j hj y r
            rcases Nat.lt_or_ge j i with c | c
            · exact z1 j c y r
            · have e : j = i := by omega
              subst e
              exact z2
          · intro z
            exact ⟨fun j hj y r => z j (by omega) y r, z i (by omega) qT q⟩
        · rw [bt_or, Bool.or_eq_true, e6 w hw, pu_bt_ex]
          exact ⟨fun z => z.elim Or.inl (fun z => Or.inr ⟨qT, q, z⟩), fun z => z.elim Or.inl (fun z => Or.inr z.2.2)⟩
    · rw [if_neg (fun z => q ((nI_eq (by omega) (by omega)).mp z))]
      exact hskip (fun z => q z.2)
theorem pu_sets (h : RB zs b xn xw xk xm xf xB xh xt) {zf : Nat → Int32} {wh Fm Fa Fs : Int32} {Fd : Nat → Int32} : f_X7_sets_51 zf zs b xn wh 4096 0 0 4095 0 = (if wh = 0 then ((f_X2_find Fm Fa Fs Fd xn xw xk xm xf xB 0).2.2.2.2.2.1, zf) else (if wh = 1 then ((f_X2_find Fm Fa Fs Fd xn xw xk xm xf xB 0).2.2.2.2.2.2.1, zf) else ((f_X2_find Fm Fa Fs Fd xn xw xk xm xf xB 0).2.2.2.2.2.2.2, zf))) := by
  obtain ⟨m, j0, h0, h1, h2, h3, h4, _, _, h7, r6, r7, h6, h8⟩ := pu_findE (Fm := Fm) (Fa := Fa) (Fs := Fs) (Fd := Fd) h.2.1 Rg_0
  have hm : m ≤ 12 := by rw [← h2]; exact pc_le12 _
  refine sets_51 h hm ?_ h7 r6 r7 h6 h8 4096 0 0 4095 0 rfl rfl Rg_4095 Rg_0 (fun w hw => ?_) (fun w hw => ?_)
  · rw [pu_few h h0 h1 h2 h3 h4, pu_b7 (Rg_of h0), h2]
  · rw [bt_4095 hw]
    exact ⟨fun _ j hj => absurd hj (Nat.not_lt_zero _), fun _ => rfl⟩
  · rw [bt_0]
    exact ⟨fun z => (by cases z), fun ⟨j, hj, _⟩ => absurd hj (Nat.not_lt_zero _)⟩
/-- LACKS -/
theorem pc_dis {a c : Int32} (h : ∀ w : Nat, w < 12 → bt a w = true → bt c w = false) : pc (a ||| c) = pc a + pc c := by
  unfold pc
  rw [← pcn_or 12 h]
  exact pcn_congr 12 (fun w _ => bt_or a c w)
theorem lk_dis {a own : Int32} (ha : Rg a) (h : a &&& own = 0) : ∀ w : Nat, w < 12 → bt a w = true → bt own w = false := fun w hw e => by
  have h2 : bt (a &&& own) w = false := by rw [h, bt_0]
  rw [bt_and, e, Bool.true_and] at h2
  exact h2
theorem lk_30 (h : RB zs b xn xw xk xm xf xB xh xt) {zf : Nat → Int32} {b1 bn : Nat} (hb1 : 1 - b1 = b) {own : Int32} (ho : Rg own) (hfew : f_X7_fewestOf zs b1 bn = own) {x : Int32} (hx : Rg x) (hx0 : x &&& own = 0) (hxF : f_X0_learntFrom xn xw xk xm xf xB (x ||| own) = 4095) (hxm : ∀ y : Int32, Rg y → y &&& own = 0 → f_X0_learntFrom xn xw xk xm xf xB (y ||| own) = 4095 → pc x ≤ pc y ∧ (pc y = pc x → nv x ≤ nv y)) :
    ∀ (k i : Nat) (v : Int32), k + i = 4096 → Rg v → v &&& own = 0 → f_X0_learntFrom xn xw xk xm xf xB (v ||| own) = 4095 → (∀ j : Nat, j < i → nI j &&& own = 0 → f_X0_learntFrom xn xw xk xm xf xB (nI j ||| own) = 4095 → pc v ≤ pc (nI j) ∧ (pc (nI j) = pc v → nv v ≤ j)) → (nv v < i ∨ ∀ j : Nat, j < 4096 → nI j &&& own = 0 → pc (nI j) = pc v → nv v ≤ j) → f_X7_lacks_30 zf zs b1 bn xn k i v = (x, zf) := by
  intro k
  induction k with
  | zero =>
    intro i v hk hv h0 hF hmin _
    have hi : i = 4096 := by omega
    subst hi
    rw [f_X7_lacks_30_z]
    have m1 := hxm v hv h0 hF
    have e : nI (nv x) = x := nI_nv x
    have m2 := hmin (nv x) (nv_lt hx) (by rw [e]; exact hx0) (by rw [e]; exact hxF)
    rw [e] at m2
    have hpc : pc v = pc x := by omega
    have : nv v = nv x := Nat.le_antisymm (m2.2 hpc.symm) (m1.2 hpc)
    rw [nv_inj this]
  | succ k ih =>
    intro i v hk hv h0 hF hmin hlt
    have hi : i < 4096 := by omega
    have hR : Rg (nI i) := Rg_of hi
    have hp1 := pc_le12 (nI i)
    have hp2 := pc_le12 v
    rw [f_X7_lacks_30_s, hfew, hb1]
    have hkeep : (nI i &&& own = 0 → f_X0_learntFrom xn xw xk xm xf xB (nI i ||| own) = 4095 → pc v ≤ pc (nI i) ∧ (pc (nI i) = pc v → nv v ≤ i)) → f_X7_lacks_30 zf zs b1 bn xn k (i + 1) v = (x, zf) := fun hk2 => ih (i + 1) v (by omega) hv h0 hF (fun j hj => by
      rcases Nat.lt_or_ge j i with c | c
      · exact hmin j c
      · have e : j = i := by omega
        subst e
        exact hk2) (hlt.imp (fun z => by omega) id)
    by_cases q : nI i &&& own = 0
    · rw [if_pos q, pu_b7 hv, pu_b7 hR]
      by_cases q2 : pc v ≤ pc (nI i)
      · rw [if_pos (nI_le q2 (by omega))]
        refine hkeep (fun _ _ => ⟨q2, fun z => ?_⟩)
        rcases hlt with c | c
        · omega
        · exact c i hi q z
      · rw [if_neg (nI_ge (by omega) (by omega))]
        by_cases q3 : f_X7_isFoundation zs b xn (nI i ||| own) = 0
        · rw [if_pos q3]
          exact hkeep (fun _ z => absurd z ((pu_isF h (Rg_or hR ho)).mp q3))
        · rw [if_neg q3]
          have hF2 : f_X0_learntFrom xn xw xk xm xf xB (nI i ||| own) = 4095 := Classical.byContradiction (fun z => q3 ((pu_isF h (Rg_or hR ho)).mpr z))
          refine ih (i + 1) (nI i) (by omega) hR q hF2 (fun j hj a1 a2 => ?_) (Or.inl (by rw [nv_nI (by omega)]; omega))
          rw [nv_nI (by omega)]
          rcases Nat.lt_or_ge j i with c | c
          · have := hmin j c a1 a2
            exact ⟨by omega, fun z => by omega⟩
          · have e : j = i := by omega
            subst e
            exact ⟨Nat.le_refl _, fun _ => Nat.le_refl _⟩
    · rw [if_neg q]
      exact hkeep (fun z => absurd z q)
theorem pu_lacks (h : RB zs b xn xw xk xm xf xB xh xt) {zf : Nat → Int32} {b1 bn : Nat} (hb1 : 1 - b1 = b) {own : Int32} (ho : Rg own) (hfew : f_X7_fewestOf zs b1 bn = own) {Fm Fa Fs : Int32} {Fd : Nat → Int32} : f_X7_lacks zf zs b1 bn xn = ((f_X2_find Fm Fa Fs Fd xn xw xk xm xf xB own).2.2.2.1 &&& (own ^^^ (-1 : Int32)), zf) := by
  obtain ⟨m, j0, h0, h1, h2, h3, h4, h5, _⟩ := pu_findE (Fm := Fm) (Fa := Fa) (Fs := Fs) (Fd := Fd) h.2.1 ho
  rw [h5]
  have hR0 : Rg (nI j0) := Rg_of h0
  have e0 : nv (nI j0) = j0 := nv_nI (by omega)
  have hT := (pu_T_sub h.2.1 ho hR0).mp (by rw [e0]; exact h1)
  have hbd : ∀ (a : Int32) (w : Nat), w < 12 → bt (a &&& (own ^^^ (-1 : Int32))) w = (bt a w && !bt own w) := fun a w hw => by rw [bt_and, bt_xm1 _ (by omega)]
  have hx0 : (nI j0 &&& (own ^^^ (-1 : Int32))) &&& own = 0 := Rg_ext (Rg_and (Rg_and hR0)) Rg_0 (fun w hw => by
    rw [bt_and, hbd _ w hw, bt_0]
    cases bt (nI j0) w <;> cases bt own w <;> rfl)
  have hxo : (nI j0 &&& (own ^^^ (-1 : Int32))) ||| own = nI j0 := Rg_ext (Rg_or (Rg_and hR0) ho) hR0 (fun w hw => by
    rw [bt_or, hbd _ w hw]
    cases e : bt own w
    · simp
    · rw [hT.1 w hw e]; rfl)
  have hc0 : ((own ^^^ (-1 : Int32)) &&& (4095 : Int32)) &&& own = 0 := Rg_ext (Rg_and (Rg_and' Rg_4095)) Rg_0 (fun w hw => by
    rw [bt_and, bt_and, bt_xm1 _ (by omega), bt_0]
    cases bt own w
    · rw [Bool.and_false]
    · rfl)
  have hco : ((own ^^^ (-1 : Int32)) &&& (4095 : Int32)) ||| own = 4095 := Rg_ext (Rg_or (Rg_and' Rg_4095) ho) Rg_4095 (fun w hw => by
    rw [bt_or, bt_and, bt_xm1 _ (by omega), bt_4095 hw]
    cases bt own w <;> rfl)
  unfold f_X7_lacks
  rw [hfew]
  refine lk_30 h hb1 ho hfew (Rg_and hR0) hx0 (by rw [hxo]; exact hT.2) (fun y hy hy0 hyF => ?_) 4096 0 _ rfl (Rg_and' Rg_4095) hc0 (by rw [hco]; exact lf_self h.2.1 Rg_4095 (tn_4095 h.2.1)) (fun j hj => absurd hj (Nat.not_lt_zero _)) (Or.inr (fun j hj q z => ?_))
  · have hyR : Rg (y ||| own) := Rg_or hy ho
    have hyT := (pu_T_sub h.2.1 ho hyR).mpr ⟨sub_or_r _ _, hyF⟩
    have m1 := h3 _ (nv_lt hyR) hyT
    have m2 := h4 _ (nv_lt hyR) hyT
    rw [nI_nv] at m1 m2
    have p1 := pc_dis (lk_dis hy hy0)
    have p2 := pc_dis (lk_dis (Rg_and hR0) hx0)
    rw [hxo, h2] at p2
    have n1 := nv_dis hy ho (lk_dis hy hy0)
    have n2 := nv_dis (Rg_and hR0) ho (lk_dis (Rg_and hR0) hx0)
    rw [hxo, e0] at n2
    refine ⟨by omega, fun z => ?_⟩
    have := m2 (by omega)
    omega
  · have hj2 : Rg (nI j) := Rg_of hj
    have hs : pu_sub (nI j) ((own ^^^ (-1 : Int32)) &&& (4095 : Int32)) := fun w hw e => by
      rw [bt_and, bt_xm1 _ (by omega), bt_4095 hw, lk_dis hj2 q w hw e]
      rfl
    have e := pc_sub_eq hj2 (Rg_and' Rg_4095) hs z
    rw [← e, nv_nI (by omega)]
    exact Nat.le_refl _
end FEW
