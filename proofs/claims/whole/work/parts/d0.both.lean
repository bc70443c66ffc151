/-! BOTH SIDES' ANSWERS: method by method -/
def RF (zf ff : Nat → Int32) : Prop := ∀ j : Nat, j < 7 → zf j = ff j
theorem RF_upd {zf ff : Nat → Int32} (h : RF zf ff) (k : Nat) (x y : Int32) (e : x = y) : RF (upd zf k x) (upd ff k y) := fun j hj => by
  by_cases c : j = k
  · subst c; rw [pk_us, pk_us, e]
  · rw [pk_un c, pk_un c]; exact h j hj
theorem pw_ref {zf ff : Nat → Int32} {co : Int32} (h : RF zf ff) (h1 : ¬ (-co) ≤ 0) (h2 : ¬ nI 7 ≤ (-co)) (h3 : (-co).toNatClampNeg < 7) : (f_X7_refuse zf co).1 = (f_X6_refuse ff co).1 ∧ RF (f_X7_refuse zf co).2 (f_X6_refuse ff co).2 := by
  unfold f_X7_refuse f_X6_refuse
  rw [if_neg h1, if_neg h2]
  exact ⟨rfl, RF_upd h _ _ _ (by rw [h _ h3])⟩
theorem pw_r1 {zf ff : Nat → Int32} (h : RF zf ff) : (f_X7_refuse zf (-1)).1 = (f_X6_refuse ff (-1)).1 ∧ RF (f_X7_refuse zf (-1)).2 (f_X6_refuse ff (-1)).2 := pw_ref h (by decide) (by decide) (by decide)
theorem pw_r2 {zf ff : Nat → Int32} (h : RF zf ff) : (f_X7_refuse zf (-2)).1 = (f_X6_refuse ff (-2)).1 ∧ RF (f_X7_refuse zf (-2)).2 (f_X6_refuse ff (-2)).2 := pw_ref h (by decide) (by decide) (by decide)
theorem pw_r3 {zf ff : Nat → Int32} (h : RF zf ff) : (f_X7_refuse zf (-3)).1 = (f_X6_refuse ff (-3)).1 ∧ RF (f_X7_refuse zf (-3)).2 (f_X6_refuse ff (-3)).2 := pw_ref h (by decide) (by decide) (by decide)
theorem pw_r4 {zf ff : Nat → Int32} (h : RF zf ff) : (f_X7_refuse zf (-4)).1 = (f_X6_refuse ff (-4)).1 ∧ RF (f_X7_refuse zf (-4)).2 (f_X6_refuse ff (-4)).2 := pw_ref h (by decide) (by decide) (by decide)
theorem pw_r6 {zf ff : Nat → Int32} (h : RF zf ff) : (f_X7_refuse zf (-6)).1 = (f_X6_refuse ff (-6)).1 ∧ RF (f_X7_refuse zf (-6)).2 (f_X6_refuse ff (-6)).2 := pw_ref h (by decide) (by decide) (by decide)
theorem isS_Rg {x : Int32} (h : ¬ f_X6_isSet x = 0) : Rg x := isIn_Rg (by rw [isS_7]; exact h)
section PWB
variable {zs : Nat → Int32} {b xn : Nat} {xw xk xm xf : Nat → Int32} {xB : Int32} {xh xt : Nat → Int32} {zf ff : Nat → Int32}
theorem pw_needed (h : RB zs b xn xw xk xm xf xB xh xt) (hf : RF zf ff) (wo : Int32) : (f_X7_needed zf zs b xn wo).1 = (f_X6_needed_0 ff xn xw xm wo).1 ∧ RF (f_X7_needed zf zs b xn wo).2 (f_X6_needed_0 ff xn xw xm wo).2 := by
  unfold f_X7_needed f_X6_needed_0
  rw [isW_7]
  by_cases q : f_X6_isWord wo = 0
  · rw [if_pos q, if_pos q]; exact pw_r1 hf
  · rw [if_neg q, if_neg q]; exact ⟨pu_need h wo, hf⟩
theorem pw_leads (h : RB zs b xn xw xk xm xf xB xh xt) (hf : RF zf ff) (wo : Int32) : (f_X7_leads zf zs b xn wo).1 = (f_X6_leads_0 ff xn xw xm wo).1 ∧ RF (f_X7_leads zf zs b xn wo).2 (f_X6_leads_0 ff xn xw xm wo).2 := by
  unfold f_X7_leads f_X6_leads_0
  rw [isW_7]
  by_cases q : f_X6_isWord wo = 0
  · rw [if_pos q, if_pos q]; exact pw_r1 hf
  · rw [if_neg q, if_neg q]; exact ⟨pu_leads h wo, hf⟩
theorem pw_knot (h : RB zs b xn xw xk xm xf xB xh xt) (hf : RF zf ff) (wo : Int32) : (f_X7_knot zf zs b xn wo).1 = (f_X6_knot_0 ff xn xw xm wo).1 ∧ RF (f_X7_knot zf zs b xn wo).2 (f_X6_knot_0 ff xn xw xm wo).2 := by
  unfold f_X7_knot f_X6_knot_0
  rw [isW_7]
  by_cases q : f_X6_isWord wo = 0
  · rw [if_pos q, if_pos q]; exact pw_r1 hf
  · obtain ⟨v, hv, ev⟩ := isW_nI q
    rw [if_neg q, if_neg q, ev]; exact ⟨pu_knot h hv, hf⟩
theorem pw_idle (h : RB zs b xn xw xk xm xf xB xh xt) (hf : RF zf ff) : (f_X7_idle zf zs b xn).1 = (f_X6_idle_0 ff xn xm).1 ∧ RF (f_X7_idle zf zs b xn).2 (f_X6_idle_0 ff xn xm).2 := by
  rw [pu_idle h]; exact ⟨rfl, hf⟩
theorem pw_knots (h : RB zs b xn xw xk xm xf xB xh xt) (hf : RF zf ff) : (f_X7_knots zf zs b xn).1 = (f_X6_knots_0 ff xn xw xm).1 ∧ RF (f_X7_knots zf zs b xn).2 (f_X6_knots_0 ff xn xw xm).2 := by
  rw [pu_knots h]; exact ⟨rfl, hf⟩
theorem pw_learnt (h : RB zs b xn xw xk xm xf xB xh xt) (hf : RF zf ff) (kn : Int32) : (f_X7_learnt zf zs b xn kn).1 = (f_X6_learnt_0 ff xn xw xk xm xf xB kn).1 ∧ RF (f_X7_learnt zf zs b xn kn).2 (f_X6_learnt_0 ff xn xw xk xm xf xB kn).2 := by
  unfold f_X7_learnt f_X6_learnt_0
  rw [isS_7]
  by_cases q : f_X6_isSet kn = 0
  · rw [if_pos q, if_pos q]; exact pw_r1 hf
  · rw [if_neg q, if_neg q]; exact ⟨pu_lb h (isS_Rg q), hf⟩
theorem pw_depth (h : RB zs b xn xw xk xm xf xB xh xt) (hf : RF zf ff) (kn wo : Int32) : (f_X7_depth zf zs b xn kn wo).1 = (f_X6_depth_0 ff xn xw xk xm xf xB kn wo).1 ∧ RF (f_X7_depth zf zs b xn kn wo).2 (f_X6_depth_0 ff xn xw xk xm xf xB kn wo).2 := by
  unfold f_X7_depth f_X6_depth_0
  rw [isS_7, isW_7]
  by_cases q : f_X6_isSet kn = 0
  · rw [if_pos q, if_pos q]; exact pw_r1 hf
  · rw [if_neg q, if_neg q]
    by_cases q2 : f_X6_isWord wo = 0
    · rw [if_pos q2, if_pos q2]; exact pw_r1 hf
    · obtain ⟨v, hv, ev⟩ := isW_nI q2
      rw [if_neg q2, if_neg q2, ev, pu_dep h hv _ _ _ (isS_Rg q)]
      exact ⟨rfl, hf⟩
theorem pw_judge (h : RB zs b xn xw xk xm xf xB xh xt) (hf : RF zf ff) {rz : Nat} {zw rr : Nat → Int32} (hr : ∀ j : Nat, j < rz → zw j = rr j) (kn : Int32) : (f_X7_judge rz zf zs zw b xn kn).1 = (f_X6_judge_0 rz ff xn xw xk xm xf xB rr kn).1 ∧ RF (f_X7_judge rz zf zs zw b xn kn).2.1 (f_X6_judge_0 rz ff xn xw xk xm xf xB rr kn).2.1 ∧ (f_X7_judge rz zf zs zw b xn kn).2.2 = (f_X6_judge_0 rz ff xn xw xk xm xf xB rr kn).2.2 ∧ ((f_X6_judge_0 rz ff xn xw xk xm xf xB rr kn).2.2 = rz ∨ (f_X6_judge_0 rz ff xn xw xk xm xf xB rr kn).2.2 = 0) := by
  unfold f_X7_judge f_X6_judge_0
  rw [isS_7]
  by_cases q : f_X6_isSet kn = 0
  · rw [if_pos q, if_pos q]
    exact ⟨(pw_r1 hf).1, (pw_r1 hf).2, rfl, Or.inl rfl⟩
  · rw [if_neg q, if_neg q, pu_judge h rz 0 kn (by omega) hr (isS_Rg q)]
    exact ⟨rfl, hf, rfl, Or.inr rfl⟩
theorem pw_spread (h : RB zs b xn xw xk xm xf xB xh xt) (hf : RF zf ff) (kn wo : Int32) : (f_X7_spread zf zs b xn kn wo).1 = (f_X6_spread_0 ff xn xw xk xm xf xB kn wo).1 ∧ RF (f_X7_spread zf zs b xn kn wo).2 (f_X6_spread_0 ff xn xw xk xm xf xB kn wo).2 := by
  unfold f_X7_spread f_X6_spread_0 f_X7_wrongSpread
  rw [isS_7, isW_7]
  by_cases q : f_X6_isSet kn = 0
  · rw [if_pos q, if_pos q, if_neg (by decide)]; exact pw_r1 hf
  · rw [if_neg q, if_neg q]
    by_cases q2 : f_X6_isWord wo = 0
    · rw [if_pos q2, if_pos q2, if_neg (by decide)]; exact pw_r1 hf
    · obtain ⟨v, hv, ev⟩ := isW_nI q2
      rw [if_neg q2, if_neg q2, ev, shr_1 (isS_Rg q) hv, has_bt (isS_Rg q) hv]
      by_cases q3 : bt kn v = true
      · rw [if_pos q3, if_neg (show ¬ (1 : Int32) = 0 by decide), if_neg (show ¬ (1 : Int32) = 0 by decide), if_pos rfl]
        exact ⟨pu_spr h (isS_Rg q) hv q3, hf⟩
      · rw [if_neg q3, if_pos rfl, if_pos rfl, if_neg (by decide)]
        exact pw_r3 hf
theorem pw_shows (h : RB zs b xn xw xk xm xf xB xh xt) (hf : RF zf ff) (kn wo : Int32) : (f_X7_shows zf zs b xn kn wo).1 = (f_X6_shows_0 ff xn xw xk xm xf xB kn wo).1 ∧ RF (f_X7_shows zf zs b xn kn wo).2 (f_X6_shows_0 ff xn xw xk xm xf xB kn wo).2 := by
  unfold f_X7_shows f_X6_shows_0 f_X7_wrongSpread
  rw [isS_7, isW_7]
  by_cases q : f_X6_isSet kn = 0
  · rw [if_pos q, if_pos q, if_neg (by decide)]; exact pw_r1 hf
  · rw [if_neg q, if_neg q]
    by_cases q2 : f_X6_isWord wo = 0
    · rw [if_pos q2, if_pos q2, if_neg (by decide)]; exact pw_r1 hf
    · obtain ⟨v, hv, ev⟩ := isW_nI q2
      rw [if_neg q2, if_neg q2, ev, shr_1 (isS_Rg q) hv, has_bt (isS_Rg q) hv]
      by_cases q3 : bt kn v = true
      · rw [if_pos q3, if_neg (show ¬ (1 : Int32) = 0 by decide), if_neg (show ¬ (1 : Int32) = 0 by decide), if_pos rfl, pu_shows h (isS_Rg q) hv q3]
        exact ⟨rfl, hf⟩
      · rw [if_neg q3, if_pos rfl, if_pos rfl, if_neg (by decide)]
        exact pw_r3 hf
variable {Fc Fg Fw Fn Fm Fa Fs : Int32} {Fd : Nat → Int32}
theorem pw_fewest (h : RB zs b xn xw xk xm xf xB xh xt) (hf : RF zf ff) : (f_X7_fewest zf zs b xn).1 = (f_X6_fewest_0 ff xn xw xk xm xf xB Fm Fa Fs Fd).1 ∧ RF (f_X7_fewest zf zs b xn).2 ff := ⟨pu_fewest h, hf⟩
theorem pw_lightest (h : RB zs b xn xw xk xm xf xB xh xt) (hf : RF zf ff) : (f_X7_lightest zf zs b xn).1 = (f_X6_lightest_0 ff xn xw xk xm xf xB xh Fm Fa Fs Fd).1 ∧ RF (f_X7_lightest zf zs b xn).2 ff := by
  rw [pu_light (Fm := Fm) (Fa := Fa) (Fs := Fs) (Fd := Fd) h]
  exact ⟨rfl, hf⟩
theorem isIn3 {wh : Int32} : f_X7_isIn wh 3 = 0 ↔ (wh < 0 ∨ ¬ wh ≤ 2) := by
  unfold f_X7_isIn
  by_cases q : wh < 0
  · rw [if_pos q]; exact ⟨fun _ => Or.inl q, fun _ => rfl⟩
  · obtain ⟨j, hj, rfl⟩ := nI_of q
    have c1 : (3 : Int32) ≤ nI j ↔ 3 ≤ j := nI_leI (a := 3) (by omega) hj
    have c2 : nI j ≤ 2 ↔ j ≤ 2 := nI_leI (b := 2) hj (by omega)
    rw [if_neg q, c2]
    by_cases q2 : 3 ≤ j
    · rw [if_pos (c1.mpr q2)]; exact ⟨fun _ => Or.inr (by omega), fun _ => rfl⟩
    · rw [if_neg (fun z => q2 (c1.mp z))]
      exact ⟨fun z => absurd z (by decide), fun z => z.elim (fun z => absurd z q) (fun z => absurd (by omega) z)⟩
theorem pw_sets (h : RB zs b xn xw xk xm xf xB xh xt) (hf : RF zf ff) (wh : Int32) : (f_X7_sets zf zs b xn wh).1 = (f_X6_sets_0 ff xn xw xk xm xf xB Fc Fg Fw Fn Fm Fa Fs Fd wh).1 ∧ RF (f_X7_sets zf zs b xn wh).2 (f_X6_sets_0 ff xn xw xk xm xf xB Fc Fg Fw Fn Fm Fa Fs Fd wh).2.1 := by
  unfold f_X7_sets f_X6_sets_0
  rw [pu_sets (Fm := Fm) (Fa := Fa) (Fs := Fs) (Fd := Fd) h]
  by_cases q : wh < 0
  · rw [if_pos (isIn3.mpr (Or.inl q)), if_pos q]; exact pw_r2 hf
  · rw [if_neg q]
    by_cases q2 : wh ≤ 2
    · rw [if_neg (fun z => (isIn3.mp z).elim (fun z => q z) (fun z => z q2)), if_pos q2]
      by_cases q3 : wh = 0
      · rw [if_pos q3, if_pos q3]; exact ⟨rfl, hf⟩
      · rw [if_neg q3, if_neg q3]
        by_cases q4 : wh = 1
        · rw [if_pos q4, if_pos q4]; exact ⟨rfl, hf⟩
        · rw [if_neg q4, if_neg q4]; exact ⟨rfl, hf⟩
    · rw [if_pos (isIn3.mpr (Or.inr q2)), if_neg q2]; exact pw_r2 hf
end PWB
section PWT
variable {zs : Nat → Int32} {b xn : Nat} {xw xk xm xf : Nat → Int32} {xB : Int32} {xh xt : Nat → Int32} {zf ff : Nat → Int32}
variable {yn : Nat} {yw yk ym yf : Nat → Int32} {yB : Int32} {yh yt : Nat → Int32} {Fm Fa Fs : Int32} {Fd : Nat → Int32}
theorem few_6 : (f_X6_fewestOf Fm Fa Fs Fd xn xw xk xm xf xB).1 = (f_X2_find Fm Fa Fs Fd xn xw xk xm xf xB 0).2.2.2.1 := by
  unfold f_X6_fewestOf
  rfl
theorem pw_carries (h : RB zs b xn xw xk xm xf xB xh xt) (h2 : RB zs (1 - b) yn yw yk ym yf yB yh yt) (hf : RF zf ff) : (f_X7_carries zf zs b xn yn).1 = (f_X6_carries_0 ff xn xw xk xm xf xB yn yw yk ym yf yB Fm Fa Fs Fd).1 ∧ RF (f_X7_carries zf zs b xn yn).2 (f_X6_carries_0 ff xn xw xk xm xf xB yn yw yk ym yf yB Fm Fa Fs Fd).2.1 := by
  unfold f_X7_carries f_X6_carries_0
  rw [few_6, ← pu_fewest (Fm := Fm) (Fa := Fa) (Fs := Fs) (Fd := Fd) h]
  have hR := (few_F h).1
  by_cases q : f_X0_learntFrom yn yw yk ym yf yB (f_X7_fewestOf zs b xn) = 4095
  · rw [if_pos q, if_neg (fun z => (pu_isF h2 hR).mp z q)]; exact ⟨rfl, hf⟩
  · rw [if_neg q, if_pos ((pu_isF h2 hR).mpr q)]; exact ⟨rfl, hf⟩
theorem pw_lacks (h : RB zs b xn xw xk xm xf xB xh xt) (h2 : RB zs (1 - b) yn yw yk ym yf yB yh yt) (hf : RF zf ff) : (f_X7_lacks zf zs b xn yn).1 = (f_X6_lacks_0 ff xn xw xk xm xf xB yn yw yk ym yf yB Fm Fa Fs Fd).1 ∧ RF (f_X7_lacks zf zs b xn yn).2 (f_X6_lacks_0 ff xn xw xk xm xf xB yn yw yk ym yf yB Fm Fa Fs Fd).2.1 := by
  unfold f_X6_lacks_0
  have hR := (few_F h).1
  have e := pu_fewest (Fm := Fm) (Fa := Fa) (Fs := Fs) (Fd := Fd) h
  rw [← few_6] at e
  obtain ⟨r, hr⟩ : ∃ r, f_X6_fewestOf Fm Fa Fs Fd xn xw xk xm xf xB = r := ⟨_, rfl⟩
  rw [hr] at e ⊢
  rw [← e]
  rw [pu_lacks (Fm := r.2.2.2.2.2.2.1) (Fa := r.2.2.2.2.2.2.2.1) (Fs := r.2.2.2.2.2.2.2.2) (Fd := r.2.1) h2 rfl hR rfl]
  exact ⟨rfl, hf⟩
end PWT
