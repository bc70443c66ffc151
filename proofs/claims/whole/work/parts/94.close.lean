/-! THE PURE PART: what is learnt in the end -/
section CLO
variable {xn : Nat} {xw xk xm xf : Nat → Int32} {xB : Int32}
theorem tn_rg (hB : BB xn xw xk xm xf xB) (s : Int32) : Rg (f_X0_taughtNext xn xw xk xm xf xB s) := Rg_taught s hB.v
theorem tn_dis (hB : BB xn xw xk xm xf xB) {s : Int32} (hs : Rg s) {w : Nat} (hw : w < 12) (h : bt (f_X0_taughtNext xn xw xk xm xf xB s) w = true) : bt s w = false := ((pu_tn hB hs hw).mp h).1
theorem tn_z (hB : BB xn xw xk xm xf xB) {s : Int32} (hs : Rg s) : f_X0_taughtNext xn xw xk xm xf xB s = 0 ↔ ∀ w : Nat, w < 12 → bt s w = false → ¬ GW xn xw xk xm xf xB s w := by
  constructor
  · intro h w hw h1 h2
    have := (pu_tn hB hs hw).mpr ⟨h1, h2⟩
    rw [h, bt_0] at this
    cases this
  · intro h
    refine Rg_ext (tn_rg hB s) Rg_0 (fun w hw => ?_)
    rw [bt_0]
    refine Bool.eq_false_iff.mpr (fun q => ?_)
    obtain ⟨h1, h2⟩ := (pu_tn hB hs hw).mp q
    exact h w hw h1 h2
theorem tn_ne (hB : BB xn xw xk xm xf xB) {s : Int32} (h : ¬ f_X0_taughtNext xn xw xk xm xf xB s = 0) : ∃ w : Nat, w < 12 ∧ bt (f_X0_taughtNext xn xw xk xm xf xB s) w = true := by
  apply Classical.byContradiction
  intro q
  refine h (Rg_ext (tn_rg hB s) Rg_0 (fun w hw => ?_))
  rw [bt_0]
  exact Bool.eq_false_iff.mpr (fun z => q ⟨w, hw, z⟩)
theorem tn_up (hB : BB xn xw xk xm xf xB) {s : Int32} (hs : Rg s) (h : ¬ f_X0_taughtNext xn xw xk xm xf xB s = 0) : pc s < pc (s ||| f_X0_taughtNext xn xw xk xm xf xB s) := by
  obtain ⟨w, hw, hb⟩ := tn_ne hB h
  exact pcn_lt 12 (sub_or_l _ _) w hw (tn_dis hB hs hw hb) (sub_or_r _ _ w hw hb)
theorem tn_in (hB : BB xn xw xk xm xf xB) {s d : Int32} (hs : Rg s) (hd : Rg d) (h : pu_sub s d) (hc : f_X0_taughtNext xn xw xk xm xf xB d = 0) : pu_sub (f_X0_taughtNext xn xw xk xm xf xB s) d := by
  intro w hw e
  cases q : bt d w
  · exact absurd (GW_mono ((pu_tn hB hs hw).mp e).2 h) ((tn_z hB hd).mp hc w hw q)
  · rfl
theorem tn_4095 (hB : BB xn xw xk xm xf xB) : f_X0_taughtNext xn xw xk xm xf xB 4095 = 0 := (tn_z hB Rg_4095).mpr (fun w hw h => by rw [bt_4095 hw] at h; cases h)
theorem lf_4 (hB : BB xn xw xk xm xf xB) : ∀ (k i : Nat) (a : Int32), Rg a → pu_sub a (f_X0_learntFrom_4 xn xw xk xm xf xB k i a) ∧ (12 ≤ pc a + k → f_X0_taughtNext xn xw xk xm xf xB (f_X0_learntFrom_4 xn xw xk xm xf xB k i a) = 0) ∧ (∀ d : Int32, Rg d → f_X0_taughtNext xn xw xk xm xf xB d = 0 → pu_sub a d → pu_sub (f_X0_learntFrom_4 xn xw xk xm xf xB k i a) d) := by
  intro k
  induction k with
  | zero =>
    intro i a ha
    rw [f_X0_learntFrom_4_z]
    refine ⟨pu_sub_r a, fun h => ?_, fun d _ _ h => h⟩
    rw [pc_12 ha (by omega)]
    exact tn_4095 hB
  | succ k ih =>
    intro i a ha
    rw [f_X0_learntFrom_4_s]
    by_cases q : f_X0_taughtNext xn xw xk xm xf xB a = 0
    · rw [if_pos q]
      exact ⟨pu_sub_r a, fun _ => q, fun d _ _ h => h⟩
    · rw [if_neg q]
      obtain ⟨i1, i2, i3⟩ := ih (i + 1) _ (Rg_or ha (tn_rg hB a))
      have hu := tn_up hB ha q
      refine ⟨pu_sub_t (sub_or_l _ _) i1, fun h => i2 (by omega), fun d hd hc h => i3 d hd hc (sub_or h (tn_in hB ha hd h hc))⟩
/-- what is learnt: LF -/
theorem lf_rg (hB : BB xn xw xk xm xf xB) {s : Int32} (hs : Rg s) : Rg (f_X0_learntFrom xn xw xk xm xf xB s) := Rg_learnt hB.v hs
theorem lf_ext (hB : BB xn xw xk xm xf xB) {s : Int32} (hs : Rg s) : pu_sub s (f_X0_learntFrom xn xw xk xm xf xB s) := (lf_4 hB _ _ s hs).1
theorem lf_cl (hB : BB xn xw xk xm xf xB) {s : Int32} (hs : Rg s) : f_X0_taughtNext xn xw xk xm xf xB (f_X0_learntFrom xn xw xk xm xf xB s) = 0 := (lf_4 hB _ _ s hs).2.1 (by omega)
theorem lf_min (hB : BB xn xw xk xm xf xB) {s d : Int32} (hs : Rg s) (hd : Rg d) (hc : f_X0_taughtNext xn xw xk xm xf xB d = 0) (h : pu_sub s d) : pu_sub (f_X0_learntFrom xn xw xk xm xf xB s) d := (lf_4 hB _ _ s hs).2.2 d hd hc h
theorem lf_mono (hB : BB xn xw xk xm xf xB) {s d : Int32} (hs : Rg s) (hd : Rg d) (h : pu_sub s d) : pu_sub (f_X0_learntFrom xn xw xk xm xf xB s) (f_X0_learntFrom xn xw xk xm xf xB d) := lf_min hB hs (lf_rg hB hd) (lf_cl hB hd) (pu_sub_t h (lf_ext hB hd))
theorem lf_self (hB : BB xn xw xk xm xf xB) {s : Int32} (hs : Rg s) (h : f_X0_taughtNext xn xw xk xm xf xB s = 0) : f_X0_learntFrom xn xw xk xm xf xB s = s := pu_sub_a (lf_rg hB hs) hs (lf_min hB hs hs h (pu_sub_r s)) (lf_ext hB hs)
/-- to what is learnt nothing is brought by what is learnt anyway -/
theorem lf_add (hB : BB xn xw xk xm xf xB) {s d : Int32} (hs : Rg s) (hd : Rg d) (h : pu_sub s d) (h2 : pu_sub d (f_X0_learntFrom xn xw xk xm xf xB s)) : f_X0_learntFrom xn xw xk xm xf xB d = f_X0_learntFrom xn xw xk xm xf xB s := pu_sub_a (lf_rg hB hd) (lf_rg hB hs) (lf_min hB hd (lf_rg hB hs) (lf_cl hB hs) h2) (lf_mono hB hs hd h)
theorem tn_lf (hB : BB xn xw xk xm xf xB) {s : Int32} (hs : Rg s) : pu_sub (f_X0_taughtNext xn xw xk xm xf xB s) (f_X0_learntFrom xn xw xk xm xf xB s) := tn_in hB hs (lf_rg hB hs) (lf_ext hB hs) (lf_cl hB hs)
end CLO
section CLM
variable {zs : Nat → Int32} {b xn : Nat} {xw xk xm xf : Nat → Int32} {xB : Int32} {xh xt : Nat → Int32}
theorem nx_eq (h : RB zs b xn xw xk xm xf xB xh xt) {s : Int32} (hs : Rg s) : f_X7_next zs b xn s = s ↔ f_X0_taughtNext xn xw xk xm xf xB s = 0 := by
  rw [pu_next h hs]
  constructor
  · intro e
    refine Rg_ext (tn_rg h.2.1 s) Rg_0 (fun w hw => ?_)
    rw [bt_0]
    refine Bool.eq_false_iff.mpr (fun q => ?_)
    have h1 := tn_dis h.2.1 hs hw q
    have h2 := sub_or_r s _ w hw q
    rw [e, h1] at h2
    cases h2
  · intro e; rw [e, Int32.or_zero]
theorem lb_10 (h : RB zs b xn xw xk xm xf xB xh xt) : ∀ (k : Nat) (a : Int32), Rg a → 12 < pc a + k → pu_sub a (f_X7_learntBy_10 zs b xn k a (f_X7_next zs b xn a)) ∧ Rg (f_X7_learntBy_10 zs b xn k a (f_X7_next zs b xn a)) ∧ f_X0_taughtNext xn xw xk xm xf xB (f_X7_learntBy_10 zs b xn k a (f_X7_next zs b xn a)) = 0 ∧ (∀ d : Int32, Rg d → f_X0_taughtNext xn xw xk xm xf xB d = 0 → pu_sub a d → pu_sub (f_X7_learntBy_10 zs b xn k a (f_X7_next zs b xn a)) d) := by
  intro k
  induction k with
  | zero => intro a _ hk; have := pc_le12 a; omega
  | succ k ih =>
    intro a ha hk
    rw [f_X7_learntBy_10_s]
    by_cases q : f_X7_next zs b xn a = a
    · rw [if_pos q]
      exact ⟨pu_sub_r a, ha, (nx_eq h ha).mp q, fun d _ _ z => z⟩
    · rw [if_neg q]
      have hn : ¬ f_X0_taughtNext xn xw xk xm xf xB a = 0 := fun z => q ((nx_eq h ha).mpr z)
      have hu := tn_up h.2.1 ha hn
      have e := pu_next h ha
      obtain ⟨i1, i2, i3, i4⟩ := ih (f_X7_next zs b xn a) (by rw [e]; exact Rg_or ha (tn_rg h.2.1 a)) (by rw [e]; omega)
      refine ⟨pu_sub_t (by rw [e]; exact sub_or_l _ _) i1, i2, i3, fun d hd hc z => i4 d hd hc (by rw [e]; exact sub_or z (tn_in h.2.1 ha hd z hc))⟩
theorem pu_lb (h : RB zs b xn xw xk xm xf xB xh xt) {s : Int32} (hs : Rg s) : f_X7_learntBy zs b xn s = f_X0_learntFrom xn xw xk xm xf xB s := by
  obtain ⟨i1, i2, i3, i4⟩ := lb_10 h 4096 s hs (by omega)
  exact pu_sub_a i2 (lf_rg h.2.1 hs) (i4 _ (lf_rg h.2.1 hs) (lf_cl h.2.1 hs) (lf_ext h.2.1 hs)) (lf_min h.2.1 hs i2 i3 i1)
theorem pu_isF (h : RB zs b xn xw xk xm xf xB xh xt) {s : Int32} (hs : Rg s) : f_X7_isFoundation zs b xn s = 0 ↔ ¬ f_X0_learntFrom xn xw xk xm xf xB s = 4095 := by
  unfold f_X7_isFoundation
  rw [pu_lb h hs]
  by_cases q : f_X0_learntFrom xn xw xk xm xf xB s = 4095
  · rw [if_pos q]; exact ⟨fun z => absurd z (by decide), fun z => absurd q z⟩
  · rw [if_neg q]; exact ⟨fun _ => q, fun _ => rfl⟩
/-- depth -/
theorem pu_dep_stop (h : RB zs b xn xw xk xm xf xB xh xt) {zf : Nat → Int32} {v : Nat} (hv : v < 12) : ∀ (k i : Nat) (a : Int32), Rg a → f_X0_taughtNext xn xw xk xm xf xB a = 0 → bt a v = false → f_X7_depth_38 zf zs b xn (nI v) k i a = ((-9), zf) := by
  intro k
  induction k with
  | zero => intro i a _ _ _; rw [f_X7_depth_38_z]
  | succ k ih =>
    intro i a ha hc hb
    rw [f_X7_depth_38_s, shr_1 ha hv, if_neg (c := bt a v = true) (by rw [hb]; decide), if_neg (by decide), (nx_eq h ha).mpr hc]
    exact ih _ _ ha hc hb
theorem pu_dep (h : RB zs b xn xw xk xm xf xB xh xt) {zf : Nat → Int32} {v : Nat} (hv : v < 12) : ∀ (k i : Nat) (a : Int32), Rg a → f_X7_depth_38 zf zs b xn (nI v) k i a = (f_X0_roundOf_5 xn xw xk xm xf xB (nI v) k i a, zf) := by
  intro k
  induction k with
  | zero => intro i a _; rw [f_X7_depth_38_z, f_X0_roundOf_5_z]
  | succ k ih =>
    intro i a ha
    rw [f_X7_depth_38_s, f_X0_roundOf_5_s, shr_1 ha hv, has_bt ha hv]
    by_cases q : bt a v = true
    · rw [if_pos q, if_pos rfl, if_neg (by decide)]
    · rw [if_neg q, if_neg (by decide), if_pos rfl]
      by_cases q2 : f_X0_taughtNext xn xw xk xm xf xB a = 0
      · rw [if_pos q2, (nx_eq h ha).mpr q2]
        exact pu_dep_stop h hv k _ a ha q2 (Bool.eq_false_iff.mpr q)
      · rw [if_neg q2, pu_next h ha]
        exact ih _ _ (Rg_or ha (tn_rg h.2.1 a))
/-- judge -/
theorem isW_7 (x : Int32) : f_X7_isIn x 12 = f_X6_isWord x := rfl
theorem isS_7 (x : Int32) : f_X7_isIn x 4096 = f_X6_isSet x := rfl
theorem isW_nI {x : Int32} (h : ¬ f_X6_isWord x = 0) : ∃ v : Nat, v < 12 ∧ x = nI v := vp_in_of (isIn_12 (by rw [isW_7]; exact h)) (by decide)
theorem pu_judge (h : RB zs b xn xw xk xm xf xB xh xt) {zf zw rr : Nat → Int32} {n : Nat} : ∀ (k i : Nat) (a : Int32), k + i = n → (∀ j, j < n → zw j = rr j) → Rg a → f_X7_judge_39 zf zs zw b xn k i a = (f_X6_firstThatMayNot_5 rr xn xw xk xm xf xB k i a, zf, 0) := by
  intro k
  induction k with
  | zero => intro i a _ _ _; rw [f_X7_judge_39_z, f_X6_firstThatMayNot_5_z]
  | succ k ih =>
    intro i a hk hr ha
    rw [f_X7_judge_39_s, f_X6_firstThatMayNot_5_s, hr i (by omega), isW_7]
    by_cases q : f_X6_isWord (rr i) = 0
    · rw [if_pos q, if_pos q]
    · obtain ⟨v, hv, ev⟩ := isW_nI q
      rw [if_neg q, if_neg q, ev, shr_1 ha hv, pu_next h ha, shr_1 (Rg_or ha (tn_rg h.2.1 a)) hv, has_bt (tn_rg h.2.1 a) hv, bt_or]
      by_cases q1 : bt a v = true
      · have q2 : ¬ bt (f_X0_taughtNext xn xw xk xm xf xB a) v = true := fun z => by
          rw [tn_dis h.2.1 ha hv z] at q1; cases q1
        rw [if_pos q1, if_pos rfl, if_neg q2, if_pos rfl]
      · have q1f : bt a v = false := Bool.eq_false_iff.mpr q1
        rw [if_neg q1, if_neg (by decide), q1f, Bool.false_or]
        by_cases q2 : bt (f_X0_taughtNext xn xw xk xm xf xB a) v = true
        · rw [if_pos q2, if_neg (by decide), if_neg (by decide)]
          exact ih _ _ (by omega) hr (Rg_or ha (Rg_bit hv))
        · rw [if_neg q2, if_pos rfl, if_pos rfl]
end CLM
