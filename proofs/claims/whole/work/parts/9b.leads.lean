/-! THE PURE PART: what leads to what -/
section LDS
variable {zs : Nat → Int32} {b xn : Nat} {xw xk xm xf : Nat → Int32} {xB : Int32} {xh xt : Nat → Int32}
def CN (xn : Nat) (xw xm : Nat → Int32) (d : Int32) : Prop := ∀ t : Nat, t < xn → ∀ v : Nat, v < 12 → xw t = nI v → bt d v = true → pu_sub (xm t) d
theorem CN_x (hB : BB xn xw xk xm xf xB) {d : Int32} (h : ∀ v : Nat, v < 12 → bt d v = true → pu_sub (f_X5_neededBy xn xw xm (nI v)) d) : CN xn xw xm d := fun t ht v hv et hd w hw e => h v hv hd w hw ((need_bt hB hv hw).mpr ⟨t, ht, et, e⟩)
theorem CN_y (hB : BB xn xw xk xm xf xB) {d : Int32} (h : CN xn xw xm d) {v : Nat} (hv : v < 12) (hd : bt d v = true) : pu_sub (f_X5_neededBy xn xw xm (nI v)) d := fun w hw e => by
  obtain ⟨t, ht, et, z⟩ := (need_bt hB hv hw).mp e
  exact h t ht v hv et hd w hw z
theorem CN_95 : CN xn xw xm 4095 := fun _ _ _ _ _ _ => sub_4095 _
theorem rf_20 (hB : BB xn xw xk xm xf xB) : ∀ (k i : Nat) (a : Int32), k + i = xn → Rg a → Rg (f_X5_reachedFrom_20 xw xm k i a) ∧ pu_sub a (f_X5_reachedFrom_20 xw xm k i a) ∧ (∀ d : Int32, CN xn xw xm d → pu_sub a d → pu_sub (f_X5_reachedFrom_20 xw xm k i a) d) ∧ (pu_sub (f_X5_reachedFrom_20 xw xm k i a) a → ∀ t : Nat, i ≤ t → t < xn → ∀ v : Nat, v < 12 → xw t = nI v → bt a v = true → pu_sub (xm t) a) := by
  intro k
  induction k with
  | zero =>
    intro i a hk ha
    rw [f_X5_reachedFrom_20_z]
    exact ⟨ha, pu_sub_r a, fun _ _ z => z, fun _ t h1 h2 => by omega⟩
  | succ k ih =>
    intro i a hk ha
    have hi : i < xn := by omega
    obtain ⟨v, hv, ev⟩ := (hB.2.2 i hi).1
    have hm := (hB.2.2 i hi).2.2.1
    rw [f_X5_reachedFrom_20_s, ev, has_bt ha hv]
    by_cases q : bt a v = true
    · rw [if_pos q, if_neg (by decide)]
      obtain ⟨i0, i1, i2, i3⟩ := ih (i + 1) (a ||| xm i) (by omega) (Rg_or ha hm)
      refine ⟨i0, pu_sub_t (sub_or_l _ _) i1, fun d hd z => i2 d hd (sub_or z (hd i hi v hv ev (z v hv q))), fun z t h1 h2 w hw ew e => ?_⟩
      rcases Nat.lt_or_ge i t with c | c
      · have hback : pu_sub (a ||| xm i) a := pu_sub_t i1 z
        exact pu_sub_t (i3 (pu_sub_t z (sub_or_l _ _)) t (by omega) h2 w hw ew (sub_or_l _ _ w hw e)) hback
      · have et : t = i := by omega
        subst et
        exact pu_sub_t (sub_or_r _ _) (pu_sub_t i1 z)
    · rw [if_neg q, if_pos rfl]
      obtain ⟨i0, i1, i2, i3⟩ := ih (i + 1) a (by omega) ha
      refine ⟨i0, i1, i2, fun z t h1 h2 w hw ew e => ?_⟩
      rcases Nat.lt_or_ge i t with c | c
      · exact i3 z t (by omega) h2 w hw ew e
      · have et : t = i := by omega
        subst et
        have : v = w := (nI_wj hv hw).mp (by rw [← ev, ew])
        subst this
        exact absurd e q
theorem rf_8 (hB : BB xn xw xk xm xf xB) : ∀ (k i : Nat) (a : Int32), Rg a → 12 ≤ pc a + k → Rg (f_X5_reachedFrom_8 xn xw xm k i a) ∧ pu_sub a (f_X5_reachedFrom_8 xn xw xm k i a) ∧ CN xn xw xm (f_X5_reachedFrom_8 xn xw xm k i a) ∧ (∀ d : Int32, CN xn xw xm d → pu_sub a d → pu_sub (f_X5_reachedFrom_8 xn xw xm k i a) d) := by
  intro k
  induction k with
  | zero =>
    intro i a ha hk
    rw [f_X5_reachedFrom_8_z, pc_12 ha (by omega)]
    exact ⟨Rg_4095, pu_sub_r _, CN_95, fun _ _ z => z⟩
  | succ k ih =>
    intro i a ha hk
    obtain ⟨i0, i1, i2, i3⟩ := rf_20 hB xn 0 a (by omega) ha
    rw [f_X5_reachedFrom_8_s]
    by_cases q : f_X5_reachedFrom_20 xw xm xn 0 a = a
    · rw [if_pos q]
      refine ⟨ha, pu_sub_r a, fun t ht v hv ev e => i3 (by rw [q]; exact pu_sub_r a) t (Nat.zero_le _) ht v hv ev e, fun _ _ z => z⟩
    · rw [if_neg q]
      have hup : pc a < pc (f_X5_reachedFrom_20 xw xm xn 0 a) := Nat.lt_of_le_of_ne (pc_sub i1) (fun z => q (pc_sub_eq ha i0 i1 z).symm)
      obtain ⟨j0, j1, j2, j3⟩ := ih (i + 1) _ i0 (by omega)
      exact ⟨j0, pu_sub_t i1 j1, j2, fun d hd z => j3 d hd (i2 d hd z)⟩
theorem ld_20 (h : RB zs b xn xw xk xm xf xB xh xt) : ∀ (k i : Nat) (a : Int32), k + i = 12 → Rg a → Rg (f_X7_leadsBy_20 zs b xn k i a) ∧ pu_sub a (f_X7_leadsBy_20 zs b xn k i a) ∧ (∀ d : Int32, CN xn xw xm d → pu_sub a d → pu_sub (f_X7_leadsBy_20 zs b xn k i a) d) ∧ (pu_sub (f_X7_leadsBy_20 zs b xn k i a) a → ∀ v : Nat, i ≤ v → v < 12 → bt a v = true → pu_sub (f_X5_neededBy xn xw xm (nI v)) a) := by
  intro k
  induction k with
  | zero =>
    intro i a hk ha
    rw [f_X7_leadsBy_20_z]
    exact ⟨ha, pu_sub_r a, fun _ _ z => z, fun _ t h1 h2 => by omega⟩
  | succ k ih =>
    intro i a hk ha
    have hi : i < 12 := by omega
    rw [f_X7_leadsBy_20_s, shr_1 ha hi, pu_need h, Int32.or_zero]
    by_cases q : bt a i = true
    · rw [if_pos q, if_pos rfl]
      obtain ⟨i0, i1, i2, i3⟩ := ih (i + 1) (a ||| f_X5_neededBy xn xw xm (nI i)) (by omega) (Rg_or ha (Rg_need h.2.1 _))
      refine ⟨i0, pu_sub_t (sub_or_l _ _) i1, fun d hd z => i2 d hd (sub_or z (CN_y h.2.1 hd hi (z i hi q))), fun z v h1 h2 e => ?_⟩
      rcases Nat.lt_or_ge i v with c | c
      · have hback : pu_sub (a ||| f_X5_neededBy xn xw xm (nI i)) a := pu_sub_t i1 z
        exact pu_sub_t (i3 (pu_sub_t z (sub_or_l _ _)) v (by omega) h2 (sub_or_l _ _ v h2 e)) hback
      · have et : v = i := by omega
        subst et
        exact pu_sub_t (sub_or_r _ _) (pu_sub_t i1 z)
    · rw [if_neg q, if_neg (by decide)]
      obtain ⟨i0, i1, i2, i3⟩ := ih (i + 1) a (by omega) ha
      refine ⟨i0, i1, i2, fun z v h1 h2 e => ?_⟩
      rcases Nat.lt_or_ge i v with c | c
      · exact i3 z v (by omega) h2 e
      · have et : v = i := by omega
        subst et
        exact absurd e q
theorem ld_10 (h : RB zs b xn xw xk xm xf xB xh xt) : ∀ (k i : Nat) (a : Int32), Rg a → 12 ≤ pc a + k → Rg (f_X7_leadsBy_10 zs b xn k i a) ∧ pu_sub a (f_X7_leadsBy_10 zs b xn k i a) ∧ CN xn xw xm (f_X7_leadsBy_10 zs b xn k i a) ∧ (∀ d : Int32, CN xn xw xm d → pu_sub a d → pu_sub (f_X7_leadsBy_10 zs b xn k i a) d) := by
  have stay : ∀ (k i : Nat) (a : Int32), f_X7_leadsBy_20 zs b xn 12 0 a = a → f_X7_leadsBy_10 zs b xn k i a = a := by
    intro k
    induction k with
    | zero => intro i a _; rw [f_X7_leadsBy_10_z]
    | succ k ih => intro i a z; rw [f_X7_leadsBy_10_s, z]; exact ih _ _ z
  intro k
  induction k with
  | zero =>
    intro i a ha hk
    rw [f_X7_leadsBy_10_z, pc_12 ha (by omega)]
    exact ⟨Rg_4095, pu_sub_r _, CN_95, fun _ _ z => z⟩
  | succ k ih =>
    intro i a ha hk
    obtain ⟨i0, i1, i2, i3⟩ := ld_20 h 12 0 a rfl ha
    by_cases q : f_X7_leadsBy_20 zs b xn 12 0 a = a
    · rw [stay _ _ _ q]
      exact ⟨ha, pu_sub_r a, CN_x h.2.1 (fun v hv e => i3 (by rw [q]; exact pu_sub_r a) v (Nat.zero_le _) hv e), fun _ _ z => z⟩
    · rw [f_X7_leadsBy_10_s]
      have hup : pc a < pc (f_X7_leadsBy_20 zs b xn 12 0 a) := Nat.lt_of_le_of_ne (pc_sub i1) (fun z => q (pc_sub_eq ha i0 i1 z).symm)
      obtain ⟨j0, j1, j2, j3⟩ := ih (i + 1) _ i0 (by omega)
      exact ⟨j0, pu_sub_t i1 j1, j2, fun d hd z => j3 d hd (i2 d hd z)⟩
theorem Rg_reach (hB : BB xn xw xk xm xf xB) (wo : Int32) : Rg (f_X5_reachedFrom xn xw xm wo) := (rf_8 hB 12 0 _ (Rg_need hB wo) (by omega)).1
theorem pu_leads (h : RB zs b xn xw xk xm xf xB xh xt) (wo : Int32) : f_X7_leadsBy zs b xn wo = f_X5_reachedFrom xn xw xm wo := by
  unfold f_X7_leadsBy f_X5_reachedFrom
  rw [pu_need h]
  obtain ⟨i0, i1, i2, i3⟩ := rf_8 h.2.1 12 0 _ (Rg_need h.2.1 wo) (by omega)
  obtain ⟨j0, j1, j2, j3⟩ := ld_10 h 12 0 _ (Rg_need h.2.1 wo) (by omega)
  exact pu_sub_a j0 i0 (j3 _ i2 i1) (i3 _ j2 j1)
theorem kn_15 (h : RB zs b xn xw xk xm xf xB xh xt) {v : Nat} (hv : v < 12) : ∀ (k i : Nat) (a : Int32), k + i = 12 → f_X7_knotBy_15 zs b xn (nI v) k i a = f_X5_knotOf_13 xn xw xm (nI v) k i a := by
  intro k
  induction k with
  | zero => intro i a _; rw [f_X7_knotBy_15_z, f_X5_knotOf_13_z]
  | succ k ih =>
    intro i a hk
    have hi : i < 12 := by omega
    rw [f_X7_knotBy_15_s, f_X5_knotOf_13_s, pu_leads h, pu_leads h, shr_1 (Rg_reach h.2.1 _) hi, shr_1 (Rg_reach h.2.1 _) hv, has_bt (Rg_reach h.2.1 _) hi, has_bt (Rg_reach h.2.1 _) hv, Int32.or_zero]
    by_cases q : bt (f_X5_reachedFrom xn xw xm (nI v)) i = true
    · rw [if_pos q, if_pos rfl, if_neg (c := (1 : Int32) = 0) (by decide)]
      by_cases q2 : bt (f_X5_reachedFrom xn xw xm (nI i)) v = true
      · rw [if_pos q2, if_pos rfl, if_neg (c := (1 : Int32) = 0) (by decide)]; exact ih _ _ (by omega)
      · rw [if_neg q2, if_neg (by decide), if_pos rfl]; exact ih _ _ (by omega)
    · rw [if_neg q, if_neg (by decide), if_pos rfl]; exact ih _ _ (by omega)
theorem pu_knot (h : RB zs b xn xw xk xm xf xB xh xt) {v : Nat} (hv : v < 12) : f_X7_knotBy zs b xn (nI v) = f_X5_knotOf xn xw xm (nI v) := kn_15 h hv 12 0 _ rfl
theorem kn_own (hB : BB xn xw xk xm xf xB) {v : Nat} (hv : v < 12) : ∀ (k i : Nat) (a : Int32), k + i = 12 → Rg a → bt a v = true → Rg (f_X5_knotOf_13 xn xw xm (nI v) k i a) ∧ bt (f_X5_knotOf_13 xn xw xm (nI v) k i a) v = true := by
  intro k
  induction k with
  | zero => intro i a _ ha h; rw [f_X5_knotOf_13_z]; exact ⟨ha, h⟩
  | succ k ih =>
    intro i a hk ha h
    have hi : i < 12 := by omega
    rw [f_X5_knotOf_13_s]
    split
    · exact ih _ _ (by omega) ha h
    · split
      · exact ih _ _ (by omega) ha h
      · exact ih _ _ (by omega) (Rg_or ha (Rg_bit hi)) (sub_or_l _ _ v hv h)
theorem kn_has (hB : BB xn xw xk xm xf xB) {v : Nat} (hv : v < 12) : Rg (f_X5_knotOf xn xw xm (nI v)) ∧ bt (f_X5_knotOf xn xw xm (nI v)) v = true := kn_own hB hv 12 0 _ rfl (Rg_bit hv) (by rw [bt_bit hv]; exact decide_eq_true rfl)
theorem low_bt {v w : Nat} (hv : v < 12) (hw : w < 12) : bt (((1 : Int32) <<< (nI v &&& 31)) - (1 : Int32)) w = decide (w < v) := by
  have : ∀ v w : Fin 12, bt (((1 : Int32) <<< (nI v.1 &&& 31)) - (1 : Int32)) w.1 = decide (w.1 < v.1) := by decide +kernel
  exact this ⟨v, hv⟩ ⟨w, hw⟩
theorem lw_2 {s : Int32} (hs : Rg s) {v : Nat} (hv : v < 12) (hb : bt s v = true) : ∀ (k i : Nat), k + i = 12 → i ≤ v → (f_X6_leastWord_2 s k i = nI v ↔ ∀ w : Nat, i ≤ w → w < v → bt s w = false) := by
  intro k
  induction k with
  | zero => intro i hk hi; omega
  | succ k ih =>
    intro i hk hle
    have hi : i < 12 := by omega
    rw [f_X6_leastWord_2_s, has_bt hs hi]
    by_cases q : bt s i = true
    · rw [if_pos q, if_neg (by decide), nI_wj hi hv]
      constructor
      · intro e w h1 h2; omega
      · intro z
        rcases Nat.lt_or_ge i v with c | c
        · rw [z i (Nat.le_refl _) c] at q; cases q
        · omega
    · have hne : i ≠ v := fun e => by subst e; exact q hb
      rw [if_neg q, if_pos rfl, ih (i + 1) (by omega) (by omega)]
      constructor
      · intro z w h1 h2
        rcases Nat.lt_or_ge i w with c | c
        · exact z w c h2
        · have e : w = i := by omega
          subst e
          exact Bool.eq_false_iff.mpr q
      · intro z w h1 h2; exact z w (by omega) h2
theorem lw_low {s : Int32} (hs : Rg s) {v : Nat} (hv : v < 12) (hb : bt s v = true) : f_X6_leastWord s = nI v ↔ s &&& (((1 : Int32) <<< (nI v &&& 31)) - (1 : Int32)) = 0 := by
  unfold f_X6_leastWord
  rw [lw_2 hs hv hb 12 0 rfl (Nat.zero_le _)]
  constructor
  · intro z
    refine Rg_ext (Rg_and hs) Rg_0 (fun w hw => ?_)
    rw [bt_and, low_bt hv hw, bt_0]
    by_cases c : w < v
    · rw [z w (Nat.zero_le _) c]; rfl
    · rw [decide_eq_false c, Bool.and_false]
  · intro z w _ hwv
    have e : bt (s &&& (((1 : Int32) <<< (nI v &&& 31)) - (1 : Int32))) w = false := by rw [z, bt_0]
    rw [bt_and, low_bt hv (by omega), decide_eq_true hwv, Bool.and_true] at e
    exact e
theorem kns_17 (h : RB zs b xn xw xk xm xf xB xh xt) {zf : Nat → Int32} : ∀ (k i : Nat) (a : Int32), k + i = 12 → f_X7_knots_17 zf zs b xn k i a = (f_X5_howManyKnots_4 xn xw xm k i a, zf) := by
  intro k
  induction k with
  | zero => intro i a _; rw [f_X7_knots_17_z, f_X5_howManyKnots_4_z]
  | succ k ih =>
    intro i a hk
    have hi : i < 12 := by omega
    obtain ⟨hR, hb⟩ := kn_has h.2.1 hi
    have hp := pc_le12 (f_X5_knotOf xn xw xm (nI i))
    have hl := lw_low hR hi hb
    have c1 : nI (pc (f_X5_knotOf xn xw xm (nI i))) ≤ 1 ↔ pc (f_X5_knotOf xn xw xm (nI i)) ≤ 1 := nI_leI (b := 1) (by omega) (by omega)
    rw [f_X7_knots_17_s, f_X5_howManyKnots_4_s, pu_knot h hi, pu_b7 hR, pu_bc hR, Int32.add_zero]
    by_cases q : f_X5_knotOf xn xw xm (nI i) &&& (((1 : Int32) <<< (nI i &&& 31)) - (1 : Int32)) = 0
    · rw [if_pos (hl.mpr q), if_pos q]
      by_cases q2 : nI (pc (f_X5_knotOf xn xw xm (nI i))) ≤ 1
      · rw [if_pos q2, if_pos q2]; exact ih _ _ (by omega)
      · rw [if_neg q2, if_neg q2]; exact ih _ _ (by omega)
    · rw [if_neg (fun z => q (hl.mp z)), if_neg q]
      split <;> exact ih _ _ (by omega)
theorem pu_knots (h : RB zs b xn xw xk xm xf xB xh xt) {zf : Nat → Int32} : f_X7_knots zf zs b xn = (f_X5_howManyKnots xn xw xm, zf) := kns_17 h 12 0 0 rfl
theorem na_4 (hB : BB xn xw xk xm xf xB) : ∀ (k i : Nat) (a : Int32), k + i = xn → Rg a → (∀ w : Nat, w < 12 → (bt a w = true ↔ ∃ t : Nat, t < i ∧ bt (xm t) w = true)) → Rg (f_X5_neededByAny_4 xm k i a) ∧ ∀ w : Nat, w < 12 → (bt (f_X5_neededByAny_4 xm k i a) w = true ↔ ∃ t : Nat, t < xn ∧ bt (xm t) w = true) := by
  intro k
  induction k with
  | zero =>
    intro i a hk hr ha
    have hi : i = xn := by omega
    subst hi
    rw [f_X5_neededByAny_4_z]
    exact ⟨hr, ha⟩
  | succ k ih =>
    intro i a hk hr ha
    rw [f_X5_neededByAny_4_s]
    refine ih _ _ (by omega) (Rg_or hr (hB.2.2 i (by omega)).2.2.1) (fun w hw => ?_)
    rw [bt_or, Bool.or_eq_true, ha w hw, pu_bt_ex]
theorem id_17 (h : RB zs b xn xw xk xm xf xB xh xt) {zf : Nat → Int32} : ∀ (k i : Nat) (a : Int32), k + i = 12 → Rg a → (∀ w : Nat, w < 12 → (bt a w = true ↔ ∃ v : Nat, v < i ∧ bt (f_X5_neededBy xn xw xm (nI v)) w = true)) → f_X7_idle_17 zf zs b xn k i a = ((4095 : Int32) &&& ((f_X5_neededByAny xn xm) ^^^ (-1 : Int32)), zf) := by
  intro k
  induction k with
  | zero =>
    intro i a hk hr ha
    have hi : i = 12 := by omega
    subst hi
    rw [f_X7_idle_17_z]
    obtain ⟨n1, n2⟩ := na_4 h.2.1 xn 0 0 (by omega) Rg_0 (fun w _ => by rw [bt_0]; exact ⟨fun z => (by cases z), fun z => absurd z pu_ex0⟩)
    have e : a = f_X5_neededByAny xn xm := Rg_ext hr n1 (fun w hw => by
      rw [Bool.eq_iff_iff, ha w hw]
      refine Iff.trans ?_ (n2 w hw).symm
      constructor
      · rintro ⟨v, hv, z⟩
        obtain ⟨t, ht, _, z2⟩ := (need_bt h.2.1 hv hw).mp z
        exact ⟨t, ht, z2⟩
      · rintro ⟨t, ht, z⟩
        obtain ⟨v, hv, ev⟩ := (h.2.1.2.2 t ht).1
        exact ⟨v, hv, (need_bt h.2.1 hv hw).mpr ⟨t, ht, ev, z⟩⟩)
    rw [e, Int32.and_comm]
  | succ k ih =>
    intro i a hk hr ha
    rw [f_X7_idle_17_s, pu_need h]
    refine ih _ _ (by omega) (Rg_or hr (Rg_need h.2.1 _)) (fun w hw => ?_)
    rw [bt_or, Bool.or_eq_true, ha w hw, pu_bt_ex]
theorem pu_idle (h : RB zs b xn xw xk xm xf xB xh xt) {zf : Nat → Int32} : f_X7_idle zf zs b xn = ((4095 : Int32) &&& ((f_X5_neededByAny xn xm) ^^^ (-1 : Int32)), zf) := id_17 h 12 0 0 rfl Rg_0 (fun w _ => by rw [bt_0]; exact ⟨fun z => (by cases z), fun z => absurd z pu_ex0⟩)
end LDS
