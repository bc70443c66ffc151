/-! THE PURE PART: what is wrong -/
section WRG
variable {zs : Nat → Int32} {b xn : Nat} {xw xk xm xf : Nat → Int32} {xB : Int32} {xh xt : Nat → Int32} {s : Int32}
theorem need_4 (hB : BB xn xw xk xm xf xB) {v : Nat} (hv : v < 12) : ∀ (k i : Nat) (a : Int32), k + i = xn → (∀ w : Nat, w < 12 → (bt a w = true ↔ ∃ t : Nat, t < i ∧ (xw t = nI v ∧ bt (xm t) w = true))) → ∀ w : Nat, w < 12 → (bt (f_X5_neededBy_4 xw xm (nI v) k i a) w = true ↔ ∃ t : Nat, t < xn ∧ (xw t = nI v ∧ bt (xm t) w = true)) := by
  intro k
  induction k with
  | zero =>
    intro i a hk ha w hw
    have hi : i = xn := by omega
    subst hi
    rw [f_X5_neededBy_4_z, ha w hw]
  | succ k ih =>
    intro i a hk ha
    rw [f_X5_neededBy_4_s]
    by_cases q : xw i = nI v
    · rw [if_pos q]
      refine ih _ _ (by omega) (fun w hw => ?_)
      rw [bt_or, Bool.or_eq_true, ha w hw, pu_bt_ex]
      exact ⟨fun z => z.elim Or.inl (fun z => Or.inr ⟨q, z⟩), fun z => z.elim Or.inl (fun z => Or.inr z.2)⟩
    · rw [if_neg q]
      refine ih _ _ (by omega) (fun w hw => ?_)
      rw [ha w hw, pu_bt_ex]
      exact ⟨Or.inl, fun z => z.elim id (fun z => absurd z.1 q)⟩
theorem need_bt (hB : BB xn xw xk xm xf xB) {v w : Nat} (hv : v < 12) (hw : w < 12) : bt (f_X5_neededBy xn xw xm (nI v)) w = true ↔ ∃ t : Nat, t < xn ∧ (xw t = nI v ∧ bt (xm t) w = true) := need_4 hB hv xn 0 0 (by omega) (fun w _ => by rw [bt_0]; exact ⟨fun z => (by cases z), fun z => absurd z pu_ex0⟩) w hw
theorem and_ne0 {a c : Int32} (ha : Rg a) : ¬ a &&& c = 0 ↔ ∃ w : Nat, w < 12 ∧ bt a w = true ∧ bt c w = true := by
  constructor
  · intro h
    apply Classical.byContradiction
    intro q
    refine h (Rg_ext (Rg_and ha) Rg_0 (fun w hw => ?_))
    rw [bt_and, bt_0]
    refine Bool.eq_false_iff.mpr (fun z => q ⟨w, hw, ?_⟩)
    rw [Bool.and_eq_true] at z
    exact z
  · rintro ⟨w, hw, h1, h2⟩ h
    have : bt (a &&& c) w = false := by rw [h, bt_0]
    rw [bt_and, h1, h2] at this
    cases this
/-- under what was learnt, wrong words need no second look -/
theorem and3 {m s wr : Int32} (hm : Rg m) (h : pu_sub wr s) : (m &&& s) &&& wr = m &&& wr := Rg_ext (Rg_and (Rg_and hm)) (Rg_and hm) (fun w hw => by
  rw [bt_and, bt_and, bt_and]
  cases e : bt wr w
  · simp
  · rw [h w hw e, Bool.and_true])
theorem ix_b {b v : Nat} (hb : b < 2) (hv : v < 12) : ((nI (210 + (12 * b))) + nI v).toNatClampNeg = 210 + 12 * b + v := by
  rw [nI_add, nI_clamp (by omega)]
theorem isW_1 (h : RB zs b xn xw xk xm xf xB xh xt) (hs : Rg s) {wr : Int32} (hwr : pu_sub wr s) {v : Nat} (hv : v < 12) (hB0 : bt xB v = false) : ∀ (k i : Nat), k + i = xn → (f_X7_isWrong_6 zs b (nI v) s wr k i 0 = 0 ↔ f_X0_learntBy_22 xw xk xm xf (nI v) s k i &&& wr = 0) := by
  intro k
  induction k with
  | zero =>
    intro i _
    rw [f_X7_isWrong_6_z, f_X0_learntBy_22_z]
    exact ⟨fun _ => Int32.zero_and, fun _ => rfl⟩
  | succ k ih =>
    intro i hk
    have hi : i < xn := by omega
    have hT := h.t7 hs hi
    have hT5 := pu_t5 (h.2.1.2.2 i hi) hs
    have hbz : zs ((nI (210 + (12 * b))) + nI v).toNatClampNeg = 0 := by
      rw [ix_b h.1 hv, h.2.2.2.2.1 v hv, hB0]; rfl
    rw [f_X7_isWrong_6_s, f_X0_learntBy_22_s, h.g0 hi, h.g2 hi, hbz]
    by_cases q : xw i = nI v
    · rw [if_pos q, if_pos q]
      by_cases q2 : f_X5_teaches xk xm xf i s = 0
      · have q3 : f_X7_teaches zs b i s = 0 := Classical.byContradiction (fun z => hT5.mpr (hT.mp z) q2)
        rw [if_pos q2, if_pos q3]
        exact ih _ (by omega)
      · have q3 : ¬ f_X7_teaches zs b i s = 0 := hT.mpr (hT5.mp q2)
        rw [if_neg q2, if_neg q3, if_pos rfl, and3 (h.2.1.2.2 i hi).2.2.1 hwr]
        by_cases q4 : xm i &&& wr = 0
        · rw [if_pos q4, if_pos rfl]; exact ⟨fun _ => q4, fun _ => rfl⟩
        · rw [if_neg q4, if_pos rfl]; exact ⟨fun z => absurd z (by decide), fun z => absurd z q4⟩
    · rw [if_neg q, if_neg q]
      exact ih _ (by omega)
theorem isW_2 (h : RB zs b xn xw xk xm xf xB xh xt) (hs : Rg s) {wr : Int32} (hwr : pu_sub wr s) {v : Nat} (hv : v < 12) (hB1 : bt xB v = true) (hall : ∀ t : Nat, t < xn → xw t = nI v → TC (xk t) (xm t) (xf t) s) : ∀ (k i : Nat) (a : Int32), k + i = xn → (a = 0 ∨ a = 1) → (¬ a = 0 ↔ ∃ t : Nat, t < i ∧ (xw t = nI v ∧ ¬ xm t &&& wr = 0)) → (¬ f_X7_isWrong_6 zs b (nI v) s wr k i a = 0 ↔ ∃ t : Nat, t < xn ∧ (xw t = nI v ∧ ¬ xm t &&& wr = 0)) := by
  intro k
  induction k with
  | zero =>
    intro i a hk _ ha
    have hi : i = xn := by omega
    subst hi
    rw [f_X7_isWrong_6_z]
    exact ha
  | succ k ih =>
    intro i a hk h01 ha
    have hi : i < xn := by omega
    have hT := h.t7 hs hi
    have hbz : ¬ zs ((nI (210 + (12 * b))) + nI v).toNatClampNeg = 0 := by
      rw [ix_b h.1 hv, h.2.2.2.2.1 v hv, hB1]; decide
    rw [f_X7_isWrong_6_s, h.g0 hi, h.g2 hi]
    by_cases q : xw i = nI v
    · have q3 : ¬ f_X7_teaches zs b i s = 0 := hT.mpr (hall i hi q)
      rw [if_pos q, if_neg q3, and3 (h.2.1.2.2 i hi).2.2.1 hwr]
      rcases h01 with e | e
      · rw [if_pos e]
        have hno : ¬ ∃ t : Nat, t < i ∧ (xw t = nI v ∧ ¬ xm t &&& wr = 0) := fun z => ha.mpr z e
        by_cases q4 : xm i &&& wr = 0
        · rw [if_pos q4, if_neg hbz]
          refine ih _ _ (by omega) (Or.inl rfl) ?_
          rw [pu_bt_ex]
          exact ⟨fun z => absurd rfl z, fun z => z.elim (fun z => absurd z hno) (fun z => absurd q4 z.2)⟩
        · rw [if_neg q4, if_neg hbz]
          refine ih _ _ (by omega) (Or.inr rfl) ?_
          rw [pu_bt_ex]
          exact ⟨fun _ => Or.inr ⟨q, q4⟩, fun _ => by decide⟩
      · have e0 : ¬ a = 0 := by rw [e]; decide
        rw [if_neg e0, if_neg hbz]
        refine ih _ _ (by omega) (Or.inr rfl) ?_
        rw [pu_bt_ex]
        exact ⟨fun _ => Or.inl (ha.mp e0), fun _ => by decide⟩
    · rw [if_neg q]
      refine ih _ _ (by omega) h01 ?_
      rw [pu_bt_ex, ha]
      exact ⟨Or.inl, fun z => z.elim id (fun z => absurd z.1 q)⟩
theorem pu_isW (h : RB zs b xn xw xk xm xf xB xh xt) (hs : Rg s) {wr : Int32} (hwr : pu_sub wr s) {v : Nat} (hv : v < 12) (hG : GW xn xw xk xm xf xB s v) : f_X7_isWrong zs b xn (nI v) s wr = 0 ↔ f_X0_learntBy xn xw xk xm xf xB (nI v) s &&& wr = 0 := by
  unfold f_X7_isWrong f_X0_learntBy
  rw [has_bt h.2.1.2.1 hv]
  by_cases q : bt xB v = true
  · rw [if_pos q, if_neg (by decide)]
    have hall : ∀ t : Nat, t < xn → xw t = nI v → TC (xk t) (xm t) (xf t) s := fun t ht et => Classical.byContradiction (fun z => hG.2 ⟨q, t, ht, et, z⟩)
    have h1 := isW_2 h hs hwr hv q hall xn 0 0 (by omega) (Or.inl rfl) ⟨fun z => absurd rfl z, fun z => absurd z pu_ex0⟩
    have h2 : ¬ f_X5_neededBy xn xw xm (nI v) &&& wr = 0 ↔ ∃ t : Nat, t < xn ∧ (xw t = nI v ∧ ¬ xm t &&& wr = 0) := by
      rw [and_ne0 (Rg_need h.2.1 _)]
      constructor
      · rintro ⟨w, hw, z1, z2⟩
        obtain ⟨t, ht, et, z3⟩ := (need_bt h.2.1 hv hw).mp z1
        exact ⟨t, ht, et, (and_ne0 (h.2.1.2.2 t ht).2.2.1).mpr ⟨w, hw, z3, z2⟩⟩
      · rintro ⟨t, ht, et, z⟩
        obtain ⟨w, hw, z1, z2⟩ := (and_ne0 (h.2.1.2.2 t ht).2.2.1).mp z
        exact ⟨w, hw, (need_bt h.2.1 hv hw).mpr ⟨t, ht, et, z1⟩, z2⟩
    constructor
    · intro z
      exact Classical.byContradiction (fun y => h1.mpr (h2.mp y) z)
    · intro z
      exact Classical.byContradiction (fun y => h2.mpr (h1.mp y) z)
  · rw [if_neg q, if_pos rfl]
    exact isW_1 h hs hwr hv (Bool.eq_false_iff.mpr q) xn 0 (by omega)
theorem wa_in {nx wr : Int32} (hn : Rg nx) : ∀ (k i : Nat) (a : Int32), k + i = 12 → Rg a → pu_sub a nx → Rg (f_X0_wrongAmong_6 xn xw xk xm xf xB nx s wr k i a) ∧ pu_sub (f_X0_wrongAmong_6 xn xw xk xm xf xB nx s wr k i a) nx := by
  intro k
  induction k with
  | zero => intro i a _ ha h; rw [f_X0_wrongAmong_6_z]; exact ⟨ha, h⟩
  | succ k ih =>
    intro i a hk ha h
    have hi : i < 12 := by omega
    rw [f_X0_wrongAmong_6_s, has_bt hn hi]
    by_cases q : bt nx i = true
    · rw [if_pos q, if_neg (by decide)]
      by_cases q2 : f_X0_learntBy xn xw xk xm xf xB (nI i) s &&& wr = 0
      · rw [if_pos q2]; exact ih _ _ (by omega) ha h
      · rw [if_neg q2]; exact ih _ _ (by omega) (Rg_or ha (Rg_bit hi)) (sub_or h (sub_bit hi q))
    · rw [if_neg q, if_pos rfl]; exact ih _ _ (by omega) ha h
theorem sp_31 (h : RB zs b xn xw xk xm xf xB xh xt) (hs : Rg s) {wr : Int32} (hwr : pu_sub wr s) (hw2 : Rg wr) : ∀ (k i : Nat) (a : Int32), k + i = 12 → f_X7_spreads_31 zs b xn s wr (s ||| f_X0_taughtNext xn xw xk xm xf xB s) k i (wr ||| a) = wr ||| f_X0_wrongAmong_6 xn xw xk xm xf xB (f_X0_taughtNext xn xw xk xm xf xB s) s wr k i a := by
  intro k
  induction k with
  | zero => intro i a _; rw [f_X7_spreads_31_z, f_X0_wrongAmong_6_z]
  | succ k ih =>
    intro i a hk
    have hi : i < 12 := by omega
    have hR : Rg ((s ||| f_X0_taughtNext xn xw xk xm xf xB s) &&& (s ^^^ (-1 : Int32))) := Rg_and (Rg_or hs (tn_rg h.2.1 s))
    have hb : bt ((s ||| f_X0_taughtNext xn xw xk xm xf xB s) &&& (s ^^^ (-1 : Int32))) i = bt (f_X0_taughtNext xn xw xk xm xf xB s) i := by
      rw [bt_and, bt_or, bt_xm1 _ (by omega)]
      cases q : bt (f_X0_taughtNext xn xw xk xm xf xB s) i
      · cases bt s i <;> rfl
      · rw [tn_dis h.2.1 hs hi q]; rfl
    rw [f_X7_spreads_31_s, f_X0_wrongAmong_6_s, shr_1 hR hi, hb, has_bt (tn_rg h.2.1 s) hi]
    by_cases q : bt (f_X0_taughtNext xn xw xk xm xf xB s) i = true
    · have hG := ((pu_tn h.2.1 hs hi).mp q).2
      have hW := pu_isW h hs hwr hi hG
      rw [if_pos q, if_pos rfl, if_neg (c := (1 : Int32) = 0) (by decide)]
      by_cases q2 : f_X0_learntBy xn xw xk xm xf xB (nI i) s &&& wr = 0
      · rw [if_pos (hW.mpr q2), if_pos q2]
        exact ih _ _ (by omega)
      · rw [if_neg (fun z => q2 (hW.mp z)), if_neg q2, Int32.or_assoc]
        exact ih _ _ (by omega)
    · rw [if_neg q, if_neg (by decide), if_pos rfl]
      exact ih _ _ (by omega)
theorem sp_17 (h : RB zs b xn xw xk xm xf xB xh xt) : ∀ (K k i : Nat) (s wr : Int32), Rg s → Rg wr → pu_sub wr s → 12 ≤ pc s + k → 12 < pc s + K → f_X7_spreads_17 zs b xn K s wr (f_X7_next zs b xn s) = f_X0_wrongBy_10 xn xw xk xm xf xB k i s wr := by
  intro K
  induction K with
  | zero => intro k i s wr _ _ _ _ hK; have := pc_le12 s; omega
  | succ K ih =>
    intro k i s wr hs hw2 hwr hk hK
    rw [f_X7_spreads_17_s]
    by_cases q : f_X0_taughtNext xn xw xk xm xf xB s = 0
    · rw [if_pos ((nx_eq h hs).mpr q)]
      cases k with
      | zero => rw [f_X0_wrongBy_10_z]
      | succ k => rw [f_X0_wrongBy_10_s, if_pos q]
    · have hu := tn_up h.2.1 hs q
      have hp := pc_le12 (s ||| f_X0_taughtNext xn xw xk xm xf xB s)
      obtain ⟨k, rfl⟩ : ∃ k', k = k' + 1 := ⟨k - 1, by omega⟩
      have hno : ¬ f_X7_next zs b xn s = s := fun z => q ((nx_eq h hs).mp z)
      rw [if_neg hno, f_X0_wrongBy_10_s, if_neg q, pu_next h hs]
      have h31 := sp_31 h hs hwr hw2 12 0 0 rfl
      rw [Int32.or_zero] at h31
      obtain ⟨a1, a2⟩ := wa_in (xn := xn) (xw := xw) (xk := xk) (xm := xm) (xf := xf) (xB := xB) (s := s) (wr := wr) (tn_rg h.2.1 s) 12 0 0 rfl Rg_0 (sub_0 _)
      rw [h31]
      exact ih k (i + 1) _ _ (Rg_or hs (tn_rg h.2.1 s)) (Rg_or hw2 a1) (sub_or (pu_sub_t hwr (sub_or_l _ _)) (pu_sub_t a2 (sub_or_r _ _))) (by omega) (by omega)
theorem pu_spr (h : RB zs b xn xw xk xm xf xB xh xt) (hs : Rg s) {v : Nat} (hv : v < 12) (hsv : bt s v = true) : f_X7_spreads zs b xn s (nI v) = f_X0_wrongBy xn xw xk xm xf xB s (nI v) := sp_17 h 4096 (13 - 1) 1 s _ hs (Rg_bit hv) (sub_bit hv hsv) (by omega) (by omega)
theorem Rg_wr10 (hB : BB xn xw xk xm xf xB) : ∀ (k i : Nat) (s wr : Int32), Rg s → Rg wr → Rg (f_X0_wrongBy_10 xn xw xk xm xf xB k i s wr) := by
  intro k
  induction k with
  | zero => intro i s wr _ hw; rw [f_X0_wrongBy_10_z]; exact hw
  | succ k ih =>
    intro i s wr hs hw
    rw [f_X0_wrongBy_10_s]
    by_cases q : f_X0_taughtNext xn xw xk xm xf xB s = 0
    · rw [if_pos q]; exact hw
    · rw [if_neg q]
      exact ih _ _ _ (Rg_or hs (tn_rg hB s)) (Rg_or hw (wa_in (tn_rg hB s) 12 0 0 rfl Rg_0 (sub_0 _)).1)
theorem Rg_wr (hB : BB xn xw xk xm xf xB) (hs : Rg s) {v : Nat} (hv : v < 12) : Rg (f_X0_wrongBy xn xw xk xm xf xB s (nI v)) := Rg_wr10 hB _ _ _ _ hs (Rg_bit hv)
/-- shows -/
theorem shw_36 (h : RB zs b xn xw xk xm xf xB xh xt) {zf : Nat → Int32} {kn wo : Int32} : ∀ (k i : Nat) (a : Int32), k + i = xn → f_X7_shows_36 zf zs b xn kn wo k i a = f_X7_shows_91 zf zs b xn kn wo (f_X5_shownWords_4 xw xk k i a) 12 0 := by
  intro k
  induction k with
  | zero => intro i a _; rw [f_X7_shows_36_z, f_X5_shownWords_4_z]
  | succ k ih =>
    intro i a hk
    rw [f_X7_shows_36_s, f_X5_shownWords_4_s, h.g0 (by omega), h.g1 (by omega)]
    by_cases q : xk i = 4
    · rw [if_pos q, if_pos q]; exact ih _ _ (by omega)
    · rw [if_neg q, if_neg q, Int32.or_zero]; exact ih _ _ (by omega)
theorem Rg_shw (hB : BB xn xw xk xm xf xB) : ∀ (k i : Nat) (a : Int32), k + i = xn → Rg a → Rg (f_X5_shownWords_4 xw xk k i a) := by
  intro k
  induction k with
  | zero => intro i a _ ha; rw [f_X5_shownWords_4_z]; exact ha
  | succ k ih =>
    intro i a hk ha
    rw [f_X5_shownWords_4_s]
    by_cases q : xk i = 4
    · rw [if_pos q]
      obtain ⟨v, hv, ev⟩ := (hB.2.2 i (by omega)).1
      rw [ev]
      exact ih _ _ (by omega) (Rg_or ha (Rg_bit hv))
    · rw [if_neg q]; exact ih _ _ (by omega) ha
theorem shw_91 {zf : Nat → Int32} {kn wo m y : Int32} (hy : Rg y) (he : f_X7_spreads zs b xn kn wo &&& m = y) : ∀ (k i : Nat), k + i = 12 → f_X7_shows_91 zf zs b xn kn wo m k i = (f_X6_leastWord_2 y k i, zf) := by
  intro k
  induction k with
  | zero => intro i _; rw [f_X7_shows_91_z, f_X6_leastWord_2_z]
  | succ k ih =>
    intro i hk
    have hi : i < 12 := by omega
    rw [f_X7_shows_91_s, f_X6_leastWord_2_s, he, shr_1 hy hi, has_bt hy hi]
    by_cases q : bt y i = true
    · rw [if_pos q, if_pos rfl, if_neg (by decide)]
    · rw [if_neg q, if_neg (by decide), if_pos rfl]; exact ih _ (by omega)
theorem pu_shows (h : RB zs b xn xw xk xm xf xB xh xt) {zf : Nat → Int32} (hs : Rg s) {v : Nat} (hv : v < 12) (hsv : bt s v = true) : f_X7_shows_36 zf zs b xn s (nI v) xn 0 0 = (f_X6_leastWord (f_X0_wrongBy xn xw xk xm xf xB s (nI v) &&& f_X5_shownWords xn xw xk), zf) := by
  rw [shw_36 h xn 0 0 (by omega)]
  exact shw_91 (Rg_and (Rg_wr h.2.1 hs hv)) (by rw [pu_spr h hs hv hsv]; rfl) 12 0 rfl
end WRG
