/-! THE PURE PART: when a telling teaches; one round -/
theorem ite1 {p : Prop} {d : Decidable p} : (¬ (@ite Int32 p d 1 0) = 0) ↔ p := by
  by_cases h : p
  · rw [if_pos h]; exact ⟨fun _ => h, fun _ => by decide⟩
  · rw [if_neg h]; exact ⟨fun q => absurd rfl q, fun q => absurd q h⟩
theorem ite0 {p : Prop} {d : Decidable p} : (¬ (@ite Int32 p d 0 1) = 0) ↔ ¬ p := by
  by_cases h : p
  · rw [if_pos h]; exact ⟨fun q => absurd rfl q, fun q => absurd h q⟩
  · rw [if_neg h]; exact ⟨fun _ => h, fun _ => by decide⟩
def TC (k m f s : Int32) : Prop := (k = 0 ∧ pc (m &&& s) = pc m) ∨ (k = 1 ∧ pc m < 2 * pc (m &&& s)) ∨ (k = 2 ∧ ∃ v : Nat, v < 12 ∧ f = nI v ∧ bt s v = true ∧ (1 < pc (m &&& s) ∨ pc m = 1)) ∨ (k = 3 ∧ 0 < pc (m &&& s)) ∨ k = 4
def TXT (w k m f : Int32) : Prop := (∃ v : Nat, v < 12 ∧ w = nI v) ∧ (∃ v : Nat, v < 6 ∧ k = nI v) ∧ Rg m ∧ (k = 2 → ∃ v : Nat, v < 12 ∧ f = nI v ∧ bt m v = true)
theorem TC0 {m f s : Int32} : TC 0 m f s ↔ pc (m &&& s) = pc m := by
  unfold TC
  constructor
  · rintro (⟨_, h⟩ | ⟨q, _⟩ | ⟨q, _⟩ | ⟨q, _⟩ | q)
    · exact h
    all_goals exact absurd q (by decide)
  · intro h; exact Or.inl ⟨rfl, h⟩
theorem TC1 {m f s : Int32} : TC 1 m f s ↔ pc m < 2 * pc (m &&& s) := by
  unfold TC
  constructor
  · rintro (⟨q, _⟩ | ⟨_, h⟩ | ⟨q, _⟩ | ⟨q, _⟩ | q)
    · exact absurd q (by decide)
    · exact h
    all_goals exact absurd q (by decide)
  · intro h; exact Or.inr (Or.inl ⟨rfl, h⟩)
theorem TC2 {m f s : Int32} : TC 2 m f s ↔ ∃ v : Nat, v < 12 ∧ f = nI v ∧ bt s v = true ∧ (1 < pc (m &&& s) ∨ pc m = 1) := by
  unfold TC
  constructor
  · rintro (⟨q, _⟩ | ⟨q, _⟩ | ⟨_, h⟩ | ⟨q, _⟩ | q)
    · exact absurd q (by decide)
    · exact absurd q (by decide)
    · exact h
    all_goals exact absurd q (by decide)
  · intro h; exact Or.inr (Or.inr (Or.inl ⟨rfl, h⟩))
theorem TC3 {m f s : Int32} : TC 3 m f s ↔ 0 < pc (m &&& s) := by
  unfold TC
  constructor
  · rintro (⟨q, _⟩ | ⟨q, _⟩ | ⟨q, _⟩ | ⟨_, h⟩ | q)
    · exact absurd q (by decide)
    · exact absurd q (by decide)
    · exact absurd q (by decide)
    · exact h
    · exact absurd q (by decide)
  · intro h; exact Or.inr (Or.inr (Or.inr (Or.inl ⟨rfl, h⟩)))
theorem TC4 {m f s : Int32} : TC 4 m f s := Or.inr (Or.inr (Or.inr (Or.inr rfl)))
theorem TC5 {m f s : Int32} : ¬ TC 5 m f s := by
  unfold TC
  rintro (⟨q, _⟩ | ⟨q, _⟩ | ⟨q, _⟩ | ⟨q, _⟩ | q)
  all_goals exact absurd q (by decide)
theorem pu_kind {m f s : Int32} {v : Nat} (hm : Rg m) (hv : v < 12) (ef : f = nI v) (hb : bt m v = true) : (∃ v : Nat, v < 12 ∧ f = nI v ∧ bt s v = true ∧ (1 < pc (m &&& s) ∨ pc m = 1)) ↔ bt s v = true ∧ (1 < pc (m &&& s) ∨ pc m = 1) := by
  constructor
  · rintro ⟨u, hu, eu, h⟩
    have e : u = v := (nI_wj hu hv).mp (by rw [← eu, ef])
    subst e
    exact h
  · intro h
    exact ⟨v, hv, ef, h⟩
theorem pu_t5 {w : Int32} {xk xm xf : Nat → Int32} {t : Nat} {s : Int32} (hx : TXT w (xk t) (xm t) (xf t)) (hs : Rg s) : (¬ f_X5_teaches xk xm xf t s = 0) ↔ TC (xk t) (xm t) (xf t) s := by
  obtain ⟨_, ⟨k, hk, ek⟩, hm, hf⟩ := hx
  have ha : Rg (xm t &&& s) := Rg_and hm
  have b1 := pc_le12 (xm t &&& s)
  have b2 := pc_le12 (xm t)
  unfold f_X5_teaches
  rcases (show k = 0 ∨ k = 1 ∨ k = 2 ∨ k = 3 ∨ k = 4 ∨ k = 5 by omega) with rfl | rfl | rfl | rfl | rfl | rfl
  · have e : xk t = 0 := ek
    rw [e, TC0, if_pos rfl, ite1]
    exact and_eq_pc hm
  · have e : xk t = 1 := ek
    have e2 : (2 : Int32) * nI (pc (xm t &&& s)) = nI (2 * pc (xm t &&& s)) := pk_mul 2 _
    rw [e, TC1, if_neg (by decide), if_pos rfl, ite0, pu_bc ha, pu_bc hm, e2, nI_leI (by omega) (by omega)]
    omega
  · have e : xk t = 2 := ek
    obtain ⟨v, hv, ef, hb⟩ := hf e
    rw [e, TC2, pu_kind hm hv ef hb, if_neg (by decide), if_neg (by decide), if_pos rfl, ef]
    have hbb : bt (xm t &&& s) v = bt s v := by rw [bt_and, hb, Bool.true_and]
    by_cases hsv : bt s v = true
    · have hav : bt (xm t &&& s) v = true := by rw [hbb]; exact hsv
      have hp := pc_pos hv hav
      rw [if_neg (fun q => by rw [(and_bit0 ha hv).mp q] at hav; cases hav)]
      by_cases h1 : pc (xm t &&& s) = 1
      · rw [if_pos ((pc_one ha hv hav).mpr h1), ite1, pc_one hm hv hb]
        constructor
        · intro h; exact ⟨hsv, Or.inr h⟩
        · rintro ⟨_, h | h⟩
          · omega
          · exact h
      · rw [if_neg (fun q => h1 ((pc_one ha hv hav).mp q))]
        exact ⟨fun _ => ⟨hsv, Or.inl (by omega)⟩, fun _ => by decide⟩
    · have hsf : bt s v = false := Bool.eq_false_iff.mpr hsv
      rw [if_pos ((and_bit0 ha hv).mpr (by rw [hbb]; exact hsf))]
      exact ⟨fun q => absurd rfl q, fun q => absurd q.1 hsv⟩
  · have e : xk t = 3 := ek
    rw [e, TC3, if_neg (by decide), if_neg (by decide), if_neg (by decide), if_pos rfl, ite0, pc_z ha]
    omega
  · have e : xk t = 4 := ek
    rw [e, if_neg (by decide), if_neg (by decide), if_neg (by decide), if_neg (by decide), if_pos rfl]
    exact ⟨fun _ => TC4, fun _ => by decide⟩
  · have e : xk t = 5 := ek
    rw [e, if_neg (by decide), if_neg (by decide), if_neg (by decide), if_neg (by decide), if_neg (by decide)]
    exact ⟨fun q => absurd rfl q, fun q => absurd q TC5⟩
theorem pu_t7 {w k m f : Int32} {zs : Nat → Int32} {b t : Nat} {s : Int32} (hx : TXT w k m f) (hs : Rg s) (h1 : f_X7_get zs b t 1 = k) (h2 : f_X7_get zs b t 2 = m) (h3 : f_X7_get zs b t 3 = f) : (¬ f_X7_teaches zs b t s = 0) ↔ TC k m f s := by
  obtain ⟨_, ⟨c, hk, ek⟩, hm, hf⟩ := hx
  have ha : Rg (m &&& s) := Rg_and hm
  have b1 := pc_le12 (m &&& s)
  have b2 := pc_le12 m
  unfold f_X7_teaches
  rw [h1, h2, h3, pu_b7 ha, pu_b7 hm]
  rcases (show c = 0 ∨ c = 1 ∨ c = 2 ∨ c = 3 ∨ c = 4 ∨ c = 5 by omega) with rfl | rfl | rfl | rfl | rfl | rfl
  · have e : k = 0 := ek
    rw [e, TC0, if_pos rfl, ite1]
    exact nI_eq (by omega) (by omega)
  · have e : k = 1 := ek
    have e2 : (2 : Int32) * nI (pc (m &&& s)) = nI (2 * pc (m &&& s)) := pk_mul 2 _
    rw [e, TC1, if_neg (by decide), if_pos rfl, ite0, e2, nI_leI (by omega) (by omega)]
    omega
  · have e : k = 2 := ek
    obtain ⟨v, hv, ef, hb⟩ := hf e
    rw [e, TC2, pu_kind hm hv ef hb, if_neg (by decide), if_neg (by decide), if_pos rfl, ef, shr_1 hs hv]
    have c1 : (1 : Int32) < nI (pc (m &&& s)) ↔ 1 < pc (m &&& s) := nI_ltI (a := 1) (by omega) (by omega)
    have c2 : nI (pc m) = 1 ↔ pc m = 1 := nI_eq (b := 1) (by omega) (by omega)
    by_cases hsv : bt s v = true
    · rw [if_pos hsv, if_pos rfl]
      by_cases h5 : 1 < pc (m &&& s)
      · rw [if_pos (c1.mpr h5)]
        exact ⟨fun _ => ⟨hsv, Or.inl h5⟩, fun _ => by decide⟩
      · rw [if_neg (fun q => h5 (c1.mp q)), ite1, c2]
        exact ⟨fun q => ⟨hsv, Or.inr q⟩, fun q => q.2.elim (fun z => absurd z h5) id⟩
    · rw [if_neg hsv, if_neg (by decide)]
      exact ⟨fun q => absurd rfl q, fun q => absurd q.1 hsv⟩
  · have e : k = 3 := ek
    have c1 : nI (pc (m &&& s)) ≤ 0 ↔ pc (m &&& s) ≤ 0 := nI_leI (b := 0) (by omega) (by omega)
    rw [e, TC3, if_neg (by decide), if_neg (by decide), if_neg (by decide), if_pos rfl, ite0, c1]
    omega
  · have e : k = 4 := ek
    rw [e, if_neg (by decide), if_neg (by decide), if_neg (by decide), if_neg (by decide), if_pos rfl]
    exact ⟨fun _ => TC4, fun _ => by decide⟩
  · have e : k = 5 := ek
    rw [e, if_neg (by decide), if_neg (by decide), if_neg (by decide), if_neg (by decide), if_neg (by decide)]
    exact ⟨fun q => absurd rfl q, fun q => absurd q TC5⟩
theorem TC_mono {k m f s s' : Int32} (h : TC k m f s) (hs : pu_sub s s') : TC k m f s' := by
  have h1 : pc (m &&& s) ≤ pc (m &&& s') := pc_sub (fun w hw e => by
    rw [bt_and] at e ⊢
    rw [Bool.and_eq_true] at e ⊢
    exact ⟨e.1, hs w hw e.2⟩)
  have h2 : pc (m &&& s') ≤ pc m := pc_sub (sub_and_l m s')
  unfold TC at *
  rcases h with ⟨q, h⟩ | ⟨q, h⟩ | ⟨q, v, hv, ef, hb, h⟩ | ⟨q, h⟩ | q
  · exact Or.inl ⟨q, by omega⟩
  · exact Or.inr (Or.inl ⟨q, by omega⟩)
  · exact Or.inr (Or.inr (Or.inl ⟨q, v, hv, ef, hs v hv hb, by omega⟩))
  · exact Or.inr (Or.inr (Or.inr (Or.inl ⟨q, by omega⟩)))
  · exact Or.inr (Or.inr (Or.inr (Or.inr q)))
/-- a book of the class: what its tellings are -/
def BB (xn : Nat) (xw xk xm xf : Nat → Int32) (xB : Int32) : Prop := xn ≤ 20 ∧ Rg xB ∧ ∀ t, t < xn → TXT (xw t) (xk t) (xm t) (xf t)
theorem BB.v {xn : Nat} {xw xk xm xf : Nat → Int32} {xB : Int32} (h : BB xn xw xk xm xf xB) : VW xn xw := fun t ht => (h.2.2 t ht).1
/-- what a round brings a word by -/
def GW (xn : Nat) (xw xk xm xf : Nat → Int32) (xB s : Int32) (w : Nat) : Prop := (∃ t : Nat, t < xn ∧ xw t = nI w ∧ TC (xk t) (xm t) (xf t) s) ∧ ¬ (bt xB w = true ∧ ∃ t : Nat, t < xn ∧ xw t = nI w ∧ ¬ TC (xk t) (xm t) (xf t) s)
theorem GW_mono {xn : Nat} {xw xk xm xf : Nat → Int32} {xB s s' : Int32} {w : Nat} (h : GW xn xw xk xm xf xB s w) (hs : pu_sub s s') : GW xn xw xk xm xf xB s' w := by
  obtain ⟨⟨t, ht, ew, hT⟩, h2⟩ := h
  refine ⟨⟨t, ht, ew, TC_mono hT hs⟩, ?_⟩
  rintro ⟨hB, u, hu, eu, hn⟩
  exact h2 ⟨hB, u, hu, eu, fun q => hn (TC_mono q hs)⟩
section TN
variable {xn : Nat} {xw xk xm xf : Nat → Int32} {xB s : Int32}
theorem pu_tn7 (hB : BB xn xw xk xm xf xB) (hs : Rg s) : ∀ (k i : Nat) (a b : Int32), k + i = xn → (∀ w : Nat, w < 12 → (bt a w = true ↔ ∃ t : Nat, t < i ∧ (bt s w = false ∧ xw t = nI w ∧ TC (xk t) (xm t) (xf t) s))) → (∀ w : Nat, w < 12 → (bt b w = true ↔ ∃ t : Nat, t < i ∧ (bt s w = false ∧ xw t = nI w ∧ ¬ TC (xk t) (xm t) (xf t) s))) → ∀ w : Nat, w < 12 → (bt (f_X0_taughtNext_7 xw xk xm xf xB s k i a b) w = true ↔ bt s w = false ∧ GW xn xw xk xm xf xB s w) := by
  intro k
  induction k with
  | zero =>
    intro i a b hk ha hb w hw
    have hi : i = xn := by omega
    subst hi
    rw [f_X0_taughtNext_7_z, bt_and, bt_xm1 _ (by omega), bt_and, Bool.and_eq_true, Bool.not_eq_true', Bool.and_eq_false_iff, ha w hw]
    unfold GW
    constructor
    · rintro ⟨⟨t, ht, h1, h2, h3⟩, h4⟩
      refine ⟨h1, ⟨t, ht, h2, h3⟩, ?_⟩
      rintro ⟨hB1, u, hu, eu, hn⟩
      rcases h4 with h4 | h4
      · have := (hb w hw).mpr ⟨u, hu, h1, eu, hn⟩
        rw [h4] at this
        cases this
      · rw [h4] at hB1; cases hB1
    · rintro ⟨h1, ⟨t, ht, h2, h3⟩, h4⟩
      refine ⟨⟨t, ht, h1, h2, h3⟩, ?_⟩
      by_cases q : bt xB w = true
      · left
        refine Bool.eq_false_iff.mpr (fun z => ?_)
        obtain ⟨u, hu, _, eu, hn⟩ := (hb w hw).mp z
        exact h4 ⟨q, u, hu, eu, hn⟩
      · exact Or.inr (Bool.eq_false_iff.mpr q)
  | succ k ih =>
    intro i a b hk ha hb
    obtain ⟨v, hv, ev⟩ := (hB.2.2 i (by omega)).1
    have hT := pu_t5 (hB.2.2 i (by omega)) hs
    rw [f_X0_taughtNext_7_s, ev]
    by_cases hsv : bt s v = false
    · rw [if_pos ((and_bit0 hs hv).mpr hsv)]
      by_cases hq : f_X5_teaches xk xm xf i s = 0
      · rw [if_pos hq]
        have hn : ¬ TC (xk i) (xm i) (xf i) s := fun z => hT.mpr z hq
        refine ih _ _ _ (by omega) (fun w hw => ?_) (fun w hw => ?_)
        · rw [ha w hw, pu_bt_ex]
          exact ⟨Or.inl, fun z => z.elim id (fun z => absurd z.2.2 hn)⟩
        · rw [bt_orbit hv, hb w hw, pu_bt_ex, ev, nI_wj hv hw]
          exact ⟨fun z => z.elim Or.inl (fun z => Or.inr ⟨by rw [← z]; exact hsv, z, hn⟩), fun z => z.elim Or.inl (fun z => Or.inr z.2.1)⟩
      · rw [if_neg hq]
        have hn := hT.mp hq
        refine ih _ _ _ (by omega) (fun w hw => ?_) (fun w hw => ?_)
        · rw [bt_orbit hv, ha w hw, pu_bt_ex, ev, nI_wj hv hw]
          exact ⟨fun z => z.elim Or.inl (fun z => Or.inr ⟨by rw [← z]; exact hsv, z, hn⟩), fun z => z.elim Or.inl (fun z => Or.inr z.2.1)⟩
        · rw [hb w hw, pu_bt_ex]
          exact ⟨Or.inl, fun z => z.elim id (fun z => absurd hn z.2.2)⟩
    · rw [if_neg (fun q => hsv ((and_bit0 hs hv).mp q))]
      refine ih _ _ _ (by omega) (fun w hw => ?_) (fun w hw => ?_)
      · rw [ha w hw, pu_bt_ex, ev, nI_wj hv hw]
        exact ⟨Or.inl, fun z => z.elim id (fun z => absurd (by rw [z.2.1]; exact z.1) hsv)⟩
      · rw [hb w hw, pu_bt_ex, ev, nI_wj hv hw]
        exact ⟨Or.inl, fun z => z.elim id (fun z => absurd (by rw [z.2.1]; exact z.1) hsv)⟩
theorem pu_tn (hB : BB xn xw xk xm xf xB) (hs : Rg s) {w : Nat} (hw : w < 12) : bt (f_X0_taughtNext xn xw xk xm xf xB s) w = true ↔ bt s w = false ∧ GW xn xw xk xm xf xB s w := by
  unfold f_X0_taughtNext
  exact pu_tn7 hB hs xn 0 0 0 (by omega) (fun w _ => by rw [bt_0]; exact ⟨fun z => (by cases z), fun z => absurd z pu_ex0⟩) (fun w _ => by rw [bt_0]; exact ⟨fun z => (by cases z), fun z => absurd z pu_ex0⟩) w hw
end TN
/-- one book of both sides -/
def RB (zs : Nat → Int32) (b xn : Nat) (xw xk xm xf : Nat → Int32) (xB : Int32) (xh xt : Nat → Int32) : Prop :=
  b < 2 ∧ BB xn xw xk xm xf xB ∧ zs (160 + b) = nI xn ∧
  (∀ t, t < xn → zs (80 * b + 4 * t) = xw t ∧ zs (80 * b + 4 * t + 1) = xk t ∧ zs (80 * b + 4 * t + 2) = xm t ∧ zs (80 * b + 4 * t + 3) = xf t) ∧
  (∀ w, w < 12 → zs (210 + 12 * b + w) = if bt xB w = true then 1 else 0) ∧
  (∀ w, w < 12 → zs (162 + 12 * b + w) = xh w ∧ ∃ v : Nat, v ≤ 99 ∧ xh w = nI v) ∧
  (∀ w, w < 12 → zs (186 + 12 * b + w) = xt w ∧ ∃ v : Nat, v ≤ 99 ∧ xt w = nI v)
section NX
variable {zs : Nat → Int32} {b xn : Nat} {xw xk xm xf : Nat → Int32} {xB : Int32} {xh xt : Nat → Int32} {s : Int32}
theorem RB.g0 (h : RB zs b xn xw xk xm xf xB xh xt) {t : Nat} (ht : t < xn) : f_X7_get zs b t 0 = xw t := (h.2.2.2.1 t ht).1
theorem RB.g1 (h : RB zs b xn xw xk xm xf xB xh xt) {t : Nat} (ht : t < xn) : f_X7_get zs b t 1 = xk t := (h.2.2.2.1 t ht).2.1
theorem RB.g2 (h : RB zs b xn xw xk xm xf xB xh xt) {t : Nat} (ht : t < xn) : f_X7_get zs b t 2 = xm t := (h.2.2.2.1 t ht).2.2.1
theorem RB.g3 (h : RB zs b xn xw xk xm xf xB xh xt) {t : Nat} (ht : t < xn) : f_X7_get zs b t 3 = xf t := (h.2.2.2.1 t ht).2.2.2
theorem RB.t7 (h : RB zs b xn xw xk xm xf xB xh xt) (hs : Rg s) {t : Nat} (ht : t < xn) : (¬ f_X7_teaches zs b t s = 0) ↔ TC (xk t) (xm t) (xf t) s := pu_t7 (h.2.1.2.2 t ht) hs (h.g1 ht) (h.g2 ht) (h.g3 ht)
theorem RB.nd (h : RB zs b xn xw xk xm xf xB xh xt) : ∀ t : Nat, t < xn → Rg (zs (80 * b + 4 * t + 2)) := fun t ht => by rw [(h.2.2.2.1 t ht).2.2.1]; exact (h.2.1.2.2 t ht).2.2.1
theorem RB.wd (h : RB zs b xn xw xk xm xf xB xh xt) : ∀ t : Nat, t < xn → ∃ w : Nat, w < 12 ∧ zs (80 * b + 4 * t) = nI w := fun t ht => by rw [(h.2.2.2.1 t ht).1]; exact (h.2.1.2.2 t ht).1
theorem pu_n74 (h : RB zs b xn xw xk xm xf xB xh xt) {v3 v4 : Int32} (h4 : Rg v4) : ∀ (k i : Nat) (a : Int32), k + i = 12 → (∀ w : Nat, w < 12 → (bt a w = true ↔ bt v3 w = true ∧ ¬ (w < i ∧ bt xB w = true ∧ bt v4 w = true))) → ∀ w : Nat, w < 12 → (bt (f_X7_next_74 zs b s v4 k i a) w = true ↔ bt s w = true ∨ (bt v3 w = true ∧ ¬ (bt xB w = true ∧ bt v4 w = true))) := by
  intro k
  induction k with
  | zero =>
    intro i a hk ha w hw
    rw [f_X7_next_74_z, bt_or, Bool.or_eq_true, ha w hw]
    have : w < i := by omega
    simp only [this, true_and]
  | succ k ih =>
    intro i a hk ha
    have hi : i < 12 := by omega
    rw [f_X7_next_74_s, h.2.2.2.2.1 i hi, shr_1 h4 hi]
    by_cases q1 : bt xB i = true
    · rw [if_pos q1, if_pos rfl]
      by_cases q2 : bt v4 i = true
      · rw [if_pos q2, if_pos rfl]
        refine ih _ _ (by omega) (fun w hw => ?_)
        rw [bt_and, bt_xm1 _ (by omega), bt_bit hi, Bool.and_eq_true, ha w hw, Bool.not_eq_true', decide_eq_false_iff_not]
        constructor
        · rintro ⟨⟨z1, z2⟩, z3⟩
          exact ⟨z1, fun z => z2 ⟨by omega, z.2⟩⟩
        · rintro ⟨z1, z2⟩
          exact ⟨⟨z1, fun z => z2 ⟨by omega, z.2⟩⟩, fun z => z2 ⟨by omega, by rw [← z]; exact ⟨q1, q2⟩⟩⟩
      · rw [if_neg q2, if_neg (by decide)]
        refine ih _ _ (by omega) (fun w hw => ?_)
        rw [ha w hw]
        constructor
        · rintro ⟨z1, z2⟩
          refine ⟨z1, fun z => ?_⟩
          rcases Nat.lt_or_ge w i with c | c
          · exact z2 ⟨c, z.2⟩
          · have e : w = i := by omega
            subst e
            exact q2 z.2.2
        · rintro ⟨z1, z2⟩
          exact ⟨z1, fun z => z2 ⟨by omega, z.2⟩⟩
    · rw [if_neg q1, if_neg (by decide)]
      refine ih _ _ (by omega) (fun w hw => ?_)
      rw [ha w hw]
      constructor
      · rintro ⟨z1, z2⟩
        refine ⟨z1, fun z => ?_⟩
        rcases Nat.lt_or_ge w i with c | c
        · exact z2 ⟨c, z.2⟩
        · have e : w = i := by omega
          subst e
          exact q1 z.2.1
      · rintro ⟨z1, z2⟩
        exact ⟨z1, fun z => z2 ⟨by omega, z.2⟩⟩
theorem pu_n8 (h : RB zs b xn xw xk xm xf xB xh xt) (hs : Rg s) : ∀ (k i : Nat) (a c : Int32), k + i = xn → Rg c → (∀ w : Nat, w < 12 → (bt a w = true ↔ ∃ t : Nat, t < i ∧ (xw t = nI w ∧ TC (xk t) (xm t) (xf t) s))) → (∀ w : Nat, w < 12 → (bt c w = true ↔ ∃ t : Nat, t < i ∧ (xw t = nI w ∧ ¬ TC (xk t) (xm t) (xf t) s))) → ∀ w : Nat, w < 12 → (bt (f_X7_next_8 zs b s k i a c) w = true ↔ bt s w = true ∨ GW xn xw xk xm xf xB s w) := by
  intro k
  induction k with
  | zero =>
    intro i a c hk hc ha hb w hw
    have hi : i = xn := by omega
    subst hi
    rw [f_X7_next_8_z, pu_n74 (v3 := a) h hc 12 0 a rfl (fun w hw => by simp) w hw, ha w hw, hb w hw]
    rfl
  | succ k ih =>
    intro i a c hk hc ha hb
    have hi : i < xn := by omega
    obtain ⟨v, hv, ev⟩ := (h.2.1.2.2 i hi).1
    have hT := h.t7 hs hi
    rw [f_X7_next_8_s, h.g0 hi, ev]
    by_cases hq : f_X7_teaches zs b i s = 0
    · rw [if_pos hq]
      have hn : ¬ TC (xk i) (xm i) (xf i) s := fun z => hT.mpr z hq
      refine ih _ _ _ (by omega) (Rg_or hc (Rg_bit hv)) (fun w hw => ?_) (fun w hw => ?_)
      · rw [ha w hw, pu_bt_ex]
        exact ⟨Or.inl, fun z => z.elim id (fun z => absurd z.2 hn)⟩
      · rw [bt_orbit hv, hb w hw, pu_bt_ex, ev, nI_wj hv hw]
        exact ⟨fun z => z.elim Or.inl (fun z => Or.inr ⟨z, hn⟩), fun z => z.elim Or.inl (fun z => Or.inr z.1)⟩
    · rw [if_neg hq]
      have hn := hT.mp hq
      refine ih _ _ _ (by omega) hc (fun w hw => ?_) (fun w hw => ?_)
      · rw [bt_orbit hv, ha w hw, pu_bt_ex, ev, nI_wj hv hw]
        exact ⟨fun z => z.elim Or.inl (fun z => Or.inr ⟨z, hn⟩), fun z => z.elim Or.inl (fun z => Or.inr z.1)⟩
      · rw [hb w hw, pu_bt_ex]
        exact ⟨Or.inl, fun z => z.elim id (fun z => absurd hn z.2)⟩
theorem pu_nx (h : RB zs b xn xw xk xm xf xB xh xt) (hs : Rg s) {w : Nat} (hw : w < 12) : bt (f_X7_next zs b xn s) w = true ↔ bt s w = true ∨ GW xn xw xk xm xf xB s w := by
  unfold f_X7_next
  exact pu_n8 h hs xn 0 0 0 (by omega) Rg_0 (fun w _ => by rw [bt_0]; exact ⟨fun z => (by cases z), fun z => absurd z pu_ex0⟩) (fun w _ => by rw [bt_0]; exact ⟨fun z => (by cases z), fun z => absurd z pu_ex0⟩) w hw
/-- the model's round is the class's, beside what was learnt -/
theorem pu_next (h : RB zs b xn xw xk xm xf xB xh xt) (hs : Rg s) : f_X7_next zs b xn s = s ||| f_X0_taughtNext xn xw xk xm xf xB s := by
  refine Rg_ext (Rg_next hs h.wd) (Rg_or hs (Rg_taught s h.2.1.v)) (fun w hw => ?_)
  rw [Bool.eq_iff_iff, pu_nx h hs hw, bt_or, Bool.or_eq_true, pu_tn h.2.1 hs hw]
  by_cases q : bt s w = true
  · simp only [q, true_or]
  · have q2 : bt s w = false := Bool.eq_false_iff.mpr q
    simp only [q2, true_and]
theorem pu_need5 (h : RB zs b xn xw xk xm xf xB xh xt) {wo : Int32} : ∀ (k i : Nat) (a : Int32), k + i = xn → f_X7_neededBy_5 zs b wo k i a = f_X5_neededBy_4 xw xm wo k i a := by
  intro k
  induction k with
  | zero => intro i a _; rw [f_X7_neededBy_5_z, f_X5_neededBy_4_z]
  | succ k ih =>
    intro i a hk
    rw [f_X7_neededBy_5_s, f_X5_neededBy_4_s, h.g0 (by omega), h.g2 (by omega), ih _ _ (by omega), ih _ _ (by omega), Int32.or_zero]
theorem pu_need (h : RB zs b xn xw xk xm xf xB xh xt) (wo : Int32) : f_X7_neededBy zs b xn wo = f_X5_neededBy xn xw xm wo := pu_need5 h _ _ _ rfl
theorem Rg_need4 (h : BB xn xw xk xm xf xB) {wo : Int32} : ∀ (k i : Nat) (a : Int32), k + i = xn → Rg a → Rg (f_X5_neededBy_4 xw xm wo k i a) := by
  intro k
  induction k with
  | zero => intro i a _ ha; rw [f_X5_neededBy_4_z]; exact ha
  | succ k ih =>
    intro i a hk ha
    rw [f_X5_neededBy_4_s]
    split
    · exact ih _ _ (by omega) (Rg_or ha (h.2.2 i (by omega)).2.2.1)
    · exact ih _ _ (by omega) ha
theorem Rg_need (h : BB xn xw xk xm xf xB) (wo : Int32) : Rg (f_X5_neededBy xn xw xm wo) := Rg_need4 h _ _ _ rfl Rg_0
end NX
