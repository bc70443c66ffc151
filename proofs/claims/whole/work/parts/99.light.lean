/-! THE PURE PART: the least hard -/
def hsm (g : Nat → Nat) (p : Nat → Bool) : Nat → Nat
  | 0 => 0
  | n + 1 => hsm g p n + (if p n = true then g n else 0)
theorem hsm_mono (g : Nat → Nat) {p q : Nat → Bool} : ∀ n : Nat, (∀ w, w < n → p w = true → q w = true) → hsm g p n ≤ hsm g q n := by
  intro n
  induction n with
  | zero => intro _; exact Nat.le_refl _
  | succ n ih =>
    intro h
    have h1 := ih (fun w hw => h w (by omega))
    have h2 := h n (by omega)
    simp only [hsm]
    by_cases e : p n = true
    · rw [if_pos e, if_pos (h2 e)]; omega
    · rw [if_neg e]; split <;> omega
theorem hsm_le (g : Nat → Nat) (p : Nat → Bool) : ∀ n : Nat, (∀ w, w < n → g w ≤ 99) → hsm g p n ≤ 99 * n := by
  intro n
  induction n with
  | zero => intro _; exact Nat.le_refl _
  | succ n ih =>
    intro h
    have h1 := ih (fun w hw => h w (by omega))
    have h2 := h n (by omega)
    simp only [hsm]
    split <;> omega
section LGT
variable {xh : Nat → Int32} {g : Nat → Nat}
def HG (xh : Nat → Int32) (g : Nat → Nat) : Prop := ∀ w, w < 12 → xh w = nI (g w) ∧ g w ≤ 99
def HS (g : Nat → Nat) (s : Int32) : Nat := hsm g (bt s) 12
theorem HS_le (hg : HG xh g) (s : Int32) : HS g s ≤ 1188 := hsm_le g (bt s) 12 (fun w hw => (hg w hw).2)
theorem HS_sub {a c : Int32} (h : pu_sub a c) : HS g a ≤ HS g c := hsm_mono g 12 h
theorem hard_4 (hg : HG xh g) {s : Int32} (hs : Rg s) : ∀ (k i : Nat), k + i = 12 → f_X0_hardnessOf_4 xh s k i (nI (hsm g (bt s) i)) = nI (HS g s) := by
  intro k
  induction k with
  | zero => intro i hk; have hi : i = 12 := by omega
            subst hi; rw [f_X0_hardnessOf_4_z]; rfl
  | succ k ih =>
    intro i hk
    have hi : i < 12 := by omega
    rw [f_X0_hardnessOf_4_s, has_bt hs hi]
    have h1 := ih (i + 1) (by omega)
    simp only [hsm] at h1
    by_cases q : bt s i = true
    · rw [if_pos q] at h1
      rw [if_pos q, if_neg (by decide), (hg i hi).1, nI_add]
      exact h1
    · rw [if_neg q] at h1
      rw [if_neg q, if_pos rfl]
      exact h1
theorem pu_hard (hg : HG xh g) {s : Int32} (hs : Rg s) : f_X0_hardnessOf xh s = nI (HS g s) := hard_4 hg hs 12 0 rfl
theorem hard_5 {zs : Nat → Int32} {b : Nat} (hz : ∀ w, w < 12 → zs (162 + 12 * b + w) = xh w) {s : Int32} (hs : Rg s) : ∀ (k i : Nat) (a : Int32), k + i = 12 → f_X7_hardOf_5 zs b s k i a = f_X0_hardnessOf_4 xh s k i a := by
  intro k
  induction k with
  | zero => intro i a hk; rw [f_X7_hardOf_5_z, f_X0_hardnessOf_4_z]
  | succ k ih =>
    intro i a hk
    have hi : i < 12 := by omega
    rw [f_X7_hardOf_5_s, f_X0_hardnessOf_4_s, has_bt hs hi, shr_1 hs hi, hz i hi]
    by_cases q : bt s i = true
    · rw [if_pos q, if_neg (by decide), Int32.one_mul]
      exact ih _ _ (by omega)
    · rw [if_neg q, if_pos rfl, Int32.zero_mul, Int32.add_zero]
      exact ih _ _ (by omega)
theorem pu_hard7 (hg : HG xh g) {zs : Nat → Int32} {b : Nat} (hz : ∀ w, w < 12 → zs (162 + 12 * b + w) = xh w) {s : Int32} (hs : Rg s) : f_X7_hardOf zs b s = nI (HS g s) := by
  unfold f_X7_hardOf
  rw [hard_5 hz hs 12 0 0 rfl]
  exact pu_hard hg hs
def LX (g : Nat → Nat) (a c : Int32) : Prop := HS g a < HS g c ∨ (HS g a = HS g c ∧ (pc a < pc c ∨ (pc a = pc c ∧ nv a < nv c)))
theorem LX_t {a c d : Int32} (h1 : LX g a c) (h2 : LX g c d) : LX g a d := by
  unfold LX at *
  omega
theorem LX_i {a : Int32} : ¬ LX g a a := by
  unfold LX
  omega
theorem LX_eq {a c : Int32} (h1 : ¬ LX g a c) (h2 : ¬ LX g c a) : a = c := by
  unfold LX at *
  exact nv_inj (by omega)
theorem LX_sub {a c : Int32} (ha : Rg a) (hc : Rg c) (h : pu_sub a c) : LX g a c ∨ a = c := by
  by_cases e : a = c
  · exact Or.inr e
  · left
    have h1 := HS_sub (g := g) h
    have h2 := pc_sub h
    have h3 := sub_nv_lt ha h e
    unfold LX
    omega
theorem cmp_eq {a c : Nat} (ha : a < 2 ^ 31) (hc : c < 2 ^ 31) : f_J6_compare_7cf53 (nI a) (nI c) = 0 ↔ a = c := by
  unfold f_J6_compare_7cf53
  by_cases q : c ≤ a
  · rw [if_pos ((nI_leI hc ha).mpr q)]
    by_cases q2 : a = c
    · rw [if_pos ((nI_eq ha hc).mpr q2)]; exact ⟨fun _ => q2, fun _ => rfl⟩
    · rw [if_neg (fun z => q2 ((nI_eq ha hc).mp z))]; exact ⟨fun z => absurd z (by decide), fun z => absurd z q2⟩
  · rw [if_neg (fun z => q ((nI_leI hc ha).mp z))]
    exact ⟨fun z => absurd z (by decide), fun z => absurd (by omega) q⟩
theorem cmp_ge {a c : Nat} (ha : a < 2 ^ 31) (hc : c < 2 ^ 31) : (0 : Int32) ≤ f_J6_compare_7cf53 (nI a) (nI c) ↔ c ≤ a := by
  unfold f_J6_compare_7cf53
  by_cases q : c ≤ a
  · rw [if_pos ((nI_leI hc ha).mpr q)]
    by_cases q2 : a = c
    · rw [if_pos ((nI_eq ha hc).mpr q2)]; exact ⟨fun _ => q, fun _ => by decide⟩
    · rw [if_neg (fun z => q2 ((nI_eq ha hc).mp z))]; exact ⟨fun _ => q, fun _ => by decide⟩
  · rw [if_neg (fun z => q ((nI_leI hc ha).mp z))]
    exact ⟨fun z => absurd z (by decide), fun z => absurd z q⟩
theorem pu_lighter (hg : HG xh g) {Fc Fg be ex : Int32} {Fd : Nat → Int32} (hbe : Rg be) (hex : Rg (Fc ||| ex)) (hgx : Rg (Fg ||| ex)) : (Fd (nv (Fg ||| ex)) = 0 → f_X2_lighter Fc Fg Fd xh be ex = be) ∧ (¬ Fd (nv (Fg ||| ex)) = 0 → LX g (Fc ||| ex) be → f_X2_lighter Fc Fg Fd xh be ex = Fc ||| ex) ∧ (¬ Fd (nv (Fg ||| ex)) = 0 → ¬ LX g (Fc ||| ex) be → f_X2_lighter Fc Fg Fd xh be ex = be) := by
  obtain ⟨o, eo⟩ : ∃ o, Fc ||| ex = o := ⟨_, rfl⟩
  rw [eo] at hex ⊢
  have b1 := HS_le hg o
  have b2 := HS_le hg be
  have b3 := pc_le12 o
  have b4 := pc_le12 be
  have b5 := nv_lt hex
  have b6 := nv_lt hbe
  have c1 := cmp_eq (a := HS g o) (c := HS g be) (by omega) (by omega)
  have c2 := cmp_ge (a := HS g o) (c := HS g be) (by omega) (by omega)
  have c3 := cmp_eq (a := pc o) (c := pc be) (by omega) (by omega)
  have c4 := cmp_ge (a := pc o) (c := pc be) (by omega) (by omega)
  have c6 := cmp_ge (a := nv o) (c := nv be) (by omega) (by omega)
  rw [nI_nv, nI_nv] at c6
  unfold f_X2_lighter
  rw [nv_clamp hgx, eo, pu_hard hg hex, pu_hard hg hbe, pu_bc hex, pu_bc hbe]
  refine ⟨fun z => by rw [if_pos z], fun z hl => ?_, fun z hl => ?_⟩
  · rw [if_neg z]
    unfold LX at hl
    by_cases q1 : HS g o = HS g be
    · rw [if_pos (c1.mpr q1)]
      by_cases q2 : pc o = pc be
      · rw [if_pos (c3.mpr q2), if_neg (fun y => by have := c6.mp y; omega)]
      · rw [if_neg (fun y => q2 (c3.mp y)), if_neg (fun y => by have := c4.mp y; omega)]
    · rw [if_neg (fun y => q1 (c1.mp y)), if_neg (fun y => by have := c2.mp y; omega)]
  · rw [if_neg z]
    unfold LX at hl
    by_cases q1 : HS g o = HS g be
    · rw [if_pos (c1.mpr q1)]
      by_cases q2 : pc o = pc be
      · rw [if_pos (c3.mpr q2), if_pos (c6.mpr (by omega))]
      · rw [if_neg (fun y => q2 (c3.mp y)), if_pos (c4.mpr (by omega))]
    · rw [if_neg (fun y => q1 (c1.mp y)), if_pos (c2.mpr (by omega))]
end LGT
section LGS
variable {zs : Nat → Int32} {b xn : Nat} {xw xk xm xf : Nat → Int32} {xB : Int32} {xh xt : Nat → Int32} {g : Nat → Nat}
theorem lh_21 (hB : BB xn xw xk xm xf xB) (hg : HG xh g) {Fc Fg : Int32} {Fd : Nat → Int32} (hc : Rg Fc) (hgc : f_X0_learntFrom xn xw xk xm xf xB Fc = Fg) (hD : ∀ e : Int32, Rg e → pu_sub e (ffS Fg) → Fd (nv (Fg ||| e)) = if f_X0_learntFrom xn xw xk xm xf xB (Fg ||| e) = 4095 then 1 else 0) :
    ∀ (k : Nat) (be v : Int32), Rg v → pu_sub v (ffS Fg) → nv v < k → Rg be → f_X0_learntFrom xn xw xk xm xf xB be = 4095 → (∀ e : Int32, Rg e → pu_sub e (ffS Fg) → nv v < nv e → f_X0_learntFrom xn xw xk xm xf xB (Fc ||| e) = 4095 → ¬ LX g (Fc ||| e) be) → Rg (f_X2_leastHard_21 Fc Fg Fd xh k be v) ∧ f_X0_learntFrom xn xw xk xm xf xB (f_X2_leastHard_21 Fc Fg Fd xh k be v) = 4095 ∧ (∀ e : Int32, Rg e → pu_sub e (ffS Fg) → f_X0_learntFrom xn xw xk xm xf xB (Fc ||| e) = 4095 → ¬ LX g (Fc ||| e) (f_X2_leastHard_21 Fc Fg Fd xh k be v)) := by
  have hgg : Rg Fg := by rw [← hgc]; exact lf_rg hB hc
  have step : ∀ (be v : Int32), Rg v → pu_sub v (ffS Fg) → Rg be → f_X0_learntFrom xn xw xk xm xf xB be = 4095 → (∀ e : Int32, Rg e → pu_sub e (ffS Fg) → nv v < nv e → f_X0_learntFrom xn xw xk xm xf xB (Fc ||| e) = 4095 → ¬ LX g (Fc ||| e) be) → Rg (f_X2_lighter Fc Fg Fd xh be v) ∧ f_X0_learntFrom xn xw xk xm xf xB (f_X2_lighter Fc Fg Fd xh be v) = 4095 ∧ (∀ e : Int32, Rg e → pu_sub e (ffS Fg) → nv v ≤ nv e → f_X0_learntFrom xn xw xk xm xf xB (Fc ||| e) = 4095 → ¬ LX g (Fc ||| e) (f_X2_lighter Fc Fg Fd xh be v)) := by
    intro be v hv hvf hbe hF hmin
    obtain ⟨l1, l2, l3⟩ := pu_lighter (Fd := Fd) hg hbe (Rg_or hc hv) (Rg_or hgg hv)
    have hd := hD v hv hvf
    have hE := lf_cg hB hc hgc hv
    by_cases q : f_X0_learntFrom xn xw xk xm xf xB (Fg ||| v) = 4095
    · rw [if_pos q] at hd
      have hd0 : ¬ Fd (nv (Fg ||| v)) = 0 := by rw [hd]; decide
      by_cases q2 : LX g (Fc ||| v) be
      · rw [l2 hd0 q2]
        refine ⟨Rg_or hc hv, by rw [hE]; exact q, fun e he hef hle hFe => ?_⟩
        by_cases c : nv v = nv e
        · rw [nv_inj c]; exact LX_i
        · exact fun z => hmin e he hef (by omega) hFe (LX_t z q2)
      · rw [l3 hd0 q2]
        refine ⟨hbe, hF, fun e he hef hle hFe => ?_⟩
        by_cases c : nv v = nv e
        · rw [← nv_inj c]; exact q2
        · exact hmin e he hef (by omega) hFe
    · rw [if_neg q] at hd
      rw [l1 hd]
      refine ⟨hbe, hF, fun e he hef hle hFe => ?_⟩
      by_cases c : nv v = nv e
      · rw [← nv_inj c, hE] at hFe
        exact absurd hFe q
      · exact hmin e he hef (by omega) hFe
  intro k
  induction k with
  | zero => intro be v _ _ h; exact absurd h (Nat.not_lt_zero _)
  | succ k ih =>
    intro be v hv hvf hk hbe hF hmin
    rw [f_X2_leastHard_21_s]
    by_cases q : v ≤ 0
    · rw [if_pos q]
      have h0 := (nv_le0 hv).mp q
      have e0 : v = 0 := nv_inj (by rw [h0, nv_0])
      subst e0
      obtain ⟨s1, s2, s3⟩ := step be 0 hv hvf hbe hF hmin
      exact ⟨s1, s2, fun e he hef => s3 e he hef (by rw [nv_0]; exact Nat.zero_le _)⟩
    · rw [if_neg q]
      obtain ⟨s1, s2, s3⟩ := step be v hv hvf hbe hF hmin
      have hlt : nv ((v - 1) &&& ffS Fg) < nv v := Nat.lt_of_not_le (fun z => Nat.lt_irrefl _ (Nat.lt_of_lt_of_le ((pu_down hv hv q hvf hvf).mp (Nat.le_refl _)) z))
      exact ih _ ((v - 1) &&& ffS Fg) (Rg_and' Rg_ff) (sub_and_r _ _) (by omega) s1 s2 (fun e he hef hle => s3 e he hef ((pu_down hv he q hvf hef).mpr hle))
theorem lt_19 (h : RB zs b xn xw xk xm xf xB xh xt) (hg : HG xh g) {zf : Nat → Int32} {x : Int32} (hx : Rg x) (hxF : f_X0_learntFrom xn xw xk xm xf xB x = 4095) (hxm : ∀ y : Int32, Rg y → f_X0_learntFrom xn xw xk xm xf xB y = 4095 → ¬ LX g y x) : ∀ (k i : Nat) (v : Int32), k + i = 4096 → Rg v → f_X0_learntFrom xn xw xk xm xf xB v = 4095 → (v = 4095 ∨ nv v < i) → (∀ j : Nat, j < i → f_X0_learntFrom xn xw xk xm xf xB (nI j) = 4095 → ¬ LX g (nI j) v) → f_X7_lightest_19 zf zs b xn k i v = (x, zf) := by
  have hz : ∀ w, w < 12 → zs (162 + 12 * b + w) = xh w := fun w hw => (h.2.2.2.2.2.1 w hw).1
  intro k
  induction k with
  | zero =>
    intro i v hk hv hF _ hmin
    have hi : i = 4096 := by omega
    subst hi
    rw [f_X7_lightest_19_z]
    have m2 := hmin (nv x) (nv_lt hx) (by rw [nI_nv]; exact hxF)
    rw [nI_nv] at m2
    rw [LX_eq (hxm v hv hF) m2]
  | succ k ih =>
    intro i v hk hv hF hlt hmin
    have hi : i < 4096 := by omega
    have hR : Rg (nI i) := Rg_of hi
    have hp1 := pc_le12 (nI i)
    have hp2 := pc_le12 v
    have hh1 := HS_le hg (nI i)
    have hh2 := HS_le hg v
    have hni : nv (nI i) = i := nv_nI (by omega)
    rw [f_X7_lightest_19_s, pu_hard7 hg hz hR, pu_hard7 hg hz hv, pu_b7 hR, pu_b7 hv]
    have hkeep : (f_X0_learntFrom xn xw xk xm xf xB (nI i) = 4095 → ¬ LX g (nI i) v) → f_X7_lightest_19 zf zs b xn k (i + 1) v = (x, zf) := fun hn => ih (i + 1) v (by omega) hv hF (hlt.imp id (fun z => by omega)) (fun j hj => by
      rcases Nat.lt_or_ge j i with c | c
      · exact hmin j c
      · have e : j = i := by omega
        subst e
        exact hn)
    have htake : f_X0_learntFrom xn xw xk xm xf xB (nI i) = 4095 → LX g (nI i) v → f_X7_lightest_19 zf zs b xn k (i + 1) (nI i) = (x, zf) := fun hFi hl => ih (i + 1) (nI i) (by omega) hR hFi (Or.inr (by omega)) (fun j hj hFj => by
      rcases Nat.lt_or_ge j i with c | c
      · exact fun z => hmin j c hFj (LX_t z hl)
      · have e : j = i := by omega
        subst e
        exact LX_i)
    have hFd : ¬ f_X7_isFoundation zs b xn (nI i) = 0 → f_X0_learntFrom xn xw xk xm xf xB (nI i) = 4095 := fun z => Classical.byContradiction (fun y => z ((pu_isF h hR).mpr y))
    by_cases q1 : HS g (nI i) < HS g v
    · rw [if_pos (nI_lt q1 (by omega))]
      by_cases q2 : f_X7_isFoundation zs b xn (nI i) = 0
      · rw [if_pos q2]
        exact hkeep (fun z => absurd z ((pu_isF h hR).mp q2))
      · rw [if_neg q2]
        exact htake (hFd q2) (Or.inl q1)
    · rw [if_neg (nI_nlt (by omega) (by omega))]
      by_cases q3 : HS g (nI i) = HS g v
      · rw [if_pos (by rw [q3])]
        by_cases q4 : pc v ≤ pc (nI i)
        · rw [if_pos (nI_le q4 (by omega))]
          refine hkeep (fun hFi z => ?_)
          unfold LX at z
          rcases hlt with c | c
          · subst c
            rw [pc_4095] at q4
            have e := pc_12 hR q4
            rw [e] at z
            omega
          · omega
        · rw [if_neg (nI_ge (by omega) (by omega))]
          by_cases q2 : f_X7_isFoundation zs b xn (nI i) = 0
          · rw [if_pos q2]
            exact hkeep (fun z => absurd z ((pu_isF h hR).mp q2))
          · rw [if_neg q2]
            exact htake (hFd q2) (Or.inr ⟨q3, Or.inl (by omega)⟩)
      · rw [if_neg (fun z => q3 ((nI_eq (by omega) (by omega)).mp z))]
        refine hkeep (fun _ z => ?_)
        unfold LX at z
        omega
theorem HG_of (h : RB zs b xn xw xk xm xf xB xh xt) : ∃ g : Nat → Nat, HG xh g := by
  refine ⟨fun w => (xh w).toNatClampNeg, fun w hw => ?_⟩
  obtain ⟨v, hv, e⟩ := (h.2.2.2.2.2.1 w hw).2
  have : (xh w).toNatClampNeg = v := by rw [e, nI_clamp (by omega)]
  show xh w = nI (xh w).toNatClampNeg ∧ (xh w).toNatClampNeg ≤ 99
  rw [this]
  exact ⟨e, hv⟩
theorem pu_light (h : RB zs b xn xw xk xm xf xB xh xt) {zf : Nat → Int32} {Fm Fa Fs : Int32} {Fd : Nat → Int32} : f_X7_lightest zf zs b xn = (f_X2_leastHard (f_X2_find Fm Fa Fs Fd xn xw xk xm xf xB 0).2.1 (f_X2_find Fm Fa Fs Fd xn xw xk xm xf xB 0).2.2.1 (f_X2_find Fm Fa Fs Fd xn xw xk xm xf xB 0).1 xh, zf) := by
  obtain ⟨g, hg⟩ := HG_of h
  have hB := h.2.1
  obtain ⟨_, Fc, Fg, eFc, eFg, a1, a2, hD⟩ := pu_find (Fm := Fm) (Fa := Fa) (Fs := Fs) (Fd := Fd) hB Rg_0
  have hc : Rg Fc := by rw [← eFc]; exact Rg_or Rg_0 Rg_never
  have hgg : Rg Fg := by rw [← eFg]; exact lf_rg hB hc
  rw [a1, a2]
  have e2 : ∀ d : Nat → Int32, f_X2_leastHard Fc Fg d xh = f_X2_leastHard_21 Fc Fg d xh 4096 (Fc ||| ffS Fg) (ffS Fg) := fun _ => rfl
  rw [e2]
  have hfull : f_X0_learntFrom xn xw xk xm xf xB (Fc ||| ffS Fg) = 4095 := by
    rw [lf_cg hB hc eFg Rg_ff]
    have e : Fg ||| ffS Fg = 4095 := Rg_ext (Rg_or hgg Rg_ff) Rg_4095 (fun w hw => by
      rw [bt_or, bt_ff hw, bt_4095 hw]
      cases bt Fg w <;> rfl)
    rw [e]
    exact lf_self hB Rg_4095 (tn_4095 hB)
  obtain ⟨r1, r2, r3⟩ := lh_21 hB hg hc eFg hD 4096 (Fc ||| ffS Fg) (ffS Fg) Rg_ff (pu_sub_r _) (nv_lt Rg_ff) (Rg_or hc Rg_ff) hfull (fun e he hef hle => by
    have := sub_nv he hef
    omega)
  refine lt_19 h hg r1 r2 (fun y hy hyF z => ?_) 4096 0 4095 rfl Rg_4095 (lf_self hB Rg_4095 (tn_4095 hB)) (Or.inl rfl) (fun j hj => absurd hj (Nat.not_lt_zero _))
  obtain ⟨p1, p2⟩ := pu_part hB Rg_0 eFc eFg hy (sub_0 _) hyF
  have hq := r3 (y &&& ffS Fg) (Rg_and hy) (sub_and_r _ _) p2
  rcases LX_sub (g := g) (Rg_or hc (Rg_and hy)) hy p1 with q | q
  · exact hq (LX_t q z)
  · rw [q] at hq; exact hq z
end LGS
