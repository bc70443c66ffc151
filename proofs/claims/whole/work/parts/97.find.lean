/-! THE PURE PART: the search for foundations finds them -/
section FND
variable {xn : Nat} {xw xk xm xf : Nat → Int32} {xB gv : Int32}
theorem bt_wo {w v : Nat} (hw : w < 12) (hv : v < 12) : bt ((4095 : Int32) &&& (((1 : Int32) <<< (nI v &&& 31)) ^^^ (-1 : Int32))) w = true ↔ ¬ v = w := by
  rw [bt_and, bt_4095 hw, Bool.true_and, bt_xm1 _ (by omega), bt_bit hv, Bool.not_eq_true', decide_eq_false_iff_not]
theorem nev_4 (hB : BB xn xw xk xm xf xB) : ∀ (k i : Nat) (a : Int32), k + i = 12 → (∀ w : Nat, w < 12 → (bt a w = true ↔ w < i ∧ bt (f_X0_taughtNext xn xw xk xm xf xB ((4095 : Int32) &&& (((1 : Int32) <<< (nI w &&& 31)) ^^^ (-1 : Int32)))) w = false)) → ∀ w : Nat, w < 12 → (bt (f_X0_neverTaught_4 xn xw xk xm xf xB k i a) w = true ↔ bt (f_X0_taughtNext xn xw xk xm xf xB ((4095 : Int32) &&& (((1 : Int32) <<< (nI w &&& 31)) ^^^ (-1 : Int32)))) w = false) := by
  intro k
  induction k with
  | zero =>
    intro i a hk ha w hw
    rw [f_X0_neverTaught_4_z, ha w hw]
    exact ⟨fun z => z.2, fun z => ⟨by omega, z⟩⟩
  | succ k ih =>
    intro i a hk ha
    have hi : i < 12 := by omega
    rw [f_X0_neverTaught_4_s, has_bt (tn_rg hB _) hi]
    by_cases q : bt (f_X0_taughtNext xn xw xk xm xf xB ((4095 : Int32) &&& (((1 : Int32) <<< (nI i &&& 31)) ^^^ (-1 : Int32)))) i = true
    · rw [if_pos q, if_neg (by decide)]
      refine ih _ _ (by omega) (fun w hw => ?_)
      rw [ha w hw]
      constructor
      · rintro ⟨z1, z2⟩; exact ⟨by omega, z2⟩
      · rintro ⟨z1, z2⟩
        rcases Nat.lt_or_ge w i with c | c
        · exact ⟨c, z2⟩
        · have e : w = i := by omega
          subst e
          rw [q] at z2; cases z2
    · have qf := Bool.eq_false_iff.mpr q
      rw [if_neg q, if_pos rfl]
      refine ih _ _ (by omega) (fun w hw => ?_)
      rw [bt_orbit hi, ha w hw]
      constructor
      · rintro (⟨z1, z2⟩ | z)
        · exact ⟨by omega, z2⟩
        · subst z; exact ⟨by omega, qf⟩
      · rintro ⟨z1, z2⟩
        rcases Nat.lt_or_ge w i with c | c
        · exact Or.inl ⟨c, z2⟩
        · exact Or.inr (by omega)
theorem nev_bt (hB : BB xn xw xk xm xf xB) {w : Nat} (hw : w < 12) : bt (f_X0_neverTaught xn xw xk xm xf xB) w = true ↔ bt (f_X0_taughtNext xn xw xk xm xf xB ((4095 : Int32) &&& (((1 : Int32) <<< (nI w &&& 31)) ^^^ (-1 : Int32)))) w = false := by
  unfold f_X0_neverTaught
  exact nev_4 hB 12 0 0 rfl (fun w _ => by rw [bt_0]; exact ⟨fun z => (by cases z), fun z => absurd z.1 (Nat.not_lt_zero _)⟩) w hw
theorem nev_in (hB : BB xn xw xk xm xf xB) {s : Int32} (hs : Rg s) (h : f_X0_learntFrom xn xw xk xm xf xB s = 4095) : pu_sub (f_X0_neverTaught xn xw xk xm xf xB) s := by
  intro w hw hn
  cases q : bt s w
  · have hR : Rg ((4095 : Int32) &&& (((1 : Int32) <<< (nI w &&& 31)) ^^^ (-1 : Int32))) := Rg_and Rg_4095
    have h0 : f_X0_taughtNext xn xw xk xm xf xB ((4095 : Int32) &&& (((1 : Int32) <<< (nI w &&& 31)) ^^^ (-1 : Int32))) = 0 := by
      refine Rg_ext (tn_rg hB _) Rg_0 (fun v hv => ?_)
      rw [bt_0]
      by_cases e : w = v
      · subst e; exact (nev_bt hB hw).mp hn
      · refine Bool.eq_false_iff.mpr (fun z => ?_)
        have := tn_dis hB hR hv z
        rw [(bt_wo hv hw).mpr e] at this
        cases this
    have h1 := lf_min hB hs hR h0 (fun v hv z => (bt_wo hv hw).mpr (fun e => by subst e; rw [q] at z; cases z))
    rw [h] at h1
    exact absurd rfl ((bt_wo hw hw).mp (h1 w hw (bt_4095 hw)))
  · rfl
theorem st_9 (hB : BB xn xw xk xm xf xB) {s : Int32} (hs : Rg s) : ∀ (k i : Nat), k + i = xn → (∀ t : Nat, t < i → ∀ w : Nat, w < 12 → xw t = nI w → bt s w = false → bt xB w = false → ¬ TC (xk t) (xm t) (xf t) s) → (f_X0_someTaughtNext_9 xn xw xk xm xf xB s k i = 0 → f_X0_taughtNext xn xw xk xm xf xB s = 0) ∧ pu_sub (f_X0_someTaughtNext_9 xn xw xk xm xf xB s k i) (f_X0_taughtNext xn xw xk xm xf xB s) := by
  intro k
  induction k with
  | zero =>
    intro i hk hn
    have hi : i = xn := by omega
    subst hi
    rw [f_X0_someTaughtNext_9_z]
    by_cases q : xB = 0
    · rw [if_pos q]
      refine ⟨fun _ => (tn_z hB hs).mpr (fun w hw h1 h2 => ?_), sub_0 _⟩
      obtain ⟨⟨t, ht, ew, hT⟩, _⟩ := h2
      exact hn t ht w hw ew h1 (by rw [q, bt_0]) hT
    · rw [if_neg q]
      exact ⟨fun z => z, pu_sub_r _⟩
  | succ k ih =>
    intro i hk hn
    have hi : i < xn := by omega
    obtain ⟨v, hv, ev⟩ := (hB.2.2 i hi).1
    have hT := pu_t5 (hB.2.2 i hi) hs
    have hnext : (∀ w : Nat, w < 12 → xw i = nI w → bt s w = false → bt xB w = false → ¬ TC (xk i) (xm i) (xf i) s) → (∀ t : Nat, t < i + 1 → ∀ w : Nat, w < 12 → xw t = nI w → bt s w = false → bt xB w = false → ¬ TC (xk t) (xm t) (xf t) s) := fun z t ht => by
      rcases Nat.lt_or_ge t i with c | c
      · exact hn t c
      · have e : t = i := by omega
        subst e
        exact z
    rw [f_X0_someTaughtNext_9_s, ev]
    by_cases q : bt (s ||| xB) v = false
    · rw [if_pos ((and_bit0 (Rg_or hs hB.2.1) hv).mpr q)]
      rw [bt_or, Bool.or_eq_false_iff] at q
      by_cases q2 : f_X5_teaches xk xm xf i s = 0
      · rw [if_pos q2]
        exact ih _ (by omega) (hnext (fun w _ _ _ _ z => hT.mpr z q2))
      · rw [if_neg q2]
        have hp := pc_bit hv
        refine ⟨fun z => ?_, sub_bit hv ((pu_tn hB hs hv).mpr ⟨q.1, ⟨i, hi, ev, hT.mp q2⟩, fun z => ?_⟩)⟩
        · rw [z, pc_0] at hp; omega
        · rw [q.2] at z; cases z.1
    · rw [if_neg (fun z => q ((and_bit0 (Rg_or hs hB.2.1) hv).mp z))]
      refine ih _ (by omega) (hnext (fun w hw ew h1 h2 => ?_))
      have e : v = w := (nI_wj hv hw).mp (by rw [← ev, ew])
      subst e
      rw [bt_or, h1, h2] at q
      exact absurd rfl q
theorem st_0 (hB : BB xn xw xk xm xf xB) {s : Int32} (hs : Rg s) (h : f_X0_someTaughtNext xn xw xk xm xf xB s = 0) : f_X0_taughtNext xn xw xk xm xf xB s = 0 := (st_9 hB hs xn 0 (by omega) (fun t ht => absurd ht (Nat.not_lt_zero _))).1 h
theorem st_in (hB : BB xn xw xk xm xf xB) {s : Int32} (hs : Rg s) : pu_sub (f_X0_someTaughtNext xn xw xk xm xf xB s) (f_X0_taughtNext xn xw xk xm xf xB s) := (st_9 hB hs xn 0 (by omega) (fun t ht => absurd ht (Nat.not_lt_zero _))).2
theorem nar1 : vp_nar .boolean 1 = 1 := by decide
theorem nar0 : vp_nar .boolean 0 = 0 := by decide
def ffS (Fg : Int32) : Int32 := (4095 : Int32) &&& (Fg ^^^ (-1 : Int32))
theorem bt_ff {Fg : Int32} {w : Nat} (hw : w < 12) : bt (ffS Fg) w = !bt Fg w := by
  unfold ffS
  rw [bt_and, bt_4095 hw, Bool.true_and, bt_xm1 _ (by omega)]
theorem Rg_ff {Fg : Int32} : Rg (ffS Fg) := Rg_and Rg_4095
/-- over the ground: a set is the ground and a free one -/
theorem ov_eq {Fg s : Int32} (hg : Rg Fg) (hs : Rg s) (h : pu_sub Fg s) : s = Fg ||| (s &&& ffS Fg) := Rg_ext hs (Rg_or hg (Rg_and hs)) (fun w hw => by
  rw [bt_or, bt_and, bt_ff hw]
  cases e : bt Fg w
  · simp
  · rw [h w hw e]; rfl)
theorem ov_nv {Fg e : Int32} (hg : Rg Fg) (he : Rg e) (h : pu_sub e (ffS Fg)) : nv (Fg ||| e) = nv Fg + nv e := nv_dis hg he (fun w hw z => by
  cases q : bt e w
  · rfl
  · have := h w hw q
    rw [bt_ff hw, z] at this
    cases this)
theorem pu_look (hB : BB xn xw xk xm xf xB) {Fc Fg Fw Fn Fm Fa Fs : Int32} {Fd : Nat → Int32} {v : Int32} (hg : Rg Fg) (hv : Rg v) (hvf : pu_sub v (ffS Fg))
    (hD : ∀ e : Int32, Rg e → pu_sub e (ffS Fg) → nv v < nv e → Fd (nv (Fg ||| e)) = if f_X0_learntFrom xn xw xk xm xf xB (Fg ||| e) = 4095 then 1 else 0) :
    (f_X0_learntFrom xn xw xk xm xf xB (Fg ||| v) = 4095 → f_X2_look Fc Fg Fw Fn Fm Fa Fs Fd xn xw xk xm xf xB v = (upd Fd (nv (Fg ||| v)) 1, (f_X2_note Fw Fn Fm Fa Fs (Fc ||| v)).1, (f_X2_note Fw Fn Fm Fa Fs (Fc ||| v)).2.1, (f_X2_note Fw Fn Fm Fa Fs (Fc ||| v)).2.2.1, (f_X2_note Fw Fn Fm Fa Fs (Fc ||| v)).2.2.2.1, (f_X2_note Fw Fn Fm Fa Fs (Fc ||| v)).2.2.2.2)) ∧ (¬ f_X0_learntFrom xn xw xk xm xf xB (Fg ||| v) = 4095 → f_X2_look Fc Fg Fw Fn Fm Fa Fs Fd xn xw xk xm xf xB v = (upd Fd (nv (Fg ||| v)) 0, Fw, Fn, Fm, Fa, Fs)) := by
  have hR : Rg (Fg ||| v) := Rg_or hg hv
  have hgs : pu_sub Fg (Fg ||| v) := sub_or_l _ _
  -- a greater set over the ground was looked at
  have hup : ∀ u : Int32, Rg u → pu_sub (Fg ||| v) u → nv (Fg ||| v) < nv u → Fd (nv u) = if f_X0_learntFrom xn xw xk xm xf xB u = 4095 then 1 else 0 := by
    intro u hu h1 h2
    have e := ov_eq hg hu (pu_sub_t hgs h1)
    have hef : pu_sub (u &&& ffS Fg) (ffS Fg) := sub_and_r _ _
    have h3 := ov_nv hg (Rg_and hu) hef
    rw [← e] at h3
    rw [ov_nv hg hv hvf] at h2
    have h4 := hD (u &&& ffS Fg) (Rg_and hu) hef (by omega)
    rw [← e] at h4
    exact h4
  unfold f_X2_look
  rw [nv_clamp hR, nar1, nar0]
  by_cases q : Fg ||| v = 4095
  · rw [if_pos q]
    refine ⟨fun _ => rfl, fun z => absurd ?_ z⟩
    rw [q]
    exact lf_self hB Rg_4095 (tn_4095 hB)
  · rw [if_neg q]
    have hU : Rg ((Fg ||| v) ||| ((Fg ||| v) + (1 : Int32))) := Rg_up hR q
    rw [nv_clamp hU, hup _ hU up_sub (up_nv hR)]
    by_cases q2 : f_X0_learntFrom xn xw xk xm xf xB ((Fg ||| v) ||| ((Fg ||| v) + (1 : Int32))) = 4095
    · rw [if_pos q2, if_neg (by decide)]
      by_cases q3 : f_X0_someTaughtNext xn xw xk xm xf xB (Fg ||| v) = 0
      · rw [if_pos q3]
        have h0 := lf_self hB hR (st_0 hB hR q3)
        exact ⟨fun z => absurd (by rw [← h0]; exact z) q, fun _ => rfl⟩
      · rw [if_neg q3]
        have hsn := st_in hB hR
        have hsr : Rg (f_X0_someTaughtNext xn xw xk xm xf xB (Fg ||| v)) := Rg_some _ hB.v
        have hN : Rg ((Fg ||| v) ||| f_X0_someTaughtNext xn xw xk xm xf xB (Fg ||| v)) := Rg_or hR hsr
        have hlt : nv (Fg ||| v) < nv ((Fg ||| v) ||| f_X0_someTaughtNext xn xw xk xm xf xB (Fg ||| v)) := by
          refine sub_nv_lt hR (sub_or_l _ _) (fun z => q3 (Rg_ext hsr Rg_0 (fun w hw => ?_)))
          rw [bt_0]
          refine Bool.eq_false_iff.mpr (fun y => ?_)
          have y1 := tn_dis hB hR hw (hsn w hw y)
          rw [z, bt_or, y, Bool.or_true] at y1
          cases y1
        have hsame : f_X0_learntFrom xn xw xk xm xf xB ((Fg ||| v) ||| f_X0_someTaughtNext xn xw xk xm xf xB (Fg ||| v)) = f_X0_learntFrom xn xw xk xm xf xB (Fg ||| v) := lf_add hB hR hN (sub_or_l _ _) (sub_or (lf_ext hB hR) (pu_sub_t hsn (tn_lf hB hR)))
        rw [nv_clamp hN, hup _ hN (sub_or_l _ _) hlt, hsame]
        by_cases q4 : f_X0_learntFrom xn xw xk xm xf xB (Fg ||| v) = 4095
        · rw [if_pos q4, if_neg (by decide)]
          exact ⟨fun _ => rfl, fun z => absurd q4 z⟩
        · rw [if_neg q4, if_pos rfl]
          exact ⟨fun z => absurd z q4, fun _ => rfl⟩
    · rw [if_neg q2, if_pos rfl]
      refine ⟨fun z => absurd ?_ q2, fun _ => rfl⟩
      have h5 := lf_mono hB hR hU up_sub
      rw [z] at h5
      exact pu_sub_a (lf_rg hB hU) Rg_4095 (sub_4095 _) h5
/-- the sets looked at down to T -/
def pu_S (xn : Nat) (xw xk xm xf : Nat → Int32) (xB Fc Fg : Int32) (T j : Nat) : Bool := decide ((nI j &&& Fg) = Fc ∧ f_X0_learntFrom xn xw xk xm xf xB (nI j) = 4095 ∧ T ≤ nv (nI j &&& ffS Fg))
theorem lf_cg (hB : BB xn xw xk xm xf xB) {Fc Fg e : Int32} (hc : Rg Fc) (hgc : f_X0_learntFrom xn xw xk xm xf xB Fc = Fg) (he : Rg e) : f_X0_learntFrom xn xw xk xm xf xB (Fc ||| e) = f_X0_learntFrom xn xw xk xm xf xB (Fg ||| e) := by
  have hg : Rg Fg := by rw [← hgc]; exact lf_rg hB hc
  have hcg : pu_sub Fc Fg := by rw [← hgc]; exact lf_ext hB hc
  refine (lf_add hB (Rg_or hc he) (Rg_or hg he) (sub_or (pu_sub_t hcg (sub_or_l _ _)) (sub_or_r _ _)) (sub_or ?_ (pu_sub_t (sub_or_r _ _) (lf_ext hB (Rg_or hc he))))).symm
  rw [← hgc]
  exact lf_mono hB hc (Rg_or hc he) (sub_or_l _ _)
theorem cov_g {Fc Fg v : Int32} (hc : Rg Fc) (hv : Rg v) (hcg : pu_sub Fc Fg) (hvf : pu_sub v (ffS Fg)) : (Fc ||| v) &&& Fg = Fc := Rg_ext (Rg_and (Rg_or hc hv)) hc (fun w hw => by
  rw [bt_and, bt_or]
  cases e1 : bt Fc w
  · cases e2 : bt v w
    · rfl
    · have := hvf w hw e2
      rw [bt_ff hw] at this
      cases e3 : bt Fg w
      · rfl
      · rw [e3] at this; cases this
  · rw [hcg w hw e1]; rfl)
theorem cov_f {Fc Fg v : Int32} (hc : Rg Fc) (hv : Rg v) (hcg : pu_sub Fc Fg) (hvf : pu_sub v (ffS Fg)) : (Fc ||| v) &&& ffS Fg = v := Rg_ext (Rg_and (Rg_or hc hv)) hv (fun w hw => by
  rw [bt_and, bt_or, bt_ff hw]
  cases e1 : bt Fc w
  · cases e2 : bt v w
    · rfl
    · have := hvf w hw e2
      rw [bt_ff hw] at this
      rw [this]; rfl
  · rw [hcg w hw e1]
    cases e2 : bt v w
    · rfl
    · have := hvf w hw e2
      rw [bt_ff hw, hcg w hw e1] at this
      cases this)
theorem cov_eq {Fc Fg s : Int32} (hs : Rg s) (hc : Rg Fc) (h : s &&& Fg = Fc) : s = Fc ||| (s &&& ffS Fg) := Rg_ext hs (Rg_or hc (Rg_and hs)) (fun w hw => by
  rw [bt_or, ← h, bt_and, bt_and, bt_ff hw]
  cases bt s w <;> cases bt Fg w <;> rfl)
theorem pu_S_step (hB : BB xn xw xk xm xf xB) {Fc Fg v : Int32} (hc : Rg Fc) (hgc : f_X0_learntFrom xn xw xk xm xf xB Fc = Fg) (hv : Rg v) (hvf : pu_sub v (ffS Fg)) : (f_X0_learntFrom xn xw xk xm xf xB (Fg ||| v) = 4095 → ∀ j : Nat, j < 4096 → (pu_S xn xw xk xm xf xB Fc Fg (nv v + 1) j || j == nv (Fc ||| v)) = pu_S xn xw xk xm xf xB Fc Fg (nv v) j) ∧ (¬ f_X0_learntFrom xn xw xk xm xf xB (Fg ||| v) = 4095 → ∀ j : Nat, j < 4096 → pu_S xn xw xk xm xf xB Fc Fg (nv v + 1) j = pu_S xn xw xk xm xf xB Fc Fg (nv v) j) ∧ pu_S xn xw xk xm xf xB Fc Fg (nv v + 1) (nv (Fc ||| v)) = false := by
  have hg : Rg Fg := by rw [← hgc]; exact lf_rg hB hc
  have hcg : pu_sub Fc Fg := by rw [← hgc]; exact lf_ext hB hc
  have hE := lf_cg hB hc hgc hv
  have k1 := cov_g hc hv hcg hvf
  have k2 := cov_f hc hv hcg hvf
  have hat : ∀ j : Nat, j < 4096 → (nI j &&& Fg) = Fc → nv (nI j &&& ffS Fg) = nv v → j = nv (Fc ||| v) := fun j hj h1 h2 => by
    have e := cov_eq (Rg_of hj) hc h1
    rw [nv_inj h2] at e
    rw [← e, nv_nI (by omega)]
  refine ⟨fun hF j hj => ?_, fun hF j hj => ?_, ?_⟩
  · rw [Bool.eq_iff_iff, Bool.or_eq_true, beq_iff_eq]
    unfold pu_S
    rw [decide_eq_true_eq, decide_eq_true_eq]
    constructor
    · rintro (⟨z1, z2, z3⟩ | z)
      · exact ⟨z1, z2, by omega⟩
      · rw [z, nI_nv, k1, k2, hE]
        exact ⟨rfl, hF, Nat.le_refl _⟩
    · rintro ⟨z1, z2, z3⟩
      rcases Nat.lt_or_ge (nv v) (nv (nI j &&& ffS Fg)) with c | c
      · exact Or.inl ⟨z1, z2, c⟩
      · exact Or.inr (hat j hj z1 (by omega))
  · rw [Bool.eq_iff_iff]
    unfold pu_S
    rw [decide_eq_true_eq, decide_eq_true_eq]
    constructor
    · rintro ⟨z1, z2, z3⟩; exact ⟨z1, z2, by omega⟩
    · rintro ⟨z1, z2, z3⟩
      refine ⟨z1, z2, ?_⟩
      rcases Nat.lt_or_ge (nv v) (nv (nI j &&& ffS Fg)) with c | c
      · exact c
      · have e := hat j hj z1 (by omega)
        rw [e, nI_nv, hE] at z2
        exact absurd z2 hF
  · unfold pu_S
    rw [decide_eq_false_iff_not, nI_nv, k2]
    rintro ⟨_, _, z⟩
    omega
theorem ov_inj {Fg a c : Int32} (hg : Rg Fg) (ha : Rg a) (hc : Rg c) (h1 : pu_sub a (ffS Fg)) (h2 : pu_sub c (ffS Fg)) (h : nv (Fg ||| a) = nv (Fg ||| c)) : nv a = nv c := by
  rw [ov_nv hg ha h1, ov_nv hg hc h2] at h
  omega
theorem pu_f49 (hB : BB xn xw xk xm xf xB) (hgv : Rg gv) {Fc Fg : Int32} (eFc : gv ||| f_X0_neverTaught xn xw xk xm xf xB = Fc) (eFg : f_X0_learntFrom xn xw xk xm xf xB Fc = Fg) : ∀ (k : Nat) (v : Int32) (d : Nat → Int32) (q3 q4 q5 q6 q7 : Int32), Rg v → pu_sub v (ffS Fg) → nv v < k → (∀ e : Int32, Rg e → pu_sub e (ffS Fg) → nv v < nv e → d (nv (Fg ||| e)) = if f_X0_learntFrom xn xw xk xm xf xB (Fg ||| e) = 4095 then 1 else 0) → pu_I (pu_S xn xw xk xm xf xB Fc Fg (nv v + 1)) q3 q4 q5 q6 q7 →
    (∀ e : Int32, Rg e → pu_sub e (ffS Fg) → (f_X2_find_49 xn xw xk xm xf xB gv k v d q3 q4 q5 q6 q7).1 (nv (Fg ||| e)) = if f_X0_learntFrom xn xw xk xm xf xB (Fg ||| e) = 4095 then 1 else 0) ∧ (f_X2_find_49 xn xw xk xm xf xB gv k v d q3 q4 q5 q6 q7).2.1 = Fc ∧ (f_X2_find_49 xn xw xk xm xf xB gv k v d q3 q4 q5 q6 q7).2.2.1 = Fg ∧ pu_I (pu_S xn xw xk xm xf xB Fc Fg 0) (f_X2_find_49 xn xw xk xm xf xB gv k v d q3 q4 q5 q6 q7).2.2.2.1 (f_X2_find_49 xn xw xk xm xf xB gv k v d q3 q4 q5 q6 q7).2.2.2.2.1 (f_X2_find_49 xn xw xk xm xf xB gv k v d q3 q4 q5 q6 q7).2.2.2.2.2.1 (f_X2_find_49 xn xw xk xm xf xB gv k v d q3 q4 q5 q6 q7).2.2.2.2.2.2.1 (f_X2_find_49 xn xw xk xm xf xB gv k v d q3 q4 q5 q6 q7).2.2.2.2.2.2.2 := by
  have hc : Rg Fc := by rw [← eFc]; exact Rg_or hgv Rg_never
  have hg : Rg Fg := by rw [← eFg]; exact lf_rg hB hc
  -- what one look does
  have look1 : ∀ (v : Int32) (d : Nat → Int32) (q3 q4 q5 q6 q7 : Int32), Rg v → pu_sub v (ffS Fg) → (∀ e : Int32, Rg e → pu_sub e (ffS Fg) → nv v < nv e → d (nv (Fg ||| e)) = if f_X0_learntFrom xn xw xk xm xf xB (Fg ||| e) = 4095 then 1 else 0) → pu_I (pu_S xn xw xk xm xf xB Fc Fg (nv v + 1)) q3 q4 q5 q6 q7 →
      (∀ e : Int32, Rg e → pu_sub e (ffS Fg) → nv v ≤ nv e → (f_X2_look Fc Fg q3 q4 q5 q6 q7 d xn xw xk xm xf xB v).1 (nv (Fg ||| e)) = if f_X0_learntFrom xn xw xk xm xf xB (Fg ||| e) = 4095 then 1 else 0) ∧ pu_I (pu_S xn xw xk xm xf xB Fc Fg (nv v)) (f_X2_look Fc Fg q3 q4 q5 q6 q7 d xn xw xk xm xf xB v).2.1 (f_X2_look Fc Fg q3 q4 q5 q6 q7 d xn xw xk xm xf xB v).2.2.1 (f_X2_look Fc Fg q3 q4 q5 q6 q7 d xn xw xk xm xf xB v).2.2.2.1 (f_X2_look Fc Fg q3 q4 q5 q6 q7 d xn xw xk xm xf xB v).2.2.2.2.1 (f_X2_look Fc Fg q3 q4 q5 q6 q7 d xn xw xk xm xf xB v).2.2.2.2.2 := by
    intro v d q3 q4 q5 q6 q7 hv hvf hD hI
    obtain ⟨l1, l2⟩ := pu_look (Fc := Fc) (Fw := q3) (Fn := q4) (Fm := q5) (Fa := q6) (Fs := q7) hB hg hv hvf hD
    obtain ⟨s1, s2, s3⟩ := pu_S_step hB hc eFg hv hvf
    have hD2 : ∀ (x : Int32), x = (if f_X0_learntFrom xn xw xk xm xf xB (Fg ||| v) = 4095 then 1 else 0) → ∀ e : Int32, Rg e → pu_sub e (ffS Fg) → nv v ≤ nv e → upd d (nv (Fg ||| v)) x (nv (Fg ||| e)) = if f_X0_learntFrom xn xw xk xm xf xB (Fg ||| e) = 4095 then 1 else 0 := fun x hx e he hef hle => by
      by_cases c : nv v = nv e
      · have e1 : v = e := nv_inj c
        subst e1
        rw [pk_us, hx]
      · rw [pk_un (fun z => c (ov_inj hg he hv hef hvf z).symm)]
        exact hD e he hef (by omega)
    by_cases q : f_X0_learntFrom xn xw xk xm xf xB (Fg ||| v) = 4095
    · rw [l1 q]
      refine ⟨hD2 1 (by rw [if_pos q]), ?_⟩
      have h2 : nv (Fc ||| v) < 4096 := nv_lt (Rg_or hc hv)
      have h3 := pu_I_note h2 s3 hI
      rw [nI_nv] at h3
      exact pu_I_congr (s1 q) h3
    · rw [l2 q]
      exact ⟨hD2 0 (by rw [if_neg q]), pu_I_congr (s2 q) hI⟩
  intro k
  induction k with
  | zero => intro v d q3 q4 q5 q6 q7 _ _ h; exact absurd h (Nat.not_lt_zero _)
  | succ k ih =>
    intro v d q3 q4 q5 q6 q7 hv hvf hk hD hI
    rw [f_X2_find_49_s, eFc, eFg]
    by_cases q : v ≤ 0
    · rw [if_pos q]
      have h0 := (nv_le0 hv).mp q
      have e0 : v = 0 := nv_inj (by rw [h0, nv_0])
      subst e0
      obtain ⟨g1, g2⟩ := look1 0 d q3 q4 q5 q6 q7 hv hvf hD hI
      rw [nv_0] at g1 g2
      exact ⟨fun e he hef => g1 e he hef (Nat.zero_le _), rfl, rfl, g2⟩
    · rw [if_neg q]
      obtain ⟨g1, g2⟩ := look1 v d q3 q4 q5 q6 q7 hv hvf hD hI
      have hlt : nv ((v - 1) &&& ffS Fg) < nv v := Nat.lt_of_not_le (fun z => Nat.lt_irrefl _ (Nat.lt_of_lt_of_le ((pu_down hv hv q hvf hvf).mp (Nat.le_refl _)) z))
      refine ih ((v - 1) &&& ffS Fg) _ _ _ _ _ _ (Rg_and' Rg_ff) (sub_and_r _ _) (by omega) (fun e he hef hle => g1 e he hef ((pu_down hv he q hvf hef).mpr hle)) (pu_I_congr (fun j hj => ?_) g2)
      rw [Bool.eq_iff_iff]
      unfold pu_S
      rw [decide_eq_true_eq, decide_eq_true_eq]
      have := pu_down hv (Rg_and (Rg_of hj)) q hvf (sub_and_r (nI j) (ffS Fg))
      constructor
      · rintro ⟨z1, z2, z3⟩; exact ⟨z1, z2, this.mp z3⟩
      · rintro ⟨z1, z2, z3⟩; exact ⟨z1, z2, this.mpr z3⟩
/-- all foundations over a given set -/
def pu_T (xn : Nat) (xw xk xm xf : Nat → Int32) (xB gv : Int32) (j : Nat) : Bool := decide ((nI j &&& gv) = gv ∧ f_X0_learntFrom xn xw xk xm xf xB (nI j) = 4095)
theorem pu_T_sub (hB : BB xn xw xk xm xf xB) (hgv : Rg gv) {s : Int32} (hs : Rg s) : pu_T xn xw xk xm xf xB gv (nv s) = true ↔ pu_sub gv s ∧ f_X0_learntFrom xn xw xk xm xf xB s = 4095 := by
  unfold pu_T
  rw [decide_eq_true_eq, nI_nv]
  constructor
  · rintro ⟨z1, z2⟩
    refine ⟨fun w hw e => ?_, z2⟩
    rw [← z1, bt_and, Bool.and_eq_true] at e
    exact e.1
  · rintro ⟨z1, z2⟩
    refine ⟨Rg_ext (Rg_and hs) hgv (fun w hw => ?_), z2⟩
    rw [bt_and]
    cases e : bt gv w
    · rw [Bool.and_false]
    · rw [z1 w hw e]; rfl
/-- a foundation's part that was looked at -/
theorem pu_part (hB : BB xn xw xk xm xf xB) (hgv : Rg gv) {Fc Fg s : Int32} (eFc : gv ||| f_X0_neverTaught xn xw xk xm xf xB = Fc) (eFg : f_X0_learntFrom xn xw xk xm xf xB Fc = Fg) (hs : Rg s) (h1 : pu_sub gv s) (h2 : f_X0_learntFrom xn xw xk xm xf xB s = 4095) : pu_sub (Fc ||| (s &&& ffS Fg)) s ∧ f_X0_learntFrom xn xw xk xm xf xB (Fc ||| (s &&& ffS Fg)) = 4095 := by
  have hc : Rg Fc := by rw [← eFc]; exact Rg_or hgv Rg_never
  have hg : Rg Fg := by rw [← eFg]; exact lf_rg hB hc
  have hcs : pu_sub Fc s := by rw [← eFc]; exact sub_or h1 (nev_in hB hs h2)
  refine ⟨sub_or hcs (sub_and_l _ _), ?_⟩
  rw [lf_cg hB hc eFg (Rg_and hs)]
  have h3 := lf_mono hB hs (Rg_or hg (Rg_and (b := ffS Fg) hs)) (fun w hw e => by
    rw [bt_or, bt_and, bt_ff hw, e]
    cases bt Fg w <;> rfl)
  rw [h2] at h3
  exact pu_sub_a (lf_rg hB (Rg_or hg (Rg_and hs))) Rg_4095 (sub_4095 _) h3
/-- what the search finds -/
theorem pu_find (hB : BB xn xw xk xm xf xB) (hgv : Rg gv) {Fm Fa Fs : Int32} {Fd : Nat → Int32} : pu_I (pu_T xn xw xk xm xf xB gv) (f_X2_find Fm Fa Fs Fd xn xw xk xm xf xB gv).2.2.2.1 (f_X2_find Fm Fa Fs Fd xn xw xk xm xf xB gv).2.2.2.2.1 (f_X2_find Fm Fa Fs Fd xn xw xk xm xf xB gv).2.2.2.2.2.1 (f_X2_find Fm Fa Fs Fd xn xw xk xm xf xB gv).2.2.2.2.2.2.1 (f_X2_find Fm Fa Fs Fd xn xw xk xm xf xB gv).2.2.2.2.2.2.2 ∧ ∃ Fc Fg : Int32, gv ||| f_X0_neverTaught xn xw xk xm xf xB = Fc ∧ f_X0_learntFrom xn xw xk xm xf xB Fc = Fg ∧ (f_X2_find Fm Fa Fs Fd xn xw xk xm xf xB gv).2.1 = Fc ∧ (f_X2_find Fm Fa Fs Fd xn xw xk xm xf xB gv).2.2.1 = Fg ∧ ∀ e : Int32, Rg e → pu_sub e (ffS Fg) → (f_X2_find Fm Fa Fs Fd xn xw xk xm xf xB gv).1 (nv (Fg ||| e)) = if f_X0_learntFrom xn xw xk xm xf xB (Fg ||| e) = 4095 then 1 else 0 := by
  obtain ⟨Fc, eFc⟩ : ∃ Fc, gv ||| f_X0_neverTaught xn xw xk xm xf xB = Fc := ⟨_, rfl⟩
  obtain ⟨Fg, eFg⟩ : ∃ Fg, f_X0_learntFrom xn xw xk xm xf xB Fc = Fg := ⟨_, rfl⟩
  have hc : Rg Fc := by rw [← eFc]; exact Rg_or hgv Rg_never
  have hg : Rg Fg := by rw [← eFg]; exact lf_rg hB hc
  have hcg : pu_sub Fc Fg := by rw [← eFg]; exact lf_ext hB hc
  have h := pu_f49 hB hgv eFc eFg 4096 (ffS Fg) Fd 4095 13 Fm Fa Fs Rg_ff (pu_sub_r _) (nv_lt Rg_ff) (fun e he hef hle => by
    have := sub_nv he hef
    omega) (Or.inl ⟨fun j hj => by
      unfold pu_S
      rw [decide_eq_false_iff_not]
      rintro ⟨_, _, z⟩
      have := sub_nv (Rg_and (b := ffS Fg) (Rg_of hj)) (sub_and_r (nI j) (ffS Fg))
      omega, rfl, rfl⟩)
  have eF : f_X2_find Fm Fa Fs Fd xn xw xk xm xf xB gv = f_X2_find_49 xn xw xk xm xf xB gv 4096 (ffS Fg) Fd 4095 13 Fm Fa Fs := by
    unfold f_X2_find
    rw [eFc, eFg]
    rfl
  rw [eF]
  obtain ⟨h1, h2, h3, h4⟩ := h
  refine ⟨?_, Fc, Fg, eFc, eFg, h2, h3, h1⟩
  have hfull : f_X0_learntFrom xn xw xk xm xf xB (Fg ||| ffS Fg) = 4095 := by
    have e : Fg ||| ffS Fg = 4095 := Rg_ext (Rg_or hg Rg_ff) Rg_4095 (fun w hw => by
      rw [bt_or, bt_ff hw, bt_4095 hw]
      cases bt Fg w <;> rfl)
    rw [e]
    exact lf_self hB Rg_4095 (tn_4095 hB)
  refine pu_I_up h4 ⟨nv (Fc ||| ffS Fg), nv_lt (Rg_or hc Rg_ff), ?_⟩ (fun j hj z => ?_) (fun j hj z => ?_)
  · unfold pu_S
    rw [decide_eq_true_eq, nI_nv]
    exact ⟨cov_g hc Rg_ff hcg (pu_sub_r _), by rw [lf_cg hB hc eFg Rg_ff]; exact hfull, Nat.zero_le _⟩
  · unfold pu_S at z
    rw [decide_eq_true_eq] at z
    have e : j = nv (nI j) := (nv_nI (by omega)).symm
    rw [e, pu_T_sub hB hgv (Rg_of hj)]
    refine ⟨fun w hw y => ?_, z.2.1⟩
    have y2 : bt Fc w = true := by rw [← eFc, bt_or, y]; rfl
    rw [← z.1, bt_and, Bool.and_eq_true] at y2
    exact y2.1
  · have e : j = nv (nI j) := (nv_nI (by omega)).symm
    rw [e, pu_T_sub hB hgv (Rg_of hj)] at z
    obtain ⟨p1, p2⟩ := pu_part hB hgv eFc eFg (Rg_of hj) z.1 z.2
    have hR : Rg (Fc ||| (nI j &&& ffS Fg)) := Rg_or hc (Rg_and (Rg_of hj))
    refine ⟨nv (Fc ||| (nI j &&& ffS Fg)), nv_lt hR, ?_, by rw [nI_nv]; exact p1⟩
    unfold pu_S
    rw [decide_eq_true_eq, nI_nv]
    exact ⟨cov_g hc (Rg_and (Rg_of hj)) hcg (sub_and_r _ _), p2, Nat.zero_le _⟩
end FND
