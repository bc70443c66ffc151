/-! BOTH SIDES: the order that has most met words soonest -/
section PSO
variable {zs : Nat → Int32} {b xn : Nat} {xw xk xm xf : Nat → Int32} {xB : Int32} {xh xt : Nat → Int32} {zf ff : Nat → Int32} {Fc Fg Fw Fn Fm Fa Fs : Int32} {Fd : Nat → Int32}
theorem mm_95 (h : RB zs b xn xw xk xm xf xB xh xt) : f_X0_metMostAfter xn xw xk xm xf xB xt 4095 = -9 := by
  rcases (mm_eq h Rg_4095).2 with ⟨e, _⟩ | ⟨q, hq, _, e⟩
  · exact e
  · rw [tn_4095 h.2.1, bt_0] at e; cases e
theorem mm_in (h : RB zs b xn xw xk xm xf xB xh xt) {v : Int32} (hv : Rg v) (hF : f_X0_learntFrom xn xw xk xm xf xB v = 4095) (hne : ¬ v = 4095) : ∃ q : Nat, q < 12 ∧ f_X0_metMostAfter xn xw xk xm xf xB xt v = nI q ∧ bt v q = false := by
  rcases (mm_eq h hv).2 with ⟨_, e⟩ | ⟨q, hq, e1, e2⟩
  · rw [lf_self h.2.1 hv e] at hF; exact absurd hF hne
  · exact ⟨q, hq, e1, tn_dis h.2.1 hv hq e2⟩
theorem so_8 (h : RB zs b xn xw xk xm xf xB xh xt) : ∀ (K n k : Nat) (v : Int32) (row : Nat → Int32), Rg v → f_X0_learntFrom xn xw xk xm xf xB v = 4095 → 12 < pc v + K → n ≤ pc v → k + n = 12 →
    (f_X7_findSoonest_8 zs b xn K v n row).1 = nI (n + (12 - pc v)) ∧ (∀ j : Nat, j < n → (f_X7_findSoonest_8 zs b xn K v n row).2 j = row j) ∧
    (∀ q : Nat, n ≤ q → q < n + (12 - pc v) → (∃ w : Nat, w < 12 ∧ (f_X7_findSoonest_8 zs b xn K v n row).2 q = nI w) ∧ (f_X6_soonest_0_53 ff xn xw xk xm xf xB xt Fm Fa Fs Fd (nI q) k n v (f_X0_metMostAfter xn xw xk xm xf xB xt v)).1 = (f_X7_findSoonest_8 zs b xn K v n row).2 q) ∧
    (∀ q : Nat, n + (12 - pc v) ≤ q → q < 12 → (f_X6_soonest_0_53 ff xn xw xk xm xf xB xt Fm Fa Fs Fd (nI q) k n v (f_X0_metMostAfter xn xw xk xm xf xB xt v)).1 = -9) := by
  intro K
  induction K with
  | zero => intro n k v row _ _ hK; have := pc_le12 v; omega
  | succ K ih =>
    intro n k v row hv hF hK hn hk
    rw [f_X7_findSoonest_8_s]
    by_cases q : v = 4095
    · subst q
      have e12 := pc_4095
      rw [if_pos rfl, e12, mm_95 h]
      refine ⟨by rw [show n + (12 - 12) = n by omega], fun _ _ => rfl, fun q h1 h2 => by omega, fun q h1 h2 => ?_⟩
      cases k with
      | zero => rw [f_X6_soonest_0_53_z]
      | succ k =>
        rw [f_X6_soonest_0_53_s]
        by_cases c : nI q ≤ nI n
        · rw [if_pos c]
        · rw [if_neg c, if_pos (by decide)]
    · have hp := pc_lt12 hv q
      obtain ⟨q0, hq0, e1, e2⟩ := mm_in h hv hF q
      have e3 := (mm_eq h hv).1
      rw [if_neg q, e3, e1]
      have hpc := pc_addb hv hq0 e2
      obtain ⟨k, rfl⟩ : ∃ k', k = k' + 1 := ⟨k - 1, by omega⟩
      obtain ⟨i1, i2, i3, i4⟩ := ih (n + 1) k (v ||| ((1 : Int32) <<< (nI q0 &&& 31))) (upd row n (nI q0)) (Rg_or hv (Rg_bit hq0)) (lf_F h.2.1 hv hF hq0) (by omega) (by omega) (by omega)
      rw [hpc] at i1 i3 i4
      refine ⟨by rw [i1]; congr 1; omega, fun j hj => by rw [i2 j (by omega), pk_un (by omega)], fun q h1 h2 => ?_, fun q h1 h2 => ?_⟩
      · by_cases c : q = n
        · subst c
          have e5 := i2 q (by omega)
          rw [pk_us] at e5
          rw [e5, f_X6_soonest_0_53_s, if_pos (nI_le (Nat.le_refl _) (by omega))]
          exact ⟨⟨q0, hq0, rfl⟩, rfl⟩
        · rw [f_X6_soonest_0_53_s, if_neg (nI_ge (by omega) (by omega)), if_neg (nI_pos (by omega))]
          exact i3 q (by omega) (by omega)
      · rw [f_X6_soonest_0_53_s, if_neg (nI_ge (by omega) (by omega)), if_neg (nI_pos (by omega))]
        exact i4 q (by omega) h2
theorem so_ff : ∀ (k i : Nat) (ix v nx : Int32), (f_X6_soonest_0_53 ff xn xw xk xm xf xB xt Fm Fa Fs Fd ix k i v nx).2.1 = ff := by
  intro k
  induction k with
  | zero => intro i ix v nx; rw [f_X6_soonest_0_53_z]
  | succ k ih =>
    intro i ix v nx
    rw [f_X6_soonest_0_53_s]
    split
    · rfl
    · split
      · rfl
      · exact ih _ _ _ _
/-- how many words are to be learnt, and that they are words -/
theorem so_nn (h : RB zs b xn xw xk xm xf xB xh xt) {zn : Nat → Int32} : (f_X7_findSoonest zs zn b xn).1 = nI (12 - pc (f_X7_fewestOf zs b xn)) ∧ ∀ j : Nat, j < 12 - pc (f_X7_fewestOf zs b xn) → vp_in ((f_X7_findSoonest zs zn b xn).2 j) 12 := by
  obtain ⟨hR, hF⟩ := few_F h
  obtain ⟨i1, i2, i3, i4⟩ := so_8 (ff := fun _ => 0) (Fm := 0) (Fa := 0) (Fs := 0) (Fd := fun _ => 0) h 13 0 12 _ zn hR hF (by omega) (Nat.zero_le _) rfl
  refine ⟨?_, fun j hj => ?_⟩
  · have e : (f_X7_findSoonest zs zn b xn).1 = nI (0 + (12 - pc (f_X7_fewestOf zs b xn))) := i1
    rw [e, Nat.zero_add]
  · obtain ⟨⟨w, hw, e⟩, _⟩ := i3 j (Nat.zero_le _) (by omega)
    have e2 : (f_X7_findSoonest zs zn b xn).2 j = nI w := e
    rw [e2]
    exact vp_in_nI hw (by decide)
theorem pw_soonest (h : RB zs b xn xw xk xm xf xB xh xt) (hf : RF zf ff) {zn : Nat → Int32} (ix : Int32) : (f_X7_soonest zf zs zn b xn ix).1 = (f_X6_soonest_0 ff xn xw xk xm xf xB xt Fc Fg Fw Fn Fm Fa Fs Fd ix).1 ∧ RF (f_X7_soonest zf zs zn b xn ix).2.1 (f_X6_soonest_0 ff xn xw xk xm xf xB xt Fc Fg Fw Fn Fm Fa Fs Fd ix).2.1 := by
  obtain ⟨hR, hF⟩ := few_F h
  have hfew : (f_X6_fewestOf Fm Fa Fs Fd xn xw xk xm xf xB).1 = f_X7_fewestOf zs b xn := by rw [few_6, ← pu_fewest h]
  have hp := pc_le12 (f_X7_fewestOf zs b xn)
  obtain ⟨i1, i2, i3, i4⟩ := so_8 (ff := ff) (Fm := Fm) (Fa := Fa) (Fs := Fs) (Fd := Fd) h 13 0 12 _ zn hR hF (by omega) (Nat.zero_le _) rfl
  have e1 := (so_nn h (zn := zn)).1
  unfold f_X7_soonest f_X6_soonest_0
  rw [e1, hfew]
  unfold f_X7_isIn
  by_cases q : ix < 0
  · rw [if_pos q, if_pos q, if_pos rfl]; exact ⟨rfl, hf⟩
  · obtain ⟨j, hj, rfl⟩ := nI_of q
    have l12 : nI j < 12 ↔ j < 12 := nI_ltI (b := 12) hj (by omega)
    rw [if_neg q, if_neg q]
    by_cases c : 12 - pc (f_X7_fewestOf zs b xn) ≤ j
    · rw [if_pos (nI_le c hj), if_pos rfl]
      by_cases c2 : j < 12
      · rw [if_pos (l12.mpr c2), so_ff]
        exact ⟨(i4 j (by omega) c2).symm, hf⟩
      · rw [if_neg (fun z => c2 (l12.mp z))]; exact ⟨rfl, hf⟩
    · rw [if_neg (nI_ge (by omega) (by omega)), if_neg (by decide), if_pos (l12.mpr (by omega)), so_ff, nI_clamp hj]
      exact ⟨(i3 j (Nat.zero_le _) (by omega)).2.symm, hf⟩
theorem wa_ff : ∀ (k i : Nat) (v s : Int32), (f_X6_waits_0_34 ff xn xw xk xm xf xB xt Fm Fa Fs Fd k i v s).2.1 = ff := by
  intro k
  induction k with
  | zero => intro i v s; rw [f_X6_waits_0_34_z]
  | succ k ih =>
    intro i v s
    rw [f_X6_waits_0_34_s]
    split
    · rfl
    · exact ih _ _ _
theorem wa_8 (h : RB zs b xn xw xk xm xf xB xh xt) : ∀ (K n k : Nat) (v s : Int32) (row : Nat → Int32), Rg v → f_X0_learntFrom xn xw xk xm xf xB v = 4095 → 12 < pc v + K → n ≤ pc v → k + n = 12 → (f_X6_waits_0_34 ff xn xw xk xm xf xB xt Fm Fa Fs Fd k (n + 1) v s).1 = (f_X7_waits_24 zf zs b (f_X7_findSoonest_8 zs b xn K v n row) (12 - pc v) n s).1 := by
  have hb := h.1
  intro K
  induction K with
  | zero => intro n k v s row _ _ hK; have := pc_le12 v; omega
  | succ K ih =>
    intro n k v s row hv hF hK hn hk
    by_cases q : v = 4095
    · subst q
      rw [pc_4095, show 12 - 12 = 0 from rfl, f_X7_waits_24_z]
      cases k with
      | zero => rw [f_X6_waits_0_34_z]
      | succ k => rw [f_X6_waits_0_34_s, mm_95 h, if_pos (by decide)]
    · have hp := pc_lt12 hv q
      obtain ⟨q0, hq0, e1, e2⟩ := mm_in h hv hF q
      have e3 := (mm_eq h hv).1
      have hpc := pc_addb hv hq0 e2
      obtain ⟨k, rfl⟩ : ∃ k', k = k' + 1 := ⟨k - 1, by omega⟩
      obtain ⟨j, hj⟩ : ∃ j, 12 - pc v = j + 1 := ⟨12 - pc v - 1, by omega⟩
      have hR : f_X7_findSoonest_8 zs b xn (K + 1) v n row = f_X7_findSoonest_8 zs b xn K (v ||| ((1 : Int32) <<< (nI q0 &&& 31))) (n + 1) (upd row n (nI q0)) := by
        rw [f_X7_findSoonest_8_s, if_neg q, e3, e1]
      obtain ⟨_, i2, _, _⟩ := so_8 (ff := ff) (Fm := Fm) (Fa := Fa) (Fs := Fs) (Fd := Fd) h K (n + 1) k _ (upd row n (nI q0)) (Rg_or hv (Rg_bit hq0)) (lf_F h.2.1 hv hF hq0) (by omega) (by omega) (by omega)
      have e5 := i2 n (by omega)
      rw [pk_us] at e5
      have hw : ¬ f_X6_isWord (nI q0) = 0 := by
        unfold f_X6_isWord
        rw [if_neg (nI_pos (by omega)), if_neg (show ¬ (12 : Int32) ≤ nI q0 from nI_ge (b := 12) (by omega) (by omega))]
        decide
      have ei : ((nI (186 + (12 * b))) + nI q0).toNatClampNeg = 186 + 12 * b + q0 := by rw [nI_add, nI_clamp (by omega)]
      rw [hR, hj, f_X7_waits_24_s, f_X6_waits_0_34_s, e1, if_neg hw, e5, ei, (h.2.2.2.2.2.2 q0 hq0).1, nI_clamp (by omega)]
      have hi := ih (n + 1) k _ (s + (xt q0 * nI (n + 1))) (upd row n (nI q0)) (Rg_or hv (Rg_bit hq0)) (lf_F h.2.1 hv hF hq0) (by omega) (by omega) (by omega)
      rw [hi, hpc, show 12 - (pc v + 1) = j by omega, Int32.mul_comm (xt q0)]
theorem wm_ff {rr : Int32 × (Nat → Int32)} : ∀ (k i : Nat) (s : Int32), (f_X7_waits_24 zf zs b rr k i s).2.1 = zf := by
  intro k
  induction k with
  | zero => intro i s; rw [f_X7_waits_24_z]
  | succ k ih => intro i s; rw [f_X7_waits_24_s]; exact ih _ _
theorem sm_ff {zn : Nat → Int32} {ix : Int32} : (f_X7_soonest zf zs zn b xn ix).2.1 = zf := by
  unfold f_X7_soonest
  split <;> rfl
theorem pw_waits (h : RB zs b xn xw xk xm xf xB xh xt) (hf : RF zf ff) {zn : Nat → Int32} : (f_X7_waits zf zs zn b xn (12 - pc (f_X7_fewestOf zs b xn))).1 = (f_X6_waits_0 ff xn xw xk xm xf xB xt Fm Fa Fs Fd).1 ∧ RF (f_X7_waits zf zs zn b xn (12 - pc (f_X7_fewestOf zs b xn))).2.1 (f_X6_waits_0 ff xn xw xk xm xf xB xt Fm Fa Fs Fd).2.1 := by
  obtain ⟨hR, hF⟩ := few_F h
  have hfew : (f_X6_fewestOf Fm Fa Fs Fd xn xw xk xm xf xB).1 = f_X7_fewestOf zs b xn := by rw [few_6, ← pu_fewest h]
  unfold f_X6_waits_0 f_X7_waits
  rw [wa_ff, wm_ff, hfew]
  exact ⟨(wa_8 h 13 0 12 _ 0 zn hR hF (by omega) (Nat.zero_le _) rfl).symm, hf⟩
end PSO
