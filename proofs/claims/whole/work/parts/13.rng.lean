/-! sets of words stay below 4096 -/
def Rg (x : Int32) : Prop := x.toBitVec.toNat < 4096
theorem Rg_nI {x : Int32} (h : Rg x) : ∃ j : Nat, j < 4096 ∧ x = nI j := by
  refine ⟨x.toBitVec.toNat, h, Int32.toBitVec_inj.mp (BitVec.eq_of_toNat_eq ?_)⟩
  rw [pk_tn (by unfold Rg at h; omega)]
theorem Rg_of {j : Nat} (h : j < 4096) : Rg (nI j) := by
  unfold Rg
  rw [pk_tn (by omega)]
  exact h
theorem Rg_in {x : Int32} (h : Rg x) : vp_in x 4096 := by
  obtain ⟨j, hj, rfl⟩ := Rg_nI h
  exact vp_in_nI hj (by decide)
theorem Rg_or {a b : Int32} (ha : Rg a) (hb : Rg b) : Rg (a ||| b) := by
  unfold Rg at *
  rw [Int32.toBitVec_or, BitVec.toNat_or]
  exact Nat.or_lt_two_pow (n := 12) ha hb
theorem Rg_and {a b : Int32} (ha : Rg a) : Rg (a &&& b) := by
  unfold Rg at *
  rw [Int32.toBitVec_and, BitVec.toNat_and]
  exact Nat.and_lt_two_pow (n := 12) _ ha |> fun h => by rw [Nat.and_comm]; exact h
theorem Rg_and' {a b : Int32} (hb : Rg b) : Rg (a &&& b) := by
  unfold Rg at *
  rw [Int32.toBitVec_and, BitVec.toNat_and]
  exact Nat.and_lt_two_pow (n := 12) _ hb
theorem Rg_0 : Rg 0 := by unfold Rg; decide
theorem Rg_bit {w : Nat} (h : w < 12) : Rg ((1 : Int32) <<< (nI w &&& 31)) := by
  unfold Rg
  have : ∀ w : Fin 12, ((1 : Int32) <<< (nI w.1 &&& 31)).toBitVec.toNat < 4096 := by decide +kernel
  exact this ⟨w, h⟩
/-- the words of a book's tellings are words -/
def VW (n : Nat) (xw : Nat → Int32) : Prop := ∀ t, t < n → ∃ w : Nat, w < 12 ∧ xw t = nI w
theorem VW_bit {n : Nat} {xw : Nat → Int32} (h : VW n xw) {t : Nat} (ht : t < n) : Rg ((1 : Int32) <<< (xw t &&& 31)) := by
  obtain ⟨w, hw, e⟩ := h t ht
  rw [e]
  exact Rg_bit hw
theorem Rg_taught7 {n : Nat} {xw xk xm xf : Nat → Int32} {xB s0 : Int32} (hv : VW n xw) : ∀ (k i : Nat) (a b : Int32), k + i = n → Rg a → Rg (f_X0_taughtNext_7 xw xk xm xf xB s0 k i a b) := by
  intro k
  induction k with
  | zero => intro i a b _ ha; rw [f_X0_taughtNext_7_z]; exact Rg_and ha
  | succ k ih =>
    intro i a b hk ha
    rw [f_X0_taughtNext_7_s]
    have hb := VW_bit hv (t := i) (by omega)
    split
    · split
      · exact ih _ _ _ (by omega) ha
      · exact ih _ _ _ (by omega) (Rg_or ha hb)
    · exact ih _ _ _ (by omega) ha
theorem Rg_taught {n : Nat} {xw xk xm xf : Nat → Int32} {xB : Int32} (s0 : Int32) (hv : VW n xw) : Rg (f_X0_taughtNext n xw xk xm xf xB s0) := Rg_taught7 hv _ _ _ _ (by omega) Rg_0
theorem Rg_some9 {n : Nat} {xw xk xm xf : Nat → Int32} {xB s0 : Int32} (hv : VW n xw) : ∀ (k i : Nat), k + i = n → Rg (f_X0_someTaughtNext_9 n xw xk xm xf xB s0 k i) := by
  intro k
  induction k with
  | zero =>
    intro i _
    rw [f_X0_someTaughtNext_9_z]
    split
    · exact Rg_0
    · exact Rg_taught _ hv
  | succ k ih =>
    intro i hk
    rw [f_X0_someTaughtNext_9_s]
    split
    · split
      · exact ih _ (by omega)
      · exact VW_bit hv (by omega)
    · exact ih _ (by omega)
theorem Rg_some {n : Nat} {xw xk xm xf : Nat → Int32} {xB : Int32} (s0 : Int32) (hv : VW n xw) : Rg (f_X0_someTaughtNext n xw xk xm xf xB s0) := Rg_some9 hv _ _ (by omega)
theorem Rg_learnt4 {n : Nat} {xw xk xm xf : Nat → Int32} {xB : Int32} (hv : VW n xw) : ∀ (k i : Nat) (a : Int32), Rg a → Rg (f_X0_learntFrom_4 n xw xk xm xf xB k i a) := by
  intro k
  induction k with
  | zero => intro i a ha; rw [f_X0_learntFrom_4_z]; exact ha
  | succ k ih =>
    intro i a ha
    rw [f_X0_learntFrom_4_s]
    split
    · exact ha
    · exact ih _ _ (Rg_or ha (Rg_taught _ hv))
theorem Rg_learnt {n : Nat} {xw xk xm xf : Nat → Int32} {xB s0 : Int32} (hv : VW n xw) (h : Rg s0) : Rg (f_X0_learntFrom n xw xk xm xf xB s0) := Rg_learnt4 hv _ _ _ h
theorem Rg_never4 {n : Nat} {xw xk xm xf : Nat → Int32} {xB : Int32} : ∀ (k i : Nat) (a : Int32), k + i = 12 → Rg a → Rg (f_X0_neverTaught_4 n xw xk xm xf xB k i a) := by
  intro k
  induction k with
  | zero => intro i a _ ha; rw [f_X0_neverTaught_4_z]; exact ha
  | succ k ih =>
    intro i a hk ha
    rw [f_X0_neverTaught_4_s]
    split
    · exact ih _ _ (by omega) (Rg_or ha (Rg_bit (by omega)))
    · exact ih _ _ (by omega) ha
theorem Rg_never {n : Nat} {xw xk xm xf : Nat → Int32} {xB : Int32} : Rg (f_X0_neverTaught n xw xk xm xf xB) := Rg_never4 _ _ _ rfl Rg_0
theorem Rg_up {s : Int32} (h : Rg s) (h2 : ¬ s = 4095) : Rg (s ||| (s + 1)) := by
  obtain ⟨j, hj, rfl⟩ := Rg_nI h
  refine Rg_or h ?_
  rw [nI_1]
  refine Rg_of ?_
  rcases Nat.lt_or_ge (j + 1) 4096 with q | q
  · exact q
  · have : j = 4095 := by omega
    subst this
    exact absurd rfl h2
theorem Rg_down {x f : Int32} (h : Rg x) (hx : ¬ x ≤ 0) : Rg ((x - 1) &&& f) ∧ ((x - 1) &&& f).toNatClampNeg < x.toNatClampNeg := by
  obtain ⟨j, hj, rfl⟩ := Rg_nI h
  have h0 : 0 < j := by
    rcases Nat.eq_zero_or_pos j with e | e
    · subst e; exact absurd (by decide) hx
    · exact e
  have e1 : nI j - 1 = nI (j - 1) := by
    obtain ⟨i, rfl⟩ : ∃ i, j = i + 1 := ⟨j - 1, by omega⟩
    rw [nI_pred]; rfl
  rw [e1]
  have hR : Rg (nI (j - 1) &&& f) := Rg_and (Rg_of (by omega))
  refine ⟨hR, ?_⟩
  obtain ⟨q, hq, e⟩ := Rg_nI hR
  rw [e, nI_clamp (by omega), nI_clamp (by omega)]
  have h3 : (nI (j - 1) &&& f).toBitVec.toNat ≤ j - 1 := by
    rw [Int32.toBitVec_and, BitVec.toNat_and, pk_tn (by omega)]
    exact Nat.and_le_left
  rw [e, pk_tn (by omega)] at h3
  omega
theorem clamp_lt {x : Int32} (h : Rg x) : x.toNatClampNeg < 4096 := by
  obtain ⟨j, hj, rfl⟩ := Rg_nI h
  rw [nI_clamp (by omega)]
  exact hj
