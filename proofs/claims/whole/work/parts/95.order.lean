/-! THE PURE PART: sets as numbers; the subsets of a set, falling -/
def nv (s : Int32) : Nat := s.toBitVec.toNat
theorem nv_lt {s : Int32} (h : Rg s) : nv s < 4096 := h
theorem nv_nI {j : Nat} (h : j < 2 ^ 32) : nv (nI j) = j := pk_tn h
theorem nI_nv (s : Int32) : nI (nv s) = s := Int32.toBitVec_inj.mp (BitVec.eq_of_toNat_eq (pk_tn s.toBitVec.isLt))
theorem nv_inj {a b : Int32} (h : nv a = nv b) : a = b := by rw [← nI_nv a, ← nI_nv b, h]
theorem nv_clamp {s : Int32} (h : Rg s) : s.toNatClampNeg = nv s := by
  have h1 := nv_lt h
  have h2 : (nI (nv s)).toNatClampNeg = nv s := nI_clamp (by omega)
  rw [nI_nv] at h2
  exact h2
theorem nv_and (a b : Int32) : nv (a &&& b) = nv a &&& nv b := by unfold nv; rw [Int32.toBitVec_and, BitVec.toNat_and]
theorem nv_or (a b : Int32) : nv (a ||| b) = nv a ||| nv b := by unfold nv; rw [Int32.toBitVec_or, BitVec.toNat_or]
theorem nv_0 : nv 0 = 0 := by decide
theorem nv_4095 : nv 4095 = 4095 := by decide
theorem sub_and_eq {a b : Int32} (ha : Rg a) (h : pu_sub a b) : a &&& b = a := Rg_ext (Rg_and ha) ha (fun w hw => by
  rw [bt_and]
  cases e : bt a w
  · rfl
  · rw [h w hw e]; rfl)
theorem sub_nv {a b : Int32} (ha : Rg a) (h : pu_sub a b) : nv a ≤ nv b := by
  have e := congrArg nv (sub_and_eq ha h)
  rw [nv_and] at e
  rw [← e]
  exact Nat.and_le_right
theorem sub_nv_lt {a b : Int32} (ha : Rg a) (h : pu_sub a b) (hne : a ≠ b) : nv a < nv b := by
  rcases Nat.lt_or_ge (nv a) (nv b) with c | c
  · exact c
  · exact absurd (nv_inj (Nat.le_antisymm (sub_nv ha h) c)) hne
theorem nv_dis {a b : Int32} (ha : Rg a) (hb : Rg b) (h : ∀ w : Nat, w < 12 → bt a w = true → bt b w = false) : nv (a ||| b) = nv a + nv b := by
  have h0 : a &&& b = 0 := Rg_ext (Rg_and ha) Rg_0 (fun w hw => by
    rw [bt_and, bt_0]
    cases e : bt a w
    · rfl
    · rw [h w hw e]; rfl)
  have h1 : a.toBitVec &&& b.toBitVec = 0#32 := by
    rw [← Int32.toBitVec_and, h0]; rfl
  have h2 := BitVec.add_eq_or_of_and_eq_zero a.toBitVec b.toBitVec h1
  have h3 := congrArg BitVec.toNat h2
  rw [BitVec.toNat_add] at h3
  have h4 : a.toBitVec.toNat < 4096 := ha
  have h5 : b.toBitVec.toNat < 4096 := hb
  rw [Nat.mod_eq_of_lt (by omega)] at h3
  unfold nv
  rw [Int32.toBitVec_or]
  exact h3.symm
theorem pu_prev : ∀ (n e m f : Nat), e ≤ n → e &&& m = e → f &&& m = f → f < e → f ≤ (e - 1) &&& m := by
  intro n
  induction n with
  | zero => intro e m f h1 _ _ h2; omega
  | succ n ih =>
    intro e m f hn he hf hfe
    have d1 : e / 2 &&& m / 2 = e / 2 := by rw [← Nat.and_div_two, he]
    have d2 : f / 2 &&& m / 2 = f / 2 := by rw [← Nat.and_div_two, hf]
    have d3 : ((e - 1) &&& m) / 2 = (e - 1) / 2 &&& m / 2 := Nat.and_div_two
    by_cases c : e % 2 = 1
    · have e1 : (e - 1) / 2 = e / 2 := by omega
      rw [e1, d1] at d3
      omega
    · have e1 : (e - 1) / 2 = e / 2 - 1 := by omega
      have e2 := ih (e / 2) (m / 2) (f / 2) (by omega) d1 d2 (by omega)
      rw [e1] at d3
      rw [← d3] at e2
      rcases Nat.mod_two_eq_zero_or_one f with q | q
      · omega
      · have m1 : m % 2 = 1 := (Nat.and_mod_two_eq_one.mp (by rw [hf]; exact q)).2
        have m2 : ((e - 1) &&& m) % 2 = 1 := Nat.and_mod_two_eq_one.mpr ⟨by omega, m1⟩
        omega
theorem nv_sub1 {v : Int32} (hv : Rg v) (h : 0 < nv v) : nv (v - 1) = nv v - 1 ∧ Rg (v - 1) := by
  have h1 := nv_lt hv
  have e : v - 1 = nI (nv v - 1) := by
    have e2 : v = nI (nv v) := (nI_nv v).symm
    have e3 : nI (nv v) - 1 = nI (nv v - 1) := nI_subE rfl rfl h
    rw [← e2] at e3
    exact e3
  rw [e, nv_nI (by omega)]
  exact ⟨rfl, Rg_of (by omega)⟩
theorem nv_le0 {v : Int32} (hv : Rg v) : v ≤ 0 ↔ nv v = 0 := by
  have h1 := nv_lt hv
  have h2 : nI (nv v) ≤ nI 0 ↔ nv v ≤ 0 := nI_leI (by omega) (by omega)
  rw [nI_nv, nI_0] at h2
  rw [h2]
  omega
/-- the next subset -/
theorem pu_down {v f e : Int32} (hv : Rg v) (he : Rg e) (h0 : ¬ v ≤ 0) (hvf : pu_sub v f) (hef : pu_sub e f) : nv v ≤ nv e ↔ nv ((v - 1) &&& f) < nv e := by
  have h1 : 0 < nv v := by
    rcases Nat.eq_zero_or_pos (nv v) with q | q
    · exact absurd ((nv_le0 hv).mpr q) h0
    · exact q
  have e1 : nv v &&& nv f = nv v := by rw [← nv_and, sub_and_eq hv hvf]
  have e2 : nv e &&& nv f = nv e := by rw [← nv_and, sub_and_eq he hef]
  rw [nv_and, (nv_sub1 hv h1).1]
  constructor
  · intro h
    have : (nv v - 1) &&& nv f ≤ nv v - 1 := Nat.and_le_left
    omega
  · intro h
    rcases Nat.lt_or_ge (nv e) (nv v) with c | c
    · have := pu_prev (nv v) (nv v) (nv f) (nv e) (Nat.le_refl _) e1 e2 c
      omega
    · exact c
theorem nv_leI {a b : Int32} (ha : Rg a) (hb : Rg b) : a ≤ b ↔ nv a ≤ nv b := by
  have h1 := nv_lt ha
  have h2 := nv_lt hb
  have h3 : nI (nv a) ≤ nI (nv b) ↔ nv a ≤ nv b := nI_leI (by omega) (by omega)
  rw [nI_nv, nI_nv] at h3
  exact h3
theorem nv_ltI {a b : Int32} (ha : Rg a) (hb : Rg b) : a < b ↔ nv a < nv b := by
  have h1 := nv_lt ha
  have h2 := nv_lt hb
  have h3 : nI (nv a) < nI (nv b) ↔ nv a < nv b := nI_ltI (by omega) (by omega)
  rw [nI_nv, nI_nv] at h3
  exact h3
theorem up_sub {s : Int32} : pu_sub s (s ||| (s + 1)) := sub_or_l _ _
theorem up_nv {s : Int32} (hs : Rg s) : nv s < nv (s ||| (s + 1)) := by
  have h1 := nv_lt hs
  have e : s + 1 = nI (nv s + 1) := by
    have e3 : nI (nv s) + 1 = nI (nv s + 1) := nI_1 _
    rw [nI_nv] at e3
    exact e3
  rw [nv_or, e, nv_nI (by omega)]
  have : nv s + 1 ≤ nv s ||| (nv s + 1) := Nat.right_le_or
  omega
