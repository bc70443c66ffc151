theorem ieq {x y : Int32} {a b : Nat} (hx : x = nI a) (hy : y = nI b) (_ : a < 2 ^ 31) (_ : b < 2 ^ 31) (h : a = b) : x = y := by rw [hx, hy, h]
theorem ine {x y : Int32} {a b : Nat} (hx : x = nI a) (hy : y = nI b) (ha : a < 2 ^ 31) (hb : b < 2 ^ 31) (h : a ≠ b) : ¬ x = y := by rw [hx, hy, nI_eq ha hb]; exact h
theorem ilt {x y : Int32} {a b : Nat} (hx : x = nI a) (hy : y = nI b) (ha : a < 2 ^ 31) (hb : b < 2 ^ 31) (h : a < b) : x < y := by rw [hx, hy, nI_ltI ha hb]; exact h
theorem inlt {x y : Int32} {a b : Nat} (hx : x = nI a) (hy : y = nI b) (ha : a < 2 ^ 31) (hb : b < 2 ^ 31) (h : b ≤ a) : ¬ x < y := by rw [hx, hy, nI_ltI ha hb]; omega
theorem ile {x y : Int32} {a b : Nat} (hx : x = nI a) (hy : y = nI b) (ha : a < 2 ^ 31) (hb : b < 2 ^ 31) (h : a ≤ b) : x ≤ y := by rw [hx, hy, nI_leI ha hb]; exact h
theorem inle {x y : Int32} {a b : Nat} (hx : x = nI a) (hy : y = nI b) (ha : a < 2 ^ 31) (hb : b < 2 ^ 31) (h : b < a) : ¬ x ≤ y := by rw [hx, hy, nI_leI ha hb]; omega
theorem nI_minE {a b : Nat} (ha : a < 2 ^ 31) (hb : b < 2 ^ 31) : (if nI b < nI a then nI b else nI a) = nI (min a b) := by
  by_cases h : b < a
  · rw [if_pos ((nI_ltI hb ha).mpr h), Nat.min_eq_right (by omega)]
  · rw [if_neg (fun h2 => h ((nI_ltI hb ha).mp h2)), Nat.min_eq_left (by omega)]
theorem nI_maxE {a b : Nat} (ha : a < 2 ^ 31) (hb : b < 2 ^ 31) : (if nI a < nI b then nI b else nI a) = nI (max a b) := by
  by_cases h : a < b
  · rw [if_pos ((nI_ltI ha hb).mpr h), Nat.max_eq_right (by omega)]
  · rw [if_neg (fun h2 => h ((nI_ltI ha hb).mp h2)), Nat.max_eq_left (by omega)]
