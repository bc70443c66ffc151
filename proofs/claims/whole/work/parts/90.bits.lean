/-! THE PURE PART: bits of sets -/
def bt (s : Int32) (w : Nat) : Bool := s.toBitVec.getLsbD w
theorem bt_or (a b : Int32) (w : Nat) : bt (a ||| b) w = (bt a w || bt b w) := by unfold bt; rw [Int32.toBitVec_or, BitVec.getLsbD_or]
theorem bt_and (a b : Int32) (w : Nat) : bt (a &&& b) w = (bt a w && bt b w) := by unfold bt; rw [Int32.toBitVec_and, BitVec.getLsbD_and]
theorem bt_nI {j : Nat} (h : j < 2 ^ 32) (w : Nat) : bt (nI j) w = j.testBit w := by
  unfold bt
  rw [← BitVec.testBit_toNat, pk_tn h]
theorem bt_0 (w : Nat) : bt 0 w = false := by
  have h : bt (nI 0) w = Nat.testBit 0 w := bt_nI (by decide) w
  rw [Nat.zero_testBit] at h
  exact h
theorem bit_nI {w : Nat} (h : w < 12) : (1 : Int32) <<< (nI w &&& 31) = nI (2 ^ w) := by
  have : ∀ w : Fin 12, (1 : Int32) <<< (nI w.1 &&& 31) = nI (2 ^ w.1) := by decide +kernel
  exact this ⟨w, h⟩
theorem bt_bit {w : Nat} (h : w < 12) (v : Nat) : bt ((1 : Int32) <<< (nI w &&& 31)) v = decide (w = v) := by
  have h2 : 2 ^ w < 2 ^ 32 := Nat.pow_lt_pow_right (by decide) (by omega)
  rw [bit_nI h, bt_nI h2, Nat.testBit_two_pow]
theorem bt_hi {s : Int32} (h : Rg s) {w : Nat} (hw : 12 ≤ w) : bt s w = false := by
  obtain ⟨j, hj, rfl⟩ := Rg_nI h
  rw [bt_nI (by omega)]
  refine Nat.testBit_lt_two_pow (Nat.lt_of_lt_of_le (m := 2 ^ 12) hj ?_)
  exact Nat.pow_le_pow_right (by decide) hw
theorem Rg_ext {a b : Int32} (ha : Rg a) (hb : Rg b) (h : ∀ w : Nat, w < 12 → bt a w = bt b w) : a = b := by
  obtain ⟨i, hi, rfl⟩ := Rg_nI ha
  obtain ⟨j, hj, rfl⟩ := Rg_nI hb
  have : i = j := by
    refine Nat.eq_of_testBit_eq (fun w => ?_)
    have e : bt (nI i) w = bt (nI j) w := by
      rcases Nat.lt_or_ge w 12 with q | q
      · exact h w q
      · rw [bt_hi ha q, bt_hi hb q]
    rw [bt_nI (by omega), bt_nI (by omega)] at e
    exact e
  rw [this]
theorem sh_k {w : Nat} (h : w < 12) : ((nI w &&& 31).toBitVec.smod 32).toNat = w := by
  have : ∀ w : Fin 12, ((nI w.1 &&& 31).toBitVec.smod 32).toNat = w.1 := by decide +kernel
  exact this ⟨w, h⟩
/-- a word in a set, as the code asks -/
theorem shr_1 {s : Int32} (hs : Rg s) {w : Nat} (hw : w < 12) : (s >>> (nI w &&& 31)) &&& (1 : Int32) = if bt s w = true then 1 else 0 := by
  obtain ⟨j, hj, rfl⟩ := Rg_nI hs
  rw [pk_shrN (by omega) _ w (sh_k hw), pk_andN (Nat.lt_of_le_of_lt (Nat.div_le_self _ _) (by omega)) 1 (by decide), bt_nI (by omega), Nat.testBit_eq_decide_div_mod_eq]
  rcases Nat.mod_two_eq_zero_or_one (j / 2 ^ w) with e | e
  · rw [show (2 ^ 1 : Nat) = 2 from rfl, e]; rfl
  · rw [show (2 ^ 1 : Nat) = 2 from rfl, e]; rfl
theorem has_bt {s : Int32} (hs : Rg s) {w : Nat} (hw : w < 12) : f_X6_hasWord s (nI w) = if bt s w = true then 1 else 0 := by
  unfold f_X6_hasWord
  rw [shr_1 hs hw]
  cases bt s w <;> rfl
