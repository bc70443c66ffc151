/-! Integer.bitCount below 4096 -/
set_option maxRecDepth 100000 in
theorem pu_bc64 : ∀ a : Fin 64, ∀ b : Fin 64, f_J6_bitCount_0f7a4 (nI (64 * a.1 + b.1)) = nI (pcn (Nat.testBit (64 * a.1 + b.1)) 12) := by decide +kernel
theorem pu_bc {s : Int32} (h : Rg s) : f_J6_bitCount_0f7a4 s = nI (pc s) := by
  obtain ⟨j, hj, rfl⟩ := Rg_nI h
  have h1 := pu_bc64 ⟨j / 64, by omega⟩ ⟨j % 64, by omega⟩
  have e : 64 * (j / 64) + j % 64 = j := by omega
  dsimp only at h1
  rw [e] at h1
  rw [h1, pc_nI (by omega)]
