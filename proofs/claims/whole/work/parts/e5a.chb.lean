theorem RC.chb {zs : Nat → Int32} {cn xn yn : Nat} {cw ck cm cf cu cv : Nat → Int32} (h : RC zs cn cw ck cm cf cu cv xn yn) (hx : xn ≤ 20) (hy : yn ≤ 20) : ∃ cB cN : Nat → Nat, CHB zs cn cw ck cm cf cu cv cB cN ∧ (∀ c : Nat, c < cn → cB c = 0 → cN c < xn) ∧ (∀ c : Nat, c < cn → cB c = 1 → cN c < yn) ∧ (∀ c : Nat, c < cn → zs (234 + 6 * c) = nI (cB c) ∧ cB c < 2 ∧ zs (234 + 6 * c + 1) = nI (cN c) ∧ cN c < 20) ∧ (∀ c : Nat, c < cn → (∃ w : Nat, w < 12 ∧ zs (234 + 6 * c + 2) = nI w) ∧ Rg (zs (234 + 6 * c + 4))) := by
  obtain ⟨h4, h5, ht, hb, hz⟩ := h
  have hb2 : ∀ c : Nat, ∃ B N : Nat, c < cn → (B < 2 ∧ cu c = nI B ∧ cv c = nI N ∧ N < (if B = 0 then xn else yn)) := fun c => by
    by_cases q : c < cn
    · obtain ⟨B, N, e⟩ := hb c q
      exact ⟨B, N, fun _ => e⟩
    · exact ⟨0, 0, fun z => absurd z q⟩
  obtain ⟨cB, hb3⟩ := Classical.axiomOfChoice hb2
  obtain ⟨cN, key⟩ := Classical.axiomOfChoice hb3
  have k20 : ∀ c : Nat, c < cn → cN c < 20 := fun c hc => by
    have e := (key c hc).2.2.2
    split at e <;> omega
  refine ⟨cB, cN, fun c hc => ⟨(key c hc).2.1, (key c hc).1, (key c hc).2.2.1, k20 c hc, ht c hc, (hz c hc).2.2.1, (hz c hc).2.2.2.1, (hz c hc).2.2.2.2.1, (hz c hc).2.2.2.2.2⟩, fun c hc e => ?_, fun c hc e => ?_, fun c hc => ⟨(hz c hc).1.trans (key c hc).2.1, (key c hc).1, (hz c hc).2.1.trans (key c hc).2.2.1, k20 c hc⟩, fun c hc => ⟨?_, ?_⟩⟩
  · have k := (key c hc).2.2.2
    rw [if_pos e] at k
    exact k
  · have k := (key c hc).2.2.2
    rw [if_neg (by omega)] at k
    exact k
  · obtain ⟨w, hw, e⟩ := (ht c hc).1
    exact ⟨w, hw, (hz c hc).2.2.1.trans e⟩
  · rw [(hz c hc).2.2.2.2.1]
    exact (ht c hc).2.2.1
