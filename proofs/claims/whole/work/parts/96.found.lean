/-! THE PURE PART: the family of sets that a search has met -/
def pu_I (S : Nat → Bool) (q3 q4 q5 q6 q7 : Int32) : Prop :=
  ((∀ j : Nat, j < 4096 → S j = false) ∧ q3 = 4095 ∧ q4 = 13) ∨
  ∃ m j0 : Nat, j0 < 4096 ∧ S j0 = true ∧ pc (nI j0) = m ∧ (∀ j : Nat, j < 4096 → S j = true → m ≤ pc (nI j)) ∧ (∀ j : Nat, j < 4096 → S j = true → pc (nI j) = m → j0 ≤ j) ∧ q3 = nI j0 ∧ q4 = nI m ∧ q5 = nI (pcn (fun j => S j && pc (nI j) == m) 4096) ∧ Rg q6 ∧ Rg q7 ∧ (∀ w : Nat, w < 12 → (bt q6 w = true ↔ ∀ j : Nat, j < 4096 → S j = true → pc (nI j) = m → bt (nI j) w = true)) ∧ (∀ w : Nat, w < 12 → (bt q7 w = true ↔ ∃ j : Nat, j < 4096 ∧ S j = true ∧ pc (nI j) = m ∧ bt (nI j) w = true))
theorem pu_I_congr {S S' : Nat → Bool} {q3 q4 q5 q6 q7 : Int32} (he : ∀ j : Nat, j < 4096 → S j = S' j) (h : pu_I S q3 q4 q5 q6 q7) : pu_I S' q3 q4 q5 q6 q7 := by
  rcases h with ⟨h1, h2⟩ | ⟨m, j0, h0, h1, h2, h3, h4, h5, h6, h7, h8, h9, h10, h11⟩
  · exact Or.inl ⟨fun j hj => by rw [← he j hj]; exact h1 j hj, h2⟩
  · refine Or.inr ⟨m, j0, h0, by rw [← he j0 h0]; exact h1, h2, fun j hj q => h3 j hj (by rw [he j hj]; exact q), fun j hj q => h4 j hj (by rw [he j hj]; exact q), h5, h6, ?_, h8, h9, fun w hw => ?_, fun w hw => ?_⟩
    · rw [h7]
      exact congrArg nI (pcn_congr 4096 (fun j hj => by rw [he j hj]))
    · rw [h10 w hw]
      exact ⟨fun z j hj q => z j hj (by rw [he j hj]; exact q), fun z j hj q => z j hj (by rw [← he j hj]; exact q)⟩
    · rw [h11 w hw]
      constructor
      · rintro ⟨j, hj, q, z⟩; exact ⟨j, hj, by rw [← he j hj]; exact q, z⟩
      · rintro ⟨j, hj, q, z⟩; exact ⟨j, hj, by rw [he j hj]; exact q, z⟩
theorem pu_I_note {S : Nat → Bool} {q3 q4 q5 q6 q7 : Int32} {j1 : Nat} (hj1 : j1 < 4096) (hS : S j1 = false) (h : pu_I S q3 q4 q5 q6 q7) : pu_I (fun j => S j || j == j1) (f_X2_note q3 q4 q5 q6 q7 (nI j1)).1 (f_X2_note q3 q4 q5 q6 q7 (nI j1)).2.1 (f_X2_note q3 q4 q5 q6 q7 (nI j1)).2.2.1 (f_X2_note q3 q4 q5 q6 q7 (nI j1)).2.2.2.1 (f_X2_note q3 q4 q5 q6 q7 (nI j1)).2.2.2.2 := by
  have hR : Rg (nI j1) := Rg_of hj1
  have hc := pc_le12 (nI j1)
  have hself : ∀ j : Nat, ((j == j1) = true) ↔ j = j1 := fun j => beq_iff_eq
  have hlt : ¬ nI j1 < nI j1 := nI_nlt (Nat.le_refl _) (by omega)
  have h1t : (S j1 || j1 == j1) = true := by rw [(hself j1).mpr rfl, Bool.or_true]
  rcases h with ⟨h1, h2, h3⟩ | ⟨m, j0, h0, h1, h2, h3, h4, h5, h6, h7, h8, h9, h10, h11⟩
  · have e : f_X2_note q3 q4 q5 q6 q7 (nI j1) = (nI j1, nI (pc (nI j1)), nI 1, (4095 : Int32) &&& nI j1, (0 : Int32) ||| nI j1) := by
      unfold f_X2_note
      have c1 : nI (pc (nI j1)) ≤ 13 := nI_le (b := 13) (by omega) (by omega)
      have c2 : ¬ (13 : Int32) ≤ nI (pc (nI j1)) := nI_ge (b := 13) (by omega) (by omega)
      rw [pu_bc hR, h3, if_pos c1, if_neg c2, if_neg hlt]
      rfl
    rw [e]
    have honly : ∀ j : Nat, j < 4096 → ((S j || j == j1) = true) → j = j1 := fun j hj q => by
      rw [h1 j hj, Bool.false_or] at q
      exact (hself j).mp q
    refine Or.inr ⟨pc (nI j1), j1, hj1, h1t, rfl, fun j hj q => by rw [honly j hj q]; exact Nat.le_refl _, fun j hj q _ => by rw [honly j hj q]; exact Nat.le_refl _, rfl, rfl, ?_, Rg_and Rg_4095, Rg_or Rg_0 hR, fun w hw => ?_, fun w hw => ?_⟩
    · have e2 : pcn (fun j => (S j || j == j1) && pc (nI j) == pc (nI j1)) 4096 = pcn (fun j => (fun _ => false) j || j == j1) 4096 := pcn_congr 4096 (fun j hj => by
        rw [h1 j hj]
        cases q : (j == j1)
        · rfl
        · rw [(hself j).mp q]; simp)
      have e3 : pcn (fun j => (fun _ => false) j || j == j1) 4096 = pcn (fun _ => false) 4096 + 1 := pcn_ins hj1 rfl
      rw [e2, e3, (pcn_zero 4096).mpr (fun _ _ => rfl)]
    · show bt ((4095 : Int32) &&& nI j1) w = true ↔ _
      rw [bt_and, bt_4095 hw, Bool.true_and]
      exact ⟨fun z j hj q _ => by rw [honly j hj q]; exact z, fun z => z j1 hj1 h1t rfl⟩
    · show bt ((0 : Int32) ||| nI j1) w = true ↔ _
      rw [bt_or, bt_0, Bool.false_or]
      constructor
      · intro z; exact ⟨j1, hj1, h1t, rfl, z⟩
      · rintro ⟨j, hj, q, _, z⟩
        rw [honly j hj q] at z
        exact z
  · have hm12 : m ≤ 12 := by rw [← h2]; exact pc_le12 _
    have hor : ∀ j : Nat, ((S j || j == j1) = true) → S j = true ∨ j = j1 := fun j q => by
      rw [Bool.or_eq_true] at q
      exact q.imp id (hself j).mp
    have hinl : ∀ j : Nat, S j = true → (S j || j == j1) = true := fun j q => by rw [q]; rfl
    rcases Nat.lt_trichotomy (pc (nI j1)) m with c | c | c
    · have e : f_X2_note q3 q4 q5 q6 q7 (nI j1) = (nI j1, nI (pc (nI j1)), nI 1, (4095 : Int32) &&& nI j1, (0 : Int32) ||| nI j1) := by
        unfold f_X2_note
        rw [pu_bc hR, h6, if_pos (nI_le (by omega) (by omega)), if_neg (nI_ge (by omega) (by omega)), if_neg hlt]
        rfl
      rw [e]
      have honly : ∀ j : Nat, j < 4096 → ((S j || j == j1) = true) → pc (nI j) = pc (nI j1) → j = j1 := fun j hj q z => by
        rcases hor j q with q | q
        · have := h3 j hj q; omega
        · exact q
      refine Or.inr ⟨pc (nI j1), j1, hj1, h1t, rfl, fun j hj q => ?_, fun j hj q z => by rw [honly j hj q z]; exact Nat.le_refl _, rfl, rfl, ?_, Rg_and Rg_4095, Rg_or Rg_0 hR, fun w hw => ?_, fun w hw => ?_⟩
      · rcases hor j q with q | q
        · have := h3 j hj q; omega
        · rw [q]; exact Nat.le_refl _
      · have e2 : pcn (fun j => (S j || j == j1) && pc (nI j) == pc (nI j1)) 4096 = pcn (fun j => (fun _ => false) j || j == j1) 4096 := pcn_congr 4096 (fun j hj => by
          cases q : (j == j1)
          · rw [Bool.or_false, Bool.or_false]
            cases q2 : S j
            · rfl
            · have := h3 j hj q2
              have q3 : (pc (nI j) == pc (nI j1)) = false := by
                refine Bool.eq_false_iff.mpr (fun z => ?_)
                have := eq_of_beq z
                omega
              rw [q3]; rfl
          · rw [(hself j).mp q]; simp)
        have e3 : pcn (fun j => (fun _ => false) j || j == j1) 4096 = pcn (fun _ => false) 4096 + 1 := pcn_ins hj1 rfl
        rw [e2, e3, (pcn_zero 4096).mpr (fun _ _ => rfl)]
      · show bt ((4095 : Int32) &&& nI j1) w = true ↔ _
        rw [bt_and, bt_4095 hw, Bool.true_and]
        exact ⟨fun z j hj q r => by rw [honly j hj q r]; exact z, fun z => z j1 hj1 h1t rfl⟩
      · show bt ((0 : Int32) ||| nI j1) w = true ↔ _
        rw [bt_or, bt_0, Bool.false_or]
        constructor
        · intro z; exact ⟨j1, hj1, h1t, rfl, z⟩
        · rintro ⟨j, hj, q, r, z⟩
          rw [honly j hj q r] at z
          exact z
    · have e : f_X2_note q3 q4 q5 q6 q7 (nI j1) = (nI (min j0 j1), nI m, nI (pcn (fun j => S j && pc (nI j) == m) 4096 + 1), q6 &&& nI j1, q7 ||| nI j1) := by
        unfold f_X2_note
        rw [pu_bc hR, h6, h5, h7, if_pos (nI_le (by omega) (by omega)), if_pos (nI_le (by omega) (by omega)), nI_minE (by omega) (by omega), nI_1]
      rw [e]
      have hmin : min j0 j1 = j0 ∨ min j0 j1 = j1 := by omega
      have hM : (S (min j0 j1) || min j0 j1 == j1) = true := by
        rcases hmin with q | q
        · rw [q, h1]; rfl
        · rw [q]; exact h1t
      have hMc : pc (nI (min j0 j1)) = m := by
        rcases hmin with q | q
        · rw [q]; exact h2
        · rw [q]; exact c
      refine Or.inr ⟨m, min j0 j1, by omega, hM, hMc, fun j hj q => ?_, fun j hj q z => ?_, rfl, rfl, ?_, Rg_and h8, Rg_or h9 hR, fun w hw => ?_, fun w hw => ?_⟩
      · rcases hor j q with q | q
        · exact h3 j hj q
        · rw [q, c]; exact Nat.le_refl _
      · rcases hor j q with q | q
        · have := h4 j hj q z; omega
        · omega
      · have hp : (S j1 && pc (nI j1) == m) = false := by rw [hS]; rfl
        show nI (_ + 1) = _
        rw [← pcn_ins hj1 hp]
        refine congrArg nI (pcn_congr 4096 (fun j hj => ?_))
        show ((S j && pc (nI j) == m) || j == j1) = ((S j || j == j1) && pc (nI j) == m)
        cases q : (j == j1)
        · rw [Bool.or_false, Bool.or_false]
        · rw [(hself j).mp q, Bool.or_true, Bool.or_true, Bool.true_and, c]
          exact (beq_iff_eq.mpr rfl).symm
      · show bt (q6 &&& nI j1) w = true ↔ _
        rw [bt_and, Bool.and_eq_true, h10 w hw]
        constructor
        · rintro ⟨z1, z2⟩ j hj q r
          rcases hor j q with q | q
          · exact z1 j hj q r
          · rw [q]; exact z2
        · intro z
          exact ⟨fun j hj q r => z j hj (hinl j q) r, z j1 hj1 h1t c⟩
      · show bt (q7 ||| nI j1) w = true ↔ _
        rw [bt_or, Bool.or_eq_true, h11 w hw]
        constructor
        · rintro (⟨j, hj, q, r, z⟩ | z)
          · exact ⟨j, hj, hinl j q, r, z⟩
          · exact ⟨j1, hj1, h1t, c, z⟩
        · rintro ⟨j, hj, q, r, z⟩
          rcases hor j q with q | q
          · exact Or.inl ⟨j, hj, q, r, z⟩
          · rw [q] at z; exact Or.inr z
    · have e : f_X2_note q3 q4 q5 q6 q7 (nI j1) = (q3, q4, q5, q6, q7) := by
        unfold f_X2_note
        rw [pu_bc hR, h6, if_neg (nI_ge (by omega) (by omega))]
      rw [e]
      have hback : ∀ j : Nat, j < 4096 → ((S j || j == j1) = true) → pc (nI j) = m → S j = true := fun j hj q z => by
        rcases hor j q with q | q
        · exact q
        · rw [q] at z; omega
      refine Or.inr ⟨m, j0, h0, hinl j0 h1, h2, fun j hj q => ?_, fun j hj q z => h4 j hj (hback j hj q z) z, h5, h6, ?_, h8, h9, fun w hw => ?_, fun w hw => ?_⟩
      · rcases hor j q with q | q
        · exact h3 j hj q
        · rw [q]; omega
      · show q5 = _
        rw [h7]
        refine congrArg nI (pcn_congr 4096 (fun j hj => ?_))
        show (S j && pc (nI j) == m) = ((S j || j == j1) && pc (nI j) == m)
        cases q : (j == j1)
        · rw [Bool.or_false]
        · rw [(hself j).mp q, hS, Bool.false_or, Bool.false_and, Bool.true_and]
          symm
          refine Bool.eq_false_iff.mpr (fun z => ?_)
          have := eq_of_beq z
          omega
      · show bt q6 w = true ↔ _
        rw [h10 w hw]
        exact ⟨fun z j hj q r => z j hj (hback j hj q r) r, fun z j hj q r => z j hj (hinl j q) r⟩
      · show bt q7 w = true ↔ _
        rw [h11 w hw]
        constructor
        · rintro ⟨j, hj, q, r, z⟩; exact ⟨j, hj, hinl j q, r, z⟩
        · rintro ⟨j, hj, q, r, z⟩; exact ⟨j, hj, hback j hj q r, r, z⟩
/-- from the sets that are looked at to all -/
theorem pu_I_up {S T : Nat → Bool} {q3 q4 q5 q6 q7 : Int32} (h : pu_I S q3 q4 q5 q6 q7) (hne : ∃ j : Nat, j < 4096 ∧ S j = true) (hST : ∀ j : Nat, j < 4096 → S j = true → T j = true) (hTS : ∀ j : Nat, j < 4096 → T j = true → ∃ i : Nat, i < 4096 ∧ S i = true ∧ pu_sub (nI i) (nI j)) : pu_I T q3 q4 q5 q6 q7 := by
  rcases h with ⟨h1, _⟩ | ⟨m, j0, h0, h1, h2, h3, h4, h5, h6, h7, h8, h9, h10, h11⟩
  · obtain ⟨j, hj, q⟩ := hne
    rw [h1 j hj] at q; cases q
  · have hb : ∀ j : Nat, j < 4096 → T j = true → pc (nI j) = m → S j = true := fun j hj q z => by
      obtain ⟨i, hi, qi, hs⟩ := hTS j hj q
      have h20 := h3 i hi qi
      have h21 := pc_sub hs
      have e := pc_sub_eq (Rg_of hi) (Rg_of hj) hs (by omega)
      have e2 : i = j := (nI_eq (by omega) (by omega)).mp e
      rw [← e2]; exact qi
    refine Or.inr ⟨m, j0, h0, hST j0 h0 h1, h2, fun j hj q => ?_, fun j hj q z => h4 j hj (hb j hj q z) z, h5, h6, ?_, h8, h9, fun w hw => ?_, fun w hw => ?_⟩
    · obtain ⟨i, hi, qi, hs⟩ := hTS j hj q
      have h20 := h3 i hi qi
      have h21 := pc_sub hs
      omega
    · rw [h7]
      refine congrArg nI (pcn_congr 4096 (fun j hj => ?_))
      cases q : (pc (nI j) == m)
      · rw [Bool.and_false, Bool.and_false]
      · rw [Bool.and_true, Bool.and_true]
        have z := eq_of_beq q
        cases q2 : S j
        · cases q3 : T j
          · rfl
          · rw [hb j hj q3 z] at q2; cases q2
        · rw [hST j hj q2]
    · rw [h10 w hw]
      exact ⟨fun z j hj q r => z j hj (hb j hj q r) r, fun z j hj q r => z j hj (hST j hj q) r⟩
    · rw [h11 w hw]
      constructor
      · rintro ⟨j, hj, q, r, z⟩; exact ⟨j, hj, hST j hj q, r, z⟩
      · rintro ⟨j, hj, q, r, z⟩; exact ⟨j, hj, hb j hj q r, r, z⟩
