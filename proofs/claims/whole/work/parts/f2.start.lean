/-! the first world -/
theorem rb_0 {zs xw xk xm xf xh xt : Nat → Int32} {b : Nat} (hb : b < 2) (h1 : ∀ j : Nat, j < 24 → zs (162 + j) = 1) (h0 : ∀ j : Nat, (j < 162 ∨ 186 ≤ j) → zs j = 0) (hh : ∀ j : Nat, j < 12 → xh j = 1) (ht : ∀ j : Nat, j < 12 → xt j = 0) : RB zs b 0 xw xk xm xf 0 xh xt := by
  refine ⟨hb, ⟨Nat.zero_le _, Rg_0, fun t ht => absurd ht (Nat.not_lt_zero _)⟩, h0 _ (by omega), fun t ht => absurd ht (Nat.not_lt_zero _), fun w hw => ?_, fun w hw => ?_, fun w hw => ?_⟩
  · rw [h0 _ (by omega), bt_0, if_neg (by decide)]
  · refine ⟨?_, 1, by decide, hh w hw⟩
    rw [show 162 + 12 * b + w = 162 + (12 * b + w) by omega, h1 _ (by omega), hh w hw]
  · refine ⟨?_, 0, by decide, ht w hw⟩
    rw [h0 _ (by omega), ht w hw]
theorem h3_0 {w : Nat → Int32} : H3 0 w := fun _ => Nat.zero_le _
theorem inv_0 {G : wG} {A : Nat → Nat} {h1 h2 h3 h4 h5 zs : Nat → Int32} (e1 : ∀ j : Nat, j < 12 → h1 j = 1) (e2 : ∀ j : Nat, j < 12 → h2 j = 1) (z1 : ∀ j : Nat, j < 24 → zs (162 + j) = 1) (z0 : ∀ j : Nat, (j < 162 ∨ 186 ≤ j) → zs j = 0) :
    INV G A (LWL G A 0 0 (fun _ => 0) (fun _ => 0) (0, 0, 0, 0, -9, fun _ => 0) (0, fun _ => 0, fun _ => 0, fun _ => 0, fun _ => 0, 0, h1, fun _ => 0) (0, fun _ => 0, fun _ => 0, fun _ => 0, fun _ => 0, 0, h2, fun _ => 0) (0, fun _ => 0, fun _ => 0, fun _ => 0, fun _ => 0, fun _ => 0, fun _ => 0) (0, fun _ => 0, fun _ => 0, fun _ => 0, fun _ => 0, 0, h3, fun _ => 0) (0, fun _ => 0, fun _ => 0, fun _ => 0, fun _ => 0, 0, h4, fun _ => 0) (0, fun _ => 0, fun _ => 0, fun _ => 0, fun _ => 0, fun _ => 0, fun _ => 0) (0, fun _ => 0, fun _ => 0, fun _ => 0, fun _ => 0, 0, h5, fun _ => 0) (0, 0, 4095, 12, 0, 0, 0, fun _ => 0) (0, 0, 0, 0) (fun _ => 0) zs (fun _ => 0) (fun _ => 0) (fun _ => 0) (fun _ => 0) (fun _ => 0) (fun _ => 0)) := by
  refine ⟨_, _, _, _, _, _, _, _, _, _, _, _, _, _, _, _, _, _, _, _, _, _, rfl, ⟨rb_0 (by decide) z1 z0 e1 (fun _ _ => rfl), rb_0 (by decide) z1 z0 e2 (fun _ _ => rfl), ?_, h3_0, h3_0⟩, Or.inl ⟨rfl, rfl⟩, Nat.zero_le _, Nat.zero_le _, Nat.zero_le _, Nat.zero_le _, rfl, ⟨Nat.zero_le _, fun j hj => absurd hj (Nat.not_lt_zero _)⟩, rfl, Nat.zero_le _, fun j hj => absurd hj (Nat.not_lt_zero _), fun j hj => rfl⟩
  exact ⟨Nat.zero_le _, z0 _ (by omega), fun c hc => absurd hc (Nat.not_lt_zero _), fun c hc => absurd hc (Nat.not_lt_zero _), fun c hc => absurd hc (Nat.not_lt_zero _)⟩
theorem lw_cmp {i L : Nat} (hL : L ≤ 320) (hi : i ≤ 330) : nI L - 5 < nI i ↔ L < i + 5 := by
  rcases Nat.lt_or_ge L 5 with q | q
  · refine ⟨fun _ => by omega, fun _ => ?_⟩
    have h1 : nI L - nI 5 < 0 := pk_sneg (by omega) q
    have h2 : ¬ nI i < 0 := nI_pos (by omega)
    exact Int32.lt_of_lt_of_le h1 (Int32.not_lt.mp h2)
  · have h1 : nI L - 5 = nI (L - 5) := nI_subE (a := L) (b := 5) rfl rfl q
    rw [h1, nI_ltI (by omega) (by omega)]
    omega
/-! the start: classes, the text constant -/
theorem st_K {s : State} {a : Array Value} (hts : ∀ w ∈ lw_tbl, w.before a s = true) : ∃ G : wG, KK G s := by
  have hKW : KW s := fun w hm ho => va_Nw.of (okW_tab ho) (hts w hm)
  obtain ⟨c0, s0, n0⟩ := u_known (args := a) (C := RX0) (T := TX0) (N := 4) (n := 4) (ku_X0 hKW) (fun _ h => h) (kw_63 hKW)
  obtain ⟨c1, s1, n1⟩ := u_known (args := a) (C := RX1) (T := TX1) (N := 3) (n := 3) (ku_X1 hKW) (fun _ h => h) (kw_124 hKW)
  obtain ⟨c2, s2, n2⟩ := u_known (args := a) (C := RX2) (T := TX2) (N := 8) (n := 8) (ku_X2 hKW) (fun _ h => h) (kw_187 hKW)
  obtain ⟨c3, s3, n3⟩ := u_known (args := a) (C := RX3) (T := TX3) (N := 3) (n := 3) (ku_X3 hKW) (fun _ h => h) (kw_57 hKW)
  obtain ⟨c4, s4, n4⟩ := u_known (args := a) (C := RX4) (T := TX4) (N := 6) (n := 6) (ku_X4 hKW) (fun _ h => h) (kw_154 hKW)
  obtain ⟨c5, s5, n5⟩ := u_known (args := a) (C := RX5) (T := TX5) (N := 5) (n := 5) (ku_X5 hKW) (fun _ h => h) (kw_69 hKW)
  obtain ⟨c6, s6, n6⟩ := u_known (args := a) (C := RX6) (T := TX6) (N := 9) (n := 9) (ku_X6 hKW) (fun _ h => h) (kw_49 hKW)
  obtain ⟨c7, s7, n7⟩ := u_known (args := a) (C := RX7) (T := TX7) (N := 12) (n := 12) (ku_X7 hKW) (fun _ h => h) (kw_672 hKW)
  obtain ⟨aI, kI, oI, i1, i2, i3⟩ := Cond.arrayClass_spec (type := .int) (args := a) (first := s) (o := none) (s := s) (idx := []) (hts (.arrayClass .int) (by decide +kernel))
  obtain ⟨aZ, kZ, oZ, z1, z2, z3⟩ := Cond.arrayClass_spec (type := .boolean) (args := a) (first := s) (o := none) (s := s) (idx := []) (hts (.arrayClass .boolean) (by decide +kernel))
  refine ⟨((fun k => [c0, c1, c2, c3, c4, c5, c6, c7].getD k c0, fun k => [s0, s1, s2, s3, s4, s5, s6, s7].getD k s0), aI, aZ), ⟨fun k q hq => ?_, fun k q hq => ?_⟩, hKW⟩
  · match k, hq with
    | 0, hq => cases hq; exact n0
    | 1, hq => cases hq; exact n1
    | 2, hq => cases hq; exact n2
    | 3, hq => cases hq; exact n3
    | 4, hq => cases hq; exact n4
    | 5, hq => cases hq; exact n5
    | 6, hq => cases hq; exact n6
    | 7, hq => cases hq; exact n7
    | k + 8, hq => exact absurd (List.getElem?_eq_some_iff.mp hq).1 (by simp [wcl])
  · match k, hq with
    | 0, hq => cases hq; exact ⟨fun n z => ⟨fun k h => (by cases h), kI, i2, oI, i3⟩, i1⟩
    | 1, hq => cases hq; exact ⟨fun n z => ⟨fun k h => (by cases h), kZ, z2, oZ, z3⟩, z1⟩
    | k + 2, hq => exact absurd (List.getElem?_eq_some_iff.mp hq).1 (by simp)
theorem st_X {s : State} {a : Array Value} (hts : ∀ w ∈ lw_tbl, w.before a s = true) (hgv : (Jvm.Cond.and given_1 narrow_1).before a s = true) : ∃ sq sv : Nat, SX sq sv (fun q : Nat => s.heap.size ≤ q) s s.heap := by
  have hs := flat_of_before _ hgv
  have hKW : KW s := fun w hm ho => va_Nw.of (okW_tab ho) (hts w hm)
  have hA0 : ∀ q : Nat, q < s.heap.size → ¬ (fun q : Nat => s.heap.size ≤ q) q := fun q h1 h2 => absurd h1 (Nat.not_lt.mpr h2)
  obtain ⟨aK, aV, hvs, hev⟩ := vk_Sof (args := a) (s := s) (N := 1) (tm := fun _ => Term.string RX4 35) (len := [6]) (byt := [[87, 80, 75, 76, 83, 82]]) (A := fun q : Nat => s.heap.size ≤ q)
    (fun i hi => by obtain rfl : i = 0 := by omega
                    decide)
    (fun i hi => hs _ (by decide +kernel)) (fun i hi => hs _ (by decide +kernel)) (fun i hi => hs _ (by decide +kernel))
    (fun i hi => by obtain rfl : i = 0 := by omega
                    exact hs _ (by decide +kernel))
    (fun i hi j hj => by
      obtain rfl : i = 0 := by omega
      match j, hj with
      | 0, _ => exact hs _ (by decide +kernel)
      | 1, _ => exact hs _ (by decide +kernel)
      | 2, _ => exact hs _ (by decide +kernel)
      | 3, _ => exact hs _ (by decide +kernel)
      | 4, _ => exact hs _ (by decide +kernel)
      | 5, _ => exact hs _ (by decide +kernel)
      | j + 6, hj => exact absurd hj (by simp))
    (fun i j hi hj hne => absurd (by omega : i = j) hne) hA0
  refine ⟨aK 0, aV 0, vk_R.of (A := a) (hts (.stringRef RX4 35 "WPKLSR") (by decide +kernel)) (hev 0 (by decide)), ⟨fun i hi => ?_, fun i j hi hj _ => by omega⟩, va_Zof (args := a) (hts (.laysStatic RJ0 "COMPACT_STRINGS" "Z") (by decide +kernel)) (hts (.initialized RJ0) (by decide +kernel)) (va_eqt (hs (.eq (.static RJ0 "COMPACT_STRINGS" "Z") (.int 1)) (by decide +kernel))) hA0⟩
  obtain rfl : i = 0 := by omega
  exact hvs.1 0 hi
