/-! BOTH SIDES READ A TEXT -/
theorem kd_all : ∀ c : Fin 256, (f_X7_kindOf (nI c.1) = -9 ∧ f_J0_indexOf_0f7a4 (((nI c.1).toUInt32 % 65536).toInt32) = -1) ∨ ∃ v : Fin 6, f_X7_kindOf (nI c.1) = nI v.1 ∧ f_J0_indexOf_0f7a4 (((nI c.1).toUInt32 % 65536).toInt32) = nI v.1 := by decide +kernel
section RDS
variable {tz : Nat} {tb zt : Nat → Int32}
theorem sg_in (h : RT tz tb zt) {a : Nat} (ha : a < tz) : f_X7_sign tz a zt = tb a := by
  have h1 := h.1
  unfold f_X7_sign
  rw [if_pos (nI_lt ha (by omega)), (h.2 a ha).1]
theorem sg_out (h : RT tz tb zt) {a : Nat} (ha : tz ≤ a) (h2 : a < 100) : f_X7_sign tz a zt = -1 := by
  have h1 := h.1
  unfold f_X7_sign
  rw [if_neg (nI_nlt ha (by omega))]
theorem lt_in (h : RT tz tb zt) {a c : Nat} (ha : a < tz) (ec : tb a = nI c) (hc : c < 256) : (97 ≤ c ∧ c ≤ 108 ∧ f_X4_letterAt tz tb a = nI (c - 97) ∧ ¬ f_X7_isWord tz a zt = 0 ∧ f_X7_sign tz a zt - 97 = nI (c - 97)) ∨ (¬ (97 ≤ c ∧ c ≤ 108) ∧ f_X4_letterAt tz tb a = -1 ∧ f_X7_isWord tz a zt = 0) := by
  have h1 := h.1
  have es := sg_in h ha
  unfold f_X4_letterAt f_X7_isWord
  rw [if_pos (nI_lt ha (by omega)), es, ec]
  have l1 : nI c < 97 ↔ c < 97 := nI_ltI (b := 97) (by omega) (by omega)
  have l2 : (108 : Int32) < nI c ↔ 108 < c := nI_ltI (a := 108) (by omega) (by omega)
  by_cases c1 : c < 97
  · right
    have c3 : nI c - (97 : Int32) < 0 := pk_sneg (b := 97) (by omega) c1
    have c4 : f_X6_isWord (nI c - (97 : Int32)) = 0 := by
      unfold f_X6_isWord
      rw [if_pos c3]
    rw [if_pos (l1.mpr c1), if_pos c4]
    exact ⟨by omega, rfl, rfl⟩
  · have e97 : nI c - (97 : Int32) = nI (c - 97) := nI_subE (b := 97) rfl rfl (by omega)
    rw [if_neg (fun z => c1 (l1.mp z)), e97]
    by_cases c2 : 108 < c
    · right
      have c3 : (12 : Int32) ≤ nI (c - 97) := nI_le (a := 12) (by omega) (by omega)
      have c4 : f_X6_isWord (nI (c - 97)) = 0 := by
        unfold f_X6_isWord
        rw [if_neg (nI_pos (by omega)), if_pos c3]
      rw [if_pos (l2.mpr c2), if_pos c4]
      exact ⟨by omega, rfl, rfl⟩
    · left
      have c3 : ¬ (12 : Int32) ≤ nI (c - 97) := nI_ge (b := 12) (by omega) (by omega)
      have c4 : ¬ f_X6_isWord (nI (c - 97)) = 0 := by
        unfold f_X6_isWord
        rw [if_neg (nI_pos (by omega)), if_neg c3]
        decide
      rw [if_neg (fun z => c2 (l2.mp z)), if_neg c4]
      exact ⟨by omega, by omega, rfl, by decide, rfl⟩
theorem lt_out (h : RT tz tb zt) {a : Nat} (ha : tz ≤ a) (h2 : a < 100) : f_X4_letterAt tz tb a = -1 := by
  have h1 := h.1
  unfold f_X4_letterAt
  rw [if_neg (nI_nlt ha (by omega))]
/-- what both sides' reading of the words comes to: a place, or a text -/
def RDW (tz : Nat) (w : Nat) (k : Int32) (C : Int32 × Int32 × Int32) (M : Int32 × (Nat → Int32) × Nat) : Prop :=
  (∃ a : Nat, a ≤ tz ∧ C.1 = nI a ∧ M.1 = 0 ∧ M.2.2 = a) ∨ (C.1 = -1 ∧ M.1 = 1 ∧ M.2.1 0 = nI w ∧ M.2.1 1 = k ∧ M.2.1 2 = C.2.1 ∧ M.2.1 3 = C.2.2 ∧ Rg C.2.1 ∧ (k = 2 → ∃ v : Nat, v < 12 ∧ C.2.2 = nI v ∧ bt C.2.1 v = true))
theorem rw_83 (h : RT tz tb zt) {w kd : Nat} (hw : w < 12) (hkd : kd < 6) : ∀ (k K a cnt : Nat) (r : Nat → Int32) (n f : Int32), k + a = tz → 2 ≤ a → tz < a + K → cnt + 2 = a → r 0 = nI w → r 1 = nI kd → r 2 = n → r 3 = f → Rg n → (cnt = 0 ↔ n = 0) → (¬ n = 0 → ∃ v : Nat, v < 12 ∧ f = nI v ∧ bt n v = true) → RDW tz w (nI kd) (f_X4_readWords_13 tz (nI w) (nI kd) tb k a n f) (f_X7_reads_83 tz zt K (nI cnt) r a) := by
  have h1 := h.1
  intro k
  induction k with
  | zero =>
    intro K a cnt r n f hk ha hK hc e0 e1 e2 e3 hn hcn hf
    have hat : a = tz := by omega
    obtain ⟨K, rfl⟩ : ∃ q, K = q + 1 := ⟨K - 1, by omega⟩
    have c0 : nI cnt ≤ 0 ↔ cnt ≤ 0 := nI_leI (b := 0) (by omega) (by omega)
    have k4 : nI kd = 4 ↔ kd = 4 := nI_eq (b := 4) (by omega) (by omega)
    rw [f_X4_readWords_13_z, f_X7_reads_83_s, if_pos (nI_le (by omega) (by omega)), e1]
    by_cases q : nI kd = 4
    · rw [if_pos q, if_pos q]
      refine Or.inr ⟨rfl, rfl, e0, e1, e2, e3, hn, fun z => ?_⟩
      rw [q] at z; exact absurd z (by decide)
    · rw [if_neg q, if_neg q]
      by_cases q2 : n = 0
      · rw [if_pos q2, if_pos (c0.mpr (by have := hcn.mpr q2; omega))]
        exact Or.inl ⟨tz, Nat.le_refl _, rfl, rfl, hat⟩
      · rw [if_neg q2, if_neg (fun z => q2 (hcn.mp (by have := c0.mp z; omega)))]
        exact Or.inr ⟨rfl, rfl, e0, e1, e2, e3, hn, fun _ => hf q2⟩
  | succ k ih =>
    intro K a cnt r n f hk ha hK hc e0 e1 e2 e3 hn hcn hf
    have hat : a < tz := by omega
    obtain ⟨K, rfl⟩ : ∃ q, K = q + 1 := ⟨K - 1, by omega⟩
    obtain ⟨_, c, hc2, ec⟩ := h.2 a hat
    have hbad : ∀ C : Int32 × Int32 × Int32, C.1 = nI a → RDW tz w (nI kd) C (0, r, a) := fun C z => Or.inl ⟨a, by omega, z, rfl, rfl⟩
    have e8 : nI cnt = 8 ↔ cnt = 8 := nI_eq (b := 8) (by omega) (by omega)
    have e00 : nI cnt = 0 ↔ cnt = 0 := nI_eq (b := 0) (by omega) (by omega)
    rw [f_X4_readWords_13_s, f_X7_reads_83_s, if_neg (nI_ge hat (by omega)), e0, e1, e2]
    rcases lt_in h hat ec hc2 with ⟨q1, q2, el, ew, es⟩ | ⟨q1, el, ew⟩
    · rw [if_neg ew, el, es]
      by_cases q : nI kd = 4
      · rw [if_pos q, if_pos q]; exact hbad _ rfl
      · rw [if_neg q, if_neg q, if_neg (fun z => absurd (e8.mp z) (by omega)), if_neg (nI_pos (by omega))]
        by_cases q3 : nI (c - 97) = nI w
        · rw [if_pos q3, if_pos q3]; exact hbad _ rfl
        · rw [if_neg q3, if_neg q3, has_bt hn (by omega), shr_1 hn (by omega)]
          by_cases q4 : bt n (c - 97) = true
          · rw [if_pos q4, if_neg (by decide), if_pos rfl]; exact hbad _ rfl
          · have hR : Rg (n ||| ((1 : Int32) <<< (nI (c - 97) &&& 31))) := Rg_or hn (Rg_bit (by omega))
            have hbit : bt (n ||| ((1 : Int32) <<< (nI (c - 97) &&& 31))) (c - 97) = true := (bt_orbit (by omega)).mpr (Or.inr rfl)
            have hne : ¬ (n ||| ((1 : Int32) <<< (nI (c - 97) &&& 31))) = 0 := fun z => by rw [z, bt_0] at hbit; cases hbit
            rw [if_neg q4, if_pos rfl, if_neg (show ¬ (0 : Int32) = 1 by decide), nI_1]
            by_cases q5 : n = 0
            · have q6 := hcn.mpr q5
              rw [if_pos q5, if_pos (e00.mpr q6)]
              refine ih K (a + 1) (cnt + 1) _ _ _ (by omega) (by omega) (by omega) (by omega) ?_ ?_ ?_ ?_ hR ⟨fun z => absurd z (by omega), fun z => absurd z hne⟩ (fun _ => ⟨c - 97, by omega, rfl, hbit⟩)
              · rw [pk_un (by decide), pk_un (by decide)]; exact e0
              · rw [pk_un (by decide), pk_un (by decide)]; exact e1
              · rw [pk_un (by decide), pk_us]
              · rw [pk_us]
            · have q6 : ¬ cnt = 0 := fun z => q5 (hcn.mp z)
              rw [if_neg q5, if_neg (fun z => q6 (e00.mp z))]
              obtain ⟨v, hv, efv, hbv⟩ := hf q5
              refine ih K (a + 1) (cnt + 1) _ _ _ (by omega) (by omega) (by omega) (by omega) ?_ ?_ ?_ ?_ hR ⟨fun z => absurd z (by omega), fun z => absurd z hne⟩ (fun _ => ⟨v, hv, efv, sub_or_l _ _ v hv hbv⟩)
              · rw [pk_un (by decide), pk_un (by decide)]; exact e0
              · rw [pk_un (by decide), pk_un (by decide)]; exact e1
              · rw [pk_un (by decide), pk_us]
              · rw [pk_us, pk_un (by decide)]; exact e3
    · rw [if_pos ew, el]
      by_cases q : nI kd = 4
      · rw [if_pos q]; exact hbad _ rfl
      · rw [if_neg q, if_pos (by decide)]; exact hbad _ rfl
/-- reading: the same place, or the same text -/
theorem pw_read (h : RT tz tb zt) {tk tm tf : Int32} {zr : Nat → Int32} : (¬ (f_X4_read tz tk tm tf tb).1 < 0 ∧ (f_X7_fault tz zt zr).1 = (f_X4_read tz tk tm tf tb).1 ∧ (f_X7_fault tz zt zr).2.2.2 = 0) ∨ ((f_X4_read tz tk tm tf tb).1 < 0 ∧ (f_X7_fault tz zt zr).1 < 0 ∧ (f_X7_fault tz zt zr).2.2.2 = 0 ∧ (f_X7_fault tz zt zr).2.1 0 = (f_X4_read tz tk tm tf tb).2.1 ∧ (f_X7_fault tz zt zr).2.1 1 = (f_X4_read tz tk tm tf tb).2.2.1 ∧ (f_X7_fault tz zt zr).2.1 2 = (f_X4_read tz tk tm tf tb).2.2.2.1 ∧ (f_X7_fault tz zt zr).2.1 3 = (f_X4_read tz tk tm tf tb).2.2.2.2 ∧ TXT (f_X4_read tz tk tm tf tb).2.1 (f_X4_read tz tk tm tf tb).2.2.1 (f_X4_read tz tk tm tf tb).2.2.2.1 (f_X4_read tz tk tm tf tb).2.2.2.2) := by
  have h1 := h.1
  unfold f_X7_fault
  obtain ⟨M, hM⟩ : ∃ M, f_X7_reads tz zt zr = M := ⟨_, rfl⟩
  rw [hM]
  have hfail : ∀ a : Nat, a ≤ 10 → M.1 = 0 → M.2.2 = a → (f_X4_read tz tk tm tf tb).1 = nI a → (¬ (f_X4_read tz tk tm tf tb).1 < 0 ∧ (if M.1 = 0 then (nI M.2.2, M.2.1, M.2.2, 0) else ((-9 : Int32), M.2.1, M.2.2, (0 : Nat))).1 = (f_X4_read tz tk tm tf tb).1 ∧ (if M.1 = 0 then (nI M.2.2, M.2.1, M.2.2, 0) else ((-9 : Int32), M.2.1, M.2.2, (0 : Nat))).2.2.2 = 0) := fun a ha z1 z2 z3 => by
    rw [if_pos z1, z3, z2]
    exact ⟨nI_pos (by omega), rfl, rfl⟩
  unfold f_X7_reads at hM
  by_cases hz0 : tz = 0
  · left
    have el := lt_out h (a := 0) (by omega) (by omega)
    have ew : f_X7_isWord tz 0 zt = 0 := by
      unfold f_X7_isWord
      rw [sg_out h (by omega) (by omega), if_pos (by decide)]
    rw [if_pos ew] at hM
    refine hfail 0 (by omega) (by rw [← hM]) (by rw [← hM]) ?_
    unfold f_X4_read
    rw [el, if_neg (by decide)]
    rfl
  · obtain ⟨_, c, hc2, ec⟩ := h.2 0 (by omega)
    rcases lt_in h (a := 0) (by omega) ec hc2 with ⟨q1, q2, el, ew, es⟩ | ⟨q1, el, ew⟩
    · rw [if_neg ew, es] at hM
      have lpos : (0 : Int32) ≤ nI (c - 97) := nI_pos' (by omega)
      by_cases hz1 : tz = 1
      · left
        have es1 : f_X7_sign tz 1 zt = -1 := sg_out h (by omega) (by omega)
        have ek : f_X7_kindOf (-1) = -9 := by decide
        rw [es1, ek, pk_us, if_neg (by decide)] at hM
        refine hfail 1 (by omega) (by rw [← hM]) (by rw [← hM]) ?_
        unfold f_X4_read
        rw [el, if_pos lpos, if_pos (show nI tz ≤ (1 : Int32) from nI_le (b := 1) (by omega) (by omega))]
        rfl
      · obtain ⟨_, d, hd2, ed⟩ := h.2 1 (by omega)
        have es1 : f_X7_sign tz 1 zt = nI d := by rw [sg_in h (by omega), ed]
        rw [es1, pk_us] at hM
        have hle1 : ¬ nI tz ≤ 1 := nI_ge (a := 1) (by omega) (by omega)
        rcases kd_all ⟨d, hd2⟩ with ⟨k1, k2⟩ | ⟨⟨kd, hkd⟩, k1, k2⟩
        · left
          dsimp only at k1 k2
          rw [k1, if_neg (by decide)] at hM
          refine hfail 1 (by omega) (by rw [← hM]) (by rw [← hM]) ?_
          unfold f_X4_read
          rw [el, if_pos lpos, if_neg hle1, ed, k2, if_neg (by decide)]
          rfl
        · dsimp only at k1 k2
          rw [k1, if_pos (nI_pos' (by omega))] at hM
          have e4 : f_X4_read tz tk tm tf tb = ((f_X4_readWords tz (nI (c - 97)) (nI kd) tb).1, nI (c - 97), nI kd, (f_X4_readWords tz (nI (c - 97)) (nI kd) tb).2.1, (f_X4_readWords tz (nI (c - 97)) (nI kd) tb).2.2) := by
            unfold f_X4_read
            rw [el, if_pos lpos, if_neg hle1, ed, k2, if_pos (nI_pos' (by omega))]
          have hr := rw_83 h (w := c - 97) (kd := kd) (by omega) hkd (tz - 2) 9 2 0 (upd (upd (upd (upd zr 0 (nI (c - 97))) 1 (nI kd)) 2 0) 3 (-9)) 0 (-9) (by omega) (by omega) (by omega) rfl (by rw [pk_un (by decide), pk_un (by decide), pk_un (by decide), pk_us]) (by rw [pk_un (by decide), pk_un (by decide), pk_us]) (by rw [pk_un (by decide), pk_us]) (by rw [pk_us]) Rg_0 ⟨fun _ => rfl, fun _ => rfl⟩ (fun z => absurd rfl z)
          have hMe : f_X7_reads_83 tz zt 9 (nI 0) (upd (upd (upd (upd zr 0 (nI (c - 97))) 1 (nI kd)) 2 0) 3 (-9)) 2 = M := hM
          rw [hMe] at hr
          have hC : f_X4_readWords_13 tz (nI (c - 97)) (nI kd) tb (tz - 2) 2 0 (-9) = f_X4_readWords tz (nI (c - 97)) (nI kd) tb := rfl
          rw [hC] at hr
          obtain ⟨C, eC⟩ : ∃ C, f_X4_readWords tz (nI (c - 97)) (nI kd) tb = C := ⟨_, rfl⟩
          rw [eC] at hr e4
          rcases hr with ⟨a, ha, r1, r2, r3⟩ | ⟨r1, r2, r3, r4, r5, r6, r7, r8⟩
          · left
            exact hfail a (by omega) r2 r3 (by rw [e4]; exact r1)
          · right
            rw [e4, if_neg (by rw [r2]; decide)]
            refine ⟨by show C.1 < 0; rw [r1]; decide, by show (-9 : Int32) < 0; decide, rfl, r3, r4, r5, r6, ⟨c - 97, by omega, rfl⟩, ⟨kd, hkd, rfl⟩, r7, r8⟩
    · left
      rw [if_pos ew] at hM
      refine hfail 0 (by omega) (by rw [← hM]) (by rw [← hM]) ?_
      unfold f_X4_read
      rw [el, if_neg (by decide)]
      rfl
end RDS
section PTL
variable {zs : Nat → Int32} {b xn : Nat} {xw xk xm xf : Nat → Int32} {xB : Int32} {xh xt : Nat → Int32} {zf ff : Nat → Int32}
def H3 (n : Nat) (w : Nat → Int32) : Prop := ∀ wo : Int32, pcn (fun t => decide (w t = wo)) n ≤ 3
theorem hm_4 {wo : Int32} : ∀ (k i : Nat), k + i = xn → f_X5_howManyOf_4 xw wo k i (nI (pcn (fun t => decide (xw t = wo)) i)) = nI (pcn (fun t => decide (xw t = wo)) xn) := by
  intro k
  induction k with
  | zero => intro i hk; rw [f_X5_howManyOf_4_z, show i = xn by omega]
  | succ k ih =>
    intro i hk
    have h1 := ih (i + 1) (by omega)
    simp only [pcn] at h1
    rw [f_X5_howManyOf_4_s]
    by_cases q : xw i = wo
    · rw [if_pos (by rw [decide_eq_true_eq]; exact q)] at h1
      rw [if_pos q, nI_1]
      exact h1
    · rw [if_neg (by rw [decide_eq_true_eq]; exact q)] at h1
      rw [if_neg q]
      exact h1
theorem hm_of (wo : Int32) : f_X5_howManyOf xn xw wo = nI (pcn (fun t => decide (xw t = wo)) xn) := hm_4 xn 0 (by omega)
theorem tl_5 (h : RB zs b xn xw xk xm xf xB xh xt) {wo : Int32} : ∀ (k i : Nat) (a : Int32), k + i = xn → f_X7_tellingsOf_5 zs b wo k i a = f_X5_howManyOf_4 xw wo k i a := by
  intro k
  induction k with
  | zero => intro i a _; rw [f_X7_tellingsOf_5_z, f_X5_howManyOf_4_z]
  | succ k ih =>
    intro i a hk
    rw [f_X7_tellingsOf_5_s, f_X5_howManyOf_4_s, h.g0 (by omega), Int32.add_zero]
    by_cases q : xw i = wo
    · rw [if_pos q, if_pos q]; exact ih _ _ (by omega)
    · rw [if_neg q, if_neg q]; exact ih _ _ (by omega)
theorem tl_of (h : RB zs b xn xw xk xm xf xB xh xt) (wo : Int32) : f_X7_tellingsOf zs b xn wo = nI (pcn (fun t => decide (xw t = wo)) xn) := by
  unfold f_X7_tellingsOf
  rw [tl_5 h xn 0 0 (by omega)]
  exact hm_of wo
theorem H3.add {w : Int32} (h : H3 xn xw) (hw : pcn (fun t => decide (xw t = w)) xn < 3) : H3 (xn + 1) (upd xw xn w) := fun wo => by
  have e : pcn (fun t => decide (upd xw xn w t = wo)) xn = pcn (fun t => decide (xw t = wo)) xn := pcn_congr xn (fun t ht => by rw [pk_un (by omega)])
  simp only [pcn]
  rw [e]
  have h1 := h wo
  by_cases q : w = wo
  · subst q
    split <;> omega
  · split
    · rename_i hq
      have hq2 := of_decide_eq_true hq
      rw [pk_us] at hq2
      exact absurd hq2 q
    · omega
theorem tl_73 {mz bn : Nat} {zt zr : Nat → Int32} : f_X7_telling_73 mz zf zt zr b bn 4 0 zs = ((nI (bn + 1)) - (1 : Int32), zf, upd (upd (upd (upd (upd zs (80 * b + (4 * bn) + 0) ((f_X7_fault mz zt zr).2.1 0)) (80 * b + (4 * bn) + 1) ((f_X7_fault mz zt zr).2.1 1)) (80 * b + (4 * bn) + 2) ((f_X7_fault mz zt zr).2.1 2)) (80 * b + (4 * bn) + 3) ((f_X7_fault mz zt zr).2.1 3)) (160 + b) (nI (bn + 1)), (f_X7_fault mz zt zr).2.1, (f_X7_fault mz zt zr).2.2.1, (f_X7_fault mz zt zr).2.2.2) := by
  rw [show (4 : Nat) = 0 + 1 + 1 + 1 + 1 from rfl, f_X7_telling_73_s, f_X7_telling_73_s, f_X7_telling_73_s, f_X7_telling_73_s, f_X7_telling_73_z]
/-- telling -/
theorem pw_telling (h : RB zs b xn xw xk xm xf xB xh xt) (hf : RF zf ff) {tz : Nat} {tw tk tm tf : Int32} {tb zt zr : Nat → Int32} (ht : RT tz tb zt) {ma : Nat} (h3 : H3 xn xw) : (f_X7_telling tz ma zf zs zt zr b xn).1 = (f_X6_telling_0 ff 20 xn xw xk xm xf tz tw tk tm tf tb).1 ∧ RF (f_X7_telling tz ma zf zs zt zr b xn).2.1 (f_X6_telling_0 ff 20 xn xw xk xm xf tz tw tk tm tf tb).2.1 ∧ RB (f_X7_telling tz ma zf zs zt zr b xn).2.2.1 b (f_X6_telling_0 ff 20 xn xw xk xm xf tz tw tk tm tf tb).2.2.2.2.2.2.1 (f_X6_telling_0 ff 20 xn xw xk xm xf tz tw tk tm tf tb).2.2.1 (f_X6_telling_0 ff 20 xn xw xk xm xf tz tw tk tm tf tb).2.2.2.1 (f_X6_telling_0 ff 20 xn xw xk xm xf tz tw tk tm tf tb).2.2.2.2.1 (f_X6_telling_0 ff 20 xn xw xk xm xf tz tw tk tm tf tb).2.2.2.2.2.1 xB xh xt ∧ xn ≤ (f_X6_telling_0 ff 20 xn xw xk xm xf tz tw tk tm tf tb).2.2.2.2.2.2.1 ∧ W1 b zs (f_X7_telling tz ma zf zs zt zr b xn).2.2.1 ∧ (f_X7_telling tz ma zf zs zt zr b xn).2.2.2.2.2 = (f_X6_telling_0 ff 20 xn xw xk xm xf tz tw tk tm tf tb).2.2.2.2.2.2.2.1 ∧ ((f_X6_telling_0 ff 20 xn xw xk xm xf tz tw tk tm tf tb).2.2.2.2.2.2.2.1 = tz ∨ (f_X6_telling_0 ff 20 xn xw xk xm xf tz tw tk tm tf tb).2.2.2.2.2.2.2.1 = 0) ∧ H3 (f_X6_telling_0 ff 20 xn xw xk xm xf tz tw tk tm tf tb).2.2.2.2.2.2.1 (f_X6_telling_0 ff 20 xn xw xk xm xf tz tw tk tm tf tb).2.2.1 := by
  have hb := h.1
  have hn := h.2.1.1
  have e20 : nI xn = 20 ↔ xn = 20 := nI_eq (b := 20) (by omega) (by omega)
  have l20 : nI xn < nI 20 ↔ xn < 20 := nI_ltI (by omega) (by omega)
  unfold f_X7_telling f_X6_telling_0 f_X5_isFull
  by_cases q : xn = 20
  · rw [if_pos (e20.mpr q), if_neg (c := nI xn < nI 20) (fun z => by have := l20.mp z; omega), if_neg (by decide)]
    exact ⟨(pw_r6 hf).1, (pw_r6 hf).2, h, Nat.le_refl _, W1_r, rfl, Or.inl rfl, h3⟩
  · rw [if_neg (fun z => q (e20.mp z)), if_pos (l20.mpr (by omega)), if_pos rfl]
    obtain ⟨R, eR⟩ : ∃ R, f_X4_read tz tk tm tf tb = R := ⟨_, rfl⟩
    obtain ⟨F, eF⟩ : ∃ F, f_X7_fault tz zt zr = F := ⟨_, rfl⟩
    have hr := pw_read ht (tk := tk) (tm := tm) (tf := tf) (zr := zr)
    rw [tl_73, eR, eF]
    rw [eR, eF] at hr
    rcases hr with ⟨r1, r2, r3⟩ | ⟨r1, r2, r3, r4, r5, r6, r7, r8⟩
    · rw [if_neg (by rw [r2]; exact r1), if_neg r1, r2]
      exact ⟨rfl, hf, h, Nat.le_refl _, W1_r, r3, Or.inr rfl, h3⟩
    · have hc := h3 R.2.1
      have hcc : pcn (fun t => decide (xw t = R.2.1)) xn ≤ xn := pcn_le _ _
      have t3 : nI (pcn (fun t => decide (xw t = R.2.1)) xn) = 3 ↔ pcn (fun t => decide (xw t = R.2.1)) xn = 3 := nI_eq (b := 3) (by omega) (by omega)
      have t3' : nI (pcn (fun t => decide (xw t = R.2.1)) xn) < 3 ↔ pcn (fun t => decide (xw t = R.2.1)) xn < 3 := nI_ltI (b := 3) (by omega) (by omega)
      rw [if_pos r2, if_pos r1, r4, tl_of h, hm_of]
      by_cases q2 : pcn (fun t => decide (xw t = R.2.1)) xn = 3
      · rw [if_pos (t3.mpr q2), if_neg (fun z => by have := t3'.mp z; omega)]
        exact ⟨(pw_r6 hf).1, (pw_r6 hf).2, h, Nat.le_refl _, W1_r, r3, Or.inr rfl, h3⟩
      · rw [if_neg (fun z => q2 (t3.mp z)), if_pos (t3'.mpr (by omega)), r5, r6, r7]
        refine ⟨rfl, hf, ?_, Nat.le_succ _, fun j hj => ?_, r3, Or.inr rfl, h3.add (by omega)⟩
        · refine h.add (by omega) r8 ?_ ?_ ?_ ?_ ?_ (fun j hj1 hj2 => ?_)
          · show upd (upd (upd (upd (upd zs _ _) _ _) _ _) _ _) _ _ _ = _
            rw [pk_un (by omega), pk_un (by omega), pk_un (by omega), pk_un (by omega)]; exact pk_us
          · show upd (upd (upd (upd (upd zs _ _) _ _) _ _) _ _) _ _ _ = _
            rw [pk_un (by omega), pk_un (by omega), pk_un (by omega)]; exact pk_us
          · show upd (upd (upd (upd (upd zs _ _) _ _) _ _) _ _) _ _ _ = _
            rw [pk_un (by omega), pk_un (by omega)]; exact pk_us
          · show upd (upd (upd (upd (upd zs _ _) _ _) _ _) _ _) _ _ _ = _
            rw [pk_un (by omega)]; exact pk_us
          · show upd (upd (upd (upd (upd zs _ _) _ _) _ _) _ _) _ _ _ = _
            exact pk_us
          · show upd (upd (upd (upd (upd zs _ _) _ _) _ _) _ _) _ _ j = zs j
            rw [pk_un (by omega), pk_un (by omega), pk_un (by omega), pk_un (by omega), pk_un (by omega)]
        · show upd (upd (upd (upd (upd zs _ _) _ _) _ _) _ _) _ _ j = zs j
          have hj' : ¬ ((80 * b ≤ j ∧ j < 80 * b + 80) ∨ j = 160 + b) := fun z => hj (by unfold DB; omega)
          rw [pk_un (by omega), pk_un (by omega), pk_un (by omega), pk_un (by omega), pk_un (by omega)]
theorem ch_109 {mz cn : Nat} {zt zr s0 : Nat → Int32} : f_X7_change_109 mz zf zt zr cn 4 0 s0 = ((nI (cn + 1)) - (1 : Int32), zf, upd (upd (upd (upd (upd s0 (234 + (6 * cn) + 2 + 0) ((f_X7_fault mz zt zr).2.1 0)) (234 + (6 * cn) + 2 + 1) ((f_X7_fault mz zt zr).2.1 1)) (234 + (6 * cn) + 2 + 2) ((f_X7_fault mz zt zr).2.1 2)) (234 + (6 * cn) + 2 + 3) ((f_X7_fault mz zt zr).2.1 3)) 258 (nI (cn + 1)), (f_X7_fault mz zt zr).2.1, (f_X7_fault mz zt zr).2.2.1, (f_X7_fault mz zt zr).2.2.2) := by
  rw [show (4 : Nat) = 0 + 1 + 1 + 1 + 1 from rfl, f_X7_change_109_s, f_X7_change_109_s, f_X7_change_109_s, f_X7_change_109_s, f_X7_change_109_z]
/-- change: of a telling te of the book b -/
theorem pw_change_0 (eb : b = 0) (h : RB zs b xn xw xk xm xf xB xh xt) (hf : RF zf ff) {cn an yn : Nat} {cw ck cm cf cu cv : Nat → Int32} (hc : RC zs cn cw ck cm cf cu cv an yn) {te : Nat} (hte : te < xn) (hN : te < (if b = 0 then an else yn)) {tz : Nat} {tw tk tm tf : Int32} {tb zt zr : Nat → Int32} (ht : RT tz tb zt) {ma : Nat} {C : Int32 × (Nat → Int32) × (Nat → Int32) × (Nat → Int32) × (Nat → Int32) × (Nat → Int32) × Nat × (Nat → Int32) × (Nat → Int32) × Nat × Int32 × Int32 × Int32 × Int32} (hC : f_X6_change_0 ff xn xw cn cw ck cm cf cu cv tz tw tk tm tf tb (nI te) = C) : (f_X7_change tz ma zf zs zt zr b te cn).1 = C.1 ∧ RF (f_X7_change tz ma zf zs zt zr b te cn).2.1 C.2.1 ∧ RC (f_X7_change tz ma zf zs zt zr b te cn).2.2.1 C.2.2.2.2.2.2.1 C.2.2.1 C.2.2.2.1 C.2.2.2.2.1 C.2.2.2.2.2.1 C.2.2.2.2.2.2.2.1 C.2.2.2.2.2.2.2.2.1 an yn ∧ (∀ j : Nat, j < 234 → (f_X7_change tz ma zf zs zt zr b te cn).2.2.1 j = zs j) ∧ (f_X7_change tz ma zf zs zt zr b te cn).2.2.2.2.2 = C.2.2.2.2.2.2.2.2.2.1 ∧ (C.2.2.2.2.2.2.2.2.2.1 = tz ∨ C.2.2.2.2.2.2.2.2.2.1 = 0) := by
  subst hC
  subst eb
  have hb := h.1
  have hn := h.2.1.1
  have h4 := hc.1
  have e4 : nI cn = 4 ↔ cn = 4 := nI_eq (b := 4) (by omega) (by omega)
  have l4 : nI cn < nI 4 ↔ cn < 4 := nI_ltI (by omega) (by omega)
  unfold f_X7_change f_X6_change_0 f_X5_isFull
  rw [has_nI (by omega) hte, if_neg (c := (1 : Int32) = 0) (by decide), nI_clamp (by omega)]
  by_cases q : cn = 4
  · rw [if_pos (e4.mpr q), if_neg (c := nI cn < nI 4) (fun z => by have := l4.mp z; omega), if_neg (by decide)]
    exact ⟨(pw_r6 hf).1, (pw_r6 hf).2, hc, fun _ _ => rfl, rfl, Or.inl rfl⟩
  · rw [if_neg (fun z => q (e4.mp z)), if_pos (l4.mpr (by omega)), if_pos rfl]
    obtain ⟨R, eR⟩ : ∃ R, f_X4_read tz tk tm tf tb = R := ⟨_, rfl⟩
    obtain ⟨F, eF⟩ : ∃ F, f_X7_fault tz zt zr = F := ⟨_, rfl⟩
    have hr := pw_read ht (tk := tk) (tm := tm) (tf := tf) (zr := zr)
    rw [ch_109, eR, eF, h.g0 hte]
    rw [eR, eF] at hr
    rcases hr with ⟨r1, r2, r3⟩ | ⟨r1, r2, r3, r4, r5, r6, r7, r8⟩
    · rw [if_neg (by rw [r2]; exact r1), if_neg r1, r2]
      exact ⟨rfl, hf, hc, fun _ _ => rfl, r3, Or.inr rfl⟩
    · rw [if_pos r2, if_pos r1, r4]
      by_cases q2 : R.2.1 = xw te
      · rw [if_pos q2, if_pos q2, r5, r6, r7]
        have hadd : f_X1_add cn cw ck cm cf cu cv R.2.1 R.2.2.1 R.2.2.2.1 R.2.2.2.2 0 (nI te) = ((nI (cn + 1)) - (1 : Int32), upd cw cn R.2.1, upd ck cn R.2.2.1, upd cm cn R.2.2.2.1, upd cf cn R.2.2.2.2, cn + 1, upd cu cn 0, upd cv cn (nI te)) := by
          have e1 : (nI (cn + 1)) - (1 : Int32) = nI cn := nI_pred cn
          unfold f_X1_add f_X5_add
          dsimp only
          rw [e1, if_neg (nI_pos (by omega)), if_neg (show ¬ (4 : Int32) ≤ nI cn from nI_ge (b := 4) (by omega) (by omega)), nI_clamp (by omega)]
        rw [hadd]
        refine ⟨rfl, hf, ?_, fun j hj => ?_, r3, Or.inr rfl⟩
        · refine hc.add (B := 0) (N := te) (by omega) hb hN r8 ?_ ?_ ?_ ?_ ?_ ?_ ?_ (fun j h1 h2 => ?_)
          · show upd (upd (upd (upd (upd (upd (upd zs _ _) _ _) _ _) _ _) _ _) _ _) _ _ _ = _
            rw [pk_un (by omega), pk_un (by omega), pk_un (by omega), pk_un (by omega), pk_un (by omega), pk_un (by omega)]; exact pk_us
          · show upd (upd (upd (upd (upd (upd (upd zs _ _) _ _) _ _) _ _) _ _) _ _) _ _ _ = _
            rw [pk_un (by omega), pk_un (by omega), pk_un (by omega), pk_un (by omega), pk_un (by omega)]; exact pk_us
          · show upd (upd (upd (upd (upd (upd (upd zs _ _) _ _) _ _) _ _) _ _) _ _) _ _ _ = _
            rw [pk_un (by omega), pk_un (by omega), pk_un (by omega), pk_un (by omega)]; exact pk_us
          · show upd (upd (upd (upd (upd (upd (upd zs _ _) _ _) _ _) _ _) _ _) _ _) _ _ _ = _
            rw [pk_un (by omega), pk_un (by omega), pk_un (by omega)]; exact pk_us
          · show upd (upd (upd (upd (upd (upd (upd zs _ _) _ _) _ _) _ _) _ _) _ _) _ _ _ = _
            rw [pk_un (by omega), pk_un (by omega)]; exact pk_us
          · show upd (upd (upd (upd (upd (upd (upd zs _ _) _ _) _ _) _ _) _ _) _ _) _ _ _ = _
            rw [pk_un (by omega)]; exact pk_us
          · dsimp only
            exact pk_us
          · show upd (upd (upd (upd (upd (upd (upd zs _ _) _ _) _ _) _ _) _ _) _ _) _ _ j = zs j
            rw [pk_un (by omega), pk_un (by omega), pk_un (by omega), pk_un (by omega), pk_un (by omega), pk_un (by omega), pk_un (by omega)]
        · show upd (upd (upd (upd (upd (upd (upd zs _ _) _ _) _ _) _ _) _ _) _ _) _ _ j = zs j
          rw [pk_un (by omega), pk_un (by omega), pk_un (by omega), pk_un (by omega), pk_un (by omega), pk_un (by omega), pk_un (by omega)]
      · rw [if_neg q2, if_neg q2]
        exact ⟨(pw_r3 hf).1, (pw_r3 hf).2, hc, fun _ _ => rfl, r3, Or.inr rfl⟩
theorem pw_change_1 (eb : b = 1) (h : RB zs b xn xw xk xm xf xB xh xt) (hf : RF zf ff) {cn an yn : Nat} {cw ck cm cf cu cv : Nat → Int32} (hc : RC zs cn cw ck cm cf cu cv an yn) {te : Nat} (hte : te < xn) (hN : te < (if b = 0 then an else yn)) {tz : Nat} {tw tk tm tf : Int32} {tb zt zr : Nat → Int32} (ht : RT tz tb zt) {ma : Nat} {C : Int32 × (Nat → Int32) × (Nat → Int32) × (Nat → Int32) × (Nat → Int32) × (Nat → Int32) × Nat × (Nat → Int32) × (Nat → Int32) × Nat × Int32 × Int32 × Int32 × Int32} (hC : f_X6_change_1 ff xn xw cn cw ck cm cf cu cv tz tw tk tm tf tb (nI te) = C) : (f_X7_change tz ma zf zs zt zr b te cn).1 = C.1 ∧ RF (f_X7_change tz ma zf zs zt zr b te cn).2.1 C.2.1 ∧ RC (f_X7_change tz ma zf zs zt zr b te cn).2.2.1 C.2.2.2.2.2.2.1 C.2.2.1 C.2.2.2.1 C.2.2.2.2.1 C.2.2.2.2.2.1 C.2.2.2.2.2.2.2.1 C.2.2.2.2.2.2.2.2.1 an yn ∧ (∀ j : Nat, j < 234 → (f_X7_change tz ma zf zs zt zr b te cn).2.2.1 j = zs j) ∧ (f_X7_change tz ma zf zs zt zr b te cn).2.2.2.2.2 = C.2.2.2.2.2.2.2.2.2.1 ∧ (C.2.2.2.2.2.2.2.2.2.1 = tz ∨ C.2.2.2.2.2.2.2.2.2.1 = 0) := by
  subst hC
  subst eb
  have hb := h.1
  have hn := h.2.1.1
  have h4 := hc.1
  have e4 : nI cn = 4 ↔ cn = 4 := nI_eq (b := 4) (by omega) (by omega)
  have l4 : nI cn < nI 4 ↔ cn < 4 := nI_ltI (by omega) (by omega)
  unfold f_X7_change f_X6_change_1 f_X5_isFull
  rw [has_nI (by omega) hte, if_neg (c := (1 : Int32) = 0) (by decide), nI_clamp (by omega)]
  by_cases q : cn = 4
  · rw [if_pos (e4.mpr q), if_neg (c := nI cn < nI 4) (fun z => by have := l4.mp z; omega), if_neg (by decide)]
    exact ⟨(pw_r6 hf).1, (pw_r6 hf).2, hc, fun _ _ => rfl, rfl, Or.inl rfl⟩
  · rw [if_neg (fun z => q (e4.mp z)), if_pos (l4.mpr (by omega)), if_pos rfl]
    obtain ⟨R, eR⟩ : ∃ R, f_X4_read tz tk tm tf tb = R := ⟨_, rfl⟩
    obtain ⟨F, eF⟩ : ∃ F, f_X7_fault tz zt zr = F := ⟨_, rfl⟩
    have hr := pw_read ht (tk := tk) (tm := tm) (tf := tf) (zr := zr)
    rw [ch_109, eR, eF, h.g0 hte]
    rw [eR, eF] at hr
    rcases hr with ⟨r1, r2, r3⟩ | ⟨r1, r2, r3, r4, r5, r6, r7, r8⟩
    · rw [if_neg (by rw [r2]; exact r1), if_neg r1, r2]
      exact ⟨rfl, hf, hc, fun _ _ => rfl, r3, Or.inr rfl⟩
    · rw [if_pos r2, if_pos r1, r4]
      by_cases q2 : R.2.1 = xw te
      · rw [if_pos q2, if_pos q2, r5, r6, r7]
        have hadd : f_X1_add cn cw ck cm cf cu cv R.2.1 R.2.2.1 R.2.2.2.1 R.2.2.2.2 1 (nI te) = ((nI (cn + 1)) - (1 : Int32), upd cw cn R.2.1, upd ck cn R.2.2.1, upd cm cn R.2.2.2.1, upd cf cn R.2.2.2.2, cn + 1, upd cu cn 1, upd cv cn (nI te)) := by
          have e1 : (nI (cn + 1)) - (1 : Int32) = nI cn := nI_pred cn
          unfold f_X1_add f_X5_add
          dsimp only
          rw [e1, if_neg (nI_pos (by omega)), if_neg (show ¬ (4 : Int32) ≤ nI cn from nI_ge (b := 4) (by omega) (by omega)), nI_clamp (by omega)]
        rw [hadd]
        refine ⟨rfl, hf, ?_, fun j hj => ?_, r3, Or.inr rfl⟩
        · refine hc.add (B := 1) (N := te) (by omega) hb hN r8 ?_ ?_ ?_ ?_ ?_ ?_ ?_ (fun j h1 h2 => ?_)
          · show upd (upd (upd (upd (upd (upd (upd zs _ _) _ _) _ _) _ _) _ _) _ _) _ _ _ = _
            rw [pk_un (by omega), pk_un (by omega), pk_un (by omega), pk_un (by omega), pk_un (by omega), pk_un (by omega)]; exact pk_us
          · show upd (upd (upd (upd (upd (upd (upd zs _ _) _ _) _ _) _ _) _ _) _ _) _ _ _ = _
            rw [pk_un (by omega), pk_un (by omega), pk_un (by omega), pk_un (by omega), pk_un (by omega)]; exact pk_us
          · show upd (upd (upd (upd (upd (upd (upd zs _ _) _ _) _ _) _ _) _ _) _ _) _ _ _ = _
            rw [pk_un (by omega), pk_un (by omega), pk_un (by omega), pk_un (by omega)]; exact pk_us
          · show upd (upd (upd (upd (upd (upd (upd zs _ _) _ _) _ _) _ _) _ _) _ _) _ _ _ = _
            rw [pk_un (by omega), pk_un (by omega), pk_un (by omega)]; exact pk_us
          · show upd (upd (upd (upd (upd (upd (upd zs _ _) _ _) _ _) _ _) _ _) _ _) _ _ _ = _
            rw [pk_un (by omega), pk_un (by omega)]; exact pk_us
          · show upd (upd (upd (upd (upd (upd (upd zs _ _) _ _) _ _) _ _) _ _) _ _) _ _ _ = _
            rw [pk_un (by omega)]; exact pk_us
          · dsimp only
            exact pk_us
          · show upd (upd (upd (upd (upd (upd (upd zs _ _) _ _) _ _) _ _) _ _) _ _) _ _ j = zs j
            rw [pk_un (by omega), pk_un (by omega), pk_un (by omega), pk_un (by omega), pk_un (by omega), pk_un (by omega), pk_un (by omega)]
        · show upd (upd (upd (upd (upd (upd (upd zs _ _) _ _) _ _) _ _) _ _) _ _) _ _ j = zs j
          rw [pk_un (by omega), pk_un (by omega), pk_un (by omega), pk_un (by omega), pk_un (by omega), pk_un (by omega), pk_un (by omega)]
      · rw [if_neg q2, if_neg q2]
        exact ⟨(pw_r3 hf).1, (pw_r3 hf).2, hc, fun _ _ => rfl, r3, Or.inr rfl⟩
end PTL
