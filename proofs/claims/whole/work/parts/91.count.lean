/-! THE PURE PART: counting -/
def pcn (p : Nat → Bool) : Nat → Nat
  | 0 => 0
  | n + 1 => pcn p n + (if p n = true then 1 else 0)
theorem pcn_le (p : Nat → Bool) : ∀ n : Nat, pcn p n ≤ n := by
  intro n
  induction n with
  | zero => exact Nat.le_refl _
  | succ n ih =>
    simp only [pcn]
    split <;> omega
theorem pcn_mono {p q : Nat → Bool} : ∀ n : Nat, (∀ w, w < n → p w = true → q w = true) → pcn p n ≤ pcn q n := by
  intro n
  induction n with
  | zero => intro _; exact Nat.le_refl _
  | succ n ih =>
    intro h
    have h1 := ih (fun w hw => h w (by omega))
    have h2 := h n (by omega)
    simp only [pcn]
    by_cases e : p n = true
    · rw [if_pos e, if_pos (h2 e)]; omega
    · rw [if_neg e]; split <;> omega
theorem pcn_lt {p q : Nat → Bool} : ∀ n : Nat, (∀ w, w < n → p w = true → q w = true) → ∀ v, v < n → p v = false → q v = true → pcn p n < pcn q n := by
  intro n
  induction n with
  | zero => intro _ v hv; omega
  | succ n ih =>
    intro h v hv hp hq
    simp only [pcn]
    rcases Nat.lt_or_ge v n with c | c
    · have h1 := ih (fun w hw => h w (by omega)) v c hp hq
      have h2 := h n (by omega)
      by_cases e : p n = true
      · rw [if_pos e, if_pos (h2 e)]; omega
      · rw [if_neg e]; split <;> omega
    · have hvn : v = n := by omega
      subst hvn
      have h1 : pcn p v ≤ pcn q v := pcn_mono v (fun w hw => h w (by omega))
      rw [if_neg (by rw [hp]; decide), if_pos hq]; omega
theorem pcn_congr {p q : Nat → Bool} (n : Nat) (h : ∀ w, w < n → p w = q w) : pcn p n = pcn q n := by
  refine Nat.le_antisymm (pcn_mono n (fun w hw e => ?_)) (pcn_mono n (fun w hw e => ?_))
  · rw [← h w hw]; exact e
  · rw [h w hw]; exact e
theorem pcn_eq {p q : Nat → Bool} (n : Nat) (h : ∀ w, w < n → p w = true → q w = true) (he : pcn p n = pcn q n) : ∀ w, w < n → p w = q w := by
  intro w hw
  cases e1 : p w
  · cases e2 : q w
    · rfl
    · have := pcn_lt n h w hw e1 e2
      omega
  · rw [h w hw e1]
theorem pcn_zero {p : Nat → Bool} (n : Nat) : pcn p n = 0 ↔ ∀ w, w < n → p w = false := by
  induction n with
  | zero => exact ⟨fun _ w hw => absurd hw (Nat.not_lt_zero _), fun _ => rfl⟩
  | succ n ih =>
    simp only [pcn]
    constructor
    · intro h w hw
      by_cases e : p n = true
      · rw [if_pos e] at h; omega
      · rcases Nat.lt_or_ge w n with c | c
        · exact ih.mp (by omega) w c
        · have hwn : w = n := by omega
          subst hwn
          exact Bool.eq_false_iff.mpr e
    · intro h
      rw [ih.mpr (fun w hw => h w (by omega)), if_neg (by rw [h n (by omega)]; decide)]
theorem pcn_full {p : Nat → Bool} (n : Nat) (h : pcn p n = n) : ∀ w, w < n → p w = true := by
  have h2 : pcn (fun _ => true) n = n := by
    have h3 : ∀ n : Nat, pcn (fun _ => true) n = n := by
      intro n
      induction n with
      | zero => rfl
      | succ n ih => simp only [pcn]; rw [ih]; rfl
    exact h3 n
  intro w hw
  exact pcn_eq n (q := fun _ => true) (fun _ _ _ => rfl) (by rw [h, h2]) w hw
theorem pcn_all (n : Nat) {p : Nat → Bool} (h : ∀ w, w < n → p w = true) : pcn p n = n := by
  induction n with
  | zero => rfl
  | succ n ih => simp only [pcn]; rw [ih (fun w hw => h w (by omega)), if_pos (h n (by omega))]
theorem pcn_or {p q : Nat → Bool} : ∀ n : Nat, (∀ w, w < n → p w = true → q w = false) → pcn (fun w => p w || q w) n = pcn p n + pcn q n := by
  intro n
  induction n with
  | zero => intro _; rfl
  | succ n ih =>
    intro h
    have h1 := ih (fun w hw => h w (by omega))
    have h2 := h n (by omega)
    simp only [pcn]
    rw [h1]
    by_cases e1 : p n = true
    · have e2 := h2 e1
      rw [if_pos (show (p n || q n) = true by rw [e1]; rfl), if_pos e1, if_neg (show ¬ q n = true by rw [e2]; decide)]
      omega
    · by_cases e3 : q n = true
      · rw [if_pos (show (p n || q n) = true by rw [e3, Bool.or_true]), if_neg e1, if_pos e3]
        omega
      · rw [if_neg (show ¬ (p n || q n) = true by rw [Bool.eq_false_iff.mpr e1, Bool.eq_false_iff.mpr e3]; decide), if_neg e1, if_neg e3]
        omega
theorem pcn_ins {p : Nat → Bool} {j n : Nat} (hj : j < n) (hp : p j = false) : pcn (fun i => p i || i == j) n = pcn p n + 1 := by
  rw [pcn_or n (fun w _ e => by
    cases h : (w == j)
    · rfl
    · have hwj : w = j := eq_of_beq h
      subst hwj
      rw [hp] at e; cases e)]
  congr 1
  have h1 : ∀ n : Nat, pcn (fun i => i == j) n = if j < n then 1 else 0 := by
    intro n
    induction n with
    | zero => rfl
    | succ n ih =>
      simp only [pcn]
      rw [ih]
      by_cases e : n = j
      · subst e; simp
      · rw [if_neg (c := (n == j) = true) (by simpa using e)]
        by_cases c : j < n
        · rw [if_pos c, if_pos (by omega)]
        · rw [if_neg c, if_neg (by omega)]
  rw [h1, if_pos hj]
theorem pcn_sh (p : Nat → Bool) : ∀ n : Nat, pcn p (n + 1) = (if p 0 = true then 1 else 0) + pcn (fun w => p (w + 1)) n := by
  intro n
  induction n with
  | zero => simp only [pcn]; omega
  | succ n ih =>
    have h : pcn p (n + 1 + 1) = pcn p (n + 1) + (if p (n + 1) = true then 1 else 0) := rfl
    rw [h, ih]
    simp only [pcn]
    omega
def pc (s : Int32) : Nat := pcn (bt s) 12
def pu_sub (a b : Int32) : Prop := ∀ w : Nat, w < 12 → bt a w = true → bt b w = true
theorem pc_le12 (s : Int32) : pc s ≤ 12 := pcn_le _ _
theorem pc_nI {j : Nat} (h : j < 2 ^ 32) : pc (nI j) = pcn j.testBit 12 := pcn_congr 12 (fun w _ => bt_nI h w)
theorem pu_bits4 : ∀ (m j a f : Nat), j < 2 ^ m → j < 2 ^ 31 → m < f → f_X7_bits_4 f (nI a) (nI j) = nI (a + pcn j.testBit m) := by
  intro m
  induction m with
  | zero =>
    intro j a f hj _ hf
    have hj0 : j = 0 := by have h2 : (2 : Nat) ^ 0 = 1 := rfl; omega
    subst hj0
    obtain ⟨f, rfl⟩ : ∃ g, f = g + 1 := ⟨f - 1, by omega⟩
    rw [f_X7_bits_4_s, if_pos (show nI 0 ≤ 0 by rw [nI_0]; decide)]
    rfl
  | succ m ih =>
    intro j a f hj hj2 hf
    obtain ⟨f, rfl⟩ : ∃ g, f = g + 1 := ⟨f - 1, by omega⟩
    rw [f_X7_bits_4_s]
    by_cases h0 : j = 0
    · subst h0
      rw [if_pos (show nI 0 ≤ 0 by rw [nI_0]; decide), (pcn_zero (m + 1)).mpr (fun w _ => Nat.zero_testBit w)]
      rfl
    · have hd : j / 2 < 2 ^ m := by rw [Nat.pow_succ] at hj; omega
      rw [if_neg (nI_nle (by omega) hj2), pk_andN (by omega) 1 (by decide), pk_shrN hj2 _ 1 (by decide), nI_add, show (2 : Nat) ^ 1 = 2 from rfl, ih (j / 2) _ f hd (by omega) (by omega), pcn_sh]
      congr 1
      rw [Nat.add_assoc]
      congr 1
      have e2 : pcn (fun w => j.testBit (w + 1)) m = pcn (j / 2).testBit m := pcn_congr m (fun w _ => Nat.testBit_succ j w)
      rw [e2, Nat.testBit_zero]
      rcases Nat.mod_two_eq_zero_or_one j with e | e <;> rw [e] <;> rfl
theorem pu_b7 {s : Int32} (h : Rg s) : f_X7_bits s = nI (pc s) := by
  obtain ⟨j, hj, rfl⟩ := Rg_nI h
  have h1 := pu_bits4 12 j 0 4096 hj (by omega) (by decide)
  rw [pc_nI (by omega)]
  unfold f_X7_bits
  rw [nI_0, Nat.zero_add] at h1
  exact h1
theorem bt_xm1 (a : Int32) {w : Nat} (h : w < 32) : bt (a ^^^ (-1 : Int32)) w = !bt a w := by
  unfold bt
  rw [Int32.toBitVec_xor, BitVec.getLsbD_xor]
  have h2 : (-1 : Int32).toBitVec.getLsbD w = true := by
    have : ∀ w : Fin 32, (-1 : Int32).toBitVec.getLsbD w.1 = true := by decide +kernel
    exact this ⟨w, h⟩
  rw [h2]
  cases a.toBitVec.getLsbD w <;> rfl
theorem bt_xor (a b : Int32) (w : Nat) : bt (a ^^^ b) w = (bt a w ^^ bt b w) := by unfold bt; rw [Int32.toBitVec_xor, BitVec.getLsbD_xor]
theorem bt_4095 {w : Nat} (h : w < 12) : bt 4095 w = true := by
  have : ∀ w : Fin 12, bt 4095 w.1 = true := by decide +kernel
  exact this ⟨w, h⟩
theorem Rg_4095 : Rg 4095 := Rg_of (j := 4095) (by decide)
theorem Rg_dif {a b : Int32} (h : Rg a) : Rg (a &&& (b ^^^ (-1 : Int32))) := Rg_and h
theorem pu_bt_ex {i : Nat} {P : Nat → Prop} : (∃ t : Nat, t < i + 1 ∧ P t) ↔ (∃ t : Nat, t < i ∧ P t) ∨ P i := by
  constructor
  · rintro ⟨t, ht, h⟩
    rcases Nat.lt_or_ge t i with c | c
    · exact Or.inl ⟨t, c, h⟩
    · have e : t = i := by omega
      subst e
      exact Or.inr h
  · rintro (⟨t, ht, h⟩ | h)
    · exact ⟨t, by omega, h⟩
    · exact ⟨i, by omega, h⟩
theorem pu_ex0 {P : Nat → Prop} : ¬ ∃ t : Nat, t < 0 ∧ P t := fun ⟨_, h, _⟩ => absurd h (Nat.not_lt_zero _)
theorem bt_orbit {a : Int32} {v w : Nat} (hv : v < 12) : bt (a ||| ((1 : Int32) <<< (nI v &&& 31))) w = true ↔ bt a w = true ∨ v = w := by
  rw [bt_or, bt_bit hv, Bool.or_eq_true, decide_eq_true_eq]
theorem and_bit0 {s : Int32} (hs : Rg s) {v : Nat} (hv : v < 12) : s &&& ((1 : Int32) <<< (nI v &&& 31)) = 0 ↔ bt s v = false := by
  constructor
  · intro h
    have h2 : bt (s &&& ((1 : Int32) <<< (nI v &&& 31))) v = false := by rw [h, bt_0]
    rw [bt_and, bt_bit hv, decide_eq_true rfl, Bool.and_true] at h2
    exact h2
  · intro h
    refine Rg_ext (Rg_and hs) Rg_0 (fun w hw => ?_)
    rw [bt_and, bt_bit hv, bt_0]
    by_cases e : v = w
    · subst e; rw [h]; rfl
    · rw [decide_eq_false e, Bool.and_false]
theorem nI_wj {v w : Nat} (hv : v < 12) (hw : w < 12) : nI v = nI w ↔ v = w := nI_eq (by omega) (by omega)
theorem pu_sub_r (a : Int32) : pu_sub a a := fun _ _ h => h
theorem pu_sub_t {a b c : Int32} (h : pu_sub a b) (h2 : pu_sub b c) : pu_sub a c := fun w hw e => h2 w hw (h w hw e)
theorem pu_sub_a {a b : Int32} (ha : Rg a) (hb : Rg b) (h : pu_sub a b) (h2 : pu_sub b a) : a = b := Rg_ext ha hb (fun w hw => by
  cases e1 : bt a w
  · cases e2 : bt b w
    · rfl
    · rw [h2 w hw e2] at e1; cases e1
  · rw [h w hw e1])
theorem pc_sub {a b : Int32} (h : pu_sub a b) : pc a ≤ pc b := pcn_mono 12 h
theorem pc_sub_eq {a b : Int32} (ha : Rg a) (hb : Rg b) (h : pu_sub a b) (he : pc a = pc b) : a = b := Rg_ext ha hb (pcn_eq 12 h he)
theorem pc_12 {a : Int32} (ha : Rg a) (h : 12 ≤ pc a) : a = 4095 := Rg_ext ha Rg_4095 (fun w hw => by
  rw [bt_4095 hw]; exact pcn_full 12 (Nat.le_antisymm (pc_le12 a) h) w hw)
theorem pc_4095 : pc 4095 = 12 := pcn_all 12 (fun _ hw => bt_4095 hw)
theorem pc_0 : pc 0 = 0 := (pcn_zero 12).mpr (fun w _ => bt_0 w)
theorem pc_z {a : Int32} (ha : Rg a) : a = 0 ↔ pc a = 0 := by
  constructor
  · rintro rfl; exact pc_0
  · intro h
    exact Rg_ext ha Rg_0 (fun w hw => by rw [bt_0]; exact (pcn_zero 12).mp h w hw)
theorem sub_and_l (a b : Int32) : pu_sub (a &&& b) a := fun w _ h => by rw [bt_and] at h; exact (Bool.and_eq_true_iff.mp h).1
theorem sub_and_r (a b : Int32) : pu_sub (a &&& b) b := fun w _ h => by rw [bt_and] at h; exact (Bool.and_eq_true_iff.mp h).2
theorem sub_or_l (a b : Int32) : pu_sub a (a ||| b) := fun w _ h => by rw [bt_or, h]; rfl
theorem sub_or_r (a b : Int32) : pu_sub b (a ||| b) := fun w _ h => by rw [bt_or, h, Bool.or_true]
theorem sub_or {a b c : Int32} (h : pu_sub a c) (h2 : pu_sub b c) : pu_sub (a ||| b) c := fun w hw e => by
  rw [bt_or, Bool.or_eq_true] at e
  exact e.elim (h w hw) (h2 w hw)
theorem sub_4095 (a : Int32) : pu_sub a 4095 := fun w hw _ => bt_4095 hw
theorem sub_0 (a : Int32) : pu_sub 0 a := fun w _ h => by rw [bt_0] at h; cases h
theorem and_eq_pc {m s : Int32} (hm : Rg m) : m &&& s = m ↔ pc (m &&& s) = pc m := by
  constructor
  · intro h; rw [h]
  · intro h; exact pc_sub_eq (Rg_and hm) hm (sub_and_l m s) h
theorem pc_bit {v : Nat} (hv : v < 12) : pc ((1 : Int32) <<< (nI v &&& 31)) = 1 := by
  have : ∀ v : Fin 12, pc ((1 : Int32) <<< (nI v.1 &&& 31)) = 1 := by decide +kernel
  exact this ⟨v, hv⟩
theorem sub_bit {a : Int32} {v : Nat} (hv : v < 12) (h : bt a v = true) : pu_sub ((1 : Int32) <<< (nI v &&& 31)) a := fun w _ e => by
  rw [bt_bit hv, decide_eq_true_eq] at e
  subst e
  exact h
theorem pc_one {a : Int32} (ha : Rg a) {v : Nat} (hv : v < 12) (h : bt a v = true) : a = (1 : Int32) <<< (nI v &&& 31) ↔ pc a = 1 := by
  constructor
  · intro e; rw [e]; exact pc_bit hv
  · intro e
    exact (pc_sub_eq (Rg_bit hv) ha (sub_bit hv h) (by rw [pc_bit hv, e])).symm
theorem pc_pos {a : Int32} {v : Nat} (hv : v < 12) (h : bt a v = true) : 0 < pc a := by
  have := pc_sub (sub_bit hv h)
  rw [pc_bit hv] at this
  exact this
