/-! BOTH SIDES: mend -/
def SEL (may : Nat → Bool) (Wd : Nat → Int32) : Nat → Nat → Int32 → Int32 → Int32
  | 0, _, be, _ => be
  | k + 1, i, be, bw => if may i = true ∧ (Wd i < bw ∨ (Wd i = bw ∧ f_J6_bitCount_0f7a4 (nI i) < f_J6_bitCount_0f7a4 be)) then SEL may Wd k (i + 1) (nI i) (Wd i) else SEL may Wd k (i + 1) be bw
theorem SEL_s {may : Nat → Bool} {Wd : Nat → Int32} {k i : Nat} {be bw : Int32} : SEL may Wd (k + 1) i be bw = if may i = true ∧ (Wd i < bw ∨ (Wd i = bw ∧ f_J6_bitCount_0f7a4 (nI i) < f_J6_bitCount_0f7a4 be)) then SEL may Wd k (i + 1) (nI i) (Wd i) else SEL may Wd k (i + 1) be bw := rfl
theorem SEL_none {may : Nat → Bool} {Wd : Nat → Int32} : ∀ (k i : Nat) (be bw : Int32), (∀ j : Nat, i ≤ j → j < i + k → may j = false) → SEL may Wd k i be bw = be := by
  intro k
  induction k with
  | zero => intro i be bw _; rfl
  | succ k ih =>
    intro i be bw h
    rw [SEL_s, if_neg (fun z => by rw [h i (Nat.le_refl _) (by omega)] at z; cases z.1)]
    exact ih _ _ _ (fun j h1 h2 => h j (by omega) (by omega))
theorem SEL_cut {may : Nat → Bool} {Wd : Nat → Int32} {b : Nat} : ∀ (a i : Nat) (be bw : Int32), (∀ j : Nat, i + a ≤ j → j < i + a + b → may j = false) → SEL may Wd (a + b) i be bw = SEL may Wd a i be bw := by
  intro a
  induction a with
  | zero =>
    intro i be bw h
    rw [Nat.zero_add]
    exact SEL_none b i be bw (fun j h1 h2 => h j (by omega) (by omega))
  | succ a ih =>
    intro i be bw h
    rw [show a + 1 + b = (a + b) + 1 by omega, SEL_s, SEL_s]
    split
    · exact ih _ _ _ (fun j h1 h2 => h j (by omega) (by omega))
    · exact ih _ _ _ (fun j h1 h2 => h j (by omega) (by omega))
section PMD
variable {zs : Nat → Int32} {b xn : Nat} {xw xk xm xf : Nat → Int32} {xB : Int32} {xh xt : Nat → Int32} {zf ff : Nat → Int32}
variable {cn : Nat} {cw ck cm cf cu cv : Nat → Int32} {cB cN : Nat → Nat}
theorem ob_4 {bo : Int32} (h4 : cn ≤ 4) : ∀ (k i : Nat) (a : Int32), k + i = cn → Rg a → (∀ w : Nat, w < 12 → (bt a w = true ↔ w < i ∧ cu w = bo)) → Rg (f_X1_ofBook_4 cu bo k i a) ∧ ∀ w : Nat, w < 12 → (bt (f_X1_ofBook_4 cu bo k i a) w = true ↔ w < cn ∧ cu w = bo) := by
  intro k
  induction k with
  | zero =>
    intro i a hk ha h
    have hi : i = cn := by omega
    subst hi
    rw [f_X1_ofBook_4_z]
    exact ⟨ha, h⟩
  | succ k ih =>
    intro i a hk ha h
    rw [f_X1_ofBook_4_s]
    by_cases q : cu i = bo
    · rw [if_pos q]
      refine ih _ _ (by omega) (Rg_or ha (Rg_bit (by omega))) (fun w hw => ?_)
      rw [bt_orbit (by omega), h w hw]
      constructor
      · rintro (⟨z1, z2⟩ | z)
        · exact ⟨by omega, z2⟩
        · subst z; exact ⟨by omega, q⟩
      · rintro ⟨z1, z2⟩
        rcases Nat.lt_or_ge w i with c | c
        · exact Or.inl ⟨c, z2⟩
        · exact Or.inr (by omega)
    · rw [if_neg q]
      refine ih _ _ (by omega) ha (fun w hw => ?_)
      rw [h w hw]
      constructor
      · rintro ⟨z1, z2⟩; exact ⟨by omega, z2⟩
      · rintro ⟨z1, z2⟩
        rcases Nat.lt_or_ge w i with c | c
        · exact ⟨c, z2⟩
        · have e : w = i := by omega
          subst e
          exact absurd z2 q
def mayB (cn : Nat) (cu : Nat → Int32) (bo : Int32) (i : Nat) : Bool := decide ((nI i &&& ((f_X1_ofBook cn cu bo) ^^^ (-1 : Int32))) = 0)
theorem mayB_t {bo : Int32} (h4 : cn ≤ 4) {i : Nat} (hi : i < 16) : mayB cn cu bo i = true ↔ ∀ w : Nat, w < 12 → i.testBit w = true → w < cn ∧ cu w = bo := by
  obtain ⟨hR, hb⟩ := ob_4 (cu := cu) (bo := bo) h4 cn 0 0 (by omega) Rg_0 (fun w _ => by rw [bt_0]; exact ⟨fun z => (by cases z), fun z => absurd z.1 (Nat.not_lt_zero _)⟩)
  have hRi : Rg (nI i) := Rg_of (by omega)
  unfold mayB
  rw [decide_eq_true_eq]
  constructor
  · intro h w hw e
    have e2 : bt (nI i &&& ((f_X1_ofBook cn cu bo) ^^^ (-1 : Int32))) w = false := by rw [h, bt_0]
    rw [bt_and, bt_xm1 _ (by omega), bt_nI (by omega), e, Bool.true_and, Bool.not_eq_false'] at e2
    exact (hb w hw).mp e2
  · intro h
    refine Rg_ext (Rg_and hRi) Rg_0 (fun w hw => ?_)
    rw [bt_and, bt_xm1 _ (by omega), bt_nI (by omega), bt_0]
    cases e : i.testBit w
    · rfl
    · have e3 : bt (f_X1_ofBook cn cu bo) w = true := (hb w hw).mpr (h w hw e)
      rw [e3]; rfl
/-- the changes as numbers -/
def CHB (zs : Nat → Int32) (cn : Nat) (cw ck cm cf cu cv : Nat → Int32) (cB cN : Nat → Nat) : Prop := ∀ c : Nat, c < cn → cu c = nI (cB c) ∧ cB c < 2 ∧ cv c = nI (cN c) ∧ cN c < 20 ∧ TXT (cw c) (ck c) (cm c) (cf c) ∧ zs (234 + 6 * c + 2) = cw c ∧ zs (234 + 6 * c + 3) = ck c ∧ zs (234 + 6 * c + 4) = cm c ∧ zs (234 + 6 * c + 5) = cf c
theorem rep_b {s s' : Nat → Int32} {r1 r2 r3 r4 : Nat → Int32} (h : RB s b xn r1 r2 r3 r4 xB xh xt) {N : Nat} (hN : N < xn) {w k m f : Int32} (hx : TXT w k m f) (e0 : s' (80 * b + 4 * N) = w) (e1 : s' (80 * b + 4 * N + 1) = k) (e2 : s' (80 * b + 4 * N + 2) = m) (e3 : s' (80 * b + 4 * N + 3) = f) (eo : ∀ j : Nat, (j < 80 * b + 4 * N ∨ 80 * b + 4 * N + 4 ≤ j) → s' j = s j) : RB s' b xn (upd r1 N w) (upd r2 N k) (upd r3 N m) (upd r4 N f) xB xh xt := by
  obtain ⟨h1, h2, h3, h4, h5, h6, h7⟩ := h
  have hn := h2.1
  refine ⟨h1, ⟨h2.1, h2.2.1, fun t ht => ?_⟩, by rw [eo _ (by omega)]; exact h3, fun t ht => ?_, fun v hv => ?_, fun v hv => ?_, fun v hv => ?_⟩
  · by_cases c : t = N
    · subst c; rw [pk_us, pk_us, pk_us, pk_us]; exact hx
    · rw [pk_un c, pk_un c, pk_un c, pk_un c]; exact h2.2.2 t ht
  · by_cases c : t = N
    · subst c; rw [pk_us, pk_us, pk_us, pk_us]; exact ⟨e0, e1, e2, e3⟩
    · rw [pk_un c, pk_un c, pk_un c, pk_un c, eo _ (by omega), eo _ (by omega), eo _ (by omega), eo _ (by omega)]
      exact h4 t ht
  · rw [eo _ (by omega)]; exact h5 v hv
  · rw [eo _ (by omega)]; exact h6 v hv
  · rw [eo _ (by omega)]; exact h7 v hv
theorem m132 {sv s : Nat → Int32} {c : Nat} : f_X7_mend_132 cB cN sv c 4 0 s = upd (upd (upd (upd s (80 * (cB c) + (4 * (cN c)) + 0) (sv (234 + (6 * c) + 2 + 0))) (80 * (cB c) + (4 * (cN c)) + 1) (sv (234 + (6 * c) + 2 + 1))) (80 * (cB c) + (4 * (cN c)) + 2) (sv (234 + (6 * c) + 2 + 2))) (80 * (cB c) + (4 * (cN c)) + 3) (sv (234 + (6 * c) + 2 + 3)) := by
  rw [show (4 : Nat) = 0 + 1 + 1 + 1 + 1 from rfl, f_X7_mend_132_s, f_X7_mend_132_s, f_X7_mend_132_s, f_X7_mend_132_s, f_X7_mend_132_z]
/-- both sides make the changes of a set that may be -/
theorem mk_both {sv : Nat → Int32} {i : Nat} (hi : i < 16) (h4 : cn ≤ 4) (hC : CHB zs cn cw ck cm cf cu cv cB cN) (hN : ∀ c : Nat, c < cn → cB c = b → cN c < xn) (hsv : ∀ j : Nat, j < 259 → sv j = zs j) (hmay : ∀ c : Nat, c < cn → i.testBit c = true → cB c = b) : ∀ (k c : Nat) (a : Int32) (s r1 r2 r3 r4 : Nat → Int32), k + c = cn → RB s b xn r1 r2 r3 r4 xB xh xt → RB (f_X7_mend_69 b cB cN sv i k c a s).2 b xn (f_X1_makeIn_2 cn cw ck cm cf cv xn (nI i) k c r1 r2 r3 r4).1 (f_X1_makeIn_2 cn cw ck cm cf cv xn (nI i) k c r1 r2 r3 r4).2.1 (f_X1_makeIn_2 cn cw ck cm cf cv xn (nI i) k c r1 r2 r3 r4).2.2.1 (f_X1_makeIn_2 cn cw ck cm cf cv xn (nI i) k c r1 r2 r3 r4).2.2.2 xB xh xt := by
  have hRi : Rg (nI i) := Rg_of (by omega)
  intro k
  induction k with
  | zero => intro c a s r1 r2 r3 r4 hk h; rw [f_X7_mend_69_z, f_X1_makeIn_2_z]; exact h
  | succ k ih =>
    intro c a s r1 r2 r3 r4 hk h
    have hc : c < cn := by omega
    obtain ⟨c1, c2, c3, c4, c5, c6, c7, c8, c9⟩ := hC c hc
    have hn := h.2.1.1
    rw [f_X7_mend_69_s, f_X1_makeIn_2_s, shr_1 hRi (by omega), has_bt hRi (by omega), bt_nI (by omega)]
    by_cases q : i.testBit c = true
    · have eB := hmay c hc q
      have hNc := hN c hc eB
      have hrep : f_X5_replace xn r1 r2 r3 r4 cn cw ck cm cf (cv c) (nI c) = (upd r1 (cN c) (cw c), upd r2 (cN c) (ck c), upd r3 (cN c) (cm c), upd r4 (cN c) (cf c)) := by
        rw [c3]
        exact rep_in (by omega) (by omega) hNc hc
      have hnew : RB (f_X7_mend_132 cB cN sv c 4 0 s) b xn (upd r1 (cN c) (cw c)) (upd r2 (cN c) (ck c)) (upd r3 (cN c) (cm c)) (upd r4 (cN c) (cf c)) xB xh xt := by
        rw [m132, eB, hsv _ (by omega), hsv _ (by omega), hsv _ (by omega), hsv _ (by omega)]
        have d6 : zs (234 + (6 * c) + 2 + 0) = cw c := c6
        have d7 : zs (234 + (6 * c) + 2 + 1) = ck c := c7
        have d8 : zs (234 + (6 * c) + 2 + 2) = cm c := c8
        have d9 : zs (234 + (6 * c) + 2 + 3) = cf c := c9
        rw [d6, d7, d8, d9]
        refine rep_b h hNc c5 ?_ ?_ ?_ ?_ (fun j hj => ?_)
        · rw [pk_un (by omega), pk_un (by omega), pk_un (by omega)]; exact pk_us
        · rw [pk_un (by omega), pk_un (by omega)]; exact pk_us
        · rw [pk_un (by omega)]; exact pk_us
        · exact pk_us
        · rw [pk_un (by omega), pk_un (by omega), pk_un (by omega), pk_un (by omega)]
      rw [if_pos q, if_neg (show ¬ (1 : Int32) = 0 by decide), if_neg (show ¬ (1 : Int32) = 0 by decide), hrep]
      split
      · exact ih _ _ _ _ _ _ _ (by omega) hnew
      · split
        · exact ih _ _ _ _ _ _ _ (by omega) hnew
        · exact ih _ _ _ _ _ _ _ (by omega) hnew
    · rw [if_neg q, if_pos rfl, if_pos rfl]
      exact ih _ _ _ _ _ _ _ (by omega) h
theorem fl_69 {sv : Nat → Int32} {i : Nat} (hi : i < 16) (h4 : cn ≤ 4) (hb : b < 2) (hB2 : ∀ c : Nat, c < cn → cB c < 2) : ∀ (k c : Nat) (a : Int32) (s : Nat → Int32), k + c = cn → (a = 0 ∨ a = 1) → ((f_X7_mend_69 b cB cN sv i k c a s).1 = 0 ↔ (a = 0 ∧ (k = 0 ∨ True)) ∨ ∃ q : Nat, c ≤ q ∧ q < cn ∧ i.testBit q = true ∧ cB q ≠ b) := by
  have hRi : Rg (nI i) := Rg_of (by omega)
  intro k
  induction k with
  | zero =>
    intro c a s hk ha
    rw [f_X7_mend_69_z]
    constructor
    · intro z; exact Or.inl ⟨z, Or.inl rfl⟩
    · rintro (z | ⟨q, h1, h2, _⟩)
      · exact z.1
      · omega
  | succ k ih =>
    intro c a s hk ha
    have hc : c < cn := by omega
    rw [f_X7_mend_69_s, shr_1 hRi (by omega), bt_nI (by omega)]
    have hstep : ∀ (P : Prop), (P ↔ (i.testBit c = true ∧ cB c ≠ b)) → ((∃ q : Nat, c ≤ q ∧ q < cn ∧ i.testBit q = true ∧ cB q ≠ b) ↔ P ∨ ∃ q : Nat, c + 1 ≤ q ∧ q < cn ∧ i.testBit q = true ∧ cB q ≠ b) := fun P hP => by
      constructor
      · rintro ⟨q, h1, h2, h3⟩
        by_cases e : q = c
        · subst e; exact Or.inl (hP.mpr h3)
        · exact Or.inr ⟨q, by omega, h2, h3⟩
      · rintro (z | ⟨q, h1, h2, h3⟩)
        · exact ⟨c, Nat.le_refl _, hc, hP.mp z⟩
        · exact ⟨q, by omega, h2, h3⟩
    by_cases q : i.testBit c = true
    · rw [if_pos q, if_neg (by decide)]
      by_cases q2 : a = 0
      · rw [if_pos q2, ih _ _ _ (by omega) (Or.inl rfl)]
        exact ⟨fun _ => Or.inl ⟨q2, Or.inr trivial⟩, fun _ => Or.inl ⟨rfl, Or.inr trivial⟩⟩
      · rw [if_neg q2]
        by_cases q3 : cB c = b
        · rw [if_pos (by rw [q3]), ih _ _ _ (by omega) (Or.inr rfl), hstep False ⟨fun z => z.elim, fun z => z.2 q3⟩]
          constructor
          · rintro (z | z)
            · exact absurd z.1 (by decide)
            · exact Or.inr (Or.inr z)
          · rintro (z | z)
            · exact absurd z.1 q2
            · exact Or.inr (z.elim False.elim id)
        · have q4 : ¬ nI (cB c) = nI b := fun z => q3 ((nI_eq (by have := hB2 c hc; omega) (by omega)).mp z)
          rw [if_neg q4, ih _ _ _ (by omega) (Or.inl rfl), hstep True ⟨fun _ => ⟨q, q3⟩, fun _ => trivial⟩]
          exact ⟨fun _ => Or.inr (Or.inl trivial), fun _ => Or.inl ⟨rfl, Or.inr trivial⟩⟩
    · rw [if_neg q, if_pos rfl, ih _ _ _ (by omega) ha, hstep False ⟨fun z => z.elim, fun z => q z.1⟩]
      constructor
      · rintro (z | z)
        · exact Or.inl ⟨z.1, Or.inr trivial⟩
        · exact Or.inr (Or.inr z)
      · rintro (z | z)
        · exact Or.inl ⟨z.1, Or.inr trivial⟩
        · exact Or.inr (z.elim False.elim id)
/-- how many words a foundation has after the changes of a set -/
theorem fw_val (h : RB zs b xn xw xk xm xf xB xh xt) (h4 : cn ≤ 4) (hC : CHB zs cn cw ck cm cf cu cv cB cN) (hN : ∀ c : Nat, c < cn → cB c = b → cN c < xn) {i : Nat} (hi : i < 16) (hmay : ∀ c : Nat, c < cn → i.testBit c = true → cB c = b) {sv s : Nat → Int32} (hsv : ∀ j : Nat, j < 259 → sv j = zs j) (hs : ∀ j : Nat, j < 259 → s j = zs j) {Yw Yk Ym Yf Yh Yt : Nat → Int32} {Fm Fa Fs : Int32} {Fd : Nat → Int32} : (f_X6_fewestWordsAfter cn cw ck cm cf cv xn xw xk xm xf xB xh xt 20 Yw Yk Ym Yf Yh Yt Fm Fa Fs Fd (nI i)).1 = nI (pc (f_X7_fewestOf (f_X7_mend_69 b cB cN sv i cn 0 1 s).2 b xn)) ∧ Rg (f_X7_fewestOf (f_X7_mend_69 b cB cN sv i cn 0 1 s).2 b xn) := by
  have hn := h.2.1.1
  have hb := h.1
  obtain ⟨a, c, d, e, h', t', e1, e2, e3⟩ := cp_book (xl := 20) (xw := Yw) (xk := Yk) (xm := Ym) (xf := Yf) (yn := xn) (yw := xw) (yk := xk) (ym := xm) (yf := xf) (yB := xB) (xh := Yh) (xt := Yt) (yh := xh) (yt := xt) (by omega)
  have hmin : min xn 20 = xn := by omega
  rw [hmin] at e1 e2
  have hcg : RB s b xn xw xk xm xf xB xh xt := h.cg (fun j hj => hs j (by unfold DB at hj; omega))
  have h1 : RB s b xn a c d e xB h' t' := hcg.rows e2 e3
  have h2 := mk_both hi h4 hC hN hsv hmay cn 0 1 s a c d e (by omega) h1
  have h3 := pu_fwords (Fm := Fm) (Fa := Fa) (Fs := Fs) (Fd := Fd) h2
  refine ⟨?_, (few_F h2).1⟩
  rw [h3]
  unfold f_X6_fewestWordsAfter
  rw [e1]
  rfl
theorem mdC_0 (h : RB zs b xn xw xk xm xf xB xh xt) (h4 : cn ≤ 4) {Wd : Nat → Int32} (hW : ∀ i : Nat, i < 16 → mayB cn cu 0 i = true → ∀ (Yw Yk Ym Yf Yh Yt : Nat → Int32) (Fm Fa Fs : Int32) (Fd : Nat → Int32), (f_X6_fewestWordsAfter cn cw ck cm cf cv xn xw xk xm xf xB xh xt 20 Yw Yk Ym Yf Yh Yt Fm Fa Fs Fd (nI i)).1 = Wd i) :
    ∀ (k i e : Nat) (v4 : Int32) (w34 k34b m34 f34 : Nat → Int32) (n34 : Nat) (h34 t34 : Nat → Int32) (B34 : Int32) (Fd34 : Nat → Int32) (Fc34 Fg34 Fw34 Fn34 Fm34 Fa34 Fs34 : Int32), k + i = 16 → e < 16 → n34 ≤ 20 → (f_X6_mend_0_34 ff xn xw xk xm xf xB xh xt cn cw ck cm cf cu cv 20 k i (nI e) v4 w34 k34b m34 f34 n34 h34 t34 B34 Fd34 Fc34 Fg34 Fw34 Fn34 Fm34 Fa34 Fs34).1 = SEL (mayB cn cu 0) Wd k i (nI e) v4 ∧ (f_X6_mend_0_34 ff xn xw xk xm xf xB xh xt cn cw ck cm cf cu cv 20 k i (nI e) v4 w34 k34b m34 f34 n34 h34 t34 B34 Fd34 Fc34 Fg34 Fw34 Fn34 Fm34 Fa34 Fs34).2.1 = ff ∧ (f_X6_mend_0_34 ff xn xw xk xm xf xB xh xt cn cw ck cm cf cu cv 20 k i (nI e) v4 w34 k34b m34 f34 n34 h34 t34 B34 Fd34 Fc34 Fg34 Fw34 Fn34 Fm34 Fa34 Fs34).2.2.2.2.2.2.1 ≤ 20 := by
  have hn := h.2.1.1
  intro k
  induction k with
  | zero => intro i e v4 w34 k34b m34 f34 n34 h34 t34 B34 Fd34 Fc34 Fg34 Fw34 Fn34 Fm34 Fa34 Fs34 _ _ hn2; rw [f_X6_mend_0_34_z]; exact ⟨rfl, rfl, hn2⟩
  | succ k ih =>
    intro i e v4 w34 k34b m34 f34 n34 h34 t34 B34 Fd34 Fc34 Fg34 Fw34 Fn34 Fm34 Fa34 Fs34 hk he hn2
    have hi : i < 16 := by omega
    have hRi : Rg (nI i) := Rg_of (by omega)
    have hRe : Rg (nI e) := Rg_of (by omega)
    have hfn := fw_n (Yl := 20) (xn := xn) (xw := xw) (xk := xk) (xm := xm) (xf := xf) (xB := xB) (xh := xh) (xt := xt) (Yw := w34) (Yk := k34b) (Ym := m34) (Yf := f34) (Yh := h34) (Yt := t34) (cn := cn) (cw := cw) (ck := ck) (cm := cm) (cf := cf) (cv := cv) (Fm := Fm34) (Fa := Fa34) (Fs := Fs34) (Fd := Fd34) (so := nI i) (by omega)
    have hw := hW i hi
    have hw2 := fun z => hw z w34 k34b m34 f34 h34 t34 Fm34 Fa34 Fs34 Fd34
    rw [f_X6_mend_0_34_s]
    obtain ⟨FW, hFW⟩ : ∃ FW, f_X6_fewestWordsAfter cn cw ck cm cf cv xn xw xk xm xf xB xh xt 20 w34 k34b m34 f34 h34 t34 Fm34 Fa34 Fs34 Fd34 (nI i) = FW := ⟨_, rfl⟩
    rw [hFW] at hfn hw2 ⊢
    have hfn2 : FW.2.2.2.2.2.1 ≤ 20 := by rw [hfn]; omega
    rw [SEL_s]
    by_cases q : (nI i &&& ((f_X1_ofBook cn cu 0) ^^^ (-1 : Int32))) = 0
    · have hm : mayB cn cu 0 i = true := decide_eq_true q
      have e1 := hw2 hm
      rw [if_pos q, e1]
      by_cases q1 : Wd i = v4
      · rw [if_pos q1]
        have q1' : ¬ Wd i < v4 := by rw [q1]; exact Int32.lt_irrefl
        by_cases q2 : f_J6_bitCount_0f7a4 (nI e) ≤ f_J6_bitCount_0f7a4 (nI i)
        · rw [if_pos q2, if_neg q1', if_neg (fun z => z.2.elim q1' (fun y => Int32.not_lt.mpr q2 y.2))]
          exact ih _ _ _ _ _ _ _ _ _ _ _ _ _ _ _ _ _ _ _ (by omega) he hfn2
        · rw [if_neg q2, if_neg q1', if_pos ⟨hm, Or.inr ⟨q1, Int32.not_le.mp q2⟩⟩]
          exact ih _ _ _ _ _ _ _ _ _ _ _ _ _ _ _ _ _ _ _ (by omega) hi hfn2
      · rw [if_neg q1]
        by_cases q3 : Wd i < v4
        · rw [if_pos q3, if_pos ⟨hm, Or.inl q3⟩]
          exact ih _ _ _ _ _ _ _ _ _ _ _ _ _ _ _ _ _ _ _ (by omega) hi hfn2
        · rw [if_neg q3, if_neg (fun z => z.2.elim q3 (fun y => q1 y.1))]
          exact ih _ _ _ _ _ _ _ _ _ _ _ _ _ _ _ _ _ _ _ (by omega) he hfn2
    · have hm : ¬ mayB cn cu 0 i = true := fun z => q (of_decide_eq_true z)
      rw [if_neg q, if_neg (fun z => hm z.1)]
      exact ih _ _ _ _ _ _ _ _ _ _ _ _ _ _ _ _ _ _ _ (by omega) he hn2
theorem mdC_1 (h : RB zs b xn xw xk xm xf xB xh xt) (h4 : cn ≤ 4) {Wd : Nat → Int32} (hW : ∀ i : Nat, i < 16 → mayB cn cu 1 i = true → ∀ (Yw Yk Ym Yf Yh Yt : Nat → Int32) (Fm Fa Fs : Int32) (Fd : Nat → Int32), (f_X6_fewestWordsAfter cn cw ck cm cf cv xn xw xk xm xf xB xh xt 20 Yw Yk Ym Yf Yh Yt Fm Fa Fs Fd (nI i)).1 = Wd i) :
    ∀ (k i e : Nat) (v4 : Int32) (w34 k34b m34 f34 : Nat → Int32) (n34 : Nat) (h34 t34 : Nat → Int32) (B34 : Int32) (Fd34 : Nat → Int32) (Fc34 Fg34 Fw34 Fn34 Fm34 Fa34 Fs34 : Int32), k + i = 16 → e < 16 → n34 ≤ 20 → (f_X6_mend_1_34 ff xn xw xk xm xf xB xh xt cn cw ck cm cf cu cv 20 k i (nI e) v4 w34 k34b m34 f34 n34 h34 t34 B34 Fd34 Fc34 Fg34 Fw34 Fn34 Fm34 Fa34 Fs34).1 = SEL (mayB cn cu 1) Wd k i (nI e) v4 ∧ (f_X6_mend_1_34 ff xn xw xk xm xf xB xh xt cn cw ck cm cf cu cv 20 k i (nI e) v4 w34 k34b m34 f34 n34 h34 t34 B34 Fd34 Fc34 Fg34 Fw34 Fn34 Fm34 Fa34 Fs34).2.1 = ff ∧ (f_X6_mend_1_34 ff xn xw xk xm xf xB xh xt cn cw ck cm cf cu cv 20 k i (nI e) v4 w34 k34b m34 f34 n34 h34 t34 B34 Fd34 Fc34 Fg34 Fw34 Fn34 Fm34 Fa34 Fs34).2.2.2.2.2.2.1 ≤ 20 := by
  have hn := h.2.1.1
  intro k
  induction k with
  | zero => intro i e v4 w34 k34b m34 f34 n34 h34 t34 B34 Fd34 Fc34 Fg34 Fw34 Fn34 Fm34 Fa34 Fs34 _ _ hn2; rw [f_X6_mend_1_34_z]; exact ⟨rfl, rfl, hn2⟩
  | succ k ih =>
    intro i e v4 w34 k34b m34 f34 n34 h34 t34 B34 Fd34 Fc34 Fg34 Fw34 Fn34 Fm34 Fa34 Fs34 hk he hn2
    have hi : i < 16 := by omega
    have hRi : Rg (nI i) := Rg_of (by omega)
    have hRe : Rg (nI e) := Rg_of (by omega)
    have hfn := fw_n (Yl := 20) (xn := xn) (xw := xw) (xk := xk) (xm := xm) (xf := xf) (xB := xB) (xh := xh) (xt := xt) (Yw := w34) (Yk := k34b) (Ym := m34) (Yf := f34) (Yh := h34) (Yt := t34) (cn := cn) (cw := cw) (ck := ck) (cm := cm) (cf := cf) (cv := cv) (Fm := Fm34) (Fa := Fa34) (Fs := Fs34) (Fd := Fd34) (so := nI i) (by omega)
    have hw := hW i hi
    have hw2 := fun z => hw z w34 k34b m34 f34 h34 t34 Fm34 Fa34 Fs34 Fd34
    rw [f_X6_mend_1_34_s]
    obtain ⟨FW, hFW⟩ : ∃ FW, f_X6_fewestWordsAfter cn cw ck cm cf cv xn xw xk xm xf xB xh xt 20 w34 k34b m34 f34 h34 t34 Fm34 Fa34 Fs34 Fd34 (nI i) = FW := ⟨_, rfl⟩
    rw [hFW] at hfn hw2 ⊢
    have hfn2 : FW.2.2.2.2.2.1 ≤ 20 := by rw [hfn]; omega
    rw [SEL_s]
    by_cases q : (nI i &&& ((f_X1_ofBook cn cu 1) ^^^ (-1 : Int32))) = 0
    · have hm : mayB cn cu 1 i = true := decide_eq_true q
      have e1 := hw2 hm
      rw [if_pos q, e1]
      by_cases q1 : Wd i = v4
      · rw [if_pos q1]
        have q1' : ¬ Wd i < v4 := by rw [q1]; exact Int32.lt_irrefl
        by_cases q2 : f_J6_bitCount_0f7a4 (nI e) ≤ f_J6_bitCount_0f7a4 (nI i)
        · rw [if_pos q2, if_neg q1', if_neg (fun z => z.2.elim q1' (fun y => Int32.not_lt.mpr q2 y.2))]
          exact ih _ _ _ _ _ _ _ _ _ _ _ _ _ _ _ _ _ _ _ (by omega) he hfn2
        · rw [if_neg q2, if_neg q1', if_pos ⟨hm, Or.inr ⟨q1, Int32.not_le.mp q2⟩⟩]
          exact ih _ _ _ _ _ _ _ _ _ _ _ _ _ _ _ _ _ _ _ (by omega) hi hfn2
      · rw [if_neg q1]
        by_cases q3 : Wd i < v4
        · rw [if_pos q3, if_pos ⟨hm, Or.inl q3⟩]
          exact ih _ _ _ _ _ _ _ _ _ _ _ _ _ _ _ _ _ _ _ (by omega) hi hfn2
        · rw [if_neg q3, if_neg (fun z => z.2.elim q3 (fun y => q1 y.1))]
          exact ih _ _ _ _ _ _ _ _ _ _ _ _ _ _ _ _ _ _ _ (by omega) he hfn2
    · have hm : ¬ mayB cn cu 1 i = true := fun z => q (of_decide_eq_true z)
      rw [if_neg q, if_neg (fun z => hm z.1)]
      exact ih _ _ _ _ _ _ _ _ _ _ _ _ _ _ _ _ _ _ _ (by omega) he hn2
theorem bits_e {e : Nat} (he : e < 16) : f_X7_bits (nI e) = f_J6_bitCount_0f7a4 (nI e) := by rw [pu_b7 (Rg_of (by omega)), pu_bc (Rg_of (by omega))]
/-- the model's loop, from its second round on -/
theorem mdM (h : RB zs b xn xw xk xm xf xB xh xt) (h4 : cn ≤ 4) (hC : CHB zs cn cw ck cm cf cu cv cB cN) (hN : ∀ c : Nat, c < cn → cB c = b → cN c < xn) {sv : Nat → Int32} (hsv : ∀ j : Nat, j < 259 → sv j = zs j) {cM : Nat} (hM : cM ≤ 16) {may : Nat → Bool} (hmay : ∀ i : Nat, i < cM → (may i = true ↔ ∀ c : Nat, c < cn → i.testBit c = true → cB c = b)) {Wd : Nat → Int32} (hW : ∀ i : Nat, i < cM → may i = true → ∀ s : Nat → Int32, (∀ j : Nat, j < 259 → s j = zs j) → nI (pc (f_X7_fewestOf (f_X7_mend_69 b cB cN sv i cn 0 1 s).2 b xn)) = Wd i ∧ Rg (f_X7_fewestOf (f_X7_mend_69 b cB cN sv i cn 0 1 s).2 b xn)) :
    ∀ (k i e w : Nat) (s : Nat → Int32), k + i = cM → e < 16 → w < 2 ^ 31 → (∀ j : Nat, j < 259 → s j = zs j) → (f_X7_mend_48 zf b xn cn cB cN sv k i (nI e) (nI w) s).1 = SEL may Wd k i (nI e) (nI w) ∧ (f_X7_mend_48 zf b xn cn cB cN sv k i (nI e) (nI w) s).2.1 = zf ∧ ∀ j : Nat, j < 259 → (f_X7_mend_48 zf b xn cn cB cN sv k i (nI e) (nI w) s).2.2.1 j = zs j := by
  intro k
  induction k with
  | zero => intro i e w s _ _ _ hs; rw [f_X7_mend_48_z]; exact ⟨rfl, rfl, hs⟩
  | succ k ih =>
    intro i e w s hk he hw hs
    have hi : i < cM := by omega
    have hfl := fl_69 (cN := cN) (sv := sv) (i := i) (by omega) h4 h.1 (fun c hc => (hC c hc).2.1) cn 0 1 s (by omega) (Or.inr rfl)
    have hsr : ∀ x : Nat → Int32, ∀ j : Nat, j < 259 → f_X7_mend_215 sv 259 0 x j = zs j := fun x j hj => by rw [md_215 hj]; exact hsv j hj
    rw [f_X7_mend_48_s, SEL_s]
    by_cases q : may i = true
    · have hm := (hmay i hi).mp q
      have q0 : ¬ (f_X7_mend_69 b cB cN sv i cn 0 1 s).1 = 0 := fun z => by
        rcases hfl.mp z with y | ⟨c, _, y1, y2, y3⟩
        · exact absurd y.1 (by decide)
        · exact y3 (hm c y1 y2)
      obtain ⟨e1, e2⟩ := hW i hi q s hs
      have hpw := pc_le12 (f_X7_fewestOf (f_X7_mend_69 b cB cN sv i cn 0 1 s).2 b xn)
      obtain ⟨x, hx, ex⟩ : ∃ x, x ≤ 12 ∧ Wd i = nI x := ⟨_, hpw, e1.symm⟩
      rw [if_neg q0, if_neg (nI_pos (by omega)), pu_b7 e2, e1, ex, bits_e he, bits_e (show i < 16 by omega)]
      have l1 : nI w < nI x ↔ w < x := nI_ltI hw (by omega)
      have l2 : nI x < nI w ↔ x < w := nI_ltI (by omega) hw
      have l3 : nI x = nI w ↔ x = w := nI_eq (by omega) hw
      by_cases q1 : w < x
      · rw [if_pos (l1.mpr q1), if_neg (fun z => z.2.elim (fun y => by have := l2.mp y; omega) (fun y => by have := l3.mp y.1; omega))]
        exact ih _ _ _ _ (by omega) he hw (hsr _)
      · rw [if_neg (fun z => q1 (l1.mp z))]
        by_cases q2 : x = w
        · rw [if_pos (l3.mpr q2)]
          by_cases q3 : f_J6_bitCount_0f7a4 (nI i) < f_J6_bitCount_0f7a4 (nI e)
          · rw [if_pos q3, if_pos ⟨q, Or.inr ⟨l3.mpr q2, q3⟩⟩]
            exact ih _ _ _ _ (by omega) (by omega) (by omega) (hsr _)
          · rw [if_neg q3, if_neg (fun z => z.2.elim (fun y => by have := l2.mp y; omega) (fun y => q3 y.2))]
            exact ih _ _ _ _ (by omega) he hw (hsr _)
        · rw [if_neg (fun z => q2 (l3.mp z)), if_pos ⟨q, Or.inl (l2.mpr (by omega))⟩]
          exact ih _ _ _ _ (by omega) (by omega) (by omega) (hsr _)
    · have q0 : (f_X7_mend_69 b cB cN sv i cn 0 1 s).1 = 0 := Classical.byContradiction (fun z => q ((hmay i hi).mpr (fun c hc hb => Classical.byContradiction (fun y => z (hfl.mpr (Or.inr ⟨c, Nat.zero_le _, hc, hb, y⟩))))))
      rw [if_pos q0, if_neg (fun z => q z.1)]
      exact ih _ _ _ _ (by omega) he hw (hsr _)
theorem cM_16 {cM : Nat} (h4 : cn ≤ 4) (hM : (1 : Int32) <<< (nI cn &&& 31) = nI cM) (h16 : cM ≤ 16) : cM = 2 ^ cn := by
  rw [bit_nI (by omega)] at hM
  have : 2 ^ cn ≤ 2 ^ 4 := Nat.pow_le_pow_right (by decide) h4
  exact ((nI_eq (by omega) (by omega)).mp hM).symm
theorem pw_mend_0 (eb : b = 0) (h : RB zs b xn xw xk xm xf xB xh xt) (h4 : cn ≤ 4) (hC : CHB zs cn cw ck cm cf cu cv cB cN) (hN : ∀ c : Nat, c < cn → cB c = b → cN c < xn) {cM : Nat} (hM : (1 : Int32) <<< (nI cn &&& 31) = nI cM) (h16 : cM ≤ 16) {zv : Nat → Int32} {Yn : Nat} (hYn : Yn ≤ 20) {Yw Yk Ym Yf Yh Yt : Nat → Int32} {YB Fc Fg Fw Fn Fm Fa Fs : Int32} {Fd : Nat → Int32} : (f_X7_mend zf zs zv b xn cn cM cB cN).1 = (f_X6_mend_0 ff xn xw xk xm xf xB xh xt cn cw ck cm cf cu cv 20 Yn Yw Yk Ym Yf YB Yh Yt Fc Fg Fw Fn Fm Fa Fs Fd).1 ∧ (f_X7_mend zf zs zv b xn cn cM cB cN).2.1 = zf ∧ (f_X6_mend_0 ff xn xw xk xm xf xB xh xt cn cw ck cm cf cu cv 20 Yn Yw Yk Ym Yf YB Yh Yt Fc Fg Fw Fn Fm Fa Fs Fd).2.1 = ff ∧ (∀ j : Nat, j < 259 → (f_X7_mend zf zs zv b xn cn cM cB cN).2.2.1 j = zs j) ∧ (f_X6_mend_0 ff xn xw xk xm xf xB xh xt cn cw ck cm cf cu cv 20 Yn Yw Yk Ym Yf YB Yh Yt Fc Fg Fw Fn Fm Fa Fs Fd).2.2.2.2.2.2.1 ≤ 20 := by
  subst eb
  have eM := cM_16 h4 hM h16
  have hz : ∀ (i c : Nat), i < cM → i.testBit c = true → c < cn := fun i c hi ht => by
    rcases Nat.lt_or_ge c cn with q | q
    · exact q
    · rw [Nat.testBit_lt_two_pow (Nat.lt_of_lt_of_le (by rw [eM] at hi; exact hi) (Nat.pow_le_pow_right (by decide) q))] at ht
      cases ht
  have hmay : ∀ i : Nat, i < cM → (mayB cn cu 0 i = true ↔ ∀ c : Nat, c < cn → i.testBit c = true → cB c = 0) := fun i hi => by
    rw [mayB_t h4 (by omega)]
    constructor
    · intro z c hc ht
      have e1 := (z c (by omega) ht).2
      rw [(hC c hc).1] at e1
      exact (nI_eq (b := 0) (by have := (hC c hc).2.1; omega) (by omega)).mp e1
    · intro z w _ ht
      have hw := hz i w hi ht
      refine ⟨hw, ?_⟩
      rw [(hC w hw).1, z w hw ht]
      rfl
  have hcut : ∀ j : Nat, cM ≤ j → j < 16 → mayB cn cu 0 j = false := fun j h1 h2 => by
    refine Bool.eq_false_iff.mpr (fun z => ?_)
    rw [mayB_t h4 h2] at z
    have hlt : j < cM := by
      rw [eM]
      refine Nat.lt_pow_two_of_testBit j (fun i hi => ?_)
      cases e : j.testBit i
      · rfl
      · rcases Nat.lt_or_ge i 12 with c | c
        · have := (z i c e).1; omega
        · rw [Nat.testBit_lt_two_pow (Nat.lt_of_lt_of_le (show j < 2 ^ 4 by omega) (Nat.pow_le_pow_right (by decide) (by omega)))] at e
          cases e
    omega
  have hsv : ∀ j : Nat, j < 259 → f_X7_mend_15 zs 259 0 zv j = zs j := fun j hj => md_15 hj
  have h1 : 1 ≤ cM := by rw [eM]; exact Nat.one_le_two_pow
  obtain ⟨Wd, hWd⟩ : ∃ Wd : Nat → Int32, ∀ i, Wd i = (f_X6_fewestWordsAfter cn cw ck cm cf cv xn xw xk xm xf xB xh xt 20 Yw Yk Ym Yf Yh Yt Fm Fa Fs Fd (nI i)).1 := ⟨_, fun _ => rfl⟩
  have hmc : ∀ i : Nat, i < 16 → mayB cn cu 0 i = true → i < cM ∧ ∀ c : Nat, c < cn → i.testBit c = true → cB c = 0 := fun i hi z => by
    rcases Nat.lt_or_ge i cM with c | c
    · exact ⟨c, (hmay i c).mp z⟩
    · rw [hcut i c hi] at z; cases z
  have hWC : ∀ i : Nat, i < 16 → mayB cn cu 0 i = true → ∀ (Yw Yk Ym Yf Yh Yt : Nat → Int32) (Fm Fa Fs : Int32) (Fd : Nat → Int32), (f_X6_fewestWordsAfter cn cw ck cm cf cv xn xw xk xm xf xB xh xt 20 Yw Yk Ym Yf Yh Yt Fm Fa Fs Fd (nI i)).1 = Wd i := fun i hi z Yw2 Yk2 Ym2 Yf2 Yh2 Yt2 Fm2 Fa2 Fs2 Fd2 => by
    rw [hWd, (fw_val h h4 hC hN hi (hmc i hi z).2 hsv (fun _ _ => rfl)).1, (fw_val h h4 hC hN hi (hmc i hi z).2 hsv (fun _ _ => rfl)).1]
  have hWM : ∀ i : Nat, i < cM → mayB cn cu 0 i = true → ∀ s : Nat → Int32, (∀ j : Nat, j < 259 → s j = zs j) → nI (pc (f_X7_fewestOf (f_X7_mend_69 0 cB cN (f_X7_mend_15 zs 259 0 zv) i cn 0 1 s).2 0 xn)) = Wd i ∧ Rg (f_X7_fewestOf (f_X7_mend_69 0 cB cN (f_X7_mend_15 zs 259 0 zv) i cn 0 1 s).2 0 xn) := fun i hi z s hs => by
    have hv := fw_val (Yw := Yw) (Yk := Yk) (Ym := Ym) (Yf := Yf) (Yh := Yh) (Yt := Yt) (Fm := Fm) (Fa := Fa) (Fs := Fs) (Fd := Fd) h h4 hC hN (show i < 16 by omega) ((hmay i hi).mp z) hsv hs
    exact ⟨by rw [hWd]; exact hv.1.symm, hv.2⟩
  have hm0 : mayB cn cu 0 0 = true := (mayB_t h4 (by decide)).mpr (fun w _ e => by rw [Nat.zero_testBit] at e; cases e)
  obtain ⟨w0, hw0, ew0⟩ : ∃ w0, w0 ≤ 12 ∧ Wd 0 = nI w0 := ⟨_, pc_le12 _, ((hWM 0 (by omega) hm0 zs (fun _ _ => rfl)).1).symm⟩
  have hl13 : Wd 0 < 13 := by rw [ew0]; exact nI_lt (b := 13) (by omega) (by omega)
  obtain ⟨c1, c2, c3⟩ := mdC_0 (ff := ff) h h4 hWC 16 0 0 13 Yw Yk Ym Yf Yn Yh Yt YB Fd Fc Fg Fw Fn Fm Fa Fs rfl (by decide) hYn
  have eC : f_X6_mend_0 ff xn xw xk xm xf xB xh xt cn cw ck cm cf cu cv 20 Yn Yw Yk Ym Yf YB Yh Yt Fc Fg Fw Fn Fm Fa Fs Fd = f_X6_mend_0_34 ff xn xw xk xm xf xB xh xt cn cw ck cm cf cu cv 20 16 0 (nI 0) 13 Yw Yk Ym Yf Yn Yh Yt YB Fd Fc Fg Fw Fn Fm Fa Fs := rfl
  rw [eC]
  obtain ⟨K, hK⟩ : ∃ K, cM = K + 1 := ⟨cM - 1, by omega⟩
  have hfl := fl_69 (b := 0) (cB := cB) (cN := cN) (cn := cn) (sv := f_X7_mend_15 zs 259 0 zv) (i := 0) (by decide) h4 (by decide) (fun c hc => (hC c hc).2.1) cn 0 1 zs (by omega) (Or.inr rfl)
  have q0 : ¬ (f_X7_mend_69 0 cB cN (f_X7_mend_15 zs 259 0 zv) 0 cn 0 1 zs).1 = 0 := fun z => by
    rcases hfl.mp z with y | ⟨c, _, y1, y2, _⟩
    · exact absurd y.1 (by decide)
    · rw [Nat.zero_testBit] at y2; cases y2
  obtain ⟨g1, g2⟩ := hWM 0 (by omega) hm0 zs (fun _ _ => rfl)
  obtain ⟨m1, m2, m3⟩ := mdM (zf := zf) h h4 hC hN hsv h16 hmay hWM K 1 0 w0 (f_X7_mend_215 (f_X7_mend_15 zs 259 0 zv) 259 0 (f_X7_mend_69 0 cB cN (f_X7_mend_15 zs 259 0 zv) 0 cn 0 1 zs).2) (by omega) (by decide) (by omega) (fun j hj => by rw [md_215 hj]; exact hsv j hj)
  have eM2 : f_X7_mend zf zs zv 0 xn cn cM cB cN = f_X7_mend_48 zf 0 xn cn cB cN (f_X7_mend_15 zs 259 0 zv) K 1 (nI 0) (nI w0) (f_X7_mend_215 (f_X7_mend_15 zs 259 0 zv) 259 0 (f_X7_mend_69 0 cB cN (f_X7_mend_15 zs 259 0 zv) 0 cn 0 1 zs).2) := by
    unfold f_X7_mend
    rw [hK, f_X7_mend_48_s, if_neg q0, if_pos (by decide), pu_b7 g2, g1, ew0]
  rw [eM2]
  refine ⟨?_, m2, c2, m3, c3⟩
  rw [m1, c1, show (16 : Nat) = (K + (16 - cM)) + 1 by omega, SEL_s, if_pos ⟨hm0, Or.inl hl13⟩, ew0]
  exact (SEL_cut K (0 + 1) (nI 0) (nI w0) (fun j a1 a2 => hcut j (by omega) (by omega))).symm
theorem pw_mend_1 (eb : b = 1) (h : RB zs b xn xw xk xm xf xB xh xt) (h4 : cn ≤ 4) (hC : CHB zs cn cw ck cm cf cu cv cB cN) (hN : ∀ c : Nat, c < cn → cB c = b → cN c < xn) {cM : Nat} (hM : (1 : Int32) <<< (nI cn &&& 31) = nI cM) (h16 : cM ≤ 16) {zv : Nat → Int32} {Yn : Nat} (hYn : Yn ≤ 20) {Yw Yk Ym Yf Yh Yt : Nat → Int32} {YB Fc Fg Fw Fn Fm Fa Fs : Int32} {Fd : Nat → Int32} : (f_X7_mend zf zs zv b xn cn cM cB cN).1 = (f_X6_mend_1 ff xn xw xk xm xf xB xh xt cn cw ck cm cf cu cv 20 Yn Yw Yk Ym Yf YB Yh Yt Fc Fg Fw Fn Fm Fa Fs Fd).1 ∧ (f_X7_mend zf zs zv b xn cn cM cB cN).2.1 = zf ∧ (f_X6_mend_1 ff xn xw xk xm xf xB xh xt cn cw ck cm cf cu cv 20 Yn Yw Yk Ym Yf YB Yh Yt Fc Fg Fw Fn Fm Fa Fs Fd).2.1 = ff ∧ (∀ j : Nat, j < 259 → (f_X7_mend zf zs zv b xn cn cM cB cN).2.2.1 j = zs j) ∧ (f_X6_mend_1 ff xn xw xk xm xf xB xh xt cn cw ck cm cf cu cv 20 Yn Yw Yk Ym Yf YB Yh Yt Fc Fg Fw Fn Fm Fa Fs Fd).2.2.2.2.2.2.1 ≤ 20 := by
  subst eb
  have eM := cM_16 h4 hM h16
  have hz : ∀ (i c : Nat), i < cM → i.testBit c = true → c < cn := fun i c hi ht => by
    rcases Nat.lt_or_ge c cn with q | q
    · exact q
    · rw [Nat.testBit_lt_two_pow (Nat.lt_of_lt_of_le (by rw [eM] at hi; exact hi) (Nat.pow_le_pow_right (by decide) q))] at ht
      cases ht
  have hmay : ∀ i : Nat, i < cM → (mayB cn cu 1 i = true ↔ ∀ c : Nat, c < cn → i.testBit c = true → cB c = 1) := fun i hi => by
    rw [mayB_t h4 (by omega)]
    constructor
    · intro z c hc ht
      have e1 := (z c (by omega) ht).2
      rw [(hC c hc).1] at e1
      exact (nI_eq (b := 1) (by have := (hC c hc).2.1; omega) (by omega)).mp e1
    · intro z w _ ht
      have hw := hz i w hi ht
      refine ⟨hw, ?_⟩
      rw [(hC w hw).1, z w hw ht]
      rfl
  have hcut : ∀ j : Nat, cM ≤ j → j < 16 → mayB cn cu 1 j = false := fun j h1 h2 => by
    refine Bool.eq_false_iff.mpr (fun z => ?_)
    rw [mayB_t h4 h2] at z
    have hlt : j < cM := by
      rw [eM]
      refine Nat.lt_pow_two_of_testBit j (fun i hi => ?_)
      cases e : j.testBit i
      · rfl
      · rcases Nat.lt_or_ge i 12 with c | c
        · have := (z i c e).1; omega
        · rw [Nat.testBit_lt_two_pow (Nat.lt_of_lt_of_le (show j < 2 ^ 4 by omega) (Nat.pow_le_pow_right (by decide) (by omega)))] at e
          cases e
    omega
  have hsv : ∀ j : Nat, j < 259 → f_X7_mend_15 zs 259 0 zv j = zs j := fun j hj => md_15 hj
  have h1 : 1 ≤ cM := by rw [eM]; exact Nat.one_le_two_pow
  obtain ⟨Wd, hWd⟩ : ∃ Wd : Nat → Int32, ∀ i, Wd i = (f_X6_fewestWordsAfter cn cw ck cm cf cv xn xw xk xm xf xB xh xt 20 Yw Yk Ym Yf Yh Yt Fm Fa Fs Fd (nI i)).1 := ⟨_, fun _ => rfl⟩
  have hmc : ∀ i : Nat, i < 16 → mayB cn cu 1 i = true → i < cM ∧ ∀ c : Nat, c < cn → i.testBit c = true → cB c = 1 := fun i hi z => by
    rcases Nat.lt_or_ge i cM with c | c
    · exact ⟨c, (hmay i c).mp z⟩
    · rw [hcut i c hi] at z; cases z
  have hWC : ∀ i : Nat, i < 16 → mayB cn cu 1 i = true → ∀ (Yw Yk Ym Yf Yh Yt : Nat → Int32) (Fm Fa Fs : Int32) (Fd : Nat → Int32), (f_X6_fewestWordsAfter cn cw ck cm cf cv xn xw xk xm xf xB xh xt 20 Yw Yk Ym Yf Yh Yt Fm Fa Fs Fd (nI i)).1 = Wd i := fun i hi z Yw2 Yk2 Ym2 Yf2 Yh2 Yt2 Fm2 Fa2 Fs2 Fd2 => by
    rw [hWd, (fw_val h h4 hC hN hi (hmc i hi z).2 hsv (fun _ _ => rfl)).1, (fw_val h h4 hC hN hi (hmc i hi z).2 hsv (fun _ _ => rfl)).1]
  have hWM : ∀ i : Nat, i < cM → mayB cn cu 1 i = true → ∀ s : Nat → Int32, (∀ j : Nat, j < 259 → s j = zs j) → nI (pc (f_X7_fewestOf (f_X7_mend_69 1 cB cN (f_X7_mend_15 zs 259 0 zv) i cn 0 1 s).2 1 xn)) = Wd i ∧ Rg (f_X7_fewestOf (f_X7_mend_69 1 cB cN (f_X7_mend_15 zs 259 0 zv) i cn 0 1 s).2 1 xn) := fun i hi z s hs => by
    have hv := fw_val (Yw := Yw) (Yk := Yk) (Ym := Ym) (Yf := Yf) (Yh := Yh) (Yt := Yt) (Fm := Fm) (Fa := Fa) (Fs := Fs) (Fd := Fd) h h4 hC hN (show i < 16 by omega) ((hmay i hi).mp z) hsv hs
    exact ⟨by rw [hWd]; exact hv.1.symm, hv.2⟩
  have hm0 : mayB cn cu 1 0 = true := (mayB_t h4 (by decide)).mpr (fun w _ e => by rw [Nat.zero_testBit] at e; cases e)
  obtain ⟨w0, hw0, ew0⟩ : ∃ w0, w0 ≤ 12 ∧ Wd 0 = nI w0 := ⟨_, pc_le12 _, ((hWM 0 (by omega) hm0 zs (fun _ _ => rfl)).1).symm⟩
  have hl13 : Wd 0 < 13 := by rw [ew0]; exact nI_lt (b := 13) (by omega) (by omega)
  obtain ⟨c1, c2, c3⟩ := mdC_1 (ff := ff) h h4 hWC 16 0 0 13 Yw Yk Ym Yf Yn Yh Yt YB Fd Fc Fg Fw Fn Fm Fa Fs rfl (by decide) hYn
  have eC : f_X6_mend_1 ff xn xw xk xm xf xB xh xt cn cw ck cm cf cu cv 20 Yn Yw Yk Ym Yf YB Yh Yt Fc Fg Fw Fn Fm Fa Fs Fd = f_X6_mend_1_34 ff xn xw xk xm xf xB xh xt cn cw ck cm cf cu cv 20 16 0 (nI 0) 13 Yw Yk Ym Yf Yn Yh Yt YB Fd Fc Fg Fw Fn Fm Fa Fs := rfl
  rw [eC]
  obtain ⟨K, hK⟩ : ∃ K, cM = K + 1 := ⟨cM - 1, by omega⟩
  have hfl := fl_69 (b := 1) (cB := cB) (cN := cN) (cn := cn) (sv := f_X7_mend_15 zs 259 0 zv) (i := 0) (by decide) h4 (by decide) (fun c hc => (hC c hc).2.1) cn 0 1 zs (by omega) (Or.inr rfl)
  have q0 : ¬ (f_X7_mend_69 1 cB cN (f_X7_mend_15 zs 259 0 zv) 0 cn 0 1 zs).1 = 0 := fun z => by
    rcases hfl.mp z with y | ⟨c, _, y1, y2, _⟩
    · exact absurd y.1 (by decide)
    · rw [Nat.zero_testBit] at y2; cases y2
  obtain ⟨g1, g2⟩ := hWM 0 (by omega) hm0 zs (fun _ _ => rfl)
  obtain ⟨m1, m2, m3⟩ := mdM (zf := zf) h h4 hC hN hsv h16 hmay hWM K 1 0 w0 (f_X7_mend_215 (f_X7_mend_15 zs 259 0 zv) 259 0 (f_X7_mend_69 1 cB cN (f_X7_mend_15 zs 259 0 zv) 0 cn 0 1 zs).2) (by omega) (by decide) (by omega) (fun j hj => by rw [md_215 hj]; exact hsv j hj)
  have eM2 : f_X7_mend zf zs zv 1 xn cn cM cB cN = f_X7_mend_48 zf 1 xn cn cB cN (f_X7_mend_15 zs 259 0 zv) K 1 (nI 0) (nI w0) (f_X7_mend_215 (f_X7_mend_15 zs 259 0 zv) 259 0 (f_X7_mend_69 1 cB cN (f_X7_mend_15 zs 259 0 zv) 0 cn 0 1 zs).2) := by
    unfold f_X7_mend
    rw [hK, f_X7_mend_48_s, if_neg q0, if_pos (by decide), pu_b7 g2, g1, ew0]
  rw [eM2]
  refine ⟨?_, m2, c2, m3, c3⟩
  rw [m1, c1, show (16 : Nat) = (K + (16 - cM)) + 1 by omega, SEL_s, if_pos ⟨hm0, Or.inl hl13⟩, ew0]
  exact (SEL_cut K (0 + 1) (nI 0) (nI w0) (fun j a1 a2 => hcut j (by omega) (by omega))).symm
end PMD
