/-! THE PURE PART: copies -/
section CPY
variable {xl yn : Nat} {xw xk xm xf yw yk ym yf : Nat → Int32}
theorem has_nI {n i : Nat} (hn : n < 2 ^ 31) (h : i < n) : f_X5_has n (nI i) = 1 := by
  unfold f_X5_has
  rw [if_neg (nI_pos (by omega)), if_neg (nI_ge h hn)]
theorem rep_in {n m : Nat} (hn : n < 2 ^ 31) (hm : m < 2 ^ 31) {i j : Nat} (hi : i < n) (hj : j < m) : f_X5_replace n xw xk xm xf m yw yk ym yf (nI i) (nI j) = (upd xw i (yw j), upd xk i (yk j), upd xm i (ym j), upd xf i (yf j)) := by
  unfold f_X5_replace
  rw [has_nI hn hi, has_nI hm hj, if_neg (by decide), if_neg (by decide), nI_clamp (by omega), nI_clamp (by omega)]
def EQ4 (n : Nat) (xw xk xm xf yw yk ym yf : Nat → Int32) : Prop := ∀ j : Nat, j < n → xw j = yw j ∧ xk j = yk j ∧ xm j = ym j ∧ xf j = yf j
theorem cp_18 (hy : yn < 2 ^ 31) : ∀ (k i : Nat) (r1 r2 r3 r4 : Nat → Int32), k + i = min yn xl → EQ4 i r1 r2 r3 r4 yw yk ym yf → EQ4 (min yn xl) (f_X5_copyFrom_18 xl yn yw yk ym yf k i r1 r2 r3 r4).1 (f_X5_copyFrom_18 xl yn yw yk ym yf k i r1 r2 r3 r4).2.1 (f_X5_copyFrom_18 xl yn yw yk ym yf k i r1 r2 r3 r4).2.2.1 (f_X5_copyFrom_18 xl yn yw yk ym yf k i r1 r2 r3 r4).2.2.2.1 yw yk ym yf ∧ (f_X5_copyFrom_18 xl yn yw yk ym yf k i r1 r2 r3 r4).2.2.2.2 = min yn xl := by
  intro k
  induction k with
  | zero =>
    intro i r1 r2 r3 r4 hk h
    have hi : i = min yn xl := by omega
    rw [f_X5_copyFrom_18_z]
    rw [hi] at h
    exact ⟨h, rfl⟩
  | succ k ih =>
    intro i r1 r2 r3 r4 hk h
    have hi : i < min yn xl := by omega
    have hi2 : i < yn := by omega
    rw [f_X5_copyFrom_18_s, rep_in (by omega) hy hi hi2]
    refine ih (i + 1) _ _ _ _ (by omega) (fun j hj => ?_)
    show upd r1 i (yw i) j = yw j ∧ upd r2 i (yk i) j = yk j ∧ upd r3 i (ym i) j = ym j ∧ upd r4 i (yf i) j = yf j
    by_cases c : j = i
    · subst c
      rw [pk_us, pk_us, pk_us, pk_us]
      exact ⟨rfl, rfl, rfl, rfl⟩
    · rw [pk_un c, pk_un c, pk_un c, pk_un c]
      exact h j (by omega)
theorem cp_5 (hy : yn < 2 ^ 31) : EQ4 (min yn xl) (f_X5_copyFrom xl xw xk xm xf yn yw yk ym yf).1 (f_X5_copyFrom xl xw xk xm xf yn yw yk ym yf).2.1 (f_X5_copyFrom xl xw xk xm xf yn yw yk ym yf).2.2.1 (f_X5_copyFrom xl xw xk xm xf yn yw yk ym yf).2.2.2.1 yw yk ym yf ∧ (f_X5_copyFrom xl xw xk xm xf yn yw yk ym yf).2.2.2.2 = min yn xl := cp_18 hy (min yn xl) 0 xw xk xm xf (by omega) (fun j hj => absurd hj (Nat.not_lt_zero _))
theorem cp_0 (hy : yn < 2 ^ 31) {yB : Int32} {yh yt : Nat → Int32} : ∀ (k i : Nat) (h t : Nat → Int32), k + i = 12 → (∀ j : Nat, j < i → h j = yh j ∧ t j = yt j) → ∃ a c d e h' t' : Nat → Int32, f_X0_copyFrom_13 xl xw xk xm xf yn yw yk ym yf yB yh yt k i h t = (a, c, d, e, min yn xl, h', t', yB) ∧ EQ4 (min yn xl) a c d e yw yk ym yf ∧ ∀ j : Nat, j < 12 → h' j = yh j ∧ t' j = yt j := by
  intro k
  induction k with
  | zero =>
    intro i h t hk hh
    have hi : i = 12 := by omega
    subst hi
    obtain ⟨c1, c2⟩ := cp_5 (xl := xl) (xw := xw) (xk := xk) (xm := xm) (xf := xf) (yw := yw) (yk := yk) (ym := ym) (yf := yf) hy
    refine ⟨_, _, _, _, h, t, ?_, c1, hh⟩
    rw [f_X0_copyFrom_13_z, c2]
  | succ k ih =>
    intro i h t hk hh
    rw [f_X0_copyFrom_13_s]
    refine ih (i + 1) _ _ (by omega) (fun j hj => ?_)
    by_cases c : j = i
    · subst c
      rw [pk_us, pk_us]
      exact ⟨rfl, rfl⟩
    · rw [pk_un c, pk_un c]
      exact hh j (by omega)
/-- a book's copy -/
theorem cp_book (hy : yn < 2 ^ 31) {yB : Int32} {xh xt yh yt : Nat → Int32} : ∃ a c d e h' t' : Nat → Int32, f_X0_copyFrom xl xw xk xm xf xh xt yn yw yk ym yf yB yh yt = (a, c, d, e, min yn xl, h', t', yB) ∧ EQ4 (min yn xl) a c d e yw yk ym yf ∧ ∀ j : Nat, j < 12 → h' j = yh j ∧ t' j = yt j := cp_0 hy 12 0 xh xt rfl (fun j hj => absurd hj (Nat.not_lt_zero _))
theorem cp_c13 {cw ck cm cf : Nat → Int32} {gn : Nat} {gw gk gm gf gu gv : Nat → Int32} (hg : gn < 2 ^ 31) : ∀ (k i : Nat) (u v : Nat → Int32), k + i = 4 → (∀ j : Nat, j < i → u j = gu j ∧ v j = gv j) → ∃ a c d e u' v' : Nat → Int32, f_X1_copyFrom_13 cw ck cm cf gn gw gk gm gf gu gv k i u v = (a, c, d, e, min gn 4, u', v') ∧ EQ4 (min gn 4) a c d e gw gk gm gf ∧ ∀ j : Nat, j < 4 → u' j = gu j ∧ v' j = gv j := by
  intro k
  induction k with
  | zero =>
    intro i u v hk hh
    have hi : i = 4 := by omega
    subst hi
    obtain ⟨c1, c2⟩ := cp_5 (xl := 4) (xw := cw) (xk := ck) (xm := cm) (xf := cf) (yw := gw) (yk := gk) (ym := gm) (yf := gf) hg
    refine ⟨_, _, _, _, u, v, ?_, c1, hh⟩
    rw [f_X1_copyFrom_13_z, c2]
  | succ k ih =>
    intro i u v hk hh
    rw [f_X1_copyFrom_13_s]
    refine ih (i + 1) _ _ (by omega) (fun j hj => ?_)
    by_cases c : j = i
    · subst c
      rw [pk_us, pk_us]
      exact ⟨rfl, rfl⟩
    · rw [pk_un c, pk_un c]
      exact hh j (by omega)
theorem cp_chg {cw ck cm cf cu cv : Nat → Int32} {gn : Nat} {gw gk gm gf gu gv : Nat → Int32} (hg : gn < 2 ^ 31) : ∃ a c d e u' v' : Nat → Int32, f_X1_copyFrom cw ck cm cf cu cv gn gw gk gm gf gu gv = (a, c, d, e, min gn 4, u', v') ∧ EQ4 (min gn 4) a c d e gw gk gm gf ∧ ∀ j : Nat, j < 4 → u' j = gu j ∧ v' j = gv j := cp_c13 hg 4 0 cu cv rfl (fun j hj => absurd hj (Nat.not_lt_zero _))
theorem vw_eq {n m : Nat} {a c : Nat → Int32} (h : VW n c) (hm : m ≤ n) (he : ∀ j : Nat, j < m → a j = c j) : VW m a := fun t ht => by rw [he t ht]; exact h t (by omega)
theorem vw_cp {yB : Int32} {xh xt yh yt : Nat → Int32} (hy : yn < 2 ^ 31) (h : VW yn yw) : VW (f_X0_copyFrom xl xw xk xm xf xh xt yn yw yk ym yf yB yh yt).2.2.2.2.1 (f_X0_copyFrom xl xw xk xm xf xh xt yn yw yk ym yf yB yh yt).1 := by
  obtain ⟨a, c, d, e, h', t', e1, e2, _⟩ := cp_book (xl := xl) (xw := xw) (xk := xk) (xm := xm) (xf := xf) (yw := yw) (yk := yk) (ym := ym) (yf := yf) (yB := yB) (xh := xh) (xt := xt) (yh := yh) (yt := yt) hy
  rw [e1]
  exact vw_eq (m := min yn xl) h (by omega) (fun j hj => (e2 j hj).1)
theorem n_cp {yB : Int32} {xh xt yh yt : Nat → Int32} (hy : yn < 2 ^ 31) : (f_X0_copyFrom xl xw xk xm xf xh xt yn yw yk ym yf yB yh yt).2.2.2.2.1 = min yn xl := by
  obtain ⟨a, c, d, e, h', t', e1, e2, _⟩ := cp_book (xl := xl) (xw := xw) (xk := xk) (xm := xm) (xf := xf) (yw := yw) (yk := yk) (ym := ym) (yf := yf) (yB := yB) (xh := xh) (xt := xt) (yh := yh) (yt := yt) hy
  rw [e1]
/-- changes made in a book: its words stay words -/
theorem vw_rep {n m : Nat} {nu ot : Int32} (hx : VW n xw) (hy : VW m yw) : VW n (f_X5_replace n xw xk xm xf m yw yk ym yf nu ot).1 := by
  unfold f_X5_replace
  split
  · exact hx
  · rename_i h1
    split
    · exact hx
    · rename_i h2
      intro t ht
      show ∃ w : Nat, w < 12 ∧ upd xw nu.toNatClampNeg (yw ot.toNatClampNeg) t = nI w
      by_cases c : t = nu.toNatClampNeg
      · rw [c, pk_us]
        refine hy _ ?_
        unfold f_X5_has at h2
        by_cases q : ot < 0
        · rw [if_pos q] at h2; exact absurd rfl h2
        · rw [if_neg q] at h2
          obtain ⟨j, hj, rfl⟩ := nI_of q
          by_cases q2 : nI m ≤ nI j
          · rw [if_pos q2] at h2; exact absurd rfl h2
          · rw [nI_clamp hj]
            rcases Nat.lt_or_ge m (2 ^ 31) with z | z
            · exact lt_of_nle z hj q2
            · omega
      · rw [pk_un c]; exact hx t ht
theorem vw_mk2 {cn xn : Nat} {cw ck cm cf cv : Nat → Int32} {so : Int32} (hc : VW cn cw) : ∀ (k i : Nat) (r1 r2 r3 r4 : Nat → Int32), VW xn r1 → VW xn (f_X1_makeIn_2 cn cw ck cm cf cv xn so k i r1 r2 r3 r4).1 := by
  intro k
  induction k with
  | zero => intro i r1 r2 r3 r4 h; rw [f_X1_makeIn_2_z]; exact h
  | succ k ih =>
    intro i r1 r2 r3 r4 h
    rw [f_X1_makeIn_2_s]
    split
    · exact ih _ _ _ _ _ h
    · exact ih _ _ _ _ _ (vw_rep h hc)
theorem vw_mk {cn xn : Nat} {cw ck cm cf cv : Nat → Int32} {so : Int32} (h : VW xn xw) (hc : VW cn cw) : VW xn (f_X1_makeIn cn cw ck cm cf cv xn xw xk xm xf so).1 := vw_mk2 hc _ _ _ _ _ _ h
end CPY
