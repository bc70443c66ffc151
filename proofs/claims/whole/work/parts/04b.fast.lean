/-! a world put anew, read in one pass -/
def lk9 (d : Nat × va_E) (k : Nat) : List (Nat × (Nat × va_E)) → Nat × va_E
  | [] => d
  | (i, q) :: as => bif Nat.beq i k then q else lk9 d k as
def rp9 (as : List (Nat × (Nat × va_E))) : Nat → va_W → va_W
  | _, [] => []
  | k, q :: ws => lk9 q k as :: rp9 as (k + 1) ws
theorem rp9_get (as : List (Nat × (Nat × va_E))) : ∀ (ws : va_W) (k j : Nat), (rp9 as k ws)[j]? = (ws[j]?).map (fun d => lk9 d (k + j) as) := by
  intro ws
  induction ws with
  | nil => intro k j; rfl
  | cons q ws ih =>
    intro k j
    cases j with
    | zero => rfl
    | succ j =>
      show (rp9 as (k + 1) ws)[j]? = _
      rw [ih (k + 1) j, show k + 1 + j = k + (j + 1) by omega]
      rfl
theorem rpl_len : ∀ (is : List Nat) (qs ws : va_W), (rpl ws is qs).length = ws.length := by
  intro is
  induction is with
  | nil => intro qs ws; cases qs <;> rfl
  | cons i is ih =>
    intro qs ws
    cases qs with
    | nil => rfl
    | cons q qs => show (rpl (ws.set i q) is qs).length = _; rw [ih, List.length_set]
theorem rpl_off : ∀ (is : List Nat) (qs ws : va_W) (j : Nat), j ∉ is → (rpl ws is qs)[j]? = ws[j]? := by
  intro is
  induction is with
  | nil => intro qs ws j _; cases qs <;> rfl
  | cons i is ih =>
    intro qs ws j h
    cases qs with
    | nil => rfl
    | cons q qs =>
      show (rpl (ws.set i q) is qs)[j]? = _
      rw [ih qs _ j (fun z => h (List.mem_cons_of_mem _ z)), List.getElem?_set_ne (fun z => h (by rw [← z]; exact List.mem_cons_self))]
theorem rpl_lk : ∀ (is : List Nat) (qs ws : va_W) (j : Nat) (d : Nat × va_E), is.Nodup → is.length = qs.length → ws[j]? = some d → (rpl ws is qs)[j]? = some (lk9 d j (is.zip qs)) := by
  intro is
  induction is with
  | nil => intro qs ws j d _ hl hd; cases qs with
    | nil => exact hd
    | cons q qs => cases hl
  | cons i is ih =>
    intro qs ws j d hn hl hd
    cases qs with
    | nil => cases hl
    | cons q qs =>
      obtain ⟨hn1, hn2⟩ := List.nodup_cons.mp hn
      show (rpl (ws.set i q) is qs)[j]? = some (lk9 d j ((i, q) :: is.zip qs))
      by_cases c : i = j
      · subst c
        rw [rpl_off is qs _ i hn1, List.getElem?_set]
        have hlt : i < ws.length := (List.getElem?_eq_some_iff.mp hd).1
        simp only [lk9, Nat.beq_refl, cond_true, if_true, hlt]
      · have e : lk9 d j ((i, q) :: is.zip qs) = lk9 d j (is.zip qs) := by
          show (bif Nat.beq i j then q else lk9 d j (is.zip qs)) = _
          rw [show Nat.beq i j = false from by
            cases h : Nat.beq i j with
            | false => rfl
            | true => exact absurd (Nat.eq_of_beq_eq_true h) c]
          rfl
        rw [e]
        exact ih qs _ j d hn2 (Nat.succ.inj hl) (by rw [List.getElem?_set_ne c]; exact hd)
theorem rpl_fast {ws ws' qs : va_W} {is : List Nat} (h1 : is.Nodup) (h2 : is.length = qs.length) (h3 : rp9 (is.zip qs) 0 ws = ws') : rpl ws is qs = ws' := by
  rw [← h3]
  refine List.ext_getElem? (fun j => ?_)
  rw [rp9_get]
  cases hd : ws[j]? with
  | none =>
    have h4 : ws.length ≤ j := List.getElem?_eq_none_iff.mp hd
    rw [List.getElem?_eq_none (by rw [rpl_len]; exact h4)]
    rfl
  | some d =>
    rw [rpl_lk is qs ws j d h1 h2 hd, Nat.zero_add]
    rfl
