def f_X7_mend_15 (zs : Nat → Int32) : Nat → Nat → (Nat → Int32) → ((Nat → Int32))
  | 0, i15, v15 => v15
  | k15 + 1, i15, v15 => f_X7_mend_15 zs k15 (i15 + 1) (upd v15 i15 (zs i15))
theorem f_X7_mend_15_z (zs : Nat → Int32) (i15 : Nat) (v15 : Nat → Int32) : f_X7_mend_15 zs 0 i15 v15 = v15 := rfl
theorem f_X7_mend_15_s (zs : Nat → Int32) (k15 : Nat) (i15 : Nat) (v15 : Nat → Int32) : f_X7_mend_15 zs (k15 + 1) i15 v15 = f_X7_mend_15 zs k15 (i15 + 1) (upd v15 i15 (zs i15)) := rfl
def f_X7_mend_132 (cB : Nat → Nat) (cN : Nat → Nat) (sv : (Nat → Int32)) (i69 : Nat) : Nat → Nat → (Nat → Int32) → ((Nat → Int32))
  | 0, i132, s132 => s132
  | k132 + 1, i132, s132 => f_X7_mend_132 cB cN sv i69 k132 (i132 + 1) (upd s132 (80 * (cB i69) + (4 * (cN i69)) + i132) (sv (234 + (6 * i69) + 2 + i132)))
theorem f_X7_mend_132_z (cB : Nat → Nat) (cN : Nat → Nat) (sv : (Nat → Int32)) (i69 : Nat) (i132 : Nat) (s132 : Nat → Int32) : f_X7_mend_132 cB cN sv i69 0 i132 s132 = s132 := rfl
theorem f_X7_mend_132_s (cB : Nat → Nat) (cN : Nat → Nat) (sv : (Nat → Int32)) (i69 : Nat) (k132 : Nat) (i132 : Nat) (s132 : Nat → Int32) : f_X7_mend_132 cB cN sv i69 (k132 + 1) i132 s132 = f_X7_mend_132 cB cN sv i69 k132 (i132 + 1) (upd s132 (80 * (cB i69) + (4 * (cN i69)) + i132) (sv (234 + (6 * i69) + 2 + i132))) := rfl
def f_X7_mend_69 (bb : Nat) (cB : Nat → Nat) (cN : Nat → Nat) (sv : (Nat → Int32)) (i48 : Nat) : Nat → Nat → Int32 → (Nat → Int32) → (Int32 × (Nat → Int32))
  | 0, i69, v5_69, s69 => (v5_69, s69)
  | k69 + 1, i69, v5_69, s69 => (if (((nI i48) >>> ((nI i69) &&& 31)) &&& (1 : Int32)) = 0 then f_X7_mend_69 bb cB cN sv i48 k69 (i69 + 1) v5_69 s69 else (if v5_69 = 0 then f_X7_mend_69 bb cB cN sv i48 k69 (i69 + 1) 0 (f_X7_mend_132 cB cN sv i69 4 0 s69) else (if (nI (cB i69)) = (nI bb) then f_X7_mend_69 bb cB cN sv i48 k69 (i69 + 1) 1 (f_X7_mend_132 cB cN sv i69 4 0 s69) else f_X7_mend_69 bb cB cN sv i48 k69 (i69 + 1) 0 (f_X7_mend_132 cB cN sv i69 4 0 s69))))
theorem f_X7_mend_69_z (bb : Nat) (cB : Nat → Nat) (cN : Nat → Nat) (sv : (Nat → Int32)) (i48 : Nat) (i69 : Nat) (v5_69 : Int32) (s69 : Nat → Int32) : f_X7_mend_69 bb cB cN sv i48 0 i69 v5_69 s69 = (v5_69, s69) := rfl
theorem f_X7_mend_69_s (bb : Nat) (cB : Nat → Nat) (cN : Nat → Nat) (sv : (Nat → Int32)) (i48 : Nat) (k69 : Nat) (i69 : Nat) (v5_69 : Int32) (s69 : Nat → Int32) : f_X7_mend_69 bb cB cN sv i48 (k69 + 1) i69 v5_69 s69 = (if (((nI i48) >>> ((nI i69) &&& 31)) &&& (1 : Int32)) = 0 then f_X7_mend_69 bb cB cN sv i48 k69 (i69 + 1) v5_69 s69 else (if v5_69 = 0 then f_X7_mend_69 bb cB cN sv i48 k69 (i69 + 1) 0 (f_X7_mend_132 cB cN sv i69 4 0 s69) else (if (nI (cB i69)) = (nI bb) then f_X7_mend_69 bb cB cN sv i48 k69 (i69 + 1) 1 (f_X7_mend_132 cB cN sv i69 4 0 s69) else f_X7_mend_69 bb cB cN sv i48 k69 (i69 + 1) 0 (f_X7_mend_132 cB cN sv i69 4 0 s69)))) := rfl
def f_X7_mend_215 (sv : (Nat → Int32)) : Nat → Nat → (Nat → Int32) → ((Nat → Int32))
  | 0, i215, s215 => s215
  | k215 + 1, i215, s215 => f_X7_mend_215 sv k215 (i215 + 1) (upd s215 i215 (sv i215))
theorem f_X7_mend_215_z (sv : (Nat → Int32)) (i215 : Nat) (s215 : Nat → Int32) : f_X7_mend_215 sv 0 i215 s215 = s215 := rfl
theorem f_X7_mend_215_s (sv : (Nat → Int32)) (k215 : Nat) (i215 : Nat) (s215 : Nat → Int32) : f_X7_mend_215 sv (k215 + 1) i215 s215 = f_X7_mend_215 sv k215 (i215 + 1) (upd s215 i215 (sv i215)) := rfl
def f_X7_mend_48 (zf : Nat → Int32) (bb : Nat) (bn : Nat) (cn : Nat) (cB : Nat → Nat) (cN : Nat → Nat) (sv : (Nat → Int32)) : Nat → Nat → Int32 → Int32 → (Nat → Int32) → (Int32 × (Nat → Int32) × (Nat → Int32) × (Nat → Int32))
  | 0, i48, v2_48, v3_48, s48 => (v2_48, zf, s48, sv)
  | k48 + 1, i48, v2_48, v3_48, s48 => (if (f_X7_mend_69 bb cB cN sv i48 cn 0 1 s48).1 = 0 then f_X7_mend_48 zf bb bn cn cB cN sv k48 (i48 + 1) v2_48 v3_48 (f_X7_mend_215 sv 259 0 (f_X7_mend_69 bb cB cN sv i48 cn 0 1 s48).2) else (if v2_48 < 0 then f_X7_mend_48 zf bb bn cn cB cN sv k48 (i48 + 1) (nI i48) (f_X7_bits (f_X7_fewestOf (f_X7_mend_69 bb cB cN sv i48 cn 0 1 s48).2 bb bn)) (f_X7_mend_215 sv 259 0 (f_X7_mend_69 bb cB cN sv i48 cn 0 1 s48).2) else (if v3_48 < (f_X7_bits (f_X7_fewestOf (f_X7_mend_69 bb cB cN sv i48 cn 0 1 s48).2 bb bn)) then f_X7_mend_48 zf bb bn cn cB cN sv k48 (i48 + 1) v2_48 v3_48 (f_X7_mend_215 sv 259 0 (f_X7_mend_69 bb cB cN sv i48 cn 0 1 s48).2) else (if (f_X7_bits (f_X7_fewestOf (f_X7_mend_69 bb cB cN sv i48 cn 0 1 s48).2 bb bn)) = v3_48 then (if (f_X7_bits (nI i48)) < (f_X7_bits v2_48) then f_X7_mend_48 zf bb bn cn cB cN sv k48 (i48 + 1) (nI i48) (f_X7_bits (f_X7_fewestOf (f_X7_mend_69 bb cB cN sv i48 cn 0 1 s48).2 bb bn)) (f_X7_mend_215 sv 259 0 (f_X7_mend_69 bb cB cN sv i48 cn 0 1 s48).2) else f_X7_mend_48 zf bb bn cn cB cN sv k48 (i48 + 1) v2_48 v3_48 (f_X7_mend_215 sv 259 0 (f_X7_mend_69 bb cB cN sv i48 cn 0 1 s48).2)) else f_X7_mend_48 zf bb bn cn cB cN sv k48 (i48 + 1) (nI i48) (f_X7_bits (f_X7_fewestOf (f_X7_mend_69 bb cB cN sv i48 cn 0 1 s48).2 bb bn)) (f_X7_mend_215 sv 259 0 (f_X7_mend_69 bb cB cN sv i48 cn 0 1 s48).2)))))
theorem f_X7_mend_48_z (zf : Nat → Int32) (bb : Nat) (bn : Nat) (cn : Nat) (cB : Nat → Nat) (cN : Nat → Nat) (sv : (Nat → Int32)) (i48 : Nat) (v2_48 : Int32) (v3_48 : Int32) (s48 : Nat → Int32) : f_X7_mend_48 zf bb bn cn cB cN sv 0 i48 v2_48 v3_48 s48 = (v2_48, zf, s48, sv) := rfl
theorem f_X7_mend_48_s (zf : Nat → Int32) (bb : Nat) (bn : Nat) (cn : Nat) (cB : Nat → Nat) (cN : Nat → Nat) (sv : (Nat → Int32)) (k48 : Nat) (i48 : Nat) (v2_48 : Int32) (v3_48 : Int32) (s48 : Nat → Int32) : f_X7_mend_48 zf bb bn cn cB cN sv (k48 + 1) i48 v2_48 v3_48 s48 = (if (f_X7_mend_69 bb cB cN sv i48 cn 0 1 s48).1 = 0 then f_X7_mend_48 zf bb bn cn cB cN sv k48 (i48 + 1) v2_48 v3_48 (f_X7_mend_215 sv 259 0 (f_X7_mend_69 bb cB cN sv i48 cn 0 1 s48).2) else (if v2_48 < 0 then f_X7_mend_48 zf bb bn cn cB cN sv k48 (i48 + 1) (nI i48) (f_X7_bits (f_X7_fewestOf (f_X7_mend_69 bb cB cN sv i48 cn 0 1 s48).2 bb bn)) (f_X7_mend_215 sv 259 0 (f_X7_mend_69 bb cB cN sv i48 cn 0 1 s48).2) else (if v3_48 < (f_X7_bits (f_X7_fewestOf (f_X7_mend_69 bb cB cN sv i48 cn 0 1 s48).2 bb bn)) then f_X7_mend_48 zf bb bn cn cB cN sv k48 (i48 + 1) v2_48 v3_48 (f_X7_mend_215 sv 259 0 (f_X7_mend_69 bb cB cN sv i48 cn 0 1 s48).2) else (if (f_X7_bits (f_X7_fewestOf (f_X7_mend_69 bb cB cN sv i48 cn 0 1 s48).2 bb bn)) = v3_48 then (if (f_X7_bits (nI i48)) < (f_X7_bits v2_48) then f_X7_mend_48 zf bb bn cn cB cN sv k48 (i48 + 1) (nI i48) (f_X7_bits (f_X7_fewestOf (f_X7_mend_69 bb cB cN sv i48 cn 0 1 s48).2 bb bn)) (f_X7_mend_215 sv 259 0 (f_X7_mend_69 bb cB cN sv i48 cn 0 1 s48).2) else f_X7_mend_48 zf bb bn cn cB cN sv k48 (i48 + 1) v2_48 v3_48 (f_X7_mend_215 sv 259 0 (f_X7_mend_69 bb cB cN sv i48 cn 0 1 s48).2)) else f_X7_mend_48 zf bb bn cn cB cN sv k48 (i48 + 1) (nI i48) (f_X7_bits (f_X7_fewestOf (f_X7_mend_69 bb cB cN sv i48 cn 0 1 s48).2 bb bn)) (f_X7_mend_215 sv 259 0 (f_X7_mend_69 bb cB cN sv i48 cn 0 1 s48).2))))) := rfl
def f_X7_mend (zf : Nat → Int32) (zs : Nat → Int32) (zv : Nat → Int32) (bb : Nat) (bn : Nat) (cn : Nat) (cM : Nat) (cB : Nat → Nat) (cN : Nat → Nat) : Int32 × (Nat → Int32) × (Nat → Int32) × (Nat → Int32) := (f_X7_mend_48 zf bb bn cn cB cN (f_X7_mend_15 zs 259 0 zv) cM 0 (-9) 0 zs)
def MJ (bb bn : Nat) (s : Nat → Int32) : Prop := s (160 + bb) = nI bn ∧ (∀ t : Nat, t < bn → Rg (s (80 * bb + 4 * t + 2))) ∧ (∀ t : Nat, t < bn → ∃ w : Nat, w < 12 ∧ s (80 * bb + 4 * t) = nI w)
theorem md_cp {zs : Nat → Int32} : ∀ (k i : Nat) (v : Nat → Int32), k + i = 259 → (∀ j : Nat, j < i → v j = zs j) → ∀ j : Nat, j < 259 → f_X7_mend_15 zs k i v j = zs j := by
  intro k
  induction k with
  | zero => intro i v hk h j hj; rw [f_X7_mend_15_z]; exact h j (by omega)
  | succ k ih =>
    intro i v hk h j hj
    rw [f_X7_mend_15_s]
    refine ih (i + 1) _ (by omega) (fun q hq => ?_) j hj
    by_cases c : q = i
    · subst c; rw [pk_us]
    · rw [pk_un c]; exact h q (by omega)
theorem md_15 {zs zv : Nat → Int32} {j : Nat} (hj : j < 259) : f_X7_mend_15 zs 259 0 zv j = zs j := md_cp 259 0 zv rfl (fun q hq => absurd hq (Nat.not_lt_zero _)) j hj
theorem md_cq {sv : Nat → Int32} : ∀ (k i : Nat) (v : Nat → Int32), k + i = 259 → (∀ j : Nat, j < i → v j = sv j) → ∀ j : Nat, j < 259 → f_X7_mend_215 sv k i v j = sv j := by
  intro k
  induction k with
  | zero => intro i v hk h j hj; rw [f_X7_mend_215_z]; exact h j (by omega)
  | succ k ih =>
    intro i v hk h j hj
    rw [f_X7_mend_215_s]
    refine ih (i + 1) _ (by omega) (fun q hq => ?_) j hj
    by_cases c : q = i
    · subst c; rw [pk_us]
    · rw [pk_un c]; exact h q (by omega)
theorem md_215 {sv zv : Nat → Int32} {j : Nat} (hj : j < 259) : f_X7_mend_215 sv 259 0 zv j = sv j := md_cq 259 0 zv rfl (fun q hq => absurd hq (Nat.not_lt_zero _)) j hj
theorem mj_0 {zs s : Nat → Int32} {bb bn : Nat} (hbb : bb < 2) (hb2 : bn ≤ 20) (hbn : zs (160 + bb) = nI bn) (hnd : ∀ t : Nat, t < bn → Rg (zs (80 * bb + 4 * t + 2))) (hwd : ∀ t : Nat, t < bn → ∃ w : Nat, w < 12 ∧ zs (80 * bb + 4 * t) = nI w) (he : ∀ j : Nat, j < 259 → s j = zs j) : MJ bb bn s := by
  refine ⟨by rw [he _ (by omega)]; exact hbn, fun t ht => by rw [he _ (by omega)]; exact hnd t ht, fun t ht => by rw [he _ (by omega)]; exact hwd t ht⟩
theorem mj_upd {s : Nat → Int32} {bb bn B N k : Nat} {x : Int32} (h : MJ bb bn s) (hbb : bb < 2) (hb2 : bn ≤ 20) (hB : B < 2) (hN : N < 20) (hk : k < 4) (hw : k = 0 → ∃ w : Nat, w < 12 ∧ x = nI w) (hr : k = 2 → Rg x) : MJ bb bn (upd s (80 * B + (4 * N) + k) x) := by
  refine ⟨by rw [pk_un (by omega)]; exact h.1, fun t ht => ?_, fun t ht => ?_⟩
  · by_cases c : 80 * bb + 4 * t + 2 = 80 * B + (4 * N) + k
    · rw [c, pk_us]; exact hr (by omega)
    · rw [pk_un c]; exact h.2.1 t ht
  · by_cases c : 80 * bb + 4 * t = 80 * B + (4 * N) + k
    · rw [c, pk_us]; exact hw (by omega)
    · rw [pk_un c]; exact h.2.2 t ht
theorem md_132 {sv : Nat → Int32} {bb bn c : Nat} {cB cN : Nat → Nat} (hbb : bb < 2) (hb2 : bn ≤ 20) (hB : cB c < 2) (hN : cN c < 20) (hw : ∀ q : Nat, q = 0 → ∃ w : Nat, w < 12 ∧ sv (234 + 6 * c + 2 + q) = nI w) (hr : ∀ q : Nat, q = 2 → Rg (sv (234 + 6 * c + 2 + q))) : ∀ (k i : Nat) (s : Nat → Int32), k + i = 4 → MJ bb bn s → MJ bb bn (f_X7_mend_132 cB cN sv c k i s) := by
  intro k
  induction k with
  | zero => intro i s _ h; rw [f_X7_mend_132_z]; exact h
  | succ k ih =>
    intro i s hk h
    rw [f_X7_mend_132_s]
    exact ih (i + 1) _ (by omega) (mj_upd h hbb hb2 hB hN (by omega) (fun e => hw i e) (fun e => hr i e))
theorem md_69 {zs sv : Nat → Int32} {bb bn cn st : Nat} {cB cN : Nat → Nat} (hbb : bb < 2) (hb2 : bn ≤ 20) (hsv : ∀ j : Nat, j < 259 → sv j = zs j) (hch : ∀ c : Nat, c < cn → zs (234 + 6 * c) = nI (cB c) ∧ cB c < 2 ∧ zs (234 + 6 * c + 1) = nI (cN c) ∧ cN c < 20) (hct : ∀ c : Nat, c < cn → (∃ w : Nat, w < 12 ∧ zs (234 + 6 * c + 2) = nI w) ∧ Rg (zs (234 + 6 * c + 4))) (hc4 : cn ≤ 4) : ∀ (k i : Nat) (a : Int32) (s : Nat → Int32), k + i = cn → MJ bb bn s → MJ bb bn (f_X7_mend_69 bb cB cN sv st k i a s).2 := by
  intro k
  induction k with
  | zero => intro i a s _ h; rw [f_X7_mend_69_z]; exact h
  | succ k ih =>
    intro i a s hk h
    have hi : i < cn := by omega
    have hj := md_132 (sv := sv) hbb hb2 (hch i hi).2.1 (hch i hi).2.2.2 (fun q e => by rw [e, hsv _ (by omega)]; exact (hct i hi).1) (fun q e => by rw [e, hsv _ (by omega)]; exact (hct i hi).2) 4 0 s rfl h
    rw [f_X7_mend_69_s]
    split
    · exact ih _ _ _ (by omega) h
    · split
      · exact ih _ _ _ (by omega) hj
      · split
        · exact ih _ _ _ (by omega) hj
        · exact ih _ _ _ (by omega) hj
set_option maxHeartbeats 4000000 in
set_option maxRecDepth 100000 in
theorem k_X7_mend (l : Launch) (G : wG) (mO : Nat) (mA : Nat) (mS : Nat) (mI : Nat) (mV : Nat) (mT : Nat) (mR : Nat) (mW : Nat) (mN : Nat) (me : Int32) (mz : Nat) (ma : Nat) (mr : Nat) (zf : Nat → Int32) (zs : Nat → Int32) (zv : Nat → Int32) (bb : Nat) (bn : Nat) (cn : Nat) (cM : Nat) (cB : Nat → Nat) (cN : Nat → Nat) (hbb : bb < 2) (hbn : zs (160 + bb) = nI bn) (hb2 : bn ≤ 20) (hnd : ∀ t : Nat, t < bn → Rg (zs (80 * bb + 4 * t + 2))) (hwd : ∀ t : Nat, t < bn → ∃ w : Nat, w < 12 ∧ zs (80 * bb + 4 * t) = nI w) (hcn : zs 258 = nI cn) (hc4 : cn ≤ 4) (hcM : (1 : Int32) <<< (nI cn &&& 31) = nI cM) (hcM6 : cM ≤ 16) (hch : ∀ c : Nat, c < cn → zs (234 + 6 * c) = nI (cB c) ∧ cB c < 2 ∧ zs (234 + 6 * c + 1) = nI (cN c) ∧ cN c < 20) (hct : ∀ c : Nat, c < cn → (∃ w : Nat, w < 12 ∧ zs (234 + 6 * c + 2) = nI w) ∧ Rg (zs (234 + 6 * c + 4))) : CT l G yX7_mend cX7_mend 9 (some .int) ({ frames := 6, cells := 0, slots := 0, locals := 142 }) [.ref mO, .int (nI bb)] [(mO, .inr (7, [.ref mA, .ref mS, .ref mI, .ref mV, .int me, .ref mT, .ref mR, .int (nI mz), .int (nI ma), .ref mW, .int (nI mr), .ref mN])), (mA, .inl (G.2.1, 7, .inl zf)), (mS, .inl (G.2.1, 259, .inl zs)), (mV, .inl (G.2.1, 259, .inl zv))] (fun u => [(mO, .inr (7, [.ref mA, .ref mS, .ref mI, .ref mV, .int me, .ref mT, .ref mR, .int (nI mz), .int (nI ma), .ref mW, .int (nI mr), .ref mN])), (mA, .inl (G.2.1, 7, .inl u.2.1)), (mS, .inl (G.2.1, 259, .inl u.2.2.1)), (mV, .inl (G.2.1, 259, .inl u.2.2.2))]) (fun u => some (.int u.1)) (f_X7_mend zf zs zv bb bn cn cM cB cN) := by
  obtain ⟨R, hf⟩ : ∃ R, f_X7_mend zf zs zv bb bn cn cM cB cN = R := ⟨_, rfl⟩
  rw [hf]
  refine CT.mkI RX7 (by decide +kernel) rfl (Nat.le_of_ble_eq_true rfl) ?_
  intro p e s m args below meth c A Q ls hx hb hml hown hK hP hD hS hA hret hl
  have hl : lv_has ls 9 [(0, .ref mO), (1, .int (nI bb))] := hl
  rw [f_X7_mend] at hf
  refine lv_iload_n hx hb dX7_mend_0 rfl (lv_at hl 1 rfl) ?_
  refine cl_S (ws' := [(mO, .inr (7, [.ref mA, .ref mS, .ref mI, .ref mV, .int me, .ref mT, .ref mR, .int (nI mz), .int (nI ma), .ref mW, .int (nI mr), .ref mN])), (mA, .inl (G.2.1, 7, .inl zf)), (mS, .inl (G.2.1, 259, .inl zs)), (mV, .inl (G.2.1, 259, .inl zv))]) (v := (some (.int (f_X7_isBook (nI bb))))) (st1 := [.int (f_X7_isBook (nI bb))]) (rest := []) (As := [.int (nI bb)]) [] hx hb hml hown hK (k_X7_isBook l G (nI bb) ) (mf_X7_isBook hK.2) (kw_728 hK.2) (kw_727 hK.2) ⟨rfl, rfl, Nat.le_of_ble_eq_true rfl, Nat.le_of_ble_eq_true rfl⟩ rfl hP hD hS hA hl (Nat.le_of_ble_eq_true rfl) rfl ⟨Nat.le_of_ble_eq_true rfl, Nat.le_of_ble_eq_true rfl⟩ rfl dX7_mend_1 rfl rfl rfl rfl rfl rfl (fun H locs hP hD hS => ?_)
  refine lv_if_ne (tgt := 13) hx hb dX7_mend_4 (by decide) (fun _ => ?_) (fun c => absurd c (isBook7 hbb))
  refine lv_iconst (v := 0) hx hb dX7_mend_13 (by decide) ?_
  refine lv_istore_n (lv' := [(2, .int 0), (0, .ref mO), (1, .int (nI bb))]) hx hb dX7_mend_14 rfl hl (by decide) rfl (fun ls hl => ?_)
  obtain ⟨sv, hsv⟩ : ∃ r : (Nat → Int32), f_X7_mend_15 zs 259 0 zv = r := ⟨_, rfl⟩
  (try rw [hsv] at hf)
  have X15 : ∀ (H : Heap) (locs : List Loc) (ls : Array Slot), va_P G.1 wcl [(mO, .inr (7, [.ref mA, .ref mS, .ref mI, .ref mV, .int me, .ref mT, .ref mR, .int (nI mz), .int (nI ma), .ref mW, .int (nI mr), .ref mN])), (mA, .inl (G.2.1, 7, .inl zf)), (mS, .inl (G.2.1, 259, .inl zs)), (mV, .inl (G.2.1, 259, .inl sv))] H → va_D A [(mO, .inr (7, [.ref mA, .ref mS, .ref mI, .ref mV, .int me, .ref mT, .ref mR, .int (nI mz), .int (nI ma), .ref mW, .int (nI mr), .ref mN])), (mA, .inl (G.2.1, 7, .inl zf)), (mS, .inl (G.2.1, 259, .inl zs)), (mV, .inl (G.2.1, 259, .inl sv))] → va_S A s.heap H locs → lv_has ls 9 [(0, .ref mO), (1, .int (nI bb))] → W p l e ({ frames := 6, cells := 0, slots := 0, locals := 142 }) s m args below meth c H locs 0 0 Q (F0 m 40 ls []) := by
    intro H locs ls hP hD hS hl
    have hsvE : ∀ j : Nat, j < 259 → sv j = zs j := by
      intro j hj
      rw [← hsv]
      exact md_15 hj
    refine lv_bipush (v := -9) hx hb dX7_mend_40 (by decide) ?_
    refine lv_istore_n (lv' := [(2, .int (-9)), (0, .ref mO), (1, .int (nI bb))]) hx hb dX7_mend_42 rfl hl (by decide) rfl (fun ls hl => ?_)
    refine lv_iconst (v := 0) hx hb dX7_mend_43 (by decide) ?_
    refine lv_istore_n (lv' := [(3, .int 0), (2, .int (-9)), (0, .ref mO), (1, .int (nI bb))]) hx hb dX7_mend_44 rfl hl (by decide) rfl (fun ls hl => ?_)
    refine lv_iconst (v := 0) hx hb dX7_mend_45 (by decide) ?_
    refine lv_istore (lv' := [(4, .int 0), (3, .int 0), (2, .int (-9)), (0, .ref mO), (1, .int (nI bb))]) hx hb dX7_mend_46 hl (by decide) rfl (fun ls hl => ?_)
    have L48 : ∀ (k48 : Nat) (i48 : Nat) (v2_48 : Int32) (v3_48 : Int32) (s48 : Nat → Int32), k48 + i48 = cM → (∀ j : Nat, j < 259 → s48 j = zs j) → (v2_48 < 0 ∨ Rg v2_48) → f_X7_mend_48 zf bb bn cn cB cN sv k48 i48 v2_48 v3_48 s48 = R → ∀ (H : Heap) (locs : List Loc) (ls : Array Slot), va_P G.1 wcl [(mO, .inr (7, [.ref mA, .ref mS, .ref mI, .ref mV, .int me, .ref mT, .ref mR, .int (nI mz), .int (nI ma), .ref mW, .int (nI mr), .ref mN])), (mA, .inl (G.2.1, 7, .inl zf)), (mS, .inl (G.2.1, 259, .inl s48)), (mV, .inl (G.2.1, 259, .inl sv))] H → va_D A [(mO, .inr (7, [.ref mA, .ref mS, .ref mI, .ref mV, .int me, .ref mT, .ref mR, .int (nI mz), .int (nI ma), .ref mW, .int (nI mr), .ref mN])), (mA, .inl (G.2.1, 7, .inl zf)), (mS, .inl (G.2.1, 259, .inl s48)), (mV, .inl (G.2.1, 259, .inl sv))] → va_S A s.heap H locs → lv_has ls 9 [(0, .ref mO), (1, .int (nI bb)), (2, .int v2_48), (3, .int v3_48), (4, .int (nI i48))] → W p l e ({ frames := 6, cells := 0, slots := 0, locals := 142 }) s m args below meth c H locs 0 0 Q (F0 m 48 ls []) := by
      intro k48
      induction k48 with
      | zero =>
        intro i48 v2_48 v3_48 s48 hi48 hs48 hbe hf _ _ ls hP hD hS hl
        rw [f_X7_mend_48_z] at hf
        refine lv_iload hx hb dX7_mend_48 (lv_at hl 4 rfl) ?_
        refine lv_iconst (v := 1) hx hb dX7_mend_50 (by decide) ?_
        refine lv_aload_n hx hb dX7_mend_51 rfl (lv_at hl 0 rfl) ?_
        refine va_get (D := G.1) (ci := 7) (v := .ref mV) (C := RX7) (T := TX7) (N := 12) hx hb (ku_X7 hK.2) (fun _ h9 => h9) hown hK.1 hP 0 rfl rfl 3 (by decide) (kw_680 hK.2) (fun _ h9 => h9) rfl dX7_mend_52 ?_
        refine lv_sipush (v := 258) hx hb dX7_mend_55 (by decide) ?_
        refine ww_e (rfl : (258 : Int32) = nI 258) ?_
        refine ww_ild (j := 258) hx hb hK.1 hP 3 0 rfl rfl (by omega) (by omega) dX7_mend_58 ?_
        refine ww_e ((hsvE 258 (by decide)).trans hcn) ?_
        refine lv_ishl hx hb dX7_mend_59 ?_
        refine ww_e hcM ?_
        refine lv_icmp_ge (tgt := 291) hx hb dX7_mend_60 (by decide) (fun _ => ?_) (fun c => absurd (ile (a := cM) (b := i48) rfl rfl (by omega) (by omega) (by omega)) c)
        refine lv_iload_n hx hb dX7_mend_291 rfl (lv_at hl 2 rfl) ?_
        exact hret (v2_48, zf, s48, sv) dX7_mend_292 rfl hf rfl hP hS
      | succ k48 ih48 =>
        intro i48 v2_48 v3_48 s48 hi48 hs48 hbe hf _ _ ls hP hD hS hl
        rw [f_X7_mend_48_s] at hf
        refine lv_iload hx hb dX7_mend_48 (lv_at hl 4 rfl) ?_
        refine lv_iconst (v := 1) hx hb dX7_mend_50 (by decide) ?_
        refine lv_aload_n hx hb dX7_mend_51 rfl (lv_at hl 0 rfl) ?_
        refine va_get (D := G.1) (ci := 7) (v := .ref mV) (C := RX7) (T := TX7) (N := 12) hx hb (ku_X7 hK.2) (fun _ h9 => h9) hown hK.1 hP 0 rfl rfl 3 (by decide) (kw_680 hK.2) (fun _ h9 => h9) rfl dX7_mend_52 ?_
        refine lv_sipush (v := 258) hx hb dX7_mend_55 (by decide) ?_
        refine ww_e (rfl : (258 : Int32) = nI 258) ?_
        refine ww_ild (j := 258) hx hb hK.1 hP 3 0 rfl rfl (by omega) (by omega) dX7_mend_58 ?_
        refine ww_e ((hsvE 258 (by decide)).trans hcn) ?_
        refine lv_ishl hx hb dX7_mend_59 ?_
        refine ww_e hcM ?_
        refine lv_icmp_ge (tgt := 291) hx hb dX7_mend_60 (by decide) (fun c => absurd c (inle (a := cM) (b := i48) rfl rfl (by omega) (by omega) (by omega))) (fun _ => ?_)
        refine lv_iconst (v := 1) hx hb dX7_mend_63 (by decide) ?_
        refine lv_istore (lv' := [(5, .int 1), (0, .ref mO), (1, .int (nI bb)), (2, .int v2_48), (3, .int v3_48), (4, .int (nI i48))]) hx hb dX7_mend_64 hl (by decide) rfl (fun ls hl => ?_)
        refine lv_iconst (v := 0) hx hb dX7_mend_66 (by decide) ?_
        refine lv_istore (lv' := [(6, .int 0), (5, .int 1), (0, .ref mO), (1, .int (nI bb)), (2, .int v2_48), (3, .int v3_48), (4, .int (nI i48))]) hx hb dX7_mend_67 hl (by decide) rfl (fun ls hl => ?_)
        obtain ⟨mb, hmb⟩ : ∃ r : Int32 × (Nat → Int32), f_X7_mend_69 bb cB cN sv i48 cn 0 1 s48 = r := ⟨_, rfl⟩
        (try rw [hmb] at hf)
        have X69 : ∀ (H : Heap) (locs : List Loc) (ls : Array Slot), va_P G.1 wcl [(mO, .inr (7, [.ref mA, .ref mS, .ref mI, .ref mV, .int me, .ref mT, .ref mR, .int (nI mz), .int (nI ma), .ref mW, .int (nI mr), .ref mN])), (mA, .inl (G.2.1, 7, .inl zf)), (mS, .inl (G.2.1, 259, .inl mb.2)), (mV, .inl (G.2.1, 259, .inl sv))] H → va_D A [(mO, .inr (7, [.ref mA, .ref mS, .ref mI, .ref mV, .int me, .ref mT, .ref mR, .int (nI mz), .int (nI ma), .ref mW, .int (nI mr), .ref mN])), (mA, .inl (G.2.1, 7, .inl zf)), (mS, .inl (G.2.1, 259, .inl mb.2)), (mV, .inl (G.2.1, 259, .inl sv))] → va_S A s.heap H locs → lv_has ls 9 [(0, .ref mO), (1, .int (nI bb)), (2, .int v2_48), (3, .int v3_48), (4, .int (nI i48)), (5, .int mb.1)] → W p l e ({ frames := 6, cells := 0, slots := 0, locals := 142 }) s m args below meth c H locs 0 0 Q (F0 m 192 ls []) := by
          intro H locs ls hP hD hS hl
          have hmJ : MJ bb bn mb.2 := by rw [← hmb]; exact md_69 hbb (by assumption) hsvE hch hct hc4 cn 0 _ _ (by omega) (mj_0 hbb (by assumption) hbn hnd hwd hs48)
          refine lv_iload hx hb dX7_mend_192 (lv_at hl 5 rfl) ?_
          refine lv_if_eq (tgt := 208) hx hb dX7_mend_194 (by decide) (fun c4 => ?_) (fun c4 => ?_)
          · have hf := (if_pos c4).symm.trans hf
            refine lv_bipush (v := 99) hx hb dX7_mend_208 (by decide) ?_
            refine lv_istore (lv' := [(6, .int 99), (0, .ref mO), (1, .int (nI bb)), (2, .int v2_48), (3, .int v3_48), (4, .int (nI i48)), (5, .int mb.1)]) hx hb dX7_mend_210 hl (by decide) rfl (fun ls hl => ?_)
            refine lv_iconst (v := 0) hx hb dX7_mend_212 (by decide) ?_
            refine lv_istore (lv' := [(7, .int 0), (6, .int 99), (0, .ref mO), (1, .int (nI bb)), (2, .int v2_48), (3, .int v3_48), (4, .int (nI i48)), (5, .int mb.1)]) hx hb dX7_mend_213 hl (by decide) rfl (fun ls hl => ?_)
            obtain ⟨sr, hsr⟩ : ∃ r : (Nat → Int32), f_X7_mend_215 sv 259 0 mb.2 = r := ⟨_, rfl⟩
            (try rw [hsr] at hf)
            have X215 : ∀ (H : Heap) (locs : List Loc) (ls : Array Slot), va_P G.1 wcl [(mO, .inr (7, [.ref mA, .ref mS, .ref mI, .ref mV, .int me, .ref mT, .ref mR, .int (nI mz), .int (nI ma), .ref mW, .int (nI mr), .ref mN])), (mA, .inl (G.2.1, 7, .inl zf)), (mS, .inl (G.2.1, 259, .inl sr)), (mV, .inl (G.2.1, 259, .inl sv))] H → va_D A [(mO, .inr (7, [.ref mA, .ref mS, .ref mI, .ref mV, .int me, .ref mT, .ref mR, .int (nI mz), .int (nI ma), .ref mW, .int (nI mr), .ref mN])), (mA, .inl (G.2.1, 7, .inl zf)), (mS, .inl (G.2.1, 259, .inl sr)), (mV, .inl (G.2.1, 259, .inl sv))] → va_S A s.heap H locs → lv_has ls 9 [(0, .ref mO), (1, .int (nI bb)), (2, .int v2_48), (3, .int v3_48), (4, .int (nI i48)), (5, .int mb.1), (6, .int 99)] → W p l e ({ frames := 6, cells := 0, slots := 0, locals := 142 }) s m args below meth c H locs 0 0 Q (F0 m 243 ls []) := by
              intro H locs ls hP hD hS hl
              have hsrE : ∀ j : Nat, j < 259 → sr j = zs j := by
                intro j hj
                rw [← hsr, md_215 hj]
                exact hsvE j hj
              refine lv_iload hx hb dX7_mend_243 (lv_at hl 5 rfl) ?_
              refine lv_if_eq (tgt := 285) hx hb dX7_mend_245 (by decide) (fun _ => ?_) (fun c => absurd c4 c)
              refine lv_iinc (v := nI (i48 + 1)) (lv' := [(4, .int (nI (i48 + 1))), (0, .ref mO), (1, .int (nI bb)), (2, .int v2_48), (3, .int v3_48), (5, .int mb.1), (6, .int 99)]) hx hb dX7_mend_285 hl (k := 4) rfl (nI_1 i48) (by decide) rfl (fun ls hl => ?_)
              refine lv_goto (tgt := 48) hx hb dX7_mend_288 (by decide) ?_
              exact ih48 (i48 + 1) v2_48 v3_48 sr (by omega) hsrE (by first | exact hbe | exact Or.inr (Rg_of (by omega))) hf _ _ ls hP hD hS (lv_sub hl [1, 2, 3, 4, 0] rfl)
            have L215 : ∀ (k215 : Nat) (i215 : Nat) (s215 : Nat → Int32), k215 + i215 = 259 → f_X7_mend_215 sv k215 i215 s215 = sr → ∀ (H : Heap) (locs : List Loc) (ls : Array Slot), va_P G.1 wcl [(mO, .inr (7, [.ref mA, .ref mS, .ref mI, .ref mV, .int me, .ref mT, .ref mR, .int (nI mz), .int (nI ma), .ref mW, .int (nI mr), .ref mN])), (mA, .inl (G.2.1, 7, .inl zf)), (mS, .inl (G.2.1, 259, .inl s215)), (mV, .inl (G.2.1, 259, .inl sv))] H → va_D A [(mO, .inr (7, [.ref mA, .ref mS, .ref mI, .ref mV, .int me, .ref mT, .ref mR, .int (nI mz), .int (nI ma), .ref mW, .int (nI mr), .ref mN])), (mA, .inl (G.2.1, 7, .inl zf)), (mS, .inl (G.2.1, 259, .inl s215)), (mV, .inl (G.2.1, 259, .inl sv))] → va_S A s.heap H locs → lv_has ls 9 [(0, .ref mO), (1, .int (nI bb)), (2, .int v2_48), (3, .int v3_48), (4, .int (nI i48)), (5, .int mb.1), (6, .int 99), (7, .int (nI i215))] → W p l e ({ frames := 6, cells := 0, slots := 0, locals := 142 }) s m args below meth c H locs 0 0 Q (F0 m 215 ls []) := by
              intro k215
              induction k215 with
              | zero =>
                intro i215 s215 hi215  hf _ _ ls hP hD hS hl
                rw [f_X7_mend_215_z] at hf
                refine lv_iload hx hb dX7_mend_215 (lv_at hl 7 rfl) ?_
                refine lv_sipush (v := 259) hx hb dX7_mend_217 (by decide) ?_
                refine lv_icmp_ge (tgt := 243) hx hb dX7_mend_220 (by decide) (fun _ => ?_) (fun c => absurd (ile (a := 259) (b := i215) rfl rfl (by omega) (by omega) (by omega)) c)
                exact X215 _ _ ls (by first | exact hP | (rw [← hf]; exact hP)) (by first | exact hD | (rw [← hf]; exact hD)) hS (by first | exact (lv_sub hl [0, 1, 2, 3, 4, 5, 6] rfl) | (rw [← hf]; exact (lv_sub hl [0, 1, 2, 3, 4, 5, 6] rfl)))
              | succ k215 ih215 =>
                intro i215 s215 hi215  hf _ _ ls hP hD hS hl
                rw [f_X7_mend_215_s] at hf
                refine lv_iload hx hb dX7_mend_215 (lv_at hl 7 rfl) ?_
                refine lv_sipush (v := 259) hx hb dX7_mend_217 (by decide) ?_
                refine lv_icmp_ge (tgt := 243) hx hb dX7_mend_220 (by decide) (fun c => absurd c (inle (a := 259) (b := i215) rfl rfl (by omega) (by omega) (by omega))) (fun _ => ?_)
                refine lv_aload_n hx hb dX7_mend_223 rfl (lv_at hl 0 rfl) ?_
                refine va_get (D := G.1) (ci := 7) (v := .ref mS) (C := RX7) (T := TX7) (N := 12) hx hb (ku_X7 hK.2) (fun _ h9 => h9) hown hK.1 hP 0 rfl rfl 1 (by decide) (kw_678 hK.2) (fun _ h9 => h9) rfl dX7_mend_224 ?_
                refine lv_iload hx hb dX7_mend_227 (lv_at hl 7 rfl) ?_
                refine lv_aload_n hx hb dX7_mend_229 rfl (lv_at hl 0 rfl) ?_
                refine va_get (D := G.1) (ci := 7) (v := .ref mV) (C := RX7) (T := TX7) (N := 12) hx hb (ku_X7 hK.2) (fun _ h9 => h9) hown hK.1 hP 0 rfl rfl 3 (by decide) (kw_680 hK.2) (fun _ h9 => h9) rfl dX7_mend_230 ?_
                refine lv_iload hx hb dX7_mend_233 (lv_at hl 7 rfl) ?_
                refine ww_ild (j := i215) hx hb hK.1 hP 3 0 rfl rfl (by omega) (by omega) dX7_mend_235 ?_
                refine ww_ist (j := i215) hx hb hK.1 hP hD hS 2 0 rfl rfl (by omega) (by omega) dX7_mend_236 (fun H locs hP hD hS => ?_)
                have hP : va_P G.1 wcl [(mO, .inr (7, [.ref mA, .ref mS, .ref mI, .ref mV, .int me, .ref mT, .ref mR, .int (nI mz), .int (nI ma), .ref mW, .int (nI mr), .ref mN])), (mA, .inl (G.2.1, 7, .inl zf)), (mS, .inl (G.2.1, 259, .inl (upd s215 i215 (sv i215)))), (mV, .inl (G.2.1, 259, .inl sv))] H := hP
                have hD : va_D A [(mO, .inr (7, [.ref mA, .ref mS, .ref mI, .ref mV, .int me, .ref mT, .ref mR, .int (nI mz), .int (nI ma), .ref mW, .int (nI mr), .ref mN])), (mA, .inl (G.2.1, 7, .inl zf)), (mS, .inl (G.2.1, 259, .inl (upd s215 i215 (sv i215)))), (mV, .inl (G.2.1, 259, .inl sv))] := hD
                refine lv_iinc (v := nI (i215 + 1)) (lv' := [(7, .int (nI (i215 + 1))), (0, .ref mO), (1, .int (nI bb)), (2, .int v2_48), (3, .int v3_48), (4, .int (nI i48)), (5, .int mb.1), (6, .int 99)]) hx hb dX7_mend_237 hl (k := 7) rfl (nI_1 i215) (by decide) rfl (fun ls hl => ?_)
                refine lv_goto (tgt := 215) hx hb dX7_mend_240 (by decide) ?_
                exact ih215 (i215 + 1) (upd s215 i215 (sv i215)) (by omega)  hf _ _ ls hP hD hS (lv_sub hl [1, 2, 3, 4, 5, 6, 7, 0] rfl)
            exact L215 259 0 mb.2 (by omega)  hsr _ _ ls hP hD hS (lv_sub hl [2, 3, 4, 5, 6, 7, 1, 0] rfl)
          · have hf := (if_neg c4).symm.trans hf
            refine lv_aload_n hx hb dX7_mend_197 rfl (lv_at hl 0 rfl) ?_
            refine lv_iload_n hx hb dX7_mend_198 rfl (lv_at hl 1 rfl) ?_
            obtain ⟨fw1, hfw1⟩ : ∃ r : Int32, f_X7_fewestOf mb.2 bb bn = r := ⟨_, rfl⟩
            (try rw [hfw1] at hf)
            refine cl_V (q := (RX7, TX7, 12)) (ws' := [(mO, .inr (7, [.ref mA, .ref mS, .ref mI, .ref mV, .int me, .ref mT, .ref mR, .int (nI mz), .int (nI ma), .ref mW, .int (nI mr), .ref mN])), (mA, .inl (G.2.1, 7, .inl zf)), (mS, .inl (G.2.1, 259, .inl mb.2)), (mV, .inl (G.2.1, 259, .inl sv))]) (v := (some (.int fw1))) (st1 := [.int fw1]) (rest := []) (As := [.int (nI bb)]) [0, 2] 0 7 hx hb hml hown hK (CT_nm hfw1 (k_X7_fewestOf l G mO mA mS mI mV mT mR mW mN me mz ma mr mb.2 bb bn hbb hmJ.1 (by assumption) hmJ.2.1 hmJ.2.2)) (mf_X7_fewestOf hK.2) (kw_848 hK.2) (kw_25 hK.2) (kw_846 hK.2) ⟨rfl, rfl, Nat.le_of_ble_eq_true rfl, Nat.le_of_ble_eq_true rfl⟩ rfl hP hD hS hA rfl rfl hl (Nat.le_of_ble_eq_true rfl) rfl ⟨Nat.le_of_ble_eq_true rfl, Nat.le_of_ble_eq_true rfl⟩ rfl dX7_mend_199 rfl rfl (rpl_fast (by decide) rfl rfl) rfl rfl rfl (fun H locs hP hD hS => ?_)
            refine cl_S (ws' := [(mO, .inr (7, [.ref mA, .ref mS, .ref mI, .ref mV, .int me, .ref mT, .ref mR, .int (nI mz), .int (nI ma), .ref mW, .int (nI mr), .ref mN])), (mA, .inl (G.2.1, 7, .inl zf)), (mS, .inl (G.2.1, 259, .inl mb.2)), (mV, .inl (G.2.1, 259, .inl sv))]) (v := (some (.int (f_X7_bits fw1)))) (st1 := [.int (f_X7_bits fw1)]) (rest := []) (As := [.int fw1]) [] hx hb hml hown hK (k_X7_bits l G fw1 (by rw [← hfw1]; exact Rg_few)) (mf_X7_bits hK.2) (kw_792 hK.2) (kw_791 hK.2) ⟨rfl, rfl, Nat.le_of_ble_eq_true rfl, Nat.le_of_ble_eq_true rfl⟩ rfl hP hD hS hA hl (Nat.le_of_ble_eq_true rfl) rfl ⟨Nat.le_of_ble_eq_true rfl, Nat.le_of_ble_eq_true rfl⟩ rfl dX7_mend_202 rfl rfl rfl rfl rfl rfl (fun H locs hP hD hS => ?_)
            refine lv_goto (tgt := 210) hx hb dX7_mend_205 (by decide) ?_
            refine lv_istore (lv' := [(6, .int (f_X7_bits fw1)), (0, .ref mO), (1, .int (nI bb)), (2, .int v2_48), (3, .int v3_48), (4, .int (nI i48)), (5, .int mb.1)]) hx hb dX7_mend_210 hl (by decide) rfl (fun ls hl => ?_)
            refine lv_iconst (v := 0) hx hb dX7_mend_212 (by decide) ?_
            refine lv_istore (lv' := [(7, .int 0), (6, .int (f_X7_bits fw1)), (0, .ref mO), (1, .int (nI bb)), (2, .int v2_48), (3, .int v3_48), (4, .int (nI i48)), (5, .int mb.1)]) hx hb dX7_mend_213 hl (by decide) rfl (fun ls hl => ?_)
            obtain ⟨sr, hsr⟩ : ∃ r : (Nat → Int32), f_X7_mend_215 sv 259 0 mb.2 = r := ⟨_, rfl⟩
            (try rw [hsr] at hf)
            have X215 : ∀ (H : Heap) (locs : List Loc) (ls : Array Slot), va_P G.1 wcl [(mO, .inr (7, [.ref mA, .ref mS, .ref mI, .ref mV, .int me, .ref mT, .ref mR, .int (nI mz), .int (nI ma), .ref mW, .int (nI mr), .ref mN])), (mA, .inl (G.2.1, 7, .inl zf)), (mS, .inl (G.2.1, 259, .inl sr)), (mV, .inl (G.2.1, 259, .inl sv))] H → va_D A [(mO, .inr (7, [.ref mA, .ref mS, .ref mI, .ref mV, .int me, .ref mT, .ref mR, .int (nI mz), .int (nI ma), .ref mW, .int (nI mr), .ref mN])), (mA, .inl (G.2.1, 7, .inl zf)), (mS, .inl (G.2.1, 259, .inl sr)), (mV, .inl (G.2.1, 259, .inl sv))] → va_S A s.heap H locs → lv_has ls 9 [(0, .ref mO), (1, .int (nI bb)), (2, .int v2_48), (3, .int v3_48), (4, .int (nI i48)), (5, .int mb.1), (6, .int (f_X7_bits fw1))] → W p l e ({ frames := 6, cells := 0, slots := 0, locals := 142 }) s m args below meth c H locs 0 0 Q (F0 m 243 ls []) := by
              intro H locs ls hP hD hS hl
              have hsrE : ∀ j : Nat, j < 259 → sr j = zs j := by
                intro j hj
                rw [← hsr, md_215 hj]
                exact hsvE j hj
              refine lv_iload hx hb dX7_mend_243 (lv_at hl 5 rfl) ?_
              refine lv_if_eq (tgt := 285) hx hb dX7_mend_245 (by decide) (fun c => absurd c c4) (fun _ => ?_)
              refine lv_iload_n hx hb dX7_mend_248 rfl (lv_at hl 2 rfl) ?_
              refine lv_if_lt (tgt := 279) hx hb dX7_mend_249 (by decide) (fun c5 => ?_) (fun c5 => ?_)
              · have hf := (if_pos c5).symm.trans hf
                refine lv_iload hx hb dX7_mend_279 (lv_at hl 4 rfl) ?_
                refine lv_istore_n (lv' := [(2, .int (nI i48)), (0, .ref mO), (1, .int (nI bb)), (3, .int v3_48), (4, .int (nI i48)), (5, .int mb.1), (6, .int (f_X7_bits fw1))]) hx hb dX7_mend_281 rfl hl (by decide) rfl (fun ls hl => ?_)
                refine lv_iload hx hb dX7_mend_282 (lv_at hl 6 rfl) ?_
                refine lv_istore_n (lv' := [(3, .int (f_X7_bits fw1)), (2, .int (nI i48)), (0, .ref mO), (1, .int (nI bb)), (4, .int (nI i48)), (5, .int mb.1), (6, .int (f_X7_bits fw1))]) hx hb dX7_mend_284 rfl hl (by decide) rfl (fun ls hl => ?_)
                refine lv_iinc (v := nI (i48 + 1)) (lv' := [(4, .int (nI (i48 + 1))), (3, .int (f_X7_bits fw1)), (2, .int (nI i48)), (0, .ref mO), (1, .int (nI bb)), (5, .int mb.1), (6, .int (f_X7_bits fw1))]) hx hb dX7_mend_285 hl (k := 4) rfl (nI_1 i48) (by decide) rfl (fun ls hl => ?_)
                refine lv_goto (tgt := 48) hx hb dX7_mend_288 (by decide) ?_
                exact ih48 (i48 + 1) (nI i48) (f_X7_bits fw1) sr (by omega) hsrE (by first | exact hbe | exact Or.inr (Rg_of (by omega))) hf _ _ ls hP hD hS (lv_sub hl [3, 4, 2, 1, 0] rfl)
              · have hf := (if_neg c5).symm.trans hf
                refine lv_iload hx hb dX7_mend_252 (lv_at hl 6 rfl) ?_
                refine lv_iload_n hx hb dX7_mend_254 rfl (lv_at hl 3 rfl) ?_
                refine lv_icmp_gt (tgt := 285) hx hb dX7_mend_255 (by decide) (fun c6 => ?_) (fun c6 => ?_)
                · have hf := (if_pos c6).symm.trans hf
                  refine lv_iinc (v := nI (i48 + 1)) (lv' := [(4, .int (nI (i48 + 1))), (0, .ref mO), (1, .int (nI bb)), (2, .int v2_48), (3, .int v3_48), (5, .int mb.1), (6, .int (f_X7_bits fw1))]) hx hb dX7_mend_285 hl (k := 4) rfl (nI_1 i48) (by decide) rfl (fun ls hl => ?_)
                  refine lv_goto (tgt := 48) hx hb dX7_mend_288 (by decide) ?_
                  exact ih48 (i48 + 1) v2_48 v3_48 sr (by omega) hsrE (by first | exact hbe | exact Or.inr (Rg_of (by omega))) hf _ _ ls hP hD hS (lv_sub hl [1, 2, 3, 4, 0] rfl)
                · have hf := (if_neg c6).symm.trans hf
                  refine lv_iload hx hb dX7_mend_258 (lv_at hl 6 rfl) ?_
                  refine lv_iload_n hx hb dX7_mend_260 rfl (lv_at hl 3 rfl) ?_
                  refine lv_icmp_ne (tgt := 279) hx hb dX7_mend_261 (by decide) (fun c7 => ?_) (fun c7 => ?_)
                  · have hf := (if_neg c7).symm.trans hf
                    refine lv_iload hx hb dX7_mend_279 (lv_at hl 4 rfl) ?_
                    refine lv_istore_n (lv' := [(2, .int (nI i48)), (0, .ref mO), (1, .int (nI bb)), (3, .int v3_48), (4, .int (nI i48)), (5, .int mb.1), (6, .int (f_X7_bits fw1))]) hx hb dX7_mend_281 rfl hl (by decide) rfl (fun ls hl => ?_)
                    refine lv_iload hx hb dX7_mend_282 (lv_at hl 6 rfl) ?_
                    refine lv_istore_n (lv' := [(3, .int (f_X7_bits fw1)), (2, .int (nI i48)), (0, .ref mO), (1, .int (nI bb)), (4, .int (nI i48)), (5, .int mb.1), (6, .int (f_X7_bits fw1))]) hx hb dX7_mend_284 rfl hl (by decide) rfl (fun ls hl => ?_)
                    refine lv_iinc (v := nI (i48 + 1)) (lv' := [(4, .int (nI (i48 + 1))), (3, .int (f_X7_bits fw1)), (2, .int (nI i48)), (0, .ref mO), (1, .int (nI bb)), (5, .int mb.1), (6, .int (f_X7_bits fw1))]) hx hb dX7_mend_285 hl (k := 4) rfl (nI_1 i48) (by decide) rfl (fun ls hl => ?_)
                    refine lv_goto (tgt := 48) hx hb dX7_mend_288 (by decide) ?_
                    exact ih48 (i48 + 1) (nI i48) (f_X7_bits fw1) sr (by omega) hsrE (by first | exact hbe | exact Or.inr (Rg_of (by omega))) hf _ _ ls hP hD hS (lv_sub hl [3, 4, 2, 1, 0] rfl)
                  · have hf := (if_pos c7).symm.trans hf
                    refine lv_iload hx hb dX7_mend_264 (lv_at hl 4 rfl) ?_
                    refine cl_S (ws' := [(mO, .inr (7, [.ref mA, .ref mS, .ref mI, .ref mV, .int me, .ref mT, .ref mR, .int (nI mz), .int (nI ma), .ref mW, .int (nI mr), .ref mN])), (mA, .inl (G.2.1, 7, .inl zf)), (mS, .inl (G.2.1, 259, .inl sr)), (mV, .inl (G.2.1, 259, .inl sv))]) (v := (some (.int (f_X7_bits (nI i48))))) (st1 := [.int (f_X7_bits (nI i48))]) (rest := []) (As := [.int (nI i48)]) [] hx hb hml hown hK (k_X7_bits l G (nI i48) (Rg_of (by omega))) (mf_X7_bits hK.2) (kw_792 hK.2) (kw_791 hK.2) ⟨rfl, rfl, Nat.le_of_ble_eq_true rfl, Nat.le_of_ble_eq_true rfl⟩ rfl hP hD hS hA hl (Nat.le_of_ble_eq_true rfl) rfl ⟨Nat.le_of_ble_eq_true rfl, Nat.le_of_ble_eq_true rfl⟩ rfl dX7_mend_266 rfl rfl rfl rfl rfl rfl (fun H locs hP hD hS => ?_)
                    refine lv_iload_n hx hb dX7_mend_269 rfl (lv_at hl 2 rfl) ?_
                    refine cl_S (ws' := [(mO, .inr (7, [.ref mA, .ref mS, .ref mI, .ref mV, .int me, .ref mT, .ref mR, .int (nI mz), .int (nI ma), .ref mW, .int (nI mr), .ref mN])), (mA, .inl (G.2.1, 7, .inl zf)), (mS, .inl (G.2.1, 259, .inl sr)), (mV, .inl (G.2.1, 259, .inl sv))]) (v := (some (.int (f_X7_bits v2_48)))) (st1 := [.int (f_X7_bits v2_48), .int (f_X7_bits (nI i48))]) (rest := [.int (f_X7_bits (nI i48))]) (As := [.int v2_48]) [] hx hb hml hown hK (k_X7_bits l G v2_48 (hbe.resolve_left c5)) (mf_X7_bits hK.2) (kw_792 hK.2) (kw_791 hK.2) ⟨rfl, rfl, Nat.le_of_ble_eq_true rfl, Nat.le_of_ble_eq_true rfl⟩ rfl hP hD hS hA hl (Nat.le_of_ble_eq_true rfl) rfl ⟨Nat.le_of_ble_eq_true rfl, Nat.le_of_ble_eq_true rfl⟩ rfl dX7_mend_270 rfl rfl rfl rfl rfl rfl (fun H locs hP hD hS => ?_)
                    refine lv_icmp_lt (tgt := 279) hx hb dX7_mend_273 (by decide) (fun c8 => ?_) (fun c8 => ?_)
                    · have hf := (if_pos c8).symm.trans hf
                      refine lv_iload hx hb dX7_mend_279 (lv_at hl 4 rfl) ?_
                      refine lv_istore_n (lv' := [(2, .int (nI i48)), (0, .ref mO), (1, .int (nI bb)), (3, .int v3_48), (4, .int (nI i48)), (5, .int mb.1), (6, .int (f_X7_bits fw1))]) hx hb dX7_mend_281 rfl hl (by decide) rfl (fun ls hl => ?_)
                      refine lv_iload hx hb dX7_mend_282 (lv_at hl 6 rfl) ?_
                      refine lv_istore_n (lv' := [(3, .int (f_X7_bits fw1)), (2, .int (nI i48)), (0, .ref mO), (1, .int (nI bb)), (4, .int (nI i48)), (5, .int mb.1), (6, .int (f_X7_bits fw1))]) hx hb dX7_mend_284 rfl hl (by decide) rfl (fun ls hl => ?_)
                      refine lv_iinc (v := nI (i48 + 1)) (lv' := [(4, .int (nI (i48 + 1))), (3, .int (f_X7_bits fw1)), (2, .int (nI i48)), (0, .ref mO), (1, .int (nI bb)), (5, .int mb.1), (6, .int (f_X7_bits fw1))]) hx hb dX7_mend_285 hl (k := 4) rfl (nI_1 i48) (by decide) rfl (fun ls hl => ?_)
                      refine lv_goto (tgt := 48) hx hb dX7_mend_288 (by decide) ?_
                      exact ih48 (i48 + 1) (nI i48) (f_X7_bits fw1) sr (by omega) hsrE (by first | exact hbe | exact Or.inr (Rg_of (by omega))) hf _ _ ls hP hD hS (lv_sub hl [3, 4, 2, 1, 0] rfl)
                    · have hf := (if_neg c8).symm.trans hf
                      refine lv_goto (tgt := 285) hx hb dX7_mend_276 (by decide) ?_
                      refine lv_iinc (v := nI (i48 + 1)) (lv' := [(4, .int (nI (i48 + 1))), (0, .ref mO), (1, .int (nI bb)), (2, .int v2_48), (3, .int v3_48), (5, .int mb.1), (6, .int (f_X7_bits fw1))]) hx hb dX7_mend_285 hl (k := 4) rfl (nI_1 i48) (by decide) rfl (fun ls hl => ?_)
                      refine lv_goto (tgt := 48) hx hb dX7_mend_288 (by decide) ?_
                      exact ih48 (i48 + 1) v2_48 v3_48 sr (by omega) hsrE (by first | exact hbe | exact Or.inr (Rg_of (by omega))) hf _ _ ls hP hD hS (lv_sub hl [1, 2, 3, 4, 0] rfl)
            have L215 : ∀ (k215 : Nat) (i215 : Nat) (s215 : Nat → Int32), k215 + i215 = 259 → f_X7_mend_215 sv k215 i215 s215 = sr → ∀ (H : Heap) (locs : List Loc) (ls : Array Slot), va_P G.1 wcl [(mO, .inr (7, [.ref mA, .ref mS, .ref mI, .ref mV, .int me, .ref mT, .ref mR, .int (nI mz), .int (nI ma), .ref mW, .int (nI mr), .ref mN])), (mA, .inl (G.2.1, 7, .inl zf)), (mS, .inl (G.2.1, 259, .inl s215)), (mV, .inl (G.2.1, 259, .inl sv))] H → va_D A [(mO, .inr (7, [.ref mA, .ref mS, .ref mI, .ref mV, .int me, .ref mT, .ref mR, .int (nI mz), .int (nI ma), .ref mW, .int (nI mr), .ref mN])), (mA, .inl (G.2.1, 7, .inl zf)), (mS, .inl (G.2.1, 259, .inl s215)), (mV, .inl (G.2.1, 259, .inl sv))] → va_S A s.heap H locs → lv_has ls 9 [(0, .ref mO), (1, .int (nI bb)), (2, .int v2_48), (3, .int v3_48), (4, .int (nI i48)), (5, .int mb.1), (6, .int (f_X7_bits fw1)), (7, .int (nI i215))] → W p l e ({ frames := 6, cells := 0, slots := 0, locals := 142 }) s m args below meth c H locs 0 0 Q (F0 m 215 ls []) := by
              intro k215
              induction k215 with
              | zero =>
                intro i215 s215 hi215  hf _ _ ls hP hD hS hl
                rw [f_X7_mend_215_z] at hf
                refine lv_iload hx hb dX7_mend_215 (lv_at hl 7 rfl) ?_
                refine lv_sipush (v := 259) hx hb dX7_mend_217 (by decide) ?_
                refine lv_icmp_ge (tgt := 243) hx hb dX7_mend_220 (by decide) (fun _ => ?_) (fun c => absurd (ile (a := 259) (b := i215) rfl rfl (by omega) (by omega) (by omega)) c)
                exact X215 _ _ ls (by first | exact hP | (rw [← hf]; exact hP)) (by first | exact hD | (rw [← hf]; exact hD)) hS (by first | exact (lv_sub hl [0, 1, 2, 3, 4, 5, 6] rfl) | (rw [← hf]; exact (lv_sub hl [0, 1, 2, 3, 4, 5, 6] rfl)))
              | succ k215 ih215 =>
                intro i215 s215 hi215  hf _ _ ls hP hD hS hl
                rw [f_X7_mend_215_s] at hf
                refine lv_iload hx hb dX7_mend_215 (lv_at hl 7 rfl) ?_
                refine lv_sipush (v := 259) hx hb dX7_mend_217 (by decide) ?_
                refine lv_icmp_ge (tgt := 243) hx hb dX7_mend_220 (by decide) (fun c => absurd c (inle (a := 259) (b := i215) rfl rfl (by omega) (by omega) (by omega))) (fun _ => ?_)
                refine lv_aload_n hx hb dX7_mend_223 rfl (lv_at hl 0 rfl) ?_
                refine va_get (D := G.1) (ci := 7) (v := .ref mS) (C := RX7) (T := TX7) (N := 12) hx hb (ku_X7 hK.2) (fun _ h9 => h9) hown hK.1 hP 0 rfl rfl 1 (by decide) (kw_678 hK.2) (fun _ h9 => h9) rfl dX7_mend_224 ?_
                refine lv_iload hx hb dX7_mend_227 (lv_at hl 7 rfl) ?_
                refine lv_aload_n hx hb dX7_mend_229 rfl (lv_at hl 0 rfl) ?_
                refine va_get (D := G.1) (ci := 7) (v := .ref mV) (C := RX7) (T := TX7) (N := 12) hx hb (ku_X7 hK.2) (fun _ h9 => h9) hown hK.1 hP 0 rfl rfl 3 (by decide) (kw_680 hK.2) (fun _ h9 => h9) rfl dX7_mend_230 ?_
                refine lv_iload hx hb dX7_mend_233 (lv_at hl 7 rfl) ?_
                refine ww_ild (j := i215) hx hb hK.1 hP 3 0 rfl rfl (by omega) (by omega) dX7_mend_235 ?_
                refine ww_ist (j := i215) hx hb hK.1 hP hD hS 2 0 rfl rfl (by omega) (by omega) dX7_mend_236 (fun H locs hP hD hS => ?_)
                have hP : va_P G.1 wcl [(mO, .inr (7, [.ref mA, .ref mS, .ref mI, .ref mV, .int me, .ref mT, .ref mR, .int (nI mz), .int (nI ma), .ref mW, .int (nI mr), .ref mN])), (mA, .inl (G.2.1, 7, .inl zf)), (mS, .inl (G.2.1, 259, .inl (upd s215 i215 (sv i215)))), (mV, .inl (G.2.1, 259, .inl sv))] H := hP
                have hD : va_D A [(mO, .inr (7, [.ref mA, .ref mS, .ref mI, .ref mV, .int me, .ref mT, .ref mR, .int (nI mz), .int (nI ma), .ref mW, .int (nI mr), .ref mN])), (mA, .inl (G.2.1, 7, .inl zf)), (mS, .inl (G.2.1, 259, .inl (upd s215 i215 (sv i215)))), (mV, .inl (G.2.1, 259, .inl sv))] := hD
                refine lv_iinc (v := nI (i215 + 1)) (lv' := [(7, .int (nI (i215 + 1))), (0, .ref mO), (1, .int (nI bb)), (2, .int v2_48), (3, .int v3_48), (4, .int (nI i48)), (5, .int mb.1), (6, .int (f_X7_bits fw1))]) hx hb dX7_mend_237 hl (k := 7) rfl (nI_1 i215) (by decide) rfl (fun ls hl => ?_)
                refine lv_goto (tgt := 215) hx hb dX7_mend_240 (by decide) ?_
                exact ih215 (i215 + 1) (upd s215 i215 (sv i215)) (by omega)  hf _ _ ls hP hD hS (lv_sub hl [1, 2, 3, 4, 5, 6, 7, 0] rfl)
            exact L215 259 0 mb.2 (by omega)  hsr _ _ ls hP hD hS (lv_sub hl [2, 3, 4, 5, 6, 7, 1, 0] rfl)
        have L69 : ∀ (k69 : Nat) (i69 : Nat) (v5_69 : Int32) (s69 : Nat → Int32), k69 + i69 = cn → (MJ bb bn s69) → f_X7_mend_69 bb cB cN sv i48 k69 i69 v5_69 s69 = mb → ∀ (H : Heap) (locs : List Loc) (ls : Array Slot), va_P G.1 wcl [(mO, .inr (7, [.ref mA, .ref mS, .ref mI, .ref mV, .int me, .ref mT, .ref mR, .int (nI mz), .int (nI ma), .ref mW, .int (nI mr), .ref mN])), (mA, .inl (G.2.1, 7, .inl zf)), (mS, .inl (G.2.1, 259, .inl s69)), (mV, .inl (G.2.1, 259, .inl sv))] H → va_D A [(mO, .inr (7, [.ref mA, .ref mS, .ref mI, .ref mV, .int me, .ref mT, .ref mR, .int (nI mz), .int (nI ma), .ref mW, .int (nI mr), .ref mN])), (mA, .inl (G.2.1, 7, .inl zf)), (mS, .inl (G.2.1, 259, .inl s69)), (mV, .inl (G.2.1, 259, .inl sv))] → va_S A s.heap H locs → lv_has ls 9 [(0, .ref mO), (1, .int (nI bb)), (2, .int v2_48), (3, .int v3_48), (4, .int (nI i48)), (5, .int v5_69), (6, .int (nI i69))] → W p l e ({ frames := 6, cells := 0, slots := 0, locals := 142 }) s m args below meth c H locs 0 0 Q (F0 m 69 ls []) := by
          intro k69
          induction k69 with
          | zero =>
            intro i69 v5_69 s69 hi69 hj69 hf _ _ ls hP hD hS hl
            rw [f_X7_mend_69_z] at hf
            refine lv_iload hx hb dX7_mend_69 (lv_at hl 6 rfl) ?_
            refine lv_aload_n hx hb dX7_mend_71 rfl (lv_at hl 0 rfl) ?_
            refine va_get (D := G.1) (ci := 7) (v := .ref mV) (C := RX7) (T := TX7) (N := 12) hx hb (ku_X7 hK.2) (fun _ h9 => h9) hown hK.1 hP 0 rfl rfl 3 (by decide) (kw_680 hK.2) (fun _ h9 => h9) rfl dX7_mend_72 ?_
            refine lv_sipush (v := 258) hx hb dX7_mend_75 (by decide) ?_
            refine ww_e (rfl : (258 : Int32) = nI 258) ?_
            refine ww_ild (j := 258) hx hb hK.1 hP 3 0 rfl rfl (by omega) (by omega) dX7_mend_78 ?_
            refine ww_e ((hsvE 258 (by decide)).trans hcn) ?_
            refine lv_icmp_ge (tgt := 192) hx hb dX7_mend_79 (by decide) (fun _ => ?_) (fun c => absurd (ile (a := cn) (b := i69) rfl rfl (by omega) (by omega) (by omega)) c)
            exact X69 _ _ ls (by first | exact hP | (rw [← hf]; exact hP)) (by first | exact hD | (rw [← hf]; exact hD)) hS (by first | exact (lv_sub hl [0, 1, 2, 3, 4, 5] rfl) | (rw [← hf]; exact (lv_sub hl [0, 1, 2, 3, 4, 5] rfl)))
          | succ k69 ih69 =>
            intro i69 v5_69 s69 hi69 hj69 hf _ _ ls hP hD hS hl
            rw [f_X7_mend_69_s] at hf
            refine lv_iload hx hb dX7_mend_69 (lv_at hl 6 rfl) ?_
            refine lv_aload_n hx hb dX7_mend_71 rfl (lv_at hl 0 rfl) ?_
            refine va_get (D := G.1) (ci := 7) (v := .ref mV) (C := RX7) (T := TX7) (N := 12) hx hb (ku_X7 hK.2) (fun _ h9 => h9) hown hK.1 hP 0 rfl rfl 3 (by decide) (kw_680 hK.2) (fun _ h9 => h9) rfl dX7_mend_72 ?_
            refine lv_sipush (v := 258) hx hb dX7_mend_75 (by decide) ?_
            refine ww_e (rfl : (258 : Int32) = nI 258) ?_
            refine ww_ild (j := 258) hx hb hK.1 hP 3 0 rfl rfl (by omega) (by omega) dX7_mend_78 ?_
            refine ww_e ((hsvE 258 (by decide)).trans hcn) ?_
            refine lv_icmp_ge (tgt := 192) hx hb dX7_mend_79 (by decide) (fun c => absurd c (inle (a := cn) (b := i69) rfl rfl (by omega) (by omega) (by omega))) (fun _ => ?_)
            refine lv_iload hx hb dX7_mend_82 (lv_at hl 4 rfl) ?_
            refine lv_iload hx hb dX7_mend_84 (lv_at hl 6 rfl) ?_
            refine lv_ishr hx hb dX7_mend_86 ?_
            refine lv_iconst (v := 1) hx hb dX7_mend_87 (by decide) ?_
            refine lv_iand hx hb dX7_mend_88 ?_
            refine lv_if_ne (tgt := 95) hx hb dX7_mend_89 (by decide) (fun c1 => ?_) (fun c1 => ?_)
            · have hf := (if_neg c1).symm.trans hf
              refine lv_sipush (v := 234) hx hb dX7_mend_95 (by decide) ?_
              refine lv_bipush (v := 6) hx hb dX7_mend_98 (by decide) ?_
              refine lv_iload hx hb dX7_mend_100 (lv_at hl 6 rfl) ?_
              refine lv_imul hx hb dX7_mend_102 ?_
              refine ww_e (nI_mulE (a := 6) (b := i69) rfl rfl) ?_
              refine lv_iadd hx hb dX7_mend_103 ?_
              refine ww_e (nI_addE (a := 234) (b := 6 * i69) rfl rfl) ?_
              refine lv_istore (lv' := [(7, .int (nI (234 + (6 * i69)))), (0, .ref mO), (1, .int (nI bb)), (2, .int v2_48), (3, .int v3_48), (4, .int (nI i48)), (5, .int v5_69), (6, .int (nI i69))]) hx hb dX7_mend_104 hl (by decide) rfl (fun ls hl => ?_)
              refine lv_iload hx hb dX7_mend_106 (lv_at hl 6 rfl) ?_
              refine lv_if_eq (tgt := 126) hx hb dX7_mend_108 (by decide) (fun c2 => ?_) (fun c2 => ?_)
              · have hf := (if_pos c2).symm.trans hf
                refine lv_iconst (v := 0) hx hb dX7_mend_126 (by decide) ?_
                refine lv_istore (lv' := [(5, .int 0), (7, .int (nI (234 + (6 * i69)))), (0, .ref mO), (1, .int (nI bb)), (2, .int v2_48), (3, .int v3_48), (4, .int (nI i48)), (6, .int (nI i69))]) hx hb dX7_mend_127 hl (by decide) rfl (fun ls hl => ?_)
                have hb69 := (hch i69 (by omega)).2.1
                have hn69 := (hch i69 (by omega)).2.2.2
                have hw69 : ∀ q : Nat, q = 0 → ∃ w : Nat, w < 12 ∧ sv (234 + 6 * i69 + 2 + q) = nI w := fun q e => by rw [e, hsvE _ (by omega)]; exact (hct i69 (by omega)).1
                have hr69 : ∀ q : Nat, q = 2 → Rg (sv (234 + 6 * i69 + 2 + q)) := fun q e => by rw [e, hsvE _ (by omega)]; exact (hct i69 (by omega)).2
                have hbt : bn ≤ 20 := by assumption
                refine lv_iconst (v := 0) hx hb dX7_mend_129 (by decide) ?_
                refine lv_istore (lv' := [(8, .int 0), (5, .int 0), (7, .int (nI (234 + (6 * i69)))), (0, .ref mO), (1, .int (nI bb)), (2, .int v2_48), (3, .int v3_48), (4, .int (nI i48)), (6, .int (nI i69))]) hx hb dX7_mend_130 hl (by decide) rfl (fun ls hl => ?_)
                obtain ⟨sq, hsq⟩ : ∃ r : (Nat → Int32), f_X7_mend_132 cB cN sv i69 4 0 s69 = r := ⟨_, rfl⟩
                (try rw [hsq] at hf)
                have X132 : ∀ (H : Heap) (locs : List Loc) (ls : Array Slot), va_P G.1 wcl [(mO, .inr (7, [.ref mA, .ref mS, .ref mI, .ref mV, .int me, .ref mT, .ref mR, .int (nI mz), .int (nI ma), .ref mW, .int (nI mr), .ref mN])), (mA, .inl (G.2.1, 7, .inl zf)), (mS, .inl (G.2.1, 259, .inl sq)), (mV, .inl (G.2.1, 259, .inl sv))] H → va_D A [(mO, .inr (7, [.ref mA, .ref mS, .ref mI, .ref mV, .int me, .ref mT, .ref mR, .int (nI mz), .int (nI ma), .ref mW, .int (nI mr), .ref mN])), (mA, .inl (G.2.1, 7, .inl zf)), (mS, .inl (G.2.1, 259, .inl sq)), (mV, .inl (G.2.1, 259, .inl sv))] → va_S A s.heap H locs → lv_has ls 9 [(0, .ref mO), (1, .int (nI bb)), (2, .int v2_48), (3, .int v3_48), (4, .int (nI i48)), (5, .int 0), (6, .int (nI i69))] → W p l e ({ frames := 6, cells := 0, slots := 0, locals := 142 }) s m args below meth c H locs 0 0 Q (F0 m 186 ls []) := by
                  intro H locs ls hP hD hS hl
                  (try have hjr : MJ bb bn sq := by rw [← hsq]; exact md_132 hbb hbt hb69 hn69 hw69 hr69 4 0 s69 rfl hj69)
                  refine lv_iinc (v := nI (i69 + 1)) (lv' := [(6, .int (nI (i69 + 1))), (0, .ref mO), (1, .int (nI bb)), (2, .int v2_48), (3, .int v3_48), (4, .int (nI i48)), (5, .int 0)]) hx hb dX7_mend_186 hl (k := 6) rfl (nI_1 i69) (by decide) rfl (fun ls hl => ?_)
                  refine lv_goto (tgt := 69) hx hb dX7_mend_189 (by decide) ?_
                  exact ih69 (i69 + 1) 0 sq (by omega) (by first | exact hj69 | exact hjr) hf _ _ ls hP hD hS (lv_sub hl [1, 2, 3, 4, 5, 6, 0] rfl)
                have L132 : ∀ (k132 : Nat) (i132 : Nat) (s132 : Nat → Int32), k132 + i132 = 4 → (MJ bb bn s132) → f_X7_mend_132 cB cN sv i69 k132 i132 s132 = sq → ∀ (H : Heap) (locs : List Loc) (ls : Array Slot), va_P G.1 wcl [(mO, .inr (7, [.ref mA, .ref mS, .ref mI, .ref mV, .int me, .ref mT, .ref mR, .int (nI mz), .int (nI ma), .ref mW, .int (nI mr), .ref mN])), (mA, .inl (G.2.1, 7, .inl zf)), (mS, .inl (G.2.1, 259, .inl s132)), (mV, .inl (G.2.1, 259, .inl sv))] H → va_D A [(mO, .inr (7, [.ref mA, .ref mS, .ref mI, .ref mV, .int me, .ref mT, .ref mR, .int (nI mz), .int (nI ma), .ref mW, .int (nI mr), .ref mN])), (mA, .inl (G.2.1, 7, .inl zf)), (mS, .inl (G.2.1, 259, .inl s132)), (mV, .inl (G.2.1, 259, .inl sv))] → va_S A s.heap H locs → lv_has ls 9 [(0, .ref mO), (1, .int (nI bb)), (2, .int v2_48), (3, .int v3_48), (4, .int (nI i48)), (5, .int 0), (6, .int (nI i69)), (7, .int (nI (234 + (6 * i69)))), (8, .int (nI i132))] → W p l e ({ frames := 6, cells := 0, slots := 0, locals := 142 }) s m args below meth c H locs 0 0 Q (F0 m 132 ls []) := by
                  intro k132
                  induction k132 with
                  | zero =>
                    intro i132 s132 hi132 hj132 hf _ _ ls hP hD hS hl
                    rw [f_X7_mend_132_z] at hf
                    refine lv_iload hx hb dX7_mend_132 (lv_at hl 8 rfl) ?_
                    refine lv_iconst (v := 4) hx hb dX7_mend_134 (by decide) ?_
                    refine lv_icmp_ge (tgt := 186) hx hb dX7_mend_135 (by decide) (fun _ => ?_) (fun c => absurd (ile (a := 4) (b := i132) rfl rfl (by omega) (by omega) (by omega)) c)
                    exact X132 _ _ ls (by first | exact hP | (rw [← hf]; exact hP)) (by first | exact hD | (rw [← hf]; exact hD)) hS (by first | exact (lv_sub hl [0, 1, 2, 3, 4, 5, 6] rfl) | (rw [← hf]; exact (lv_sub hl [0, 1, 2, 3, 4, 5, 6] rfl)))
                  | succ k132 ih132 =>
                    intro i132 s132 hi132 hj132 hf _ _ ls hP hD hS hl
                    rw [f_X7_mend_132_s] at hf
                    refine lv_iload hx hb dX7_mend_132 (lv_at hl 8 rfl) ?_
                    refine lv_iconst (v := 4) hx hb dX7_mend_134 (by decide) ?_
                    refine lv_icmp_ge (tgt := 186) hx hb dX7_mend_135 (by decide) (fun c => absurd c (inle (a := 4) (b := i132) rfl rfl (by omega) (by omega) (by omega))) (fun _ => ?_)
                    refine lv_aload_n hx hb dX7_mend_138 rfl (lv_at hl 0 rfl) ?_
                    refine va_get (D := G.1) (ci := 7) (v := .ref mS) (C := RX7) (T := TX7) (N := 12) hx hb (ku_X7 hK.2) (fun _ h9 => h9) hown hK.1 hP 0 rfl rfl 1 (by decide) (kw_678 hK.2) (fun _ h9 => h9) rfl dX7_mend_139 ?_
                    refine lv_bipush (v := 80) hx hb dX7_mend_142 (by decide) ?_
                    refine lv_aload_n hx hb dX7_mend_144 rfl (lv_at hl 0 rfl) ?_
                    refine va_get (D := G.1) (ci := 7) (v := .ref mV) (C := RX7) (T := TX7) (N := 12) hx hb (ku_X7 hK.2) (fun _ h9 => h9) hown hK.1 hP 0 rfl rfl 3 (by decide) (kw_680 hK.2) (fun _ h9 => h9) rfl dX7_mend_145 ?_
                    refine lv_iload hx hb dX7_mend_148 (lv_at hl 7 rfl) ?_
                    refine ww_ild (j := 234 + (6 * i69)) hx hb hK.1 hP 3 0 rfl rfl (by omega) (by omega) dX7_mend_150 ?_
                    refine ww_e ((hsvE _ (by omega)).trans (hch i69 (by omega)).1) ?_
                    refine lv_imul hx hb dX7_mend_151 ?_
                    refine ww_e (nI_mulE (a := 80) (b := cB i69) rfl rfl) ?_
                    refine lv_iconst (v := 4) hx hb dX7_mend_152 (by decide) ?_
                    refine lv_aload_n hx hb dX7_mend_153 rfl (lv_at hl 0 rfl) ?_
                    refine va_get (D := G.1) (ci := 7) (v := .ref mV) (C := RX7) (T := TX7) (N := 12) hx hb (ku_X7 hK.2) (fun _ h9 => h9) hown hK.1 hP 0 rfl rfl 3 (by decide) (kw_680 hK.2) (fun _ h9 => h9) rfl dX7_mend_154 ?_
                    refine lv_iload hx hb dX7_mend_157 (lv_at hl 7 rfl) ?_
                    refine lv_iconst (v := 1) hx hb dX7_mend_159 (by decide) ?_
                    refine lv_iadd hx hb dX7_mend_160 ?_
                    refine ww_e (nI_addE (a := 234 + (6 * i69)) (b := 1) rfl rfl) ?_
                    refine ww_ild (j := 234 + (6 * i69) + 1) hx hb hK.1 hP 3 0 rfl rfl (by omega) (by omega) dX7_mend_161 ?_
                    refine ww_e ((hsvE _ (by omega)).trans (hch i69 (by omega)).2.2.1) ?_
                    refine lv_imul hx hb dX7_mend_162 ?_
                    refine ww_e (nI_mulE (a := 4) (b := cN i69) rfl rfl) ?_
                    refine lv_iadd hx hb dX7_mend_163 ?_
                    refine ww_e (nI_addE (a := 80 * (cB i69)) (b := 4 * (cN i69)) rfl rfl) ?_
                    refine lv_iload hx hb dX7_mend_164 (lv_at hl 8 rfl) ?_
                    refine lv_iadd hx hb dX7_mend_166 ?_
                    refine ww_e (nI_addE (a := 80 * (cB i69) + (4 * (cN i69))) (b := i132) rfl rfl) ?_
                    refine lv_aload_n hx hb dX7_mend_167 rfl (lv_at hl 0 rfl) ?_
                    refine va_get (D := G.1) (ci := 7) (v := .ref mV) (C := RX7) (T := TX7) (N := 12) hx hb (ku_X7 hK.2) (fun _ h9 => h9) hown hK.1 hP 0 rfl rfl 3 (by decide) (kw_680 hK.2) (fun _ h9 => h9) rfl dX7_mend_168 ?_
                    refine lv_iload hx hb dX7_mend_171 (lv_at hl 7 rfl) ?_
                    refine lv_iconst (v := 2) hx hb dX7_mend_173 (by decide) ?_
                    refine lv_iadd hx hb dX7_mend_174 ?_
                    refine ww_e (nI_addE (a := 234 + (6 * i69)) (b := 2) rfl rfl) ?_
                    refine lv_iload hx hb dX7_mend_175 (lv_at hl 8 rfl) ?_
                    refine lv_iadd hx hb dX7_mend_177 ?_
                    refine ww_e (nI_addE (a := 234 + (6 * i69) + 2) (b := i132) rfl rfl) ?_
                    refine ww_ild (j := 234 + (6 * i69) + 2 + i132) hx hb hK.1 hP 3 0 rfl rfl (by omega) (by omega) dX7_mend_178 ?_
                    refine ww_ist (j := 80 * (cB i69) + (4 * (cN i69)) + i132) hx hb hK.1 hP hD hS 2 0 rfl rfl (by omega) (by omega) dX7_mend_179 (fun H locs hP hD hS => ?_)
                    have hP : va_P G.1 wcl [(mO, .inr (7, [.ref mA, .ref mS, .ref mI, .ref mV, .int me, .ref mT, .ref mR, .int (nI mz), .int (nI ma), .ref mW, .int (nI mr), .ref mN])), (mA, .inl (G.2.1, 7, .inl zf)), (mS, .inl (G.2.1, 259, .inl (upd s132 (80 * (cB i69) + (4 * (cN i69)) + i132) (sv (234 + (6 * i69) + 2 + i132))))), (mV, .inl (G.2.1, 259, .inl sv))] H := hP
                    have hD : va_D A [(mO, .inr (7, [.ref mA, .ref mS, .ref mI, .ref mV, .int me, .ref mT, .ref mR, .int (nI mz), .int (nI ma), .ref mW, .int (nI mr), .ref mN])), (mA, .inl (G.2.1, 7, .inl zf)), (mS, .inl (G.2.1, 259, .inl (upd s132 (80 * (cB i69) + (4 * (cN i69)) + i132) (sv (234 + (6 * i69) + 2 + i132))))), (mV, .inl (G.2.1, 259, .inl sv))] := hD
                    refine lv_iinc (v := nI (i132 + 1)) (lv' := [(8, .int (nI (i132 + 1))), (0, .ref mO), (1, .int (nI bb)), (2, .int v2_48), (3, .int v3_48), (4, .int (nI i48)), (5, .int 0), (6, .int (nI i69)), (7, .int (nI (234 + (6 * i69))))]) hx hb dX7_mend_180 hl (k := 8) rfl (nI_1 i132) (by decide) rfl (fun ls hl => ?_)
                    refine lv_goto (tgt := 132) hx hb dX7_mend_183 (by decide) ?_
                    exact ih132 (i132 + 1) (upd s132 (80 * (cB i69) + (4 * (cN i69)) + i132) (sv (234 + (6 * i69) + 2 + i132))) (by omega) (mj_upd hj132 hbb hbt hb69 hn69 (by omega) (fun e => hw69 i132 e) (fun e => hr69 i132 e)) hf _ _ ls hP hD hS (lv_sub hl [1, 2, 3, 4, 5, 6, 7, 8, 0] rfl)
                exact L132 4 0 s69 (by omega) hj69 hsq _ _ ls hP hD hS (lv_sub hl [3, 4, 5, 6, 7, 1, 8, 2, 0] rfl)
              · have hf := (if_neg c2).symm.trans hf
                refine lv_aload_n hx hb dX7_mend_111 rfl (lv_at hl 1 rfl) ?_
                refine va_get (D := G.1) (ci := 7) (v := .ref mV) (C := RX7) (T := TX7) (N := 12) hx hb (ku_X7 hK.2) (fun _ h9 => h9) hown hK.1 hP 0 rfl rfl 3 (by decide) (kw_680 hK.2) (fun _ h9 => h9) rfl dX7_mend_112 ?_
                refine lv_iload hx hb dX7_mend_115 (lv_at hl 0 rfl) ?_
                refine ww_ild (j := 234 + (6 * i69)) hx hb hK.1 hP 3 0 rfl rfl (by omega) (by omega) dX7_mend_117 ?_
                refine ww_e ((hsvE _ (by omega)).trans (hch i69 (by omega)).1) ?_
                refine lv_iload_n hx hb dX7_mend_118 rfl (lv_at hl 2 rfl) ?_
                refine lv_icmp_ne (tgt := 126) hx hb dX7_mend_119 (by decide) (fun c3 => ?_) (fun c3 => ?_)
                · have hf := (if_neg c3).symm.trans hf
                  refine lv_iconst (v := 0) hx hb dX7_mend_126 (by decide) ?_
                  refine lv_istore (lv' := [(5, .int 0), (7, .int (nI (234 + (6 * i69)))), (0, .ref mO), (1, .int (nI bb)), (2, .int v2_48), (3, .int v3_48), (4, .int (nI i48)), (6, .int (nI i69))]) hx hb dX7_mend_127 hl (by decide) rfl (fun ls hl => ?_)
                  have hb69 := (hch i69 (by omega)).2.1
                  have hn69 := (hch i69 (by omega)).2.2.2
                  have hw69 : ∀ q : Nat, q = 0 → ∃ w : Nat, w < 12 ∧ sv (234 + 6 * i69 + 2 + q) = nI w := fun q e => by rw [e, hsvE _ (by omega)]; exact (hct i69 (by omega)).1
                  have hr69 : ∀ q : Nat, q = 2 → Rg (sv (234 + 6 * i69 + 2 + q)) := fun q e => by rw [e, hsvE _ (by omega)]; exact (hct i69 (by omega)).2
                  have hbt : bn ≤ 20 := by assumption
                  refine lv_iconst (v := 0) hx hb dX7_mend_129 (by decide) ?_
                  refine lv_istore (lv' := [(8, .int 0), (5, .int 0), (7, .int (nI (234 + (6 * i69)))), (0, .ref mO), (1, .int (nI bb)), (2, .int v2_48), (3, .int v3_48), (4, .int (nI i48)), (6, .int (nI i69))]) hx hb dX7_mend_130 hl (by decide) rfl (fun ls hl => ?_)
                  obtain ⟨sq, hsq⟩ : ∃ r : (Nat → Int32), f_X7_mend_132 cB cN sv i69 4 0 s69 = r := ⟨_, rfl⟩
                  (try rw [hsq] at hf)
                  have X132 : ∀ (H : Heap) (locs : List Loc) (ls : Array Slot), va_P G.1 wcl [(mO, .inr (7, [.ref mA, .ref mS, .ref mI, .ref mV, .int me, .ref mT, .ref mR, .int (nI mz), .int (nI ma), .ref mW, .int (nI mr), .ref mN])), (mA, .inl (G.2.1, 7, .inl zf)), (mS, .inl (G.2.1, 259, .inl sq)), (mV, .inl (G.2.1, 259, .inl sv))] H → va_D A [(mO, .inr (7, [.ref mA, .ref mS, .ref mI, .ref mV, .int me, .ref mT, .ref mR, .int (nI mz), .int (nI ma), .ref mW, .int (nI mr), .ref mN])), (mA, .inl (G.2.1, 7, .inl zf)), (mS, .inl (G.2.1, 259, .inl sq)), (mV, .inl (G.2.1, 259, .inl sv))] → va_S A s.heap H locs → lv_has ls 9 [(0, .ref mO), (1, .int (nI bb)), (2, .int v2_48), (3, .int v3_48), (4, .int (nI i48)), (5, .int 0), (6, .int (nI i69))] → W p l e ({ frames := 6, cells := 0, slots := 0, locals := 142 }) s m args below meth c H locs 0 0 Q (F0 m 186 ls []) := by
                    intro H locs ls hP hD hS hl
                    (try have hjr : MJ bb bn sq := by rw [← hsq]; exact md_132 hbb hbt hb69 hn69 hw69 hr69 4 0 s69 rfl hj69)
                    refine lv_iinc (v := nI (i69 + 1)) (lv' := [(6, .int (nI (i69 + 1))), (0, .ref mO), (1, .int (nI bb)), (2, .int v2_48), (3, .int v3_48), (4, .int (nI i48)), (5, .int 0)]) hx hb dX7_mend_186 hl (k := 6) rfl (nI_1 i69) (by decide) rfl (fun ls hl => ?_)
                    refine lv_goto (tgt := 69) hx hb dX7_mend_189 (by decide) ?_
                    exact ih69 (i69 + 1) 0 sq (by omega) (by first | exact hj69 | exact hjr) hf _ _ ls hP hD hS (lv_sub hl [1, 2, 3, 4, 5, 6, 0] rfl)
                  have L132 : ∀ (k132 : Nat) (i132 : Nat) (s132 : Nat → Int32), k132 + i132 = 4 → (MJ bb bn s132) → f_X7_mend_132 cB cN sv i69 k132 i132 s132 = sq → ∀ (H : Heap) (locs : List Loc) (ls : Array Slot), va_P G.1 wcl [(mO, .inr (7, [.ref mA, .ref mS, .ref mI, .ref mV, .int me, .ref mT, .ref mR, .int (nI mz), .int (nI ma), .ref mW, .int (nI mr), .ref mN])), (mA, .inl (G.2.1, 7, .inl zf)), (mS, .inl (G.2.1, 259, .inl s132)), (mV, .inl (G.2.1, 259, .inl sv))] H → va_D A [(mO, .inr (7, [.ref mA, .ref mS, .ref mI, .ref mV, .int me, .ref mT, .ref mR, .int (nI mz), .int (nI ma), .ref mW, .int (nI mr), .ref mN])), (mA, .inl (G.2.1, 7, .inl zf)), (mS, .inl (G.2.1, 259, .inl s132)), (mV, .inl (G.2.1, 259, .inl sv))] → va_S A s.heap H locs → lv_has ls 9 [(0, .ref mO), (1, .int (nI bb)), (2, .int v2_48), (3, .int v3_48), (4, .int (nI i48)), (5, .int 0), (6, .int (nI i69)), (7, .int (nI (234 + (6 * i69)))), (8, .int (nI i132))] → W p l e ({ frames := 6, cells := 0, slots := 0, locals := 142 }) s m args below meth c H locs 0 0 Q (F0 m 132 ls []) := by
                    intro k132
                    induction k132 with
                    | zero =>
                      intro i132 s132 hi132 hj132 hf _ _ ls hP hD hS hl
                      rw [f_X7_mend_132_z] at hf
                      refine lv_iload hx hb dX7_mend_132 (lv_at hl 8 rfl) ?_
                      refine lv_iconst (v := 4) hx hb dX7_mend_134 (by decide) ?_
                      refine lv_icmp_ge (tgt := 186) hx hb dX7_mend_135 (by decide) (fun _ => ?_) (fun c => absurd (ile (a := 4) (b := i132) rfl rfl (by omega) (by omega) (by omega)) c)
                      exact X132 _ _ ls (by first | exact hP | (rw [← hf]; exact hP)) (by first | exact hD | (rw [← hf]; exact hD)) hS (by first | exact (lv_sub hl [0, 1, 2, 3, 4, 5, 6] rfl) | (rw [← hf]; exact (lv_sub hl [0, 1, 2, 3, 4, 5, 6] rfl)))
                    | succ k132 ih132 =>
                      intro i132 s132 hi132 hj132 hf _ _ ls hP hD hS hl
                      rw [f_X7_mend_132_s] at hf
                      refine lv_iload hx hb dX7_mend_132 (lv_at hl 8 rfl) ?_
                      refine lv_iconst (v := 4) hx hb dX7_mend_134 (by decide) ?_
                      refine lv_icmp_ge (tgt := 186) hx hb dX7_mend_135 (by decide) (fun c => absurd c (inle (a := 4) (b := i132) rfl rfl (by omega) (by omega) (by omega))) (fun _ => ?_)
                      refine lv_aload_n hx hb dX7_mend_138 rfl (lv_at hl 0 rfl) ?_
                      refine va_get (D := G.1) (ci := 7) (v := .ref mS) (C := RX7) (T := TX7) (N := 12) hx hb (ku_X7 hK.2) (fun _ h9 => h9) hown hK.1 hP 0 rfl rfl 1 (by decide) (kw_678 hK.2) (fun _ h9 => h9) rfl dX7_mend_139 ?_
                      refine lv_bipush (v := 80) hx hb dX7_mend_142 (by decide) ?_
                      refine lv_aload_n hx hb dX7_mend_144 rfl (lv_at hl 0 rfl) ?_
                      refine va_get (D := G.1) (ci := 7) (v := .ref mV) (C := RX7) (T := TX7) (N := 12) hx hb (ku_X7 hK.2) (fun _ h9 => h9) hown hK.1 hP 0 rfl rfl 3 (by decide) (kw_680 hK.2) (fun _ h9 => h9) rfl dX7_mend_145 ?_
                      refine lv_iload hx hb dX7_mend_148 (lv_at hl 7 rfl) ?_
                      refine ww_ild (j := 234 + (6 * i69)) hx hb hK.1 hP 3 0 rfl rfl (by omega) (by omega) dX7_mend_150 ?_
                      refine ww_e ((hsvE _ (by omega)).trans (hch i69 (by omega)).1) ?_
                      refine lv_imul hx hb dX7_mend_151 ?_
                      refine ww_e (nI_mulE (a := 80) (b := cB i69) rfl rfl) ?_
                      refine lv_iconst (v := 4) hx hb dX7_mend_152 (by decide) ?_
                      refine lv_aload_n hx hb dX7_mend_153 rfl (lv_at hl 0 rfl) ?_
                      refine va_get (D := G.1) (ci := 7) (v := .ref mV) (C := RX7) (T := TX7) (N := 12) hx hb (ku_X7 hK.2) (fun _ h9 => h9) hown hK.1 hP 0 rfl rfl 3 (by decide) (kw_680 hK.2) (fun _ h9 => h9) rfl dX7_mend_154 ?_
                      refine lv_iload hx hb dX7_mend_157 (lv_at hl 7 rfl) ?_
                      refine lv_iconst (v := 1) hx hb dX7_mend_159 (by decide) ?_
                      refine lv_iadd hx hb dX7_mend_160 ?_
                      refine ww_e (nI_addE (a := 234 + (6 * i69)) (b := 1) rfl rfl) ?_
                      refine ww_ild (j := 234 + (6 * i69) + 1) hx hb hK.1 hP 3 0 rfl rfl (by omega) (by omega) dX7_mend_161 ?_
                      refine ww_e ((hsvE _ (by omega)).trans (hch i69 (by omega)).2.2.1) ?_
                      refine lv_imul hx hb dX7_mend_162 ?_
                      refine ww_e (nI_mulE (a := 4) (b := cN i69) rfl rfl) ?_
                      refine lv_iadd hx hb dX7_mend_163 ?_
                      refine ww_e (nI_addE (a := 80 * (cB i69)) (b := 4 * (cN i69)) rfl rfl) ?_
                      refine lv_iload hx hb dX7_mend_164 (lv_at hl 8 rfl) ?_
                      refine lv_iadd hx hb dX7_mend_166 ?_
                      refine ww_e (nI_addE (a := 80 * (cB i69) + (4 * (cN i69))) (b := i132) rfl rfl) ?_
                      refine lv_aload_n hx hb dX7_mend_167 rfl (lv_at hl 0 rfl) ?_
                      refine va_get (D := G.1) (ci := 7) (v := .ref mV) (C := RX7) (T := TX7) (N := 12) hx hb (ku_X7 hK.2) (fun _ h9 => h9) hown hK.1 hP 0 rfl rfl 3 (by decide) (kw_680 hK.2) (fun _ h9 => h9) rfl dX7_mend_168 ?_
                      refine lv_iload hx hb dX7_mend_171 (lv_at hl 7 rfl) ?_
                      refine lv_iconst (v := 2) hx hb dX7_mend_173 (by decide) ?_
                      refine lv_iadd hx hb dX7_mend_174 ?_
                      refine ww_e (nI_addE (a := 234 + (6 * i69)) (b := 2) rfl rfl) ?_
                      refine lv_iload hx hb dX7_mend_175 (lv_at hl 8 rfl) ?_
                      refine lv_iadd hx hb dX7_mend_177 ?_
                      refine ww_e (nI_addE (a := 234 + (6 * i69) + 2) (b := i132) rfl rfl) ?_
                      refine ww_ild (j := 234 + (6 * i69) + 2 + i132) hx hb hK.1 hP 3 0 rfl rfl (by omega) (by omega) dX7_mend_178 ?_
                      refine ww_ist (j := 80 * (cB i69) + (4 * (cN i69)) + i132) hx hb hK.1 hP hD hS 2 0 rfl rfl (by omega) (by omega) dX7_mend_179 (fun H locs hP hD hS => ?_)
                      have hP : va_P G.1 wcl [(mO, .inr (7, [.ref mA, .ref mS, .ref mI, .ref mV, .int me, .ref mT, .ref mR, .int (nI mz), .int (nI ma), .ref mW, .int (nI mr), .ref mN])), (mA, .inl (G.2.1, 7, .inl zf)), (mS, .inl (G.2.1, 259, .inl (upd s132 (80 * (cB i69) + (4 * (cN i69)) + i132) (sv (234 + (6 * i69) + 2 + i132))))), (mV, .inl (G.2.1, 259, .inl sv))] H := hP
                      have hD : va_D A [(mO, .inr (7, [.ref mA, .ref mS, .ref mI, .ref mV, .int me, .ref mT, .ref mR, .int (nI mz), .int (nI ma), .ref mW, .int (nI mr), .ref mN])), (mA, .inl (G.2.1, 7, .inl zf)), (mS, .inl (G.2.1, 259, .inl (upd s132 (80 * (cB i69) + (4 * (cN i69)) + i132) (sv (234 + (6 * i69) + 2 + i132))))), (mV, .inl (G.2.1, 259, .inl sv))] := hD
                      refine lv_iinc (v := nI (i132 + 1)) (lv' := [(8, .int (nI (i132 + 1))), (0, .ref mO), (1, .int (nI bb)), (2, .int v2_48), (3, .int v3_48), (4, .int (nI i48)), (5, .int 0), (6, .int (nI i69)), (7, .int (nI (234 + (6 * i69))))]) hx hb dX7_mend_180 hl (k := 8) rfl (nI_1 i132) (by decide) rfl (fun ls hl => ?_)
                      refine lv_goto (tgt := 132) hx hb dX7_mend_183 (by decide) ?_
                      exact ih132 (i132 + 1) (upd s132 (80 * (cB i69) + (4 * (cN i69)) + i132) (sv (234 + (6 * i69) + 2 + i132))) (by omega) (mj_upd hj132 hbb hbt hb69 hn69 (by omega) (fun e => hw69 i132 e) (fun e => hr69 i132 e)) hf _ _ ls hP hD hS (lv_sub hl [1, 2, 3, 4, 5, 6, 7, 8, 0] rfl)
                  exact L132 4 0 s69 (by omega) hj69 hsq _ _ ls hP hD hS (lv_sub hl [3, 4, 5, 6, 7, 1, 8, 2, 0] rfl)
                · have hf := (if_pos c3).symm.trans hf
                  refine lv_iconst (v := 1) hx hb dX7_mend_122 (by decide) ?_
                  refine lv_goto (tgt := 127) hx hb dX7_mend_123 (by decide) ?_
                  refine lv_istore (lv' := [(5, .int 1), (7, .int (nI (234 + (6 * i69)))), (0, .ref mO), (1, .int (nI bb)), (2, .int v2_48), (3, .int v3_48), (4, .int (nI i48)), (6, .int (nI i69))]) hx hb dX7_mend_127 hl (by decide) rfl (fun ls hl => ?_)
                  have hb69 := (hch i69 (by omega)).2.1
                  have hn69 := (hch i69 (by omega)).2.2.2
                  have hw69 : ∀ q : Nat, q = 0 → ∃ w : Nat, w < 12 ∧ sv (234 + 6 * i69 + 2 + q) = nI w := fun q e => by rw [e, hsvE _ (by omega)]; exact (hct i69 (by omega)).1
                  have hr69 : ∀ q : Nat, q = 2 → Rg (sv (234 + 6 * i69 + 2 + q)) := fun q e => by rw [e, hsvE _ (by omega)]; exact (hct i69 (by omega)).2
                  have hbt : bn ≤ 20 := by assumption
                  refine lv_iconst (v := 0) hx hb dX7_mend_129 (by decide) ?_
                  refine lv_istore (lv' := [(8, .int 0), (5, .int 1), (7, .int (nI (234 + (6 * i69)))), (0, .ref mO), (1, .int (nI bb)), (2, .int v2_48), (3, .int v3_48), (4, .int (nI i48)), (6, .int (nI i69))]) hx hb dX7_mend_130 hl (by decide) rfl (fun ls hl => ?_)
                  obtain ⟨sq, hsq⟩ : ∃ r : (Nat → Int32), f_X7_mend_132 cB cN sv i69 4 0 s69 = r := ⟨_, rfl⟩
                  (try rw [hsq] at hf)
                  have X132 : ∀ (H : Heap) (locs : List Loc) (ls : Array Slot), va_P G.1 wcl [(mO, .inr (7, [.ref mA, .ref mS, .ref mI, .ref mV, .int me, .ref mT, .ref mR, .int (nI mz), .int (nI ma), .ref mW, .int (nI mr), .ref mN])), (mA, .inl (G.2.1, 7, .inl zf)), (mS, .inl (G.2.1, 259, .inl sq)), (mV, .inl (G.2.1, 259, .inl sv))] H → va_D A [(mO, .inr (7, [.ref mA, .ref mS, .ref mI, .ref mV, .int me, .ref mT, .ref mR, .int (nI mz), .int (nI ma), .ref mW, .int (nI mr), .ref mN])), (mA, .inl (G.2.1, 7, .inl zf)), (mS, .inl (G.2.1, 259, .inl sq)), (mV, .inl (G.2.1, 259, .inl sv))] → va_S A s.heap H locs → lv_has ls 9 [(0, .ref mO), (1, .int (nI bb)), (2, .int v2_48), (3, .int v3_48), (4, .int (nI i48)), (5, .int 1), (6, .int (nI i69))] → W p l e ({ frames := 6, cells := 0, slots := 0, locals := 142 }) s m args below meth c H locs 0 0 Q (F0 m 186 ls []) := by
                    intro H locs ls hP hD hS hl
                    (try have hjr : MJ bb bn sq := by rw [← hsq]; exact md_132 hbb hbt hb69 hn69 hw69 hr69 4 0 s69 rfl hj69)
                    refine lv_iinc (v := nI (i69 + 1)) (lv' := [(6, .int (nI (i69 + 1))), (0, .ref mO), (1, .int (nI bb)), (2, .int v2_48), (3, .int v3_48), (4, .int (nI i48)), (5, .int 1)]) hx hb dX7_mend_186 hl (k := 6) rfl (nI_1 i69) (by decide) rfl (fun ls hl => ?_)
                    refine lv_goto (tgt := 69) hx hb dX7_mend_189 (by decide) ?_
                    exact ih69 (i69 + 1) 1 sq (by omega) (by first | exact hj69 | exact hjr) hf _ _ ls hP hD hS (lv_sub hl [1, 2, 3, 4, 5, 6, 0] rfl)
                  have L132 : ∀ (k132 : Nat) (i132 : Nat) (s132 : Nat → Int32), k132 + i132 = 4 → (MJ bb bn s132) → f_X7_mend_132 cB cN sv i69 k132 i132 s132 = sq → ∀ (H : Heap) (locs : List Loc) (ls : Array Slot), va_P G.1 wcl [(mO, .inr (7, [.ref mA, .ref mS, .ref mI, .ref mV, .int me, .ref mT, .ref mR, .int (nI mz), .int (nI ma), .ref mW, .int (nI mr), .ref mN])), (mA, .inl (G.2.1, 7, .inl zf)), (mS, .inl (G.2.1, 259, .inl s132)), (mV, .inl (G.2.1, 259, .inl sv))] H → va_D A [(mO, .inr (7, [.ref mA, .ref mS, .ref mI, .ref mV, .int me, .ref mT, .ref mR, .int (nI mz), .int (nI ma), .ref mW, .int (nI mr), .ref mN])), (mA, .inl (G.2.1, 7, .inl zf)), (mS, .inl (G.2.1, 259, .inl s132)), (mV, .inl (G.2.1, 259, .inl sv))] → va_S A s.heap H locs → lv_has ls 9 [(0, .ref mO), (1, .int (nI bb)), (2, .int v2_48), (3, .int v3_48), (4, .int (nI i48)), (5, .int 1), (6, .int (nI i69)), (7, .int (nI (234 + (6 * i69)))), (8, .int (nI i132))] → W p l e ({ frames := 6, cells := 0, slots := 0, locals := 142 }) s m args below meth c H locs 0 0 Q (F0 m 132 ls []) := by
                    intro k132
                    induction k132 with
                    | zero =>
                      intro i132 s132 hi132 hj132 hf _ _ ls hP hD hS hl
                      rw [f_X7_mend_132_z] at hf
                      refine lv_iload hx hb dX7_mend_132 (lv_at hl 8 rfl) ?_
                      refine lv_iconst (v := 4) hx hb dX7_mend_134 (by decide) ?_
                      refine lv_icmp_ge (tgt := 186) hx hb dX7_mend_135 (by decide) (fun _ => ?_) (fun c => absurd (ile (a := 4) (b := i132) rfl rfl (by omega) (by omega) (by omega)) c)
                      exact X132 _ _ ls (by first | exact hP | (rw [← hf]; exact hP)) (by first | exact hD | (rw [← hf]; exact hD)) hS (by first | exact (lv_sub hl [0, 1, 2, 3, 4, 5, 6] rfl) | (rw [← hf]; exact (lv_sub hl [0, 1, 2, 3, 4, 5, 6] rfl)))
                    | succ k132 ih132 =>
                      intro i132 s132 hi132 hj132 hf _ _ ls hP hD hS hl
                      rw [f_X7_mend_132_s] at hf
                      refine lv_iload hx hb dX7_mend_132 (lv_at hl 8 rfl) ?_
                      refine lv_iconst (v := 4) hx hb dX7_mend_134 (by decide) ?_
                      refine lv_icmp_ge (tgt := 186) hx hb dX7_mend_135 (by decide) (fun c => absurd c (inle (a := 4) (b := i132) rfl rfl (by omega) (by omega) (by omega))) (fun _ => ?_)
                      refine lv_aload_n hx hb dX7_mend_138 rfl (lv_at hl 0 rfl) ?_
                      refine va_get (D := G.1) (ci := 7) (v := .ref mS) (C := RX7) (T := TX7) (N := 12) hx hb (ku_X7 hK.2) (fun _ h9 => h9) hown hK.1 hP 0 rfl rfl 1 (by decide) (kw_678 hK.2) (fun _ h9 => h9) rfl dX7_mend_139 ?_
                      refine lv_bipush (v := 80) hx hb dX7_mend_142 (by decide) ?_
                      refine lv_aload_n hx hb dX7_mend_144 rfl (lv_at hl 0 rfl) ?_
                      refine va_get (D := G.1) (ci := 7) (v := .ref mV) (C := RX7) (T := TX7) (N := 12) hx hb (ku_X7 hK.2) (fun _ h9 => h9) hown hK.1 hP 0 rfl rfl 3 (by decide) (kw_680 hK.2) (fun _ h9 => h9) rfl dX7_mend_145 ?_
                      refine lv_iload hx hb dX7_mend_148 (lv_at hl 7 rfl) ?_
                      refine ww_ild (j := 234 + (6 * i69)) hx hb hK.1 hP 3 0 rfl rfl (by omega) (by omega) dX7_mend_150 ?_
                      refine ww_e ((hsvE _ (by omega)).trans (hch i69 (by omega)).1) ?_
                      refine lv_imul hx hb dX7_mend_151 ?_
                      refine ww_e (nI_mulE (a := 80) (b := cB i69) rfl rfl) ?_
                      refine lv_iconst (v := 4) hx hb dX7_mend_152 (by decide) ?_
                      refine lv_aload_n hx hb dX7_mend_153 rfl (lv_at hl 0 rfl) ?_
                      refine va_get (D := G.1) (ci := 7) (v := .ref mV) (C := RX7) (T := TX7) (N := 12) hx hb (ku_X7 hK.2) (fun _ h9 => h9) hown hK.1 hP 0 rfl rfl 3 (by decide) (kw_680 hK.2) (fun _ h9 => h9) rfl dX7_mend_154 ?_
                      refine lv_iload hx hb dX7_mend_157 (lv_at hl 7 rfl) ?_
                      refine lv_iconst (v := 1) hx hb dX7_mend_159 (by decide) ?_
                      refine lv_iadd hx hb dX7_mend_160 ?_
                      refine ww_e (nI_addE (a := 234 + (6 * i69)) (b := 1) rfl rfl) ?_
                      refine ww_ild (j := 234 + (6 * i69) + 1) hx hb hK.1 hP 3 0 rfl rfl (by omega) (by omega) dX7_mend_161 ?_
                      refine ww_e ((hsvE _ (by omega)).trans (hch i69 (by omega)).2.2.1) ?_
                      refine lv_imul hx hb dX7_mend_162 ?_
                      refine ww_e (nI_mulE (a := 4) (b := cN i69) rfl rfl) ?_
                      refine lv_iadd hx hb dX7_mend_163 ?_
                      refine ww_e (nI_addE (a := 80 * (cB i69)) (b := 4 * (cN i69)) rfl rfl) ?_
                      refine lv_iload hx hb dX7_mend_164 (lv_at hl 8 rfl) ?_
                      refine lv_iadd hx hb dX7_mend_166 ?_
                      refine ww_e (nI_addE (a := 80 * (cB i69) + (4 * (cN i69))) (b := i132) rfl rfl) ?_
                      refine lv_aload_n hx hb dX7_mend_167 rfl (lv_at hl 0 rfl) ?_
                      refine va_get (D := G.1) (ci := 7) (v := .ref mV) (C := RX7) (T := TX7) (N := 12) hx hb (ku_X7 hK.2) (fun _ h9 => h9) hown hK.1 hP 0 rfl rfl 3 (by decide) (kw_680 hK.2) (fun _ h9 => h9) rfl dX7_mend_168 ?_
                      refine lv_iload hx hb dX7_mend_171 (lv_at hl 7 rfl) ?_
                      refine lv_iconst (v := 2) hx hb dX7_mend_173 (by decide) ?_
                      refine lv_iadd hx hb dX7_mend_174 ?_
                      refine ww_e (nI_addE (a := 234 + (6 * i69)) (b := 2) rfl rfl) ?_
                      refine lv_iload hx hb dX7_mend_175 (lv_at hl 8 rfl) ?_
                      refine lv_iadd hx hb dX7_mend_177 ?_
                      refine ww_e (nI_addE (a := 234 + (6 * i69) + 2) (b := i132) rfl rfl) ?_
                      refine ww_ild (j := 234 + (6 * i69) + 2 + i132) hx hb hK.1 hP 3 0 rfl rfl (by omega) (by omega) dX7_mend_178 ?_
                      refine ww_ist (j := 80 * (cB i69) + (4 * (cN i69)) + i132) hx hb hK.1 hP hD hS 2 0 rfl rfl (by omega) (by omega) dX7_mend_179 (fun H locs hP hD hS => ?_)
                      have hP : va_P G.1 wcl [(mO, .inr (7, [.ref mA, .ref mS, .ref mI, .ref mV, .int me, .ref mT, .ref mR, .int (nI mz), .int (nI ma), .ref mW, .int (nI mr), .ref mN])), (mA, .inl (G.2.1, 7, .inl zf)), (mS, .inl (G.2.1, 259, .inl (upd s132 (80 * (cB i69) + (4 * (cN i69)) + i132) (sv (234 + (6 * i69) + 2 + i132))))), (mV, .inl (G.2.1, 259, .inl sv))] H := hP
                      have hD : va_D A [(mO, .inr (7, [.ref mA, .ref mS, .ref mI, .ref mV, .int me, .ref mT, .ref mR, .int (nI mz), .int (nI ma), .ref mW, .int (nI mr), .ref mN])), (mA, .inl (G.2.1, 7, .inl zf)), (mS, .inl (G.2.1, 259, .inl (upd s132 (80 * (cB i69) + (4 * (cN i69)) + i132) (sv (234 + (6 * i69) + 2 + i132))))), (mV, .inl (G.2.1, 259, .inl sv))] := hD
                      refine lv_iinc (v := nI (i132 + 1)) (lv' := [(8, .int (nI (i132 + 1))), (0, .ref mO), (1, .int (nI bb)), (2, .int v2_48), (3, .int v3_48), (4, .int (nI i48)), (5, .int 1), (6, .int (nI i69)), (7, .int (nI (234 + (6 * i69))))]) hx hb dX7_mend_180 hl (k := 8) rfl (nI_1 i132) (by decide) rfl (fun ls hl => ?_)
                      refine lv_goto (tgt := 132) hx hb dX7_mend_183 (by decide) ?_
                      exact ih132 (i132 + 1) (upd s132 (80 * (cB i69) + (4 * (cN i69)) + i132) (sv (234 + (6 * i69) + 2 + i132))) (by omega) (mj_upd hj132 hbb hbt hb69 hn69 (by omega) (fun e => hw69 i132 e) (fun e => hr69 i132 e)) hf _ _ ls hP hD hS (lv_sub hl [1, 2, 3, 4, 5, 6, 7, 8, 0] rfl)
                  exact L132 4 0 s69 (by omega) hj69 hsq _ _ ls hP hD hS (lv_sub hl [3, 4, 5, 6, 7, 1, 8, 2, 0] rfl)
            · have hf := (if_pos c1).symm.trans hf
              refine lv_goto (tgt := 186) hx hb dX7_mend_92 (by decide) ?_
              (try have hjr : MJ bb bn sq := by rw [← hsq]; exact md_132 hbb hbt hb69 hn69 hw69 hr69 4 0 s69 rfl hj69)
              refine lv_iinc (v := nI (i69 + 1)) (lv' := [(6, .int (nI (i69 + 1))), (0, .ref mO), (1, .int (nI bb)), (2, .int v2_48), (3, .int v3_48), (4, .int (nI i48)), (5, .int v5_69)]) hx hb dX7_mend_186 hl (k := 6) rfl (nI_1 i69) (by decide) rfl (fun ls hl => ?_)
              refine lv_goto (tgt := 69) hx hb dX7_mend_189 (by decide) ?_
              exact ih69 (i69 + 1) v5_69 s69 (by omega) (by first | exact hj69 | exact hjr) hf _ _ ls hP hD hS (lv_sub hl [1, 2, 3, 4, 5, 6, 0] rfl)
        exact L69 cn 0 1 s48 (by omega) (mj_0 hbb hb2 hbn hnd hwd hs48) hmb _ _ ls hP hD hS (lv_sub hl [2, 3, 4, 5, 6, 1, 0] rfl)
    exact L48 cM 0 (-9) 0 zs (by omega) (fun _ _ => rfl) (Or.inl (by decide)) hf _ _ ls hP hD hS (lv_sub hl [3, 4, 2, 1, 0] rfl)
  have L15 : ∀ (k15 : Nat) (i15 : Nat) (v15 : Nat → Int32), k15 + i15 = 259 → f_X7_mend_15 zs k15 i15 v15 = sv → ∀ (H : Heap) (locs : List Loc) (ls : Array Slot), va_P G.1 wcl [(mO, .inr (7, [.ref mA, .ref mS, .ref mI, .ref mV, .int me, .ref mT, .ref mR, .int (nI mz), .int (nI ma), .ref mW, .int (nI mr), .ref mN])), (mA, .inl (G.2.1, 7, .inl zf)), (mS, .inl (G.2.1, 259, .inl zs)), (mV, .inl (G.2.1, 259, .inl v15))] H → va_D A [(mO, .inr (7, [.ref mA, .ref mS, .ref mI, .ref mV, .int me, .ref mT, .ref mR, .int (nI mz), .int (nI ma), .ref mW, .int (nI mr), .ref mN])), (mA, .inl (G.2.1, 7, .inl zf)), (mS, .inl (G.2.1, 259, .inl zs)), (mV, .inl (G.2.1, 259, .inl v15))] → va_S A s.heap H locs → lv_has ls 9 [(0, .ref mO), (1, .int (nI bb)), (2, .int (nI i15))] → W p l e ({ frames := 6, cells := 0, slots := 0, locals := 142 }) s m args below meth c H locs 0 0 Q (F0 m 15 ls []) := by
    intro k15
    induction k15 with
    | zero =>
      intro i15 v15 hi15  hf _ _ ls hP hD hS hl
      rw [f_X7_mend_15_z] at hf
      refine lv_iload_n hx hb dX7_mend_15 rfl (lv_at hl 2 rfl) ?_
      refine lv_sipush (v := 259) hx hb dX7_mend_16 (by decide) ?_
      refine lv_icmp_ge (tgt := 40) hx hb dX7_mend_19 (by decide) (fun _ => ?_) (fun c => absurd (ile (a := 259) (b := i15) rfl rfl (by omega) (by omega) (by omega)) c)
      exact X15 _ _ ls (by first | exact hP | (rw [← hf]; exact hP)) (by first | exact hD | (rw [← hf]; exact hD)) hS (by first | exact (lv_sub hl [0, 1] rfl) | (rw [← hf]; exact (lv_sub hl [0, 1] rfl)))
    | succ k15 ih15 =>
      intro i15 v15 hi15  hf _ _ ls hP hD hS hl
      rw [f_X7_mend_15_s] at hf
      refine lv_iload_n hx hb dX7_mend_15 rfl (lv_at hl 2 rfl) ?_
      refine lv_sipush (v := 259) hx hb dX7_mend_16 (by decide) ?_
      refine lv_icmp_ge (tgt := 40) hx hb dX7_mend_19 (by decide) (fun c => absurd c (inle (a := 259) (b := i15) rfl rfl (by omega) (by omega) (by omega))) (fun _ => ?_)
      refine lv_aload_n hx hb dX7_mend_22 rfl (lv_at hl 0 rfl) ?_
      refine va_get (D := G.1) (ci := 7) (v := .ref mV) (C := RX7) (T := TX7) (N := 12) hx hb (ku_X7 hK.2) (fun _ h9 => h9) hown hK.1 hP 0 rfl rfl 3 (by decide) (kw_680 hK.2) (fun _ h9 => h9) rfl dX7_mend_23 ?_
      refine lv_iload_n hx hb dX7_mend_26 rfl (lv_at hl 2 rfl) ?_
      refine lv_aload_n hx hb dX7_mend_27 rfl (lv_at hl 0 rfl) ?_
      refine va_get (D := G.1) (ci := 7) (v := .ref mS) (C := RX7) (T := TX7) (N := 12) hx hb (ku_X7 hK.2) (fun _ h9 => h9) hown hK.1 hP 0 rfl rfl 1 (by decide) (kw_678 hK.2) (fun _ h9 => h9) rfl dX7_mend_28 ?_
      refine lv_iload_n hx hb dX7_mend_31 rfl (lv_at hl 2 rfl) ?_
      refine ww_ild (j := i15) hx hb hK.1 hP 2 0 rfl rfl (by omega) (by omega) dX7_mend_32 ?_
      refine ww_ist (j := i15) hx hb hK.1 hP hD hS 3 0 rfl rfl (by omega) (by omega) dX7_mend_33 (fun H locs hP hD hS => ?_)
      have hP : va_P G.1 wcl [(mO, .inr (7, [.ref mA, .ref mS, .ref mI, .ref mV, .int me, .ref mT, .ref mR, .int (nI mz), .int (nI ma), .ref mW, .int (nI mr), .ref mN])), (mA, .inl (G.2.1, 7, .inl zf)), (mS, .inl (G.2.1, 259, .inl zs)), (mV, .inl (G.2.1, 259, .inl (upd v15 i15 (zs i15))))] H := hP
      have hD : va_D A [(mO, .inr (7, [.ref mA, .ref mS, .ref mI, .ref mV, .int me, .ref mT, .ref mR, .int (nI mz), .int (nI ma), .ref mW, .int (nI mr), .ref mN])), (mA, .inl (G.2.1, 7, .inl zf)), (mS, .inl (G.2.1, 259, .inl zs)), (mV, .inl (G.2.1, 259, .inl (upd v15 i15 (zs i15))))] := hD
      refine lv_iinc (v := nI (i15 + 1)) (lv' := [(2, .int (nI (i15 + 1))), (0, .ref mO), (1, .int (nI bb))]) hx hb dX7_mend_34 hl (k := 2) rfl (nI_1 i15) (by decide) rfl (fun ls hl => ?_)
      refine lv_goto (tgt := 15) hx hb dX7_mend_37 (by decide) ?_
      exact ih15 (i15 + 1) (upd v15 i15 (zs i15)) (by omega)  hf _ _ ls hP hD hS (lv_sub hl [1, 2, 0] rfl)
  exact L15 259 0 zv (by omega)  hsv _ _ ls hP hD hS (lv_sub hl [1, 2, 0] rfl)
def f_X7_mend_A (zf : Nat → Int32) : Int32 × (Nat → Int32) := ((f_X7_refuse zf (-1)).1, (f_X7_refuse zf (-1)).2)
set_option maxHeartbeats 4000000 in
set_option maxRecDepth 100000 in
theorem k_X7_mend_A (l : Launch) (G : wG) (mO : Nat) (mA : Nat) (mS : Nat) (mI : Nat) (mV : Nat) (mT : Nat) (mR : Nat) (mW : Nat) (mN : Nat) (me : Int32) (mz : Nat) (ma : Nat) (mr : Nat) (zf : Nat → Int32) (bo : Int32) (hbad : f_X7_isBook bo = 0) : CT l G yX7_mend cX7_mend 9 (some .int) ({ frames := 2, cells := 0, slots := 0, locals := 41 }) [.ref mO, .int bo] [(mO, .inr (7, [.ref mA, .ref mS, .ref mI, .ref mV, .int me, .ref mT, .ref mR, .int (nI mz), .int (nI ma), .ref mW, .int (nI mr), .ref mN])), (mA, .inl (G.2.1, 7, .inl zf))] (fun u => [(mO, .inr (7, [.ref mA, .ref mS, .ref mI, .ref mV, .int me, .ref mT, .ref mR, .int (nI mz), .int (nI ma), .ref mW, .int (nI mr), .ref mN])), (mA, .inl (G.2.1, 7, .inl u.2))]) (fun u => some (.int u.1)) (f_X7_mend_A zf) := by
  obtain ⟨R, hf⟩ : ∃ R, f_X7_mend_A zf = R := ⟨_, rfl⟩
  rw [hf]
  refine CT.mkI RX7 (by decide +kernel) rfl (Nat.le_of_ble_eq_true rfl) ?_
  intro p e s m args below meth c A Q ls hx hb hml hown hK hP hD hS hA hret hl
  have hl : lv_has ls 9 [(0, .ref mO), (1, .int bo)] := hl
  rw [f_X7_mend_A] at hf
  refine lv_iload_n hx hb dX7_mend_0 rfl (lv_at hl 1 rfl) ?_
  refine cl_S (ws' := [(mO, .inr (7, [.ref mA, .ref mS, .ref mI, .ref mV, .int me, .ref mT, .ref mR, .int (nI mz), .int (nI ma), .ref mW, .int (nI mr), .ref mN])), (mA, .inl (G.2.1, 7, .inl zf))]) (v := (some (.int (f_X7_isBook bo)))) (st1 := [.int (f_X7_isBook bo)]) (rest := []) (As := [.int bo]) [] hx hb hml hown hK (k_X7_isBook l G bo ) (mf_X7_isBook hK.2) (kw_728 hK.2) (kw_727 hK.2) ⟨rfl, rfl, Nat.le_of_ble_eq_true rfl, Nat.le_of_ble_eq_true rfl⟩ rfl hP hD hS hA hl (Nat.le_of_ble_eq_true rfl) rfl ⟨Nat.le_of_ble_eq_true rfl, Nat.le_of_ble_eq_true rfl⟩ rfl dX7_mend_1 rfl rfl rfl rfl rfl rfl (fun H locs hP hD hS => ?_)
  refine lv_if_ne (tgt := 13) hx hb dX7_mend_4 (by decide) (fun c => absurd hbad c) (fun _ => ?_)
  refine lv_aload_n hx hb dX7_mend_7 rfl (lv_at hl 0 rfl) ?_
  refine lv_iconst (v := -1) hx hb dX7_mend_8 (by decide) ?_
  refine cl_V (q := (RX7, TX7, 12)) (ws' := [(mO, .inr (7, [.ref mA, .ref mS, .ref mI, .ref mV, .int me, .ref mT, .ref mR, .int (nI mz), .int (nI ma), .ref mW, .int (nI mr), .ref mN])), (mA, .inl (G.2.1, 7, .inl ((f_X7_refuse zf (-1)).2)))]) (v := (some (.int ((f_X7_refuse zf (-1)).1)))) (st1 := [.int ((f_X7_refuse zf (-1)).1)]) (rest := []) (As := [.int (-1)]) [0, 1] 0 7 hx hb hml hown hK (k_X7_refuse l G mO mA mS mI mV mT mR mW mN me mz ma mr zf (-1) vp7_1) (mf_X7_refuse hK.2) (kw_720 hK.2) (kw_11 hK.2) (kw_718 hK.2) ⟨rfl, rfl, Nat.le_of_ble_eq_true rfl, Nat.le_of_ble_eq_true rfl⟩ rfl hP hD hS hA rfl rfl hl (Nat.le_of_ble_eq_true rfl) rfl ⟨Nat.le_of_ble_eq_true rfl, Nat.le_of_ble_eq_true rfl⟩ rfl dX7_mend_9 rfl rfl (rpl_fast (by decide) rfl rfl) rfl rfl rfl (fun H locs hP hD hS => ?_)
  exact hret ((f_X7_refuse zf (-1)).1, (f_X7_refuse zf (-1)).2) dX7_mend_12 rfl hf rfl hP hS
